/-! class and reference stand for one state: what the calls change -/
section BT
variable {n num : Nat} {Le Te Va : Nat → Int32} {NS : Nat → Nat → Int32} {S S' : mT}
theorem nRel.c {Mf Mf' : Nat → Nat → Int32} {σ : Nat → Nat} (R : nRel num NS Mf σ) (h : ∀ i t, t < 6 → Mf' i t = Mf i t) : nRel num NS Mf' σ := ⟨fun c hc => ⟨(R.1 c hc).1, fun t ht => by rw [h _ t ht]; exact (R.1 c hc).2 t ht⟩, R.2⟩
theorem add_i {x y : Int32} (h1 : 0 ≤ x.toInt) (h2 : 1 ≤ y.toInt) (h3 : x.toInt + y.toInt ≤ 32) : (x + y).toInt = x.toInt + y.toInt := by
  rw [Int32.toInt_add, Int.bmod_eq_of_le (by omega) (by omega)]
theorem iwn_ge {x lo hi : Int32} (h : ¬ iwn x lo hi = 0) : lo.toInt ≤ x.toInt ∧ x.toInt ≤ hi.toInt := by
  unfold iwn at h
  have := ite11.mp h
  rw [i_le, i_le] at this
  exact this
theorem mA.bar (h : mA n Le Te Va num NS S) {b : Nat} (hb9 : b < n) {l t : Int32} (hx : ¬ (iwn l 1 32 = 0 ∨ iwn t 1 1000 = 0)) (hy : ¬ l < nei NS num (nI b)) : mA n (up Le b l) (up Te b t) Va num NS (sA (sA (sS S 1 0) 2 b l) 3 b t) := by
  obtain ⟨h1, h2, h3, h4, h5, ⟨σ, q, R, so, ok⟩, h7⟩ := h
  have l1 := iwn_ge (fun z => hx (Or.inl z))
  have t1 := iwn_ge (fun z => hx (Or.inr z))
  rw [show (1 : Int32).toInt = 1 from by decide, show (32 : Int32).toInt = 32 from by decide] at l1
  rw [show (1 : Int32).toInt = 1 from by decide, show (1000 : Int32).toInt = 1000 from by decide] at t1
  have hnb : ∀ c, c < num → NS c 1 = nI b → ¬ l < NS c 2 + NS c 3 := fun c hc e z => hy ((nei_lt num 0 0).mpr (Or.inr ⟨c, by omega, by omega, e, z⟩))
  refine ⟨h1, h2, h3, fun x hx9 => ?_, h5, ⟨σ, q, R.c (fun i k _ => by show up (up S.2.2 2 _) 3 _ (5 + k) i = S.2.2 (5 + k) i; rw [up_o (by omega), up_o (by omega)]), so, fun c hc => ?_⟩, h7⟩
  · show (up (S.2.2 2) b l x = up Le b l x ∧ up (S.2.2 3) b t x = up Te b t x) ∧ 1 ≤ (up Le b l x).toInt ∧ (up Le b l x).toInt ≤ 32 ∧ 1 ≤ (up Te b t x).toInt ∧ (up Te b t x).toInt ≤ 1000
    by_cases e : x = b
    · subst e
      rw [up_s, up_s, up_s, up_s]
      exact ⟨⟨rfl, rfl⟩, l1.1, l1.2, t1.1, t1.2⟩
    · rw [up_o e, up_o e, up_o e, up_o e]
      exact h4 x hx9
  · obtain ⟨⟨b2, k1, k2, k3, k4⟩, k5, k6, k7, k8⟩ := ok c hc
    refine ⟨⟨b2, k1, k2, ?_⟩, k5, k6, k7, k8⟩
    show _ ≤ (up (S.2.2 2) b l b2).toInt ∧ (up (S.2.2 2) b l b2).toInt ≤ 32
    by_cases e : b2 = b
    · subst e
      rw [up_s]
      have := hnb c hc k2
      rw [i_lt, add_i k5 k6 (by omega)] at this
      exact ⟨by omega, l1.2⟩
    · rw [up_o e]; exact ⟨k3, k4⟩
theorem ls_v : ∀ k : Fin 10, (lsF k.val).toInt = vlo k.val ∧ (msF k.val).toInt = vhi k.val := by decide
theorem mA.sign (h : mA n Le Te Va num NS S) {b k : Nat} (hb9 : b < n) (hk : k < 10) {v : Int32} (hx : v = 0 ∨ ¬ iwn v (lsF k) (msF k) = 0) : mA n Le Te (up Va (10 * b + k) v) num NS (sA (sS S 1 0) 4 (10 * b + k) v) := by
  obtain ⟨h1, h2, h3, h4, h5, ⟨σ, q, R, so, ok⟩, h7⟩ := h
  refine ⟨h1, fun b' k' hb' hk' => ?_, ?_, h4, h5, ⟨σ, q, R.c (fun i k _ => by show up S.2.2 4 _ (5 + k) i = S.2.2 (5 + k) i; rw [up_o (by omega)]), so, ok⟩, h7⟩
  · by_cases e : 10 * b' + k' = 10 * b + k
    · have ek : k' = k := by omega
      subst ek
      rw [e, up_s]
      refine hx.imp id (fun z => ?_)
      have z1 := iwn_ge z
      have z2 := ls_v ⟨k', hk⟩
      rw [z2.1, z2.2] at z1
      exact z1
    · rw [up_o e]; exact h2 b' k' hb' hk'
  · show up (S.2.2 4) (10 * b + k) v = _
    rw [h3]
/-- the order of notes as a number -/
def nK (N : Nat → Int32) : Int := (((N 0).toInt * 32 + (N 1).toInt) * 64 + (N 2).toInt) * 128 + (N 4).toInt
theorem nbh_K {N N2 : Nat → Int32} (a1 : 0 ≤ (N 1).toInt ∧ (N 1).toInt < 32) (a2 : 0 ≤ (N 2).toInt ∧ (N 2).toInt < 64) (a4 : 0 ≤ (N 4).toInt ∧ (N 4).toInt < 128) (b1 : 0 ≤ (N2 1).toInt ∧ (N2 1).toInt < 32) (b2 : 0 ≤ (N2 2).toInt ∧ (N2 2).toInt < 64) (b4 : 0 ≤ (N2 4).toInt ∧ (N2 4).toInt < 128) : nbh N N2 ↔ nK N2 < nK N := by
  unfold nbh nK
  by_cases c0 : N 0 ≠ N2 0
  · rw [if_pos c0, i_lt]
    have : (N 0).toInt ≠ (N2 0).toInt := fun z => c0 (Int32.toInt_inj.mp z)
    omega
  · rw [if_neg c0]
    have e0 := congrArg Int32.toInt (Decidable.not_not.mp c0)
    by_cases c1 : N 1 ≠ N2 1
    · rw [if_pos c1, i_lt]
      have : (N 1).toInt ≠ (N2 1).toInt := fun z => c1 (Int32.toInt_inj.mp z)
      omega
    · rw [if_neg c1]
      have e1 := congrArg Int32.toInt (Decidable.not_not.mp c1)
      by_cases c2 : N 2 ≠ N2 2
      · rw [if_pos c2, i_lt]
        have : (N 2).toInt ≠ (N2 2).toInt := fun z => c2 (Int32.toInt_inj.mp z)
        omega
      · rw [if_neg c2, i_lt]
        have e2 := congrArg Int32.toInt (Decidable.not_not.mp c2)
        omega
def nBd (N : Nat → Int32) : Prop := (0 ≤ (N 1).toInt ∧ (N 1).toInt < 32) ∧ (0 ≤ (N 2).toInt ∧ (N 2).toInt < 64) ∧ (0 ≤ (N 4).toInt ∧ (N 4).toInt < 128)
theorem nbh_B {N N2 : Nat → Int32} (h : nBd N) (h2 : nBd N2) : nbh N N2 ↔ nK N2 < nK N := nbh_K h.1 h.2.1 h.2.2 h2.1 h2.2.1 h2.2.2
theorem nOk.bd {L : Nat → Int32} (hn : n ≤ 20) (ok : nOk n num L NS) {c : Nat} (hc : c < num) : nBd (NS c) := by
  obtain ⟨⟨b, k1, k2, k3, k4⟩, k5, k6, k7, k8⟩ := ok c hc
  refine ⟨?_, by omega, by omega⟩
  rw [k2, i_n (by omega)]
  omega
theorem nK_e {N N2 : Nat → Int32} (h : nBd N) (h2 : nBd N2) (e : nK N = nK N2) : N 0 = N2 0 ∧ N 1 = N2 1 ∧ N 2 = N2 2 ∧ N 4 = N2 4 := by
  obtain ⟨a1, a2, a3⟩ := h
  obtain ⟨b1, b2, b3⟩ := h2
  unfold nK at e
  exact ⟨Int32.toInt_inj.mp (by omega), Int32.toInt_inj.mp (by omega), Int32.toInt_inj.mp (by omega), Int32.toInt_inj.mp (by omega)⟩
theorem plc_ge {X : Nat → Int32} : ∀ k c, plc NS X k ≤ c → c < k → nbh (NS c) X := by
  intro k
  induction k with
  | zero => exact fun c _ h => absurd h (Nat.not_lt_zero _)
  | succ k ih =>
    intro c h1 h2
    by_cases z : nbh (NS k) X
    · rw [show plc NS X (k + 1) = plc NS X k from if_pos z] at h1
      by_cases e : c = k
      · subst e; exact z
      · exact ih c h1 (by omega)
    · rw [show plc NS X (k + 1) = k + 1 from if_neg z] at h1
      omega
theorem plc_lt {X : Nat → Int32} : ∀ k, plc NS X k = 0 ∨ ¬ nbh (NS (plc NS X k - 1)) X := by
  intro k
  induction k with
  | zero => exact Or.inl rfl
  | succ k ih =>
    by_cases z : nbh (NS k) X
    · rw [show plc NS X (k + 1) = plc NS X k from if_pos z]; exact ih
    · rw [show plc NS X (k + 1) = k + 1 from if_neg z, Nat.add_sub_cancel]; exact Or.inr z
theorem cN_ins {X : Nat → Int32} {p : Int32} {pl : Nat} (h : pl ≤ num) : ffo (ctp (ins NS pl X) p) 0 0 (num + 1) = (if X 0 = p then ffo (ctp NS p) 0 0 num + 1 else ffo (ctp NS p) 0 0 num) := by
  have lo : ∀ m, m ≤ pl → ffo (ctp (ins NS pl X) p) 0 0 m = ffo (ctp NS p) 0 0 m := fun m hm => ffo_c _ _ _ (fun x j _ hj => by
    unfold ctp
    rw [ins_l (show j < pl by omega)])
  have up9 : ∀ m, ffo (ctp (ins NS pl X) p) 0 0 (pl + m + 1) = (if X 0 = p then ffo (ctp NS p) 0 0 (pl + m) + 1 else ffo (ctp NS p) 0 0 (pl + m)) := by
    intro m
    induction m with
    | zero =>
      rw [ffo_s, Nat.add_zero, lo pl (Nat.le_refl _)]
      unfold ctp
      rw [ins_e]
    | succ m ih =>
      rw [show pl + (m + 1) + 1 = pl + m + 1 + 1 by omega, ffo_s, ih, show pl + (m + 1) = pl + m + 1 by omega, ffo_s]
      generalize ffo (ctp NS p) 0 0 (pl + m) = x
      unfold ctp
      rw [ins_g (show pl < pl + m + 1 by omega), Nat.add_sub_cancel]
      by_cases c1 : X 0 = p
      · rw [if_pos c1, if_pos c1]
        by_cases c2 : NS (pl + m) 0 = p
        · rw [if_pos c2, if_pos c2]
        · rw [if_neg c2, if_neg c2]
      · rw [if_neg c1, if_neg c1]
  have := up9 (num - pl)
  rw [show pl + (num - pl) = num by omega] at this
  exact this
theorem mA.note (h : mA n Le Te Va num NS S) {p s l t : Int32} {b : Nat} {y : Bool} (hb9 : b < n) (hx : ¬ (pgh n (nI b) = 0 ∨ iwn t 0 127 = 0 ∨ s < 0 ∨ l < 1 ∨ pgl n Le (nI b) - s < l)) (h40 : num ≠ 40) (htw : (fix (fun i => decide (NS i 0 = p ∧ NS i 1 = nI b ∧ NS i 2 = s ∧ NS i 4 = t)) 0 num) = none) : mA n Le Te Va (num + 1) (ins NS (plc NS (nx p (nI b) s l t (bi y)) num) (nx p (nI b) s l t (bi y))) (sS (sA (sA (sA (sA (sA (sA (sS S 1 0) 5 num p) 6 num (nI b)) 7 num s) 8 num l) 9 num t) 10 num (bi y)) 6 (nI (num + 1))) := by
  obtain ⟨h1, h2, h3, h4, h5, ⟨σ, q, R, so, ok⟩, h7⟩ := h
  have hn := h1.2
  have t1 := iwn_ge (fun z => hx (Or.inr (Or.inl z)))
  rw [i_0, show (127 : Int32).toInt = 127 from by decide] at t1
  have s1 : 0 ≤ s.toInt := by
    have : ¬ s < 0 := fun z => hx (Or.inr (Or.inr (Or.inl z)))
    rw [i_lt, i_0] at this; omega
  have l1 : 1 ≤ l.toInt := by
    have : ¬ l < 1 := fun z => hx (Or.inr (Or.inr (Or.inr (Or.inl z))))
    rw [i_lt, show (1 : Int32).toInt = 1 from by decide] at this; omega
  have hb4 := h4 b hb9
  have sl : s.toInt + l.toInt ≤ (Le b).toInt := by
    have : ¬ pgl n Le (nI b) - s < l := fun z => hx (Or.inr (Or.inr (Or.inr (Or.inr z))))
    rw [pgl_nI hn.2 hb9, i_lt, sub_ok (by omega) (by omega) s1] at this
    omega
  generalize eX : nx p (nI b) s l t (bi y) = X
  have X0 : X 0 = p := by rw [← eX]; rfl
  have X1 : X 1 = nI b := by rw [← eX]; rfl
  have X2 : X 2 = s := by rw [← eX]; rfl
  have X3 : X 3 = l := by rw [← eX]; rfl
  have X4 : X 4 = t := by rw [← eX]; rfl
  have X5 : X 5 = bi y := by rw [← eX]; rfl
  have pl1 := plc_le (NS := NS) (X := X) num
  have pl2 := plc_ge (NS := NS) (X := X) num
  have pl3 := plc_lt (NS := NS) (X := X) num
  generalize plc NS X num = pl at *
  have bX : nBd X := by
    refine ⟨?_, ?_, ?_⟩
    · rw [X1, i_n (by omega)]; omega
    · rw [X2]; omega
    · rw [X4]; omega
  have bN : ∀ c, c < num → nBd (NS c) := fun c hc => ok.bd hn.2 hc
  have so1 : ∀ c c', c < c' → c' < num → nK (NS c) < nK (NS c') := fun c c' hc hc' => (nbh_B (bN c' hc') (bN c (by omega))).mp (so c c' hc hc')
  have ge1 : ∀ c, pl ≤ c → c < num → nK X < nK (NS c) := fun c h1 h2 => (nbh_B (bN c h2) bX).mp (pl2 c h1 h2)
  have lt1 : ∀ c, c < pl → nK (NS c) < nK X := by
    intro c hc
    have hp : ¬ nbh (NS (pl - 1)) X := pl3.resolve_left (by omega)
    rw [nbh_B (bN (pl - 1) (by omega)) bX] at hp
    have ne : nK (NS (pl - 1)) ≠ nK X := fun z => by
      obtain ⟨z0, z1, z2, z4⟩ := nK_e (bN (pl - 1) (by omega)) bX z
      exact absurd ⟨z0.trans X0, z1.trans X1, z2.trans X2, z4.trans X4⟩ (of_decide_eq_false (fix_n htw (pl - 1) (by omega) (by omega)))
    by_cases e : c = pl - 1
    · subst e; omega
    · have := so1 c (pl - 1) (by omega) (by omega); omega
  have insb : ∀ c, c < num + 1 → nBd (ins NS pl X c) := by
    intro c hc
    by_cases c1 : c < pl
    · rw [ins_l c1]; exact bN c (by omega)
    · by_cases c2 : c = pl
      · subst c2; rw [ins_e]; exact bX
      · rw [ins_g (by omega)]; exact bN (c - 1) (by omega)
  have hMS : ∀ i k, k < 6 → MS (sS (sA (sA (sA (sA (sA (sA (sS S 1 0) 5 num p) 6 num (nI b)) 7 num s) 8 num l) 9 num t) 10 num (bi y)) 6 (nI (num + 1))) i k = if i = num then X k else MS S i k := by
    intro i k hk
    have : ∀ k : Fin 6, MS (sS (sA (sA (sA (sA (sA (sA (sS S 1 0) 5 num p) 6 num (nI b)) 7 num s) 8 num l) 9 num t) 10 num (bi y)) 6 (nI (num + 1))) i k.val = up (S.2.2 (5 + k.val)) num (X k.val) i := by
      intro k
      match k with
      | ⟨0, _⟩ => rw [X0]; rfl
      | ⟨1, _⟩ => rw [X1]; rfl
      | ⟨2, _⟩ => rw [X2]; rfl
      | ⟨3, _⟩ => rw [X3]; rfl
      | ⟨4, _⟩ => rw [X4]; rfl
      | ⟨5, _⟩ => rw [X5]; rfl
    exact this ⟨k, hk⟩
  generalize hS9 : sS (sA (sA (sA (sA (sA (sA (sS S 1 0) 5 num p) 6 num (nI b)) 7 num s) 8 num l) 9 num t) 10 num (bi y)) 6 (nI (num + 1)) = S9 at hMS ⊢
  have g6 : S9.1 6 = nI (num + 1) := by rw [← hS9]; rfl
  have g2 : S9.1 2 = S.1 2 := by rw [← hS9]; rfl
  have ga : ∀ j, j < 5 → S9.2.2 j = S.2.2 j := by
    intro j hj
    have : ∀ j : Fin 5, S9.2.2 j.val = S.2.2 j.val := by
      intro j
      rw [← hS9]
      match j with
      | ⟨0, _⟩ => rfl
      | ⟨1, _⟩ => rfl
      | ⟨2, _⟩ => rfl
      | ⟨3, _⟩ => rfl
      | ⟨4, _⟩ => rfl
    exact this ⟨j, hj⟩
  refine ⟨⟨g2.trans h1.1, h1.2⟩, h2, (ga 4 (by omega)).trans h3, ?_, ?_, ⟨ins σ pl num, ⟨g6, by have := q.2.1; omega, q.2.2.1, fun i hi => ?_⟩, ⟨fun c hc => ?_, fun q9 hq9 => ?_, fun c c' hc hc' e => ?_⟩, fun c c' hcc hc' => ?_, fun c hc => ?_⟩, fun p9 => ?_⟩
  · rw [ga 2 (by omega), ga 3 (by omega)]; exact h4
  · rw [ga 1 (by omega)]; exact h5
  · have e := hMS i 1 (by omega)
    by_cases c1 : i = num
    · rw [if_pos c1, X1] at e
      exact ⟨b, hb9, e⟩
    · rw [if_neg c1] at e
      obtain ⟨b2, k1, k2⟩ := q.2.2.2 i (by omega)
      exact ⟨b2, k1, e.trans k2⟩
  · by_cases c1 : c < pl
    · rw [ins_l c1, ins_l c1]
      have r := R.1 c (by omega)
      exact ⟨by omega, fun t ht => by rw [hMS _ _ ht, if_neg (by omega)]; exact r.2 t ht⟩
    · by_cases c2 : c = pl
      · subst c2
        rw [ins_e, ins_e]
        exact ⟨by omega, fun t ht => by rw [hMS _ _ ht, if_pos rfl]⟩
      · rw [ins_g (by omega), ins_g (by omega)]
        have r := R.1 (c - 1) (by omega)
        exact ⟨by omega, fun t ht => by rw [hMS _ _ ht, if_neg (by omega)]; exact r.2 t ht⟩
  · by_cases e : q9 = num
    · exact ⟨pl, by omega, by rw [ins_e, e]⟩
    · obtain ⟨c, hc, e2⟩ := R.2.1 q9 (by omega)
      by_cases c1 : c < pl
      · exact ⟨c, by omega, by rw [ins_l c1]; exact e2⟩
      · exact ⟨c + 1, by omega, by rw [ins_g (by omega), Nat.add_sub_cancel]; exact e2⟩
  · by_cases c1 : c < pl
    · rw [ins_l c1] at e
      have r1 := (R.1 c (by omega)).1
      by_cases d1 : c' < pl
      · rw [ins_l d1] at e; exact R.2.2 c c' (by omega) (by omega) e
      · by_cases d2 : c' = pl
        · subst d2; rw [ins_e] at e; omega
        · rw [ins_g (by omega)] at e
          have := R.2.2 c (c' - 1) (by omega) (by omega) e; omega
    · by_cases c2 : c = pl
      · subst c2
        rw [ins_e] at e
        by_cases d1 : c' < c
        · rw [ins_l d1] at e; have := (R.1 c' (by omega)).1; omega
        · by_cases d2 : c' = c
          · omega
          · rw [ins_g (by omega)] at e; have := (R.1 (c' - 1) (by omega)).1; omega
      · rw [ins_g (by omega)] at e
        have r1 := (R.1 (c - 1) (by omega)).1
        by_cases d1 : c' < pl
        · rw [ins_l d1] at e
          have := R.2.2 (c - 1) c' (by omega) (by omega) e; omega
        · by_cases d2 : c' = pl
          · subst d2; rw [ins_e] at e; omega
          · rw [ins_g (by omega)] at e
            have := R.2.2 (c - 1) (c' - 1) (by omega) (by omega) e; omega
  · rw [nbh_B (insb c' hc') (insb c (by omega))]
    by_cases d1 : c' < pl
    · rw [ins_l d1, ins_l (show c < pl by omega)]
      exact so1 c c' hcc (by omega)
    · by_cases d2 : c' = pl
      · subst d2
        rw [ins_e, ins_l hcc]
        exact lt1 c hcc
      · rw [ins_g (show pl < c' by omega)]
        by_cases c1 : c < pl
        · rw [ins_l c1]
          have := lt1 c c1
          have := ge1 (c' - 1) (by omega) (by omega)
          omega
        · by_cases c2 : c = pl
          · subst c2
            rw [ins_e]
            exact ge1 (c' - 1) (by omega) (by omega)
          · rw [ins_g (show pl < c by omega)]
            exact so1 (c - 1) (c' - 1) (by omega) (by omega)
  · rw [ga 2 (by omega)]
    by_cases c1 : c < pl
    · rw [ins_l c1]; exact ok c (by omega)
    · by_cases c2 : c = pl
      · subst c2
        rw [ins_e, X1, X2, X3, X4]
        exact ⟨⟨b, hb9, rfl, by rw [hb4.1.1]; exact ⟨sl, hb4.2.2.1⟩⟩, s1, l1, t1.1, t1.2⟩
      · rw [ins_g (by omega)]; exact ok (c - 1) (by omega)
  · rw [cN_ins pl1, h7 p9, ffo_s, X0]
    have e1 : ffo (ctp (MS S9) p9) 0 0 num = ffo (ctp (MS S) p9) 0 0 num := ffo_c _ _ _ (fun x j _ hj => by
      have e0 : MS S9 j 0 = MS S j 0 := (hMS j 0 (by omega)).trans (if_neg (by omega))
      unfold ctp
      rw [e0])
    have e2 : MS S9 num 0 = p := (hMS num 0 (by omega)).trans ((if_pos rfl).trans X0)
    rw [e1]
    unfold ctp
    rw [e2]
theorem shf_o {p st : Int32} {m j k : Nat} (h : k ≠ 4) : shf NS p st m j k = NS j k := if_neg (fun z => h z.2.1)
theorem mA.trans (h : mA n Le Te Va num NS S) {p st : Int32} (hx : ¬ _root_.Jvm.Pilot.CScoreRoadsLaw_law_r1126_624f06.ncs NS num p st) : mA n Le Te Va num (shf NS p st num) (sF (sS S 1 0) 9 (fun j => if j < num ∧ S.2.2 5 j = p then S.2.2 9 j + st else S.2.2 9 j)) := by
  obtain ⟨h1, h2, h3, h4, h5, ⟨σ, q, R, so, ok⟩, h7⟩ := h
  have hr : ∀ c, c < num → NS c 0 = p → 0 ≤ (NS c 4).toInt + st.toInt ∧ (NS c 4).toInt + st.toInt ≤ 127 ∧ (NS c 4 + st).toInt = (NS c 4).toInt + st.toInt := by
    intro c hc e
    unfold _root_.Jvm.Pilot.CScoreRoadsLaw_law_r1126_624f06.ncs at hx
    have hz : (fix (fun i => decide (NS i 0 = p ∧ ((NS i 4).toInt64 + st.toInt64 < 0 ∨ 127 < (NS i 4).toInt64 + st.toInt64))) 0 num) = none := by
      cases z : fix (fun i => decide (NS i 0 = p ∧ ((NS i 4).toInt64 + st.toInt64 < 0 ∨ 127 < (NS i 4).toInt64 + st.toInt64))) 0 num with
      | none => rfl
      | some x => rw [z] at hx; exact absurd rfl hx
    have z := of_decide_eq_false (fix_n hz c (by omega) (by omega))
    have k := (ok c hc).2.2.2
    have st1 := st.toInt_lt
    have st2 := st.le_toInt
    have e1 : ((NS c 4).toInt64 + st.toInt64).toInt = (NS c 4).toInt + st.toInt := by
      rw [Int64.toInt_add, Int32.toInt_toInt64, Int32.toInt_toInt64, Int.bmod_eq_of_le (by omega) (by omega)]
    have z1 : ¬ ((NS c 4).toInt64 + st.toInt64 < 0) := fun y => z ⟨e, Or.inl y⟩
    have z2 : ¬ (127 < (NS c 4).toInt64 + st.toInt64) := fun y => z ⟨e, Or.inr y⟩
    rw [l_lt, e1, show (0 : Int64).toInt = 0 from by decide] at z1
    rw [l_lt, e1, show (127 : Int64).toInt = 127 from by decide] at z2
    refine ⟨by omega, by omega, ?_⟩
    rw [Int32.toInt_add, Int.bmod_eq_of_le (by omega) (by omega)]
  have hMS : ∀ i k, k < 6 → MS (sF (sS S 1 0) 9 (fun j => if j < num ∧ S.2.2 5 j = p then S.2.2 9 j + st else S.2.2 9 j)) i k = if i < num ∧ k = 4 ∧ MS S i 0 = p then MS S i 4 + st else MS S i k := by
    intro i k hk
    have : ∀ k : Fin 6, MS (sF (sS S 1 0) 9 (fun j => if j < num ∧ S.2.2 5 j = p then S.2.2 9 j + st else S.2.2 9 j)) i k.val = if i < num ∧ k.val = 4 ∧ MS S i 0 = p then MS S i 4 + st else MS S i k.val := by
      intro k
      match k with
      | ⟨0, _⟩ => exact (if_neg (fun z => absurd (show (0 : Nat) = 4 from z.2.1) (by decide))).symm
      | ⟨1, _⟩ => exact (if_neg (fun z => absurd (show (1 : Nat) = 4 from z.2.1) (by decide))).symm
      | ⟨2, _⟩ => exact (if_neg (fun z => absurd (show (2 : Nat) = 4 from z.2.1) (by decide))).symm
      | ⟨3, _⟩ => exact (if_neg (fun z => absurd (show (3 : Nat) = 4 from z.2.1) (by decide))).symm
      | ⟨5, _⟩ => exact (if_neg (fun z => absurd (show (5 : Nat) = 4 from z.2.1) (by decide))).symm
      | ⟨4, _⟩ =>
        show (if i < num ∧ S.2.2 5 i = p then S.2.2 9 i + st else S.2.2 9 i) = if i < num ∧ 4 = 4 ∧ S.2.2 5 i = p then S.2.2 9 i + st else S.2.2 9 i
        by_cases z : i < num ∧ S.2.2 5 i = p
        · exact (if_pos z).trans (if_pos ⟨z.1, rfl, z.2⟩).symm
        · exact (if_neg z).trans (if_neg (fun y => z ⟨y.1, y.2.2⟩)).symm
    exact this ⟨k, hk⟩
  generalize hS9 : sF (sS S 1 0) 9 (fun j => if j < num ∧ S.2.2 5 j = p then S.2.2 9 j + st else S.2.2 9 j) = S9 at hMS ⊢
  have g6 : S9.1 6 = S.1 6 := by rw [← hS9]; rfl
  have g2 : S9.1 2 = S.1 2 := by rw [← hS9]; rfl
  have ga : ∀ j, j ≠ 9 → S9.2.2 j = S.2.2 j := fun j hj => by rw [← hS9]; exact up_o hj
  refine ⟨⟨g2.trans h1.1, h1.2⟩, h2, (ga 4 (by decide)).trans h3, ?_, ?_, ⟨σ, ⟨g6.trans q.1, q.2.1, q.2.2.1, ?_⟩, ⟨fun c hc => ⟨(R.1 c hc).1, fun t ht => ?_⟩, R.2⟩, fun c c' hcc hc' => ?_, fun c hc => ?_⟩, fun p9 => ?_⟩
  · rw [ga 2 (by decide), ga 3 (by decide)]; exact h4
  · rw [ga 1 (by decide)]; exact h5
  · rw [ga 6 (by decide)]; exact q.2.2.2
  · have r := R.1 c hc
    rw [hMS _ _ ht]
    unfold shf
    by_cases e : t = 4
    · subst e
      by_cases z : NS c 0 = p
      · rw [if_pos ⟨hc, rfl, z⟩, if_pos ⟨r.1, rfl, by rw [← r.2 0 (by omega)]; exact z⟩, r.2 4 (by omega)]
      · rw [if_neg (fun y => z y.2.2), if_neg (fun y => z (by rw [r.2 0 (by omega)]; exact y.2.2))]
        exact r.2 4 (by omega)
    · rw [if_neg (fun y => e y.2.1), if_neg (fun y => e y.2.1)]
      exact r.2 t ht
  · have o := so c c' hcc hc'
    unfold nbh at o ⊢
    rw [shf_o (by decide), shf_o (by decide), shf_o (by decide), shf_o (by decide), shf_o (by decide), shf_o (by decide)]
    by_cases e0 : NS c' 0 ≠ NS c 0
    · rw [if_pos e0] at o ⊢; exact o
    · rw [if_neg e0] at o ⊢
      by_cases e1 : NS c' 1 ≠ NS c 1
      · rw [if_pos e1] at o ⊢; exact o
      · rw [if_neg e1] at o ⊢
        by_cases e2 : NS c' 2 ≠ NS c 2
        · rw [if_pos e2] at o ⊢; exact o
        · rw [if_neg e2] at o ⊢
          have e0 := Decidable.not_not.mp e0
          unfold shf
          by_cases z : NS c 0 = p
          · rw [if_pos ⟨by omega, rfl, z⟩, if_pos ⟨hc', rfl, e0.trans z⟩]
            have a1 := hr c (by omega) z
            have a2 := hr c' hc' (e0.trans z)
            rw [i_lt] at o ⊢
            omega
          · rw [if_neg (fun y => z y.2.2), if_neg (fun y => z (e0.symm.trans y.2.2))]
            exact o
  · obtain ⟨⟨b2, k1, k2, k3, k4⟩, k5, k6, k7, k8⟩ := ok c hc
    rw [ga 2 (by decide), shf_o (by decide), shf_o (by decide), shf_o (by decide)]
    refine ⟨⟨b2, k1, k2, k3, k4⟩, k5, k6, ?_⟩
    unfold shf
    by_cases z : NS c 0 = p
    · rw [if_pos ⟨hc, rfl, z⟩]
      have a1 := hr c hc z
      omega
    · rw [if_neg (fun y => z y.2.2)]; exact ⟨k7, k8⟩
  · refine Eq.trans ?_ ((h7 p9).trans ?_)
    · exact ffo_c _ _ _ (fun x j _ _ => by unfold ctp; rw [shf_o (by decide)])
    · exact ffo_c _ _ _ (fun x j _ _ => by
        have e0 : MS S9 j 0 = MS S j 0 := (hMS j 0 (by omega)).trans (if_neg (fun z => absurd z.2.1 (by decide)))
        unfold ctp
        rw [e0])
end BT
