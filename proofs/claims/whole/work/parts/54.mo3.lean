/-! the reference's faults: wrong, checkStart, checkEnding, checkJump -/
/-- the fault's number that stays -/
def mwv (f x c : Int32) : Int32 := if ¬ x = 0 ∧ (f = 0 ∨ c < f) then c else f
/-- v is the least of the numbers of P, or zero -/
def fI (Pr : Nat → Nat → Prop) (v : Int32) : Prop := (v = 0 ∧ ∀ k b, ¬ Pr k b) ∨ ∃ k b, Pr k b ∧ v = nI (100 * k + b) ∧ 1 ≤ k ∧ k ≤ 7 ∧ b < 20 ∧ ∀ k' b', Pr k' b' → 100 * k + b ≤ 100 * k' + b'
theorem fI_c {Pr Pr' : Nat → Nat → Prop} {v : Int32} (h : fI Pr v) (hc : ∀ k b, Pr k b ↔ Pr' k b) : fI Pr' v := by
  have e : Pr = Pr' := by
    funext k b; exact propext (hc k b)
  rw [← e]; exact h
theorem fI_w {Pr : Nat → Nat → Prop} {v x : Int32} {k b : Nat} (h : fI Pr v) (h1 : 1 ≤ k) (h7 : k ≤ 7) (hb : b < 20) : fI (fun k' b' => Pr k' b' ∨ (¬ x = 0 ∧ k' = k ∧ b' = b)) (mwv v x (nI (100 * k + b))) := by
  by_cases hx : x = 0
  · rw [show mwv v x (nI (100 * k + b)) = v from if_neg (fun z => z.1 hx)]
    exact fI_c h (fun k' b' => ⟨Or.inl, fun z => z.elim id (fun w => absurd hx w.1)⟩)
  · obtain ⟨e, hn⟩ | ⟨k0, b0, hp, e, q1, q7, qb, hm⟩ := h
    · rw [show mwv v x (nI (100 * k + b)) = nI (100 * k + b) from if_pos ⟨hx, Or.inl e⟩]
      exact Or.inr ⟨k, b, Or.inr ⟨hx, rfl, rfl⟩, rfl, h1, h7, hb, fun k' b' z => z.elim (fun w => absurd w (hn k' b')) (fun w => by rw [w.2.1, w.2.2]; exact Nat.le_refl _)⟩
    · have hlt : nI (100 * k + b) < v ↔ 100 * k + b < 100 * k0 + b0 := by
        rw [e, i_lt, i_n (by omega), i_n (by omega)]; omega
      have h0 : v ≠ 0 := by
        rw [e]
        intro z
        have := congrArg Int32.toInt z
        rw [i_n (by omega), i_0] at this
        omega
      by_cases c : 100 * k + b < 100 * k0 + b0
      · rw [show mwv v x (nI (100 * k + b)) = nI (100 * k + b) from if_pos ⟨hx, Or.inr (hlt.mpr c)⟩]
        exact Or.inr ⟨k, b, Or.inr ⟨hx, rfl, rfl⟩, rfl, h1, h7, hb, fun k' b' z => z.elim (fun w => by have := hm k' b' w; omega) (fun w => by rw [w.2.1, w.2.2]; exact Nat.le_refl _)⟩
      · rw [show mwv v x (nI (100 * k + b)) = v from if_neg (fun z => z.2.elim h0 (fun y => c (hlt.mp y)))]
        exact Or.inr ⟨k0, b0, Or.inl hp, e, q1, q7, qb, fun k' b' z => z.elim (hm k' b') (fun w => by rw [w.2.1, w.2.2]; omega)⟩
theorem fI_lst {n : Nat} {Pr F : Nat → Nat → Prop} {v : Int32} (h : fI Pr v) (hP : ∀ k b, Pr k b ↔ (1 ≤ k ∧ k ≤ 7 ∧ b < n ∧ F k b)) : v = lst n F := by
  unfold lst
  obtain ⟨e, hn⟩ | ⟨k0, b0, hp, e, q1, q7, qb, hm⟩ := h
  · rw [fix_0 (Pr := ftB n F) (m := 800) (fun c _ => pB_f.mpr (fun z => hn (c / 100) (c % 100) ((hP _ _).mpr z)))]
    exact e
  · rw [fix_at (Pr := ftB n F) (m := 800) (x := 100 * k0 + b0) (fun c hc => pB_f.mpr (fun z => by have := hm (c / 100) (c % 100) ((hP _ _).mpr z); omega)) (pB_t.mpr (by rw [show (100 * k0 + b0) / 100 = k0 by omega, show (100 * k0 + b0) % 100 = b0 by omega]; exact (hP _ _).mp hp)) (by omega)]
    exact e
theorem fix_cong {Pr Pr' : Nat → Bool} : ∀ {m i : Nat}, (∀ y, i ≤ y → y < i + m → Pr y = Pr' y) → fix Pr i m = fix Pr' i m := by
  intro m
  induction m with
  | zero => intro i _; rfl
  | succ m ih =>
    intro i h
    show (if Pr i then some i else fix Pr (i + 1) m) = (if Pr' i then some i else fix Pr' (i + 1) m)
    rw [h i (Nat.le_refl _) (by omega), ih (fun y h1 h2 => h y (by omega) (by omega))]
/-- where the reference's jump goes -/
def mto (n : Nat) (Va : Nat → Int32) (b : Nat) : Nat := if (Va (10 * b + 7) - 1) - (Va (10 * b + 7) - 1) / 2 * 2 = 1 then (fix (hb Va 3) 0 n).getD n else 0
def M7 (n : Nat) (Va : Nat → Int32) (b : Nat) : Prop := hb Va 7 b = true ∧ mto n Va b ≤ b ∧ ((jwy (Va (10 * b + 7)) = 1 ∧ ∀ x, mto n Va b ≤ x → x ≤ b → hb Va 5 x = false) ∨ (jwy (Va (10 * b + 7)) = 2 ∧ ((∀ x, mto n Va b ≤ x → x ≤ b → hb Va 6 x = false) ∨ ∀ x, b < x → x < n → hb Va 4 x = false)))
def MT (n : Nat) (Va : Nat → Int32) (s : gT) (g : Nat → Option Nat) (k b : Nat) : Prop := if k = 7 then M7 n Va b else FT n Va s g k b
theorem MT_7 {n : Nat} {Va : Nat → Int32} {s : gT} {g : Nat → Option Nat} {b : Nat} : MT n Va s g 7 b = M7 n Va b := if_pos rfl
theorem MT_o {n : Nat} {Va : Nat → Int32} {s : gT} {g : Nat → Option Nat} {k b : Nat} (h : k ≠ 7) : MT n Va s g k b = FT n Va s g k b := if_neg h

theorem nI_p1 {n : Nat} (h : 0 < n) : nI n - 1 = nI (n - 1) := by
  cases n with
  | zero => omega
  | succ j => exact nI_pred j
/-- a jump's goal: reference and class -/
theorem mto_jta {n b : Nat} {Va : Nat → Int32} (hn : n ≤ 20) (hbn : b < n) : jta n Va b = -1 ↔ b < mto n Va b := by
  unfold jta mto
  by_cases c : (Va (10 * b + 7) - 1) - (Va (10 * b + 7) - 1) / 2 * 2 = 1
  · rw [if_pos c, if_pos c, show (0 : Int32) = nI 0 from rfl, lwi_m1 hn (by omega) hbn, lwf_m1]
    cases e : fix (hb Va 3) 0 n with
    | none =>
      have := fix_n e
      exact ⟨fun _ => hbn, fun _ j h1 h2 => this j (by omega) (by omega)⟩
    | some x =>
      obtain ⟨-, e2, e3, e4⟩ := fix_s e
      show _ ↔ b < x
      constructor
      · intro z
        by_cases y : x ≤ b
        · exact absurd ((z x (by omega) (by omega)).symm.trans e3) (by decide)
        · omega
      · exact fun z j h1 h2 => e4 j (by omega) (by omega)
  · rw [if_neg c, if_neg c]
    exact ⟨fun z => absurd z (by decide), fun z => absurd z (Nat.not_lt_zero _)⟩
theorem mto_eq {n b : Nat} {Va : Nat → Int32} {s : gT} {g : Nat → Option Nat} (hn : n ≤ 20) (hbn : b < n) (h5 : ∀ x, x < n → ¬ FT n Va s g 5 x) (h6 : ¬ jta n Va b = -1) : jta n Va b = nI (mto n Va b) ∧ mto n Va b ≤ b := by
  have hm : mto n Va b ≤ b := by
    have := mt (mto_jta hn hbn).mpr h6; omega
  refine ⟨?_, hm⟩
  unfold jta mto at *
  by_cases c : (Va (10 * b + 7) - 1) - (Va (10 * b + 7) - 1) / 2 * 2 = 1
  · rw [if_pos c] at h6 ⊢
    rw [if_pos c] at hm ⊢
    rw [show (0 : Int32) = nI 0 from rfl] at h6 ⊢
    rw [lwi_m1 hn (by omega) hbn] at h6
    rw [lwi_n hn (by omega) hbn]
    obtain e | ⟨j, e1, e2, e3, e4⟩ := lwf_ran (hb Va 3) ((0 : Nat) : Int) (b + 1)
    · exact absurd e h6
    · rw [e1, i_ofI]
      cases e : fix (hb Va 3) 0 n with
      | none => exact absurd ((fix_n e j (by omega) (by omega)).symm.trans e4) (by decide)
      | some x =>
        obtain ⟨-, f2, f3, f4⟩ := fix_s e
        rw [e] at hm
        have hm : x ≤ b := hm
        show nI j = nI x
        by_cases y : x = j
        · rw [y]
        · exfalso
          have hx : ¬ j < x := fun z => absurd ((f4 j (by omega) z).symm.trans e4) (by decide)
          exact h5 j (by omega) ⟨3, Or.inl rfl, e4, x, by omega, f3⟩
  · rw [if_neg c, if_neg c]
    rfl
theorem lwi_all {n k f b : Nat} {Va : Nat → Int32} (hn : n ≤ 20) (hf : f ≤ 1000) (h : b < n) : lwi n Va k (nI f) (nI b) = -1 ↔ ∀ x, f ≤ x → x ≤ b → hb Va k x = false := by
  rw [lwi_m1 hn hf h, lwf_m1]
  exact ⟨fun z x h1 h2 => z x (by omega) (by omega), fun z x h1 h2 => z x (by omega) (by omega)⟩
theorem M7_FT {n b : Nat} {Va : Nat → Int32} {s : gT} {g : Nat → Option Nat} (hn : n ≤ 20) (hbn : b < n) (h5 : ∀ x, x < n → ¬ FT n Va s g 5 x) (h6 : ∀ x, x < n → ¬ FT n Va s g 6 x) : M7 n Va b ↔ FT n Va s g 7 b := by
  have key : hb Va 7 b = true → (M7 n Va b ↔ FT n Va s g 7 b) := by
    intro hb7
    have j6 : ¬ jta n Va b = -1 := fun z => h6 b hbn ⟨hb7, z⟩
    obtain ⟨e1, e2⟩ := mto_eq hn hbn h5 j6
    show _ ↔ hb Va 7 b = true ∧ ((jwy (Va (10 * b + 7)) = 1 ∧ lwi n Va 5 (jta n Va b) (nI b) = -1) ∨ (jwy (Va (10 * b + 7)) = 2 ∧ (lwi n Va 6 (jta n Va b) (nI b) = -1 ∨ lwi n Va 4 (nI (b + 1)) (nI n - 1) = -1)))
    rw [e1, lwi_all hn (by omega) hbn, lwi_all hn (by omega) hbn, nI_p1 (by omega), lwi_all hn (by omega) (by omega)]
    unfold M7
    constructor
    · rintro ⟨z1, -, z3⟩
      exact ⟨z1, z3.imp id (fun z => ⟨z.1, z.2.imp id (fun y x h1 h2 => y x (by omega) (by omega))⟩)⟩
    · rintro ⟨z1, z3⟩
      exact ⟨z1, e2, z3.imp id (fun z => ⟨z.1, z.2.imp id (fun y x h1 h2 => y x (by omega) (by omega))⟩)⟩
  constructor
  · exact fun z => (key z.1).mp z
  · exact fun z => (key z.1).mpr z
theorem lst_MT {n : Nat} {Va : Nat → Int32} {s : gT} {g : Nat → Option Nat} (hn : n ≤ 20) : lst n (MT n Va s g) = lst n (FT n Va s g) := by
  have low : ∀ c, c < 700 → ftB n (MT n Va s g) c = ftB n (FT n Va s g) c := by
    intro c hc
    unfold ftB
    rw [MT_o (show c / 100 ≠ 7 by omega)]
  unfold lst
  cases e : fix (ftB n (MT n Va s g)) 0 700 with
  | some x =>
    obtain ⟨-, e2, e3, e4⟩ := fix_s e
    have a1 : fix (ftB n (MT n Va s g)) 0 800 = some x := fix_at (fun y hy => e4 y (by omega) hy) e3 (by omega)
    have a2 : fix (ftB n (FT n Va s g)) 0 800 = some x := fix_at (fun y hy => by rw [← low y (by omega)]; exact e4 y (by omega) hy) (by rw [← low x (by omega)]; exact e3) (by omega)
    rw [a1, a2]
  | none =>
    have nn := fix_n e
    have no : ∀ k b, 1 ≤ k → k < 7 → b < n → ¬ FT n Va s g k b := by
      intro k b h1 h7 hbn z
      have := nn (100 * k + b) (by omega) (by omega)
      rw [low _ (by omega)] at this
      have := pB_f.mp this
      rw [show (100 * k + b) / 100 = k by omega, show (100 * k + b) % 100 = b by omega] at this
      exact this ⟨h1, by omega, hbn, z⟩
    have a : fix (ftB n (MT n Va s g)) 0 800 = fix (ftB n (FT n Va s g)) 0 800 := by
      refine fix_cong (fun c _ hc => ?_)
      by_cases c7 : c < 700
      · exact low c c7
      · unfold ftB
        rw [show c / 100 = 7 by omega, MT_7]
        by_cases hb : c % 100 < n
        · rw [show M7 n Va (c % 100) = FT n Va s g 7 (c % 100) from propext (M7_FT hn hb (fun x hx => no 5 x (by omega) (by omega) hx) (fun x hx => no 6 x (by omega) (by omega) hx))]
        · rw [pB_f.mpr (fun z => hb z.2.2.1), pB_f.mpr (fun z => hb z.2.2.1)]
    rw [a]
theorem sS_sS {S : mT} {k : Nat} {v x : Int32} : sS (sS S k v) k x = sS S k x := by
  unfold sS
  have : up (up S.1 k v) k x = up S.1 k x := by
    funext j
    by_cases e : j = k
    · subst e; rw [up_s, up_s]
    · rw [up_o e, up_o e, up_o e]
  show (up (up S.1 k v) k x, S.2) = _
  rw [this]
theorem mM_low {m : Int32} {G : Nat → Option Nat} {r b : Nat} (h : mM m G r) (hG : G b = some r) (hb : b ≤ 31) : ∃ x, x ≤ b ∧ G x = some r ∧ inm m x = true ∧ ∀ y, y < x → inm m y = false ∧ G y ≠ some r := by
  cases e : fix (inm m) 0 (b + 1) with
  | none => exact absurd ((fix_n e b (by omega) (by omega)).symm.trans ((h b hb).trans (decide_eq_true hG))) (by decide)
  | some x =>
    obtain ⟨-, e2, e3, e4⟩ := fix_s e
    exact ⟨x, by omega, of_decide_eq_true ((h x (by omega)).symm.trans e3), e3, fun y hy => ⟨e4 y (by omega) hy, of_decide_eq_false ((h y (by omega)).symm.trans (e4 y (by omega) hy))⟩⟩
theorem lwf_hi {Pr : Nat → Bool} {b u : Nat} (h : Pr b = true) (hb : b < u) : ∃ x, b ≤ x ∧ x < u ∧ Pr x = true ∧ ∀ y, x < y → y < u → Pr y = false := by
  induction u with
  | zero => omega
  | succ u ih =>
    by_cases c : Pr u = true
    · exact ⟨u, by omega, by omega, c, fun y h1 h2 => absurd h1 (by omega)⟩
    · by_cases e : b = u
      · subst e; exact absurd h c
      · obtain ⟨x, x1, x2, x3, x4⟩ := ih (by omega)
        refine ⟨x, x1, by omega, x3, fun y h1 h2 => ?_⟩
        by_cases e2 : y = u
        · subst e2; exact Bool.not_eq_true _ ▸ c
        · exact x4 y h1 (by omega)
theorem mM_hi {m : Int32} {G : Nat → Option Nat} {r b : Nat} (h : mM m G r) (hG : G b = some r) (hb : b ≤ 31) : ∃ x, b ≤ x ∧ x ≤ 31 ∧ G x = some r ∧ inm m x = true ∧ (∀ y, x < y → y ≤ 31 → inm m y = false) ∧ ∀ y, y ≤ 31 → G y = some r → y ≤ x := by
  obtain ⟨x, x1, x2, x3, x4⟩ := lwf_hi (Pr := inm m) (u := 32) ((h b hb).trans (decide_eq_true hG)) (by omega)
  refine ⟨x, x1, by omega, of_decide_eq_true ((h x (by omega)).symm.trans x3), x3, fun y h1 h2 => x4 y h1 (by omega), fun y h1 h2 => ?_⟩
  by_cases c : x < y
  · exact absurd ((x4 y c (by omega)).symm.trans ((h y h1).trans (decide_eq_true h2))) (by decide)
  · omega
section MF
variable {V : rx_V} {d kc ks : Nat} {h h1 h2 : List va_E} {a n b : Nat} {S S0 : mT} {Va : Nat → Int32} {Q : rx_R → List va_E → Prop} {v : Int32} {s : gT} {G : Nat → Option Nat} {Pr : Nat → Nat → Prop}
theorem k_wrong (ha : a = V.2.1 + h1.length) {k b : Nat} (x : Int32) : rx_C V d kc ks m_Mo_wrong [.ref a, .int x, .int (nI k), .int (nI b)] (mw V h1 a (sS S 19 v) h2) (rx_X (.inl none) (mw V h1 a (sS S 19 (mwv v x (nI (100 * k + b)))) h2)) := by
  refine rx_bipush (v := 100) d_Mo_wrong_0 (by decide) ?_
  refine rx_iload_n d_Mo_wrong_2 (by rfl) ?_
  refine rx_imul d_Mo_wrong_3 ?_
  refine rx_iload_n d_Mo_wrong_4 (by rfl) ?_
  refine rx_iadd d_Mo_wrong_5 ?_
  rw [show (100 : Int32) * nI k + nI b = nI (100 * k + b) by rw [show (100 : Int32) = nI 100 from rfl, pk_mul, nI_add]]
  refine rx_istore d_Mo_wrong_6 (Nat.le_of_ble_eq_true rfl) ?_
  refine rx_aload_nr d_Mo_wrong_8 (by rfl) ?_
  refine rx_iload_n d_Mo_wrong_9 (by rfl) ?_
  refine rx_if_eq (tgt := 34) d_Mo_wrong_10 (by rfl) (fun c10 => ?_) (fun c10 => ?_)
  · have z : mwv v x (nI (100 * k + b)) = v := if_neg (fun y => y.1 c10)
    refine rx_aload_nr d_Mo_wrong_34 (by rfl) ?_
    refine rx_getfield d_Mo_wrong_35 fl_Mo_109 (mr0 ha) (by rfl) ?_
    refine m_putI (k9 := 19) ha d_Mo_wrong_38 (fw_Mo_109 rfl) (by rfl) (by rfl) (by rfl) ?_
    refine rx_vreturn d_Mo_wrong_41 (by rfl) ?_
    exact ⟨rfl, by (rw [z, sS_sS]) <;> rfl⟩
  · refine rx_aload_nr d_Mo_wrong_13 (by rfl) ?_
    refine rx_getfield d_Mo_wrong_14 fl_Mo_109 (mr0 ha) (by rfl) ?_
    refine rx_if_eq (tgt := 29) d_Mo_wrong_17 (by rfl) (fun c17 => ?_) (fun c17 => ?_)
    · have z : mwv v x (nI (100 * k + b)) = nI (100 * k + b) := if_pos ⟨c10, Or.inl c17⟩
      refine rx_iload d_Mo_wrong_29 (by rfl) ?_
      refine rx_goto (tgt := 38) d_Mo_wrong_31 (by rfl) ?_
      refine m_putI (k9 := 19) ha d_Mo_wrong_38 (fw_Mo_109 rfl) (by rfl) (by rfl) (by rfl) ?_
      refine rx_vreturn d_Mo_wrong_41 (by rfl) ?_
      exact ⟨rfl, by (rw [z, sS_sS]) <;> rfl⟩
    · refine rx_iload d_Mo_wrong_20 (by rfl) ?_
      refine rx_aload_nr d_Mo_wrong_22 (by rfl) ?_
      refine rx_getfield d_Mo_wrong_23 fl_Mo_109 (mr0 ha) (by rfl) ?_
      refine rx_icmp_ge (tgt := 34) d_Mo_wrong_26 (by rfl) (fun c26 => ?_) (fun c26 => ?_)
      · have z : mwv v x (nI (100 * k + b)) = v := if_neg (fun y => y.2.elim c17 (i_nlt c26))
        refine rx_aload_nr d_Mo_wrong_34 (by rfl) ?_
        refine rx_getfield d_Mo_wrong_35 fl_Mo_109 (mr0 ha) (by rfl) ?_
        refine m_putI (k9 := 19) ha d_Mo_wrong_38 (fw_Mo_109 rfl) (by rfl) (by rfl) (by rfl) ?_
        refine rx_vreturn d_Mo_wrong_41 (by rfl) ?_
        exact ⟨rfl, by (rw [z, sS_sS]) <;> rfl⟩
      · have z : mwv v x (nI (100 * k + b)) = nI (100 * k + b) := if_pos ⟨c10, Or.inr (Decidable.not_not.mp (fun y => c26 (i_nle' y)))⟩
        refine rx_iload d_Mo_wrong_29 (by rfl) ?_
        refine rx_goto (tgt := 38) d_Mo_wrong_31 (by rfl) ?_
        refine m_putI (k9 := 19) ha d_Mo_wrong_38 (fw_Mo_109 rfl) (by rfl) (by rfl) (by rfl) ?_
        refine rx_vreturn d_Mo_wrong_41 (by rfl) ?_
        exact ⟨rfl, by (rw [z, sS_sS]) <;> rfl⟩
/-- how a check ends: one more number, if p -/
def fPo (V : rx_V) (h1 : List va_E) (a : Nat) (S : mT) (h2 : List va_E) (Pr : Nat → Nat → Prop) : rx_R → List va_E → Prop := fun r h' => r = .inl none ∧ ∃ v, h' = mw V h1 a (sS S 19 v) h2 ∧ fI Pr v
theorem l_checkStart (ha : a = V.2.1 + h1.length) (hN : mN n S) (hv : vok n (S.2.2 4)) {b : Nat} (hbn : b < n) (F : fI Pr v) : ∀ (m i : Nat) (e on : Bool), i + m = n → b < i → rx_W V (d + 3) kc ks m_Mo_checkStart 14 [some (.ref a), some (.int (nI b)), some (.int (bi e)), some (.int (bi on)), some (.int (nI i))] [] (mw V h1 a (sS S 19 v) h2) (fPo V h1 a S h2 (fun k' b' => Pr k' b' ∨ ((e || (on && !(nvr (S.2.2 4) b i m))) = false ∧ k' = 1 ∧ b' = b))) := by
  have hn := hN.2
  have N9 : mN n (sS S 19 v) := hN
  have hv9 : vok n ((sS S 19 v).2.2 4) := hv
  intro m
  induction m with
  | zero =>
    intro i e on hi hbi
    have e0 : i = n := by omega
    subst e0
    have F1 := fI_w (x := bi (!(e || (on && !(nvr (S.2.2 4) b i 0))))) (k := 1) (b := b) F (by omega) (by omega) (by omega)
    rw [show nvr (S.2.2 4) b i 0 = true from rfl] at *
    rw [Bool.not_true, Bool.and_false, Bool.or_false] at *
    refine rx_iload d_Mo_checkStart_14 (by rfl) ?_
    refine rx_aload_nr d_Mo_checkStart_16 (by rfl) ?_
    refine rx_getfield d_Mo_checkStart_17 fl_Mo_59 (mr0 ha) (by rfl) ?_
    rw [show (sS S 19 v).1 2 = nI i from hN.1]
    refine rx_icmp_ge (tgt := 73) d_Mo_checkStart_20 (by rfl) (fun c20 => ?_) (fun z => absurd (Int32.le_refl _) z)
    refine rx_aload_nr d_Mo_checkStart_73 (by rfl) ?_
    refine rx_iload_n d_Mo_checkStart_74 (by rfl) ?_
    refine rx_if_ne (tgt := 82) d_Mo_checkStart_75 (by rfl) (fun c75 => ?_) (fun c75 => ?_)
    · have c75 : e = true := bi_1.mp c75
      subst c75
      refine rx_iconst (v := 0) d_Mo_checkStart_82 (by decide) ?_
      refine rx_iconst (v := 1) d_Mo_checkStart_83 (by decide) ?_
      refine rx_iload_n d_Mo_checkStart_84 (by rfl) ?_
      refine rx_cV d_Mo_checkStart_85 (by rfl) ml_Mo_112 im_Mo_wrong se_Mo_wrong (by exact c9_Mo_wrong) (mr0 ha) (by rfl) (by exact Nat.le_of_ble_eq_true rfl) (k_wrong ha (k := 1) (b := b) _) ?_
      refine rx_vreturn d_Mo_checkStart_88 (by rfl) ?_
      exact ⟨rfl, _, rfl, fI_c F1 (fun k' b' => or_congr_right (and_congr_left' (by decide)))⟩
    · have c75 : e = false := bi_0.mp c75
      subst c75
      refine rx_iconst (v := 1) d_Mo_checkStart_78 (by decide) ?_
      refine rx_goto (tgt := 83) d_Mo_checkStart_79 (by rfl) ?_
      refine rx_iconst (v := 1) d_Mo_checkStart_83 (by decide) ?_
      refine rx_iload_n d_Mo_checkStart_84 (by rfl) ?_
      refine rx_cV d_Mo_checkStart_85 (by rfl) ml_Mo_112 im_Mo_wrong se_Mo_wrong (by exact c9_Mo_wrong) (mr0 ha) (by rfl) (by exact Nat.le_of_ble_eq_true rfl) (k_wrong ha (k := 1) (b := b) _) ?_
      refine rx_vreturn d_Mo_checkStart_88 (by rfl) ?_
      exact ⟨rfl, _, rfl, fI_c F1 (fun k' b' => or_congr_right (and_congr_left' (by decide)))⟩
  | succ m ih =>
    intro i e on hi hbi
    refine rx_iload d_Mo_checkStart_14 (by rfl) ?_
    refine rx_aload_nr d_Mo_checkStart_16 (by rfl) ?_
    refine rx_getfield d_Mo_checkStart_17 fl_Mo_59 (mr0 ha) (by rfl) ?_
    rw [show (sS S 19 v).1 2 = nI n from hN.1]
    refine rx_icmp_ge (tgt := 73) d_Mo_checkStart_20 (by rfl) (fun z => absurd z (nI_ge (by omega) (by omega))) (fun c20 => ?_)
    refine rx_iload_n d_Mo_checkStart_23 (by rfl) ?_
    refine rx_if_eq (tgt := 41) d_Mo_checkStart_24 (by rfl) (fun c24 => ?_) (fun c24 => ?_)
    · have c24 : on = false := bi_0.mp c24
      subst c24
      refine rx_iconst (v := 0) d_Mo_checkStart_41 (by decide) ?_
      refine rx_istore_n d_Mo_checkStart_42 (Nat.le_of_ble_eq_true rfl) ?_
      refine rx_iload_n d_Mo_checkStart_43 (by rfl) ?_
      refine rx_if_ne (tgt := 61) d_Mo_checkStart_44 (by rfl) (fun c44 => ?_) (fun c44 => ?_)
      · have c44 : e = true := bi_1.mp c44
        subst c44
        refine rx_iconst (v := 1) d_Mo_checkStart_61 (by decide) ?_
        refine rx_goto (tgt := 66) d_Mo_checkStart_62 (by rfl) ?_
        refine rx_istore_n d_Mo_checkStart_66 (Nat.le_of_ble_eq_true rfl) ?_
        refine rx_iinc (v := nI (i + 1)) d_Mo_checkStart_67 (by rfl) (i_inc i) ?_
        refine rx_goto (tgt := 14) d_Mo_checkStart_70 (by rfl) ?_
        have ih1 := ih (i + 1) true false (by omega) (by omega)
        refine rx_cons ih1 (fun r9 h9 z => ?_)
        obtain ⟨z1, v9, z2, z3⟩ := z
        refine ⟨z1, v9, z2, fI_c z3 (fun k' b' => or_congr_right (and_congr_left' (Eq.to_iff (congrArg (· = false) ?_))))⟩
        rw [show nvr (S.2.2 4) b i (m + 1) = if b < i ∧ hb (S.2.2 4) 0 i = true then true else if hb (S.2.2 4) 1 i = true then false else nvr (S.2.2 4) b (i + 1) m from rfl]
        simp_all
      · have c44 : e = false := bi_0.mp c44
        subst c44
        refine rx_iload_n d_Mo_checkStart_47 (by rfl) ?_
        refine rx_if_eq (tgt := 65) d_Mo_checkStart_48 (by rfl) (fun _ => ?_) (fun z => absurd z (by decide))
        refine rx_iconst (v := 0) d_Mo_checkStart_65 (by decide) ?_
        refine rx_istore_n d_Mo_checkStart_66 (Nat.le_of_ble_eq_true rfl) ?_
        refine rx_iinc (v := nI (i + 1)) d_Mo_checkStart_67 (by rfl) (i_inc i) ?_
        refine rx_goto (tgt := 14) d_Mo_checkStart_70 (by rfl) ?_
        have ih1 := ih (i + 1) false false (by omega) (by omega)
        refine rx_cons ih1 (fun r9 h9 z => ?_)
        obtain ⟨z1, v9, z2, z3⟩ := z
        refine ⟨z1, v9, z2, fI_c z3 (fun k' b' => or_congr_right (and_congr_left' (Eq.to_iff (congrArg (· = false) ?_))))⟩
        rw [show nvr (S.2.2 4) b i (m + 1) = if b < i ∧ hb (S.2.2 4) 0 i = true then true else if hb (S.2.2 4) 1 i = true then false else nvr (S.2.2 4) b (i + 1) m from rfl]
        simp_all
    · have c24 : on = true := bi_1.mp c24
      subst c24
      refine rx_aload_nr d_Mo_checkStart_27 (by rfl) ?_
      refine rx_iload d_Mo_checkStart_28 (by rfl) ?_
      refine rx_iconst (v := 0) d_Mo_checkStart_30 (by decide) ?_
      refine rx_cV d_Mo_checkStart_31 (by rfl) ml_Mo_90 im_Mo_has se_Mo_has (by exact c9_Mo_has) (mr0 ha) (by rfl) (by exact Nat.le_of_ble_eq_true rfl) (k_has ha N9 hv9 (b := i) (k := 0) (by omega) (by omega)) ?_
      rw [hbn_1 (show i < n by omega)]
      refine rx_if_ne (tgt := 41) d_Mo_checkStart_34 (by rfl) (fun c34 => ?_) (fun c34 => ?_)
      · have c34 : hb (S.2.2 4) 0 i = true := bi_1.mp c34
        refine rx_iconst (v := 0) d_Mo_checkStart_41 (by decide) ?_
        refine rx_istore_n d_Mo_checkStart_42 (Nat.le_of_ble_eq_true rfl) ?_
        refine rx_iload_n d_Mo_checkStart_43 (by rfl) ?_
        refine rx_if_ne (tgt := 61) d_Mo_checkStart_44 (by rfl) (fun c44 => ?_) (fun c44 => ?_)
        · have c44 : e = true := bi_1.mp c44
          subst c44
          refine rx_iconst (v := 1) d_Mo_checkStart_61 (by decide) ?_
          refine rx_goto (tgt := 66) d_Mo_checkStart_62 (by rfl) ?_
          refine rx_istore_n d_Mo_checkStart_66 (Nat.le_of_ble_eq_true rfl) ?_
          refine rx_iinc (v := nI (i + 1)) d_Mo_checkStart_67 (by rfl) (i_inc i) ?_
          refine rx_goto (tgt := 14) d_Mo_checkStart_70 (by rfl) ?_
          have ih1 := ih (i + 1) true false (by omega) (by omega)
          refine rx_cons ih1 (fun r9 h9 z => ?_)
          obtain ⟨z1, v9, z2, z3⟩ := z
          refine ⟨z1, v9, z2, fI_c z3 (fun k' b' => or_congr_right (and_congr_left' (Eq.to_iff (congrArg (· = false) ?_))))⟩
          rw [show nvr (S.2.2 4) b i (m + 1) = if b < i ∧ hb (S.2.2 4) 0 i = true then true else if hb (S.2.2 4) 1 i = true then false else nvr (S.2.2 4) b (i + 1) m from rfl]
          simp_all
        · have c44 : e = false := bi_0.mp c44
          subst c44
          refine rx_iload_n d_Mo_checkStart_47 (by rfl) ?_
          refine rx_if_eq (tgt := 65) d_Mo_checkStart_48 (by rfl) (fun _ => ?_) (fun z => absurd z (by decide))
          refine rx_iconst (v := 0) d_Mo_checkStart_65 (by decide) ?_
          refine rx_istore_n d_Mo_checkStart_66 (Nat.le_of_ble_eq_true rfl) ?_
          refine rx_iinc (v := nI (i + 1)) d_Mo_checkStart_67 (by rfl) (i_inc i) ?_
          refine rx_goto (tgt := 14) d_Mo_checkStart_70 (by rfl) ?_
          have ih1 := ih (i + 1) false false (by omega) (by omega)
          refine rx_cons ih1 (fun r9 h9 z => ?_)
          obtain ⟨z1, v9, z2, z3⟩ := z
          refine ⟨z1, v9, z2, fI_c z3 (fun k' b' => or_congr_right (and_congr_left' (Eq.to_iff (congrArg (· = false) ?_))))⟩
          rw [show nvr (S.2.2 4) b i (m + 1) = if b < i ∧ hb (S.2.2 4) 0 i = true then true else if hb (S.2.2 4) 1 i = true then false else nvr (S.2.2 4) b (i + 1) m from rfl]
          simp_all
      · have c34 : hb (S.2.2 4) 0 i = false := bi_0.mp c34
        refine rx_iconst (v := 1) d_Mo_checkStart_37 (by decide) ?_
        refine rx_goto (tgt := 42) d_Mo_checkStart_38 (by rfl) ?_
        refine rx_istore_n d_Mo_checkStart_42 (Nat.le_of_ble_eq_true rfl) ?_
        refine rx_iload_n d_Mo_checkStart_43 (by rfl) ?_
        refine rx_if_ne (tgt := 61) d_Mo_checkStart_44 (by rfl) (fun c44 => ?_) (fun c44 => ?_)
        · have c44 : e = true := bi_1.mp c44
          subst c44
          refine rx_iconst (v := 1) d_Mo_checkStart_61 (by decide) ?_
          refine rx_goto (tgt := 66) d_Mo_checkStart_62 (by rfl) ?_
          refine rx_istore_n d_Mo_checkStart_66 (Nat.le_of_ble_eq_true rfl) ?_
          refine rx_iinc (v := nI (i + 1)) d_Mo_checkStart_67 (by rfl) (i_inc i) ?_
          refine rx_goto (tgt := 14) d_Mo_checkStart_70 (by rfl) ?_
          have ih1 := ih (i + 1) true true (by omega) (by omega)
          refine rx_cons ih1 (fun r9 h9 z => ?_)
          obtain ⟨z1, v9, z2, z3⟩ := z
          refine ⟨z1, v9, z2, fI_c z3 (fun k' b' => or_congr_right (and_congr_left' (Eq.to_iff (congrArg (· = false) ?_))))⟩
          rw [show nvr (S.2.2 4) b i (m + 1) = if b < i ∧ hb (S.2.2 4) 0 i = true then true else if hb (S.2.2 4) 1 i = true then false else nvr (S.2.2 4) b (i + 1) m from rfl]
          simp_all
        · have c44 : e = false := bi_0.mp c44
          subst c44
          refine rx_iload_n d_Mo_checkStart_47 (by rfl) ?_
          refine rx_if_eq (tgt := 65) d_Mo_checkStart_48 (by rfl) (fun z => absurd z (by decide)) (fun _ => ?_)
          refine rx_aload_nr d_Mo_checkStart_51 (by rfl) ?_
          refine rx_iload d_Mo_checkStart_52 (by rfl) ?_
          refine rx_iconst (v := 1) d_Mo_checkStart_54 (by decide) ?_
          refine rx_cV d_Mo_checkStart_55 (by rfl) ml_Mo_90 im_Mo_has se_Mo_has (by exact c9_Mo_has) (mr0 ha) (by rfl) (by exact Nat.le_of_ble_eq_true rfl) (k_has ha N9 hv9 (b := i) (k := 1) (by omega) (by omega)) ?_
          rw [hbn_1 (show i < n by omega)]
          refine rx_if_eq (tgt := 65) d_Mo_checkStart_58 (by rfl) (fun c58 => ?_) (fun c58 => ?_)
          · have c58 : hb (S.2.2 4) 1 i = false := bi_0.mp c58
            refine rx_iconst (v := 0) d_Mo_checkStart_65 (by decide) ?_
            refine rx_istore_n d_Mo_checkStart_66 (Nat.le_of_ble_eq_true rfl) ?_
            refine rx_iinc (v := nI (i + 1)) d_Mo_checkStart_67 (by rfl) (i_inc i) ?_
            refine rx_goto (tgt := 14) d_Mo_checkStart_70 (by rfl) ?_
            have ih1 := ih (i + 1) false true (by omega) (by omega)
            refine rx_cons ih1 (fun r9 h9 z => ?_)
            obtain ⟨z1, v9, z2, z3⟩ := z
            refine ⟨z1, v9, z2, fI_c z3 (fun k' b' => or_congr_right (and_congr_left' (Eq.to_iff (congrArg (· = false) ?_))))⟩
            rw [show nvr (S.2.2 4) b i (m + 1) = if b < i ∧ hb (S.2.2 4) 0 i = true then true else if hb (S.2.2 4) 1 i = true then false else nvr (S.2.2 4) b (i + 1) m from rfl]
            simp_all
          · have c58 : hb (S.2.2 4) 1 i = true := bi_1.mp c58
            refine rx_iconst (v := 1) d_Mo_checkStart_61 (by decide) ?_
            refine rx_goto (tgt := 66) d_Mo_checkStart_62 (by rfl) ?_
            refine rx_istore_n d_Mo_checkStart_66 (Nat.le_of_ble_eq_true rfl) ?_
            refine rx_iinc (v := nI (i + 1)) d_Mo_checkStart_67 (by rfl) (i_inc i) ?_
            refine rx_goto (tgt := 14) d_Mo_checkStart_70 (by rfl) ?_
            have ih1 := ih (i + 1) true true (by omega) (by omega)
            refine rx_cons ih1 (fun r9 h9 z => ?_)
            obtain ⟨z1, v9, z2, z3⟩ := z
            refine ⟨z1, v9, z2, fI_c z3 (fun k' b' => or_congr_right (and_congr_left' (Eq.to_iff (congrArg (· = false) ?_))))⟩
            rw [show nvr (S.2.2 4) b i (m + 1) = if b < i ∧ hb (S.2.2 4) 0 i = true then true else if hb (S.2.2 4) 1 i = true then false else nvr (S.2.2 4) b (i + 1) m from rfl]
            simp_all
theorem k_checkStart (ha : a = V.2.1 + h1.length) (hN : mN n S) (hv : vok n (S.2.2 4)) {b : Nat} (hbn : b < n) (hs : hb (S.2.2 4) 0 b = true) (F : fI Pr v) : rx_C V (d + 3) kc ks m_Mo_checkStart [.ref a, .int (nI b)] (mw V h1 a (sS S 19 v) h2) (fPo V h1 a S h2 (fun k' b' => Pr k' b' ∨ (FT n (S.2.2 4) s G 1 b ∧ k' = 1 ∧ b' = b))) := by
  have N9 : mN n (sS S 19 v) := hN
  have hv9 : vok n ((sS S 19 v).2.2 4) := hv
  have hn := hN.2
  refine rx_aload_nr d_Mo_checkStart_0 (by rfl) ?_
  refine rx_iload_n d_Mo_checkStart_1 (by rfl) ?_
  refine rx_iconst (v := 1) d_Mo_checkStart_2 (by decide) ?_
  refine rx_cV d_Mo_checkStart_3 (by rfl) ml_Mo_90 im_Mo_has se_Mo_has (by exact c9_Mo_has) (mr0 ha) (by rfl) (by exact Nat.le_of_ble_eq_true rfl) (k_has ha N9 hv9 (b := b) (k := 1) (by omega) (by omega)) ?_
  rw [hbn_1 hbn]
  refine rx_istore_n d_Mo_checkStart_6 (Nat.le_of_ble_eq_true rfl) ?_
  refine rx_iconst (v := 1) d_Mo_checkStart_7 (by decide) ?_
  refine rx_istore_n d_Mo_checkStart_8 (Nat.le_of_ble_eq_true rfl) ?_
  refine rx_iload_n d_Mo_checkStart_9 (by rfl) ?_
  refine rx_iconst (v := 1) d_Mo_checkStart_10 (by decide) ?_
  refine rx_iadd d_Mo_checkStart_11 ?_
  rw [nI_1]
  refine rx_istore d_Mo_checkStart_12 (Nat.le_of_ble_eq_true rfl) ?_
  refine rx_cons (l_checkStart ha hN hv hbn F (n - (b + 1)) (b + 1) (hb (S.2.2 4) 1 b) true (by omega) (by omega)) (fun r9 h9 z => ?_)
  obtain ⟨z1, v9, z2, z3⟩ := z
  refine ⟨z1, v9, z2, fI_c z3 (fun k' b' => or_congr_right (and_congr_left' ?_))⟩
  show _ ↔ hb (S.2.2 4) 0 b = true ∧ nvr (S.2.2 4) b b (n - b) = true
  rw [show n - b = n - (b + 1) + 1 by omega, show nvr (S.2.2 4) b b (n - (b + 1) + 1) = if b < b ∧ hb (S.2.2 4) 0 b = true then true else if hb (S.2.2 4) 1 b = true then false else nvr (S.2.2 4) b (b + 1) (n - (b + 1)) from rfl, if_neg (fun z => Nat.lt_irrefl _ z.1)]
  cases hb (S.2.2 4) 1 b <;> simp [hs]
theorem k_checkEnding (ha : a = V.2.1 + h1.length) (hN : mN n S) (R : mR S s G) (I : gI (S.2.2 4) n s) (K : gK n (S.2.2 4) s G) {b : Nat} (hbn : b < n) (hs : hb (S.2.2 4) 2 b = true) (F : fI Pr v) : rx_C V (d + 2) kc ks m_Mo_checkEnding [.ref a, .int (nI b)] (mw V h1 a (sS S 19 v) h2) (fPo V h1 a S h2 (fun k' b' => Pr k' b' ∨ (FT n (S.2.2 4) s G 2 b ∧ k' = 2 ∧ b' = b))) := by
  have hn := hN.2
  have hs1 := I.1
  have R9 : mR (sS S 19 v) s G := R
  have hfx : fix (fun q => inm ((sS S 19 v).2.2 13 q) b) 0 s.1 = G b := mM_fix (fun q hq => (R.2 q hq).2.2.1) (fun q z => (K b q z).1) (by omega)
  have efx : FT n (S.2.2 4) s G 2 b ↔ ∀ r, G b = some r → b ≤ gE s r ∧ ∃ y, y < b ∧ G y = some r := ⟨fun z => z.2, fun z => ⟨hs, z⟩⟩
  have F1 := fun x => fI_w (x := x) (k := 2) (b := b) F (by omega) (by omega) (by omega)
  cases eG : G b with
  | none =>
    have ft : FT n (S.2.2 4) s G 2 b := efx.mpr (fun r z => by rw [eG] at z; cases z)
    refine rx_aload_nr d_Mo_checkEnding_0 (by rfl) ?_
    refine rx_iload_n d_Mo_checkEnding_1 (by rfl) ?_
    refine rx_cV d_Mo_checkEnding_2 (by rfl) ml_Mo_106 im_Mo_withEnding se_Mo_withEnding (by exact c9_Mo_withEnding) (mr0 ha) (by rfl) (by exact Nat.le_of_ble_eq_true rfl) (k_withEnding ha R9.1 (by omega) (by omega)) ?_
    rw [hfx, eG]
    refine rx_istore_n d_Mo_checkEnding_5 (Nat.le_of_ble_eq_true rfl) ?_
    refine rx_aload_nr d_Mo_checkEnding_6 (by rfl) ?_
    refine rx_iload_n d_Mo_checkEnding_7 (by rfl) ?_
    refine rx_if_lt (tgt := 39) d_Mo_checkEnding_8 (by rfl) (fun c8 => ?_) (fun z => absurd (show onx none < 0 by decide) z)
    refine rx_iconst (v := 1) d_Mo_checkEnding_39 (by decide) ?_
    refine rx_goto (tgt := 44) d_Mo_checkEnding_40 (by rfl) ?_
    refine rx_iconst (v := 2) d_Mo_checkEnding_44 (by decide) ?_
    refine rx_iload_n d_Mo_checkEnding_45 (by rfl) ?_
    refine rx_cV d_Mo_checkEnding_46 (by rfl) ml_Mo_112 im_Mo_wrong se_Mo_wrong (by exact c9_Mo_wrong) (mr0 ha) (by rfl) (by exact Nat.le_of_ble_eq_true rfl) (k_wrong ha (k := 2) (b := b) _) ?_
    refine rx_vreturn d_Mo_checkEnding_49 (by rfl) ?_
    exact ⟨rfl, _, rfl, fI_c (F1 _) (fun k' b' => or_congr_right (and_congr_left' ⟨fun _ => ft, fun _ => by decide⟩))⟩
  | some r =>
    have hr := (K b r eG).1
    have jj := I.2.2.2.2.1 r hr
    have hs2 := I.2.1
    obtain ⟨j1, j2, j3, j4⟩ := R.2 r hr
    have low1 : inm (S.2.2 12 r) (gE s r) = true := (j2 _ (by omega)).trans (decide_eq_true jj.2.2.2.2.1)
    have low2 : ∀ y, y < gE s r → inm (S.2.2 12 r) y = false := fun y hy => (j2 y (by omega)).trans (decide_eq_false (fun z => by have := (I.2.2.2.2.2.2.1 y r z).2.1; omega))
    obtain ⟨x, x1, x2, x3, x4⟩ := mM_low j3 eG (by omega)
    refine rx_aload_nr d_Mo_checkEnding_0 (by rfl) ?_
    refine rx_iload_n d_Mo_checkEnding_1 (by rfl) ?_
    refine rx_cV d_Mo_checkEnding_2 (by rfl) ml_Mo_106 im_Mo_withEnding se_Mo_withEnding (by exact c9_Mo_withEnding) (mr0 ha) (by rfl) (by exact Nat.le_of_ble_eq_true rfl) (k_withEnding ha R9.1 (by omega) (by omega)) ?_
    rw [hfx, eG, show onx (some r) = nI r from rfl]
    refine rx_istore_n d_Mo_checkEnding_5 (Nat.le_of_ble_eq_true rfl) ?_
    refine rx_aload_nr d_Mo_checkEnding_6 (by rfl) ?_
    refine rx_iload_n d_Mo_checkEnding_7 (by rfl) ?_
    refine rx_if_lt (tgt := 39) d_Mo_checkEnding_8 (by rfl) (fun z => absurd z (i_nlt (by rw [i_le, i_0, i_n (by omega)]; omega))) (fun c8 => ?_)
    refine rx_iload_n d_Mo_checkEnding_11 (by rfl) ?_
    refine rx_aload_nr d_Mo_checkEnding_12 (by rfl) ?_
    refine rx_aload_nr d_Mo_checkEnding_13 (by rfl) ?_
    refine rx_getfield d_Mo_checkEnding_14 fl_Mo_44 (mr0 ha) (by rfl) ?_
    refine rx_iload_n d_Mo_checkEnding_17 (by rfl) ?_
    refine m_ial (j := 12) ha d_Mo_checkEnding_18 (by rfl) (by omega) (by decide) ?_
    refine rx_cV d_Mo_checkEnding_19 (by rfl) ml_Mo_103 im_Mo_lowest se_Mo_lowest (by exact c9_Mo_lowest) (mr0 ha) (by rfl) (by exact Nat.le_of_ble_eq_true rfl) (k_lowest (x := gE s r) (by omega) low1 low2) ?_
    refine rx_icmp_gt (tgt := 43) d_Mo_checkEnding_22 (by rfl) (fun c22 => ?_) (fun c22 => ?_)
    · have c22 : gE s r < b := by rw [i_lt, i_n (by omega), i_n (by omega)] at c22; omega
      have ft : ¬ FT n (S.2.2 4) s G 2 b := fun z => by have := (efx.mp z r eG).1; omega
      refine rx_iconst (v := 0) d_Mo_checkEnding_43 (by decide) ?_
      refine rx_iconst (v := 2) d_Mo_checkEnding_44 (by decide) ?_
      refine rx_iload_n d_Mo_checkEnding_45 (by rfl) ?_
      refine rx_cV d_Mo_checkEnding_46 (by rfl) ml_Mo_112 im_Mo_wrong se_Mo_wrong (by exact c9_Mo_wrong) (mr0 ha) (by rfl) (by exact Nat.le_of_ble_eq_true rfl) (k_wrong ha (k := 2) (b := b) _) ?_
      refine rx_vreturn d_Mo_checkEnding_49 (by rfl) ?_
      first
        | exact ⟨rfl, _, rfl, fI_c (F1 _) (fun k' b' => or_congr_right (and_congr_left' ⟨fun _ => ft, fun _ => by decide⟩))⟩
        | exact ⟨rfl, _, rfl, fI_c (F1 _) (fun k' b' => or_congr_right (and_congr_left' ⟨fun z => absurd rfl z, fun z => absurd z ft⟩))⟩
    · have c22 : b ≤ gE s r := by rw [i_lt, i_n (by omega), i_n (by omega)] at c22; omega
      refine rx_iload_n d_Mo_checkEnding_25 (by rfl) ?_
      refine rx_aload_nr d_Mo_checkEnding_26 (by rfl) ?_
      refine rx_aload_nr d_Mo_checkEnding_27 (by rfl) ?_
      refine rx_getfield d_Mo_checkEnding_28 fl_Mo_47 (mr0 ha) (by rfl) ?_
      refine rx_iload_n d_Mo_checkEnding_31 (by rfl) ?_
      refine m_ial (j := 13) ha d_Mo_checkEnding_32 (by rfl) (by omega) (by decide) ?_
      refine rx_cV d_Mo_checkEnding_33 (by rfl) ml_Mo_103 im_Mo_lowest se_Mo_lowest (by exact c9_Mo_lowest) (mr0 ha) (by rfl) (by exact Nat.le_of_ble_eq_true rfl) (k_lowest (x := x) (by omega) x3 (fun y hy => (x4 y hy).1)) ?_
      refine rx_icmp_le (tgt := 43) d_Mo_checkEnding_36 (by rfl) (fun c36 => ?_) (fun c36 => ?_)
      · have c36 : b ≤ x := by rw [i_le, i_n (by omega), i_n (by omega)] at c36; omega
        have ft : ¬ FT n (S.2.2 4) s G 2 b := fun z => by
          obtain ⟨-, y, y1, y2⟩ := efx.mp z r eG
          exact (x4 y (by omega)).2 y2
        refine rx_iconst (v := 0) d_Mo_checkEnding_43 (by decide) ?_
        refine rx_iconst (v := 2) d_Mo_checkEnding_44 (by decide) ?_
        refine rx_iload_n d_Mo_checkEnding_45 (by rfl) ?_
        refine rx_cV d_Mo_checkEnding_46 (by rfl) ml_Mo_112 im_Mo_wrong se_Mo_wrong (by exact c9_Mo_wrong) (mr0 ha) (by rfl) (by exact Nat.le_of_ble_eq_true rfl) (k_wrong ha (k := 2) (b := b) _) ?_
        refine rx_vreturn d_Mo_checkEnding_49 (by rfl) ?_
        first
          | exact ⟨rfl, _, rfl, fI_c (F1 _) (fun k' b' => or_congr_right (and_congr_left' ⟨fun _ => ft, fun _ => by decide⟩))⟩
          | exact ⟨rfl, _, rfl, fI_c (F1 _) (fun k' b' => or_congr_right (and_congr_left' ⟨fun z => absurd rfl z, fun z => absurd z ft⟩))⟩
      · have c36 : x < b := by rw [i_le, i_n (by omega), i_n (by omega)] at c36; omega
        have ft : FT n (S.2.2 4) s G 2 b := efx.mpr (fun r' z => by
          rw [eG] at z
          cases z
          exact ⟨c22, x, c36, x2⟩)
        refine rx_iconst (v := 1) d_Mo_checkEnding_39 (by decide) ?_
        refine rx_goto (tgt := 44) d_Mo_checkEnding_40 (by rfl) ?_
        refine rx_iconst (v := 2) d_Mo_checkEnding_44 (by decide) ?_
        refine rx_iload_n d_Mo_checkEnding_45 (by rfl) ?_
        refine rx_cV d_Mo_checkEnding_46 (by rfl) ml_Mo_112 im_Mo_wrong se_Mo_wrong (by exact c9_Mo_wrong) (mr0 ha) (by rfl) (by exact Nat.le_of_ble_eq_true rfl) (k_wrong ha (k := 2) (b := b) _) ?_
        refine rx_vreturn d_Mo_checkEnding_49 (by rfl) ?_
        first
          | exact ⟨rfl, _, rfl, fI_c (F1 _) (fun k' b' => or_congr_right (and_congr_left' ⟨fun _ => ft, fun _ => by decide⟩))⟩
          | exact ⟨rfl, _, rfl, fI_c (F1 _) (fun k' b' => or_congr_right (and_congr_left' ⟨fun z => absurd rfl z, fun z => absurd z ft⟩))⟩
end MF
