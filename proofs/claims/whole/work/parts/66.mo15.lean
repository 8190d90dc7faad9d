/-! the reference's seek, sounds, sound -/
/-- the reference's notes stand for the class's row -/
def mB (n num : Nat) (NS : Nat → Nat → Int32) (σ : Nat → Nat) (S : mT) : Prop := mQ n num S ∧ nRel num NS (MS S) σ ∧ nSo num NS ∧ nOk n num (S.2.2 2) NS
theorem mE2.ms {S S' : mT} (h : mE2 S S') {i t : Nat} (ht : t < 6) : MS S' i t = MS S i t := by
  unfold MS
  rw [h.2.2 (5 + t) (by omega)]
theorem mB.e2 {n num : Nat} {NS : Nat → Nat → Int32} {σ : Nat → Nat} {S S' : mT} (B : mB n num NS σ S) (h : mE2 S S') : mB n num NS σ S' := by
  obtain ⟨q, R, so, ok⟩ := B
  refine ⟨⟨h.2.1.trans q.1, q.2.1, q.2.2.1, fun i hi => ?_⟩, ⟨fun c hc => ⟨(R.1 c hc).1, fun t ht => ?_⟩, R.2⟩, so, ?_⟩
  · rw [h.2.2 6 (by omega)]; exact q.2.2.2 i hi
  · rw [h.ms ht]; exact (R.1 c hc).2 t ht
  · rw [h.2.2 2 (by omega)]; exact ok
theorem mB.D {n num : Nat} {NS : Nat → Nat → Int32} {σ : Nat → Nat} {S : mT} (B : mB n num NS σ S) : mDi num S := by
  obtain ⟨q, R, so, ok⟩ := B
  intro i j hi hj h0 h1 h2 h4
  obtain ⟨c, hc, rfl⟩ := R.2.1 i hi
  obtain ⟨c', hc', rfl⟩ := R.2.1 j hj
  rw [← (R.1 c hc).2 0 (by omega), ← (R.1 c' hc').2 0 (by omega)] at h0
  rw [← (R.1 c hc).2 1 (by omega), ← (R.1 c' hc').2 1 (by omega)] at h1
  rw [← (R.1 c hc).2 2 (by omega), ← (R.1 c' hc').2 2 (by omega)] at h2
  rw [← (R.1 c hc).2 4 (by omega), ← (R.1 c' hc').2 4 (by omega)] at h4
  rw [nDi so hc hc' h0 h1 h2 h4]
theorem snx_rel {n N num : Nat} {Le f : Nat → Int32} {NS Mf : Nat → Nat → Int32} {σ : Nat → Nat} (R : nRel num NS Mf σ) (so : nSo num NS) {c i : Nat} (hc : c < num) : snx n Le N f num Mf (σ c) i = (snx n Le N f num NS c i).map σ := by
  have e := (R.1 c hc).2
  unfold snx
  rw [← e 5 (by omega), ← e 2 (by omega), ← e 3 (by omega), ← e 1 (by omega), ← e 0 (by omega), ← e 4 (by omega)]
  by_cases z : NS c 5 ≠ 0 ∧ NS c 2 + NS c 3 = pgl n Le (NS c 1)
  · rw [if_pos z, if_pos z]
    refine fix_rel R (T := fun N' => decide (N' 0 = NS c 0 ∧ N' 1 = brf N f (nI i + 1) ∧ N' 2 = 0 ∧ N' 4 = NS c 4)) (fun A B h => ?_) (fun x y hx hy z1 z2 => ?_)
    · show decide _ = decide _
      rw [h 0 (by omega), h 1 (by omega), h 2 (by omega), h 4 (by omega)]
    · have z1 := of_decide_eq_true z1
      have z2 := of_decide_eq_true z2
      exact nDi so hx hy (z1.1.trans z2.1.symm) (z1.2.1.trans z2.2.1.symm) (z1.2.2.1.trans z2.2.2.1.symm) (z1.2.2.2.trans z2.2.2.2.symm)
  · rw [if_neg z, if_neg z]; rfl
theorem slf_rel {n N num : Nat} {Le Te f : Nat → Int32} {NS Mf : Nat → Nat → Int32} {σ : Nat → Nat} (R : nRel num NS Mf σ) (so : nSo num NS) {t : Bool} : ∀ (m i : Nat) (x : Int64) (k : Option Nat), (∀ c, k = some c → c < num) → slf n Le Te N f num Mf t x (k.map σ) i m = slf n Le Te N f num NS t x k i m := by
  intro m
  induction m with
  | zero =>
    intro i x k hk
    cases k with
    | none => rfl
    | some c => rfl
  | succ m ih =>
    intro i x k hk
    cases k with
    | none => rfl
    | some c =>
      have hc := hk c rfl
      show slf n Le Te N f num Mf t (x + slw n Te Mf t (σ c)) (snx n Le N f num Mf (σ c) i) (i + 1) m = slf n Le Te N f num NS t (x + slw n Te NS t c) (snx n Le N f num NS c i) (i + 1) m
      rw [snx_rel R so hc, ih (i + 1) _ _ (fun c' z => snx_lt z)]
      have : slw n Te Mf t (σ c) = slw n Te NS t c := by
        unfold slw
        rw [(R.1 c hc).2 3 (by omega), (R.1 c hc).2 1 (by omega)]
      rw [this]
theorem brf_m {N : Nat} {f : Nat → Int32} : brf N f (nI 0 - 1) = -1 := if_neg (fun z => absurd z.1 (by decide))
/-- a note goes on with a sound: class and reference -/
theorem sgo_rel {n num N : Nat} {NS : Nat → Nat → Int32} {σ : Nat → Nat} {S : mT} (B : mB n num NS σ S) {fb : Nat → Nat} (hf : ∀ j, j < N → S.2.2 16 j = nI (fb j) ∧ fb j < n) (hN4 : N ≤ 240) {c i : Nat} (hc : c < num) (hi : i < N) : (decide (0 < i ∧ S.2.2 7 (σ c) = 0) && (fix (gob n S (σ c) i) 0 num).isSome) = sgo n (S.2.2 2) N (fun j => nI (fb j)) num NS i c := by
  obtain ⟨q, R, so, ok⟩ := B
  have e := (R.1 c hc).2
  unfold sgo
  cases i with
  | zero =>
    rw [decide_eq_false (fun z => absurd z.1 (Nat.lt_irrefl _)), Bool.false_and, brf_m, fix_0 (fun j hj => decide_eq_false (fun z => ?_))]
    · rw [show (none : Option Nat).isSome = false from rfl, Bool.and_false]
    · obtain ⟨⟨b, b1, b2, -⟩, -⟩ := ok j hj
      rw [b2] at z
      exact nI_m1 (by have := q.2.2.1; omega) z.2.1
  | succ i =>
    rw [show nI (i + 1) - 1 = nI i from nI_pred i, brf_n (by omega) (by omega)]
    have e1 : decide (0 < i + 1 ∧ S.2.2 7 (σ c) = 0) = decide (NS c 2 = 0) := by
      rw [decide_eq_decide, show S.2.2 7 (σ c) = NS c 2 from (e 2 (by omega)).symm]
      exact ⟨fun z => z.2, fun z => ⟨by omega, z⟩⟩
    rw [e1]
    congr 1
    have e2 := some_rel R (T := fun N' => decide (N' 0 = NS c 0 ∧ N' 1 = nI (fb i) ∧ N' 4 = NS c 4 ∧ N' 5 ≠ 0 ∧ N' 2 + N' 3 = pgl n (S.2.2 2) (N' 1))) (fun A B h => by
      show decide _ = decide _
      rw [h 0 (by omega), h 1 (by omega), h 2 (by omega), h 3 (by omega), h 4 (by omega), h 5 (by omega)])
    refine Eq.trans ?_ e2
    congr 1
    refine fix_cong (fun k _ hk => ?_)
    unfold gob rcB
    rw [← e 0 (by omega), ← e 4 (by omega), Nat.add_sub_cancel, (hf i (by omega)).1, ← Bool.decide_and]
    refine decide_eq_decide.mpr ⟨fun z => ⟨z.1.1, z.1.2.2, z.1.2.1, z.2⟩, fun z => ⟨⟨z.1, z.2.2.1, z.2.1⟩, z.2.2.2⟩⟩
/-- what follow leaves -/
def flS (n N num : Nat) (fb : Nat → Nat) (NS : Nat → Nat → Int32) (S : mT) (c i : Nat) : mT := sL (sL (sL S 26 (ffo (tks n (S.2.2 2) (S.2.2 3) (fun j => nI (fb j))) 0 0 i + (NS c 2).toInt64 * (pgl n (S.2.2 3) (NS c 1)).toInt64)) 27 (slf n (S.2.2 2) (S.2.2 3) N (fun j => nI (fb j)) num NS false 0 (some c) i (N - i))) 28 (slf n (S.2.2 2) (S.2.2 3) N (fun j => nI (fb j)) num NS true 0 (some c) i (N - i))
/-- how seek ends, with cnt sounds before and L to come -/
def skP (V : rx_V) (h1 : List va_E) (a : Nat) (S : mT) (h2 : List va_E) (n N num : Nat) (fb : Nat → Nat) (NS : Nat → Nat → Int32) (σ : Nat → Nat) (wt : Int32) (cnt : Nat) (L : List (Nat × Nat)) : rx_R → List va_E → Prop := fun r h' =>
  (∃ t c i, L[t]? = some (c, i) ∧ wt = nI (cnt + t) ∧ r = .inl (some (.int (nI (σ c)))) ∧ h' = mw V h1 a (flS n N num fb NS S c i) h2) ∨ ((∀ t, t < L.length → wt ≠ nI (cnt + t)) ∧ r = .inl (some (.int (-1))) ∧ h' = mw V h1 a (sL S 27 (nI (cnt + L.length)).toInt64) h2)
theorem skP_c {V : rx_V} {h1 h2 h' : List va_E} {a n N num cnt : Nat} {S : mT} {fb : Nat → Nat} {NS : Nat → Nat → Int32} {σ : Nat → Nat} {wt : Int32} {L : List (Nat × Nat)} {x : Nat × Nat} {r : rx_R} (H : skP V h1 a S h2 n N num fb NS σ wt (cnt + 1) L r h') (hw : wt ≠ nI cnt) : skP V h1 a S h2 n N num fb NS σ wt cnt (x :: L) r h' := by
  obtain ⟨t, c, i, q1, q2, q3, q4⟩ | ⟨q1, q2, q3⟩ := H
  · exact Or.inl ⟨t + 1, c, i, q1, by rw [q2, show cnt + 1 + t = cnt + (t + 1) by omega], q3, q4⟩
  · refine Or.inr ⟨fun t ht => ?_, q2, by rw [q3, List.length_cons, show cnt + 1 + L.length = cnt + (L.length + 1) by omega]⟩
    cases t with
    | zero => exact hw
    | succ t =>
      rw [show cnt + (t + 1) = cnt + 1 + t by omega]
      exact q1 t (by rw [List.length_cons] at ht; omega)
section MSK
variable {V : rx_V} {d kc ks : Nat} {h h1 h2 : List va_E} {a n num N : Nat} {S S0 : mT} {Q : rx_R → List va_E → Prop} {NS : Nat → Nat → Int32} {σ : Nat → Nat} {fb : Nat → Nat}
theorem k_followN (ha : a = V.2.1 + h1.length) (B : mB n num NS σ S) (h24 : S.1 24 = nI N) (hf : ∀ j, j < N → S.2.2 16 j = nI (fb j) ∧ fb j < n) (hN4 : N ≤ 240) {c i0 : Nat} (hc : c < num) (hi0 : i0 < N) : rx_C V (d + 1) kc ks m_Mo_follow [.ref a, .int (nI (σ c)), .int (nI i0)] (mw V h1 a S h2) (rx_X (.inl none) (mw V h1 a (flS n N num fb NS S c i0) h2)) := by
  have R := B.2.1
  have z := k_follow (d := d) (kc := kc) (ks := ks) (h2 := h2) ha B.1 B.D h24 hf hN4 (R.1 c hc).1 hi0
  have s1 := fun t => slf_rel (n := n) (N := N) (Le := S.2.2 2) (Te := S.2.2 3) (f := fun j => nI (fb j)) R B.2.2.1 (t := t) (N - i0) i0 0 (some c) (fun c' y => by cases y; exact hc)
  have e9 : ∀ t, slf n (S.2.2 2) (S.2.2 3) N (fun j => nI (fb j)) num (MS S) t 0 (some (σ c)) i0 (N - i0) = slf n (S.2.2 2) (S.2.2 3) N (fun j => nI (fb j)) num NS t 0 (some c) i0 (N - i0) := s1
  rw [e9 false, e9 true, ← (R.1 c hc).2 2 (by omega), ← (R.1 c hc).2 1 (by omega)] at z
  exact z
theorem l_seek29 (ha : a = V.2.1 + h1.length) (B : mB n num NS σ S) (h24 : S.1 24 = nI N) (hf : ∀ j, j < N → S.2.2 16 j = nI (fb j) ∧ fb j < n) (hN4 : N ≤ 240) {p wt : Int32} {i : Nat} (hi : i < N) {Rs : List (Nat × Nat)} (K : ∀ cnt y5, rx_W V (d + 2) kc ks m_Mo_seek 100 [some (.ref a), some (.int p), some (.int wt), some (.int (nI cnt)), some (.int (nI i)), y5] [] (mw V h1 a S h2) (skP V h1 a S h2 n N num fb NS σ wt cnt Rs)) :
    ∀ (m c cnt : Nat), c + m = num → rx_W V (d + 2) kc ks m_Mo_seek 29 [some (.ref a), some (.int p), some (.int wt), some (.int (nI cnt)), some (.int (nI i)), some (.int (onx ((fix (fun c => decide (NS c 0 = p ∧ NS c 1 = nI (fb i))) c m).map σ)))] [] (mw V h1 a S h2) (skP V h1 a S h2 n N num fb NS σ wt cnt (sgl ((sok n (S.2.2 2) N (fun j => nI (fb j)) num NS p) i) i c m ++ Rs)) := by
  obtain ⟨q, R, so, ok⟩ := id B
  have hq := q.2
  intro m
  induction m with
  | zero =>
    intro c cnt hc
    refine rx_iload d_Mo_seek_29 (by rfl) ?_
    refine rx_if_lt (tgt := 100) d_Mo_seek_31 (by rfl) (fun c31 => ?_) (fun z => absurd (show onx none < 0 by decide) z)
    exact K _ _
  | succ m ih =>
    intro c cnt hc
    have hcn : c < num := by omega
    have hbr : brf N (fun j => nI (fb j)) (nI i) = nI (fb i) := brf_n (by omega) hi
    have hsg := sgo_rel B hf hN4 hcn hi
    by_cases cb : NS c 0 = p ∧ NS c 1 = nI (fb i)
    · rw [fix_yes (Pr := (fun c => decide (NS c 0 = p ∧ NS c 1 = nI (fb i)))) (decide_eq_true cb)]
      have esg : sgl ((sok n (S.2.2 2) N (fun j => nI (fb j)) num NS p) i) i c (m + 1) = if (sok n (S.2.2 2) N (fun j => nI (fb j)) num NS p) i c = true then (c, i) :: sgl ((sok n (S.2.2 2) N (fun j => nI (fb j)) num NS p) i) i (c + 1) m else sgl ((sok n (S.2.2 2) N (fun j => nI (fb j)) num NS p) i) i (c + 1) m := rfl
      have eok : (sok n (S.2.2 2) N (fun j => nI (fb j)) num NS p) i c = !(sgo n (S.2.2 2) N (fun j => nI (fb j)) num NS i c) := by
        unfold sok
        rw [hbr, decide_eq_true cb, Bool.true_and]
      have hk := (R.1 c hcn).1
      have enx : ffo (nns S p (nI (fb i)) (nky (MS S (σ c)))) (-1) 0 num = onx ((fix (fun c => decide (NS c 0 = p ∧ NS c 1 = nI (fb i))) (c + 1) m).map σ) := by
        refine nn_next R so ok hq.1 (by omega) (fun c' h1 h2 h3 => ?_) (fun c' h1 h2 h3 h4 => ?_)
        · rw [R.key hcn]
          by_cases e : c' = c
          · subst e; exact Int32.lt_irrefl
          · have := nky_lt so ok (show c' < c by omega) hcn (cb.1.trans h2.symm) (cb.2.trans h3.symm)
            exact fun z => Int32.lt_irrefl (Int32.lt_trans z this)
        · rw [R.key hcn]
          exact nky_lt so ok (show c < c' by omega) h2 (h3.trans cb.1.symm) (h4.trans cb.2.symm)
      have e64 : ∀ cnt, rx_W V (d + 2) kc ks m_Mo_seek 64 [some (.ref a), some (.int p), some (.int wt), some (.int (nI cnt)), some (.int (nI i)), some (.int (nI (σ c)))] [] (mw V h1 a S h2) (skP V h1 a S h2 n N num fb NS σ wt cnt (sgl ((sok n (S.2.2 2) N (fun j => nI (fb j)) num NS p) i) i (c + 1) m ++ Rs)) := by
        intro cnt
        refine rx_aload_nr d_Mo_seek_64 (by rfl) ?_
        refine rx_iload_n d_Mo_seek_65 (by rfl) ?_
        refine rx_aload_nr d_Mo_seek_66 (by rfl) ?_
        refine rx_getfield d_Mo_seek_67 fl_Mo_56 (mr0 ha) (by rfl) ?_
        refine rx_iload d_Mo_seek_70 (by rfl) ?_
        refine m_ial (j := 16) ha d_Mo_seek_72 (by rfl) (by omega) (by decide) ?_
        rw [(hf i hi).1]
        refine rx_sipush (v := 128) d_Mo_seek_73 (by decide) ?_
        refine rx_aload_nr d_Mo_seek_76 (by rfl) ?_
        refine rx_getfield d_Mo_seek_77 fl_Mo_28 (mr0 ha) (by rfl) ?_
        refine rx_iload d_Mo_seek_80 (by rfl) ?_
        refine m_ial (j := 7) ha d_Mo_seek_82 (by rfl) (by omega) (by decide) ?_
        refine rx_imul d_Mo_seek_83 ?_
        refine rx_aload_nr d_Mo_seek_84 (by rfl) ?_
        refine rx_getfield d_Mo_seek_85 fl_Mo_34 (mr0 ha) (by rfl) ?_
        refine rx_iload d_Mo_seek_88 (by rfl) ?_
        refine m_ial (j := 9) ha d_Mo_seek_90 (by rfl) (by omega) (by decide) ?_
        refine rx_iadd d_Mo_seek_91 ?_
        rw [show (128 : Int32) * S.2.2 7 (σ c) + S.2.2 9 (σ c) = nky (MS S (σ c)) from rfl]
        refine rx_cV d_Mo_seek_92 (by rfl) ml_Mo_210 im_Mo_nextNote se_Mo_nextNote (by exact c9_Mo_nextNote) (mr0 ha) (by rfl) (by exact Nat.le_of_ble_eq_true rfl) (k_nextNote ha q p (nI (fb i)) (nky (MS S (σ c)))) ?_
        rw [enx]
        refine rx_istore d_Mo_seek_95 (Nat.le_of_ble_eq_true rfl) ?_
        refine rx_goto (tgt := 29) d_Mo_seek_97 (by rfl) ?_
        exact ih (c + 1) cnt (by omega)
      refine rx_iload d_Mo_seek_29 (by rfl) ?_
      refine rx_if_lt (tgt := 100) d_Mo_seek_31 (by rfl) (fun z => absurd z (show ¬ onx (some (σ c)) < 0 from i_nlt (by rw [show onx (some (σ c)) = nI (σ c) from rfl, i_le, i_0, i_n (by omega)]; omega))) (fun c31 => ?_)
      refine rx_aload_nr d_Mo_seek_34 (by rfl) ?_
      refine rx_iload d_Mo_seek_35 (by rfl) ?_
      refine rx_iload d_Mo_seek_37 (by rfl) ?_
      refine rx_cV d_Mo_seek_39 (by rfl) ml_Mo_213 im_Mo_goesOn se_Mo_goesOn (by exact c9_Mo_goesOn) (mr0 ha) (by rfl) (by exact Nat.le_of_ble_eq_true rfl) (k_goesOn ha q (m0 := σ c) (i0 := i) hk (by omega)) ?_
      rw [hsg]
      refine rx_if_ne (tgt := 64) d_Mo_seek_42 (by rfl) (fun c42 => ?_) (fun c42 => ?_)
      · rw [esg, if_neg (by rw [eok, bi_1.mp c42]; decide)]
        first
          | exact rx_cons (e64 (cnt + 1)) (fun r h9 z => skP_c z c47)
          | exact e64 cnt
      · rw [esg, if_pos (by rw [eok, bi_0.mp c42]; rfl)]
        refine rx_iload_n d_Mo_seek_45 (by rfl) ?_
        refine rx_iload_n d_Mo_seek_46 (by rfl) ?_
        refine rx_icmp_ne (tgt := 61) d_Mo_seek_47 (by rfl) (fun c47 => ?_) (fun c47 => ?_)
        · have c47 : wt ≠ nI cnt := fun z => c47 z.symm
          refine rx_iinc (v := nI (cnt + 1)) d_Mo_seek_61 (by rfl) (i_inc cnt) ?_
          first
            | exact rx_cons (e64 (cnt + 1)) (fun r h9 z => skP_c z c47)
            | exact e64 cnt
        · refine rx_aload_nr d_Mo_seek_50 (by rfl) ?_
          refine rx_iload d_Mo_seek_51 (by rfl) ?_
          refine rx_iload d_Mo_seek_53 (by rfl) ?_
          refine rx_cV d_Mo_seek_55 (by rfl) ml_Mo_216 im_Mo_follow se_Mo_follow (by exact c9_Mo_follow) (mr0 ha) (by rfl) (by exact Nat.le_of_ble_eq_true rfl) (k_followN ha B h24 hf hN4 hcn hi) ?_
          refine rx_iload d_Mo_seek_58 (by rfl) ?_
          refine rx_ireturn d_Mo_seek_60 (by rfl) ?_
          exact Or.inl ⟨0, c, i, rfl, c47.symm, rfl, rfl⟩
    · rw [fix_no (Pr := (fun c => decide (NS c 0 = p ∧ NS c 1 = nI (fb i)))) (decide_eq_false cb), show sgl ((sok n (S.2.2 2) N (fun j => nI (fb j)) num NS p) i) i c (m + 1) = sgl ((sok n (S.2.2 2) N (fun j => nI (fb j)) num NS p) i) i (c + 1) m from if_neg (by unfold sok; rw [hbr, decide_eq_false cb, Bool.false_and]; decide)]
      exact ih (c + 1) cnt (by omega)
theorem l_seek5 (ha : a = V.2.1 + h1.length) (B : mB n num NS σ S) (h24 : S.1 24 = nI N) (hf : ∀ j, j < N → S.2.2 16 j = nI (fb j) ∧ fb j < n) (hN4 : N ≤ 240) {p wt : Int32} : ∀ (m i cnt : Nat) (y5 : Option Value), i + m = N → rx_W V (d + 2) kc ks m_Mo_seek 5 [some (.ref a), some (.int p), some (.int wt), some (.int (nI cnt)), some (.int (nI i)), y5] [] (mw V h1 a S h2) (skP V h1 a S h2 n N num fb NS σ wt cnt (sll (sok n (S.2.2 2) N (fun j => nI (fb j)) num NS p) num i m)) := by
  obtain ⟨q, R, so, ok⟩ := id B
  have hq := q.2
  intro m
  induction m with
  | zero =>
    intro i cnt y5 hi
    have e : i = N := by omega
    subst e
    refine rx_iload d_Mo_seek_5 (by rfl) ?_
    refine rx_aload_nr d_Mo_seek_7 (by rfl) ?_
    refine rx_getfield d_Mo_seek_8 fl_Mo_159 (mr0 ha) (by rfl) ?_
    rw [h24]
    refine rx_icmp_ge (tgt := 106) d_Mo_seek_11 (by rfl) (fun c11 => ?_) (fun z => absurd (Int32.le_refl _) z)
    refine rx_aload_nr d_Mo_seek_106 (by rfl) ?_
    refine rx_iload_n d_Mo_seek_107 (by rfl) ?_
    refine rx_i2l d_Mo_seek_108 ?_
    refine m_putL (k9 := 27) ha d_Mo_seek_109 (fw_Mo_200 rfl) (by rfl) (by rfl) (by rfl) ?_
    refine rx_iconst (v := -1) d_Mo_seek_112 (by decide) ?_
    refine rx_ireturn d_Mo_seek_113 (by rfl) ?_
    exact Or.inr ⟨fun t ht => absurd ht (Nat.not_lt_zero _), rfl, rfl⟩
  | succ m ih =>
    intro i cnt y5 hi
    have hi9 : i < N := by omega
    have enx : ffo (nns S p (nI (fb i)) (-1)) (-1) 0 num = onx ((fix (fun c => decide (NS c 0 = p ∧ NS c 1 = nI (fb i))) 0 num).map σ) := by
      refine nn_next R so ok hq.1 (by omega) (fun c' h1 => absurd h1 (Nat.not_lt_zero _)) (fun c' h1 h2 h3 h4 => ?_)
      have b1 := ok.b h2
      rw [i_lt, nky_i b1.1 b1.2.1 b1.2.2.1 b1.2.2.2, show (-1 : Int32).toInt = -1 from by decide]
      omega
    have K1 : ∀ cnt y5, rx_W V (d + 2) kc ks m_Mo_seek 100 [some (.ref a), some (.int p), some (.int wt), some (.int (nI cnt)), some (.int (nI i)), y5] [] (mw V h1 a S h2) (skP V h1 a S h2 n N num fb NS σ wt cnt (sll (sok n (S.2.2 2) N (fun j => nI (fb j)) num NS p) num (i + 1) m)) := by
      intro cnt y5
      refine rx_iinc (v := nI (i + 1)) d_Mo_seek_100 (by rfl) (i_inc i) ?_
      refine rx_goto (tgt := 5) d_Mo_seek_103 (by rfl) ?_
      exact ih (i + 1) cnt _ (by omega)
    refine rx_iload d_Mo_seek_5 (by rfl) ?_
    refine rx_aload_nr d_Mo_seek_7 (by rfl) ?_
    refine rx_getfield d_Mo_seek_8 fl_Mo_159 (mr0 ha) (by rfl) ?_
    rw [h24]
    refine rx_icmp_ge (tgt := 106) d_Mo_seek_11 (by rfl) (fun z => absurd z (nI_ge (by omega) (by omega))) (fun c11 => ?_)
    refine rx_aload_nr d_Mo_seek_14 (by rfl) ?_
    refine rx_iload_n d_Mo_seek_15 (by rfl) ?_
    refine rx_aload_nr d_Mo_seek_16 (by rfl) ?_
    refine rx_getfield d_Mo_seek_17 fl_Mo_56 (mr0 ha) (by rfl) ?_
    refine rx_iload d_Mo_seek_20 (by rfl) ?_
    refine m_ial (j := 16) ha d_Mo_seek_22 (by rfl) (by omega) (by decide) ?_
    rw [(hf i hi9).1]
    refine rx_iconst (v := -1) d_Mo_seek_23 (by decide) ?_
    refine rx_cV d_Mo_seek_24 (by rfl) ml_Mo_210 im_Mo_nextNote se_Mo_nextNote (by exact c9_Mo_nextNote) (mr0 ha) (by rfl) (by exact Nat.le_of_ble_eq_true rfl) (k_nextNote ha q p (nI (fb i)) (-1)) ?_
    rw [enx]
    refine rx_istore d_Mo_seek_27 (Nat.le_of_ble_eq_true rfl) ?_
    exact l_seek29 ha B h24 hf hN4 hi9 K1 num 0 cnt (by omega)
theorem k_seek (ha : a = V.2.1 + h1.length) (B : mB n num NS σ S) (h24 : S.1 24 = nI N) (hf : ∀ j, j < N → S.2.2 16 j = nI (fb j) ∧ fb j < n) (hN4 : N ≤ 240) (p wt : Int32) : rx_C V (d + 2) kc ks m_Mo_seek [.ref a, .int p, .int wt] (mw V h1 a S h2) (skP V h1 a S h2 n N num fb NS σ wt 0 (sds n (S.2.2 2) N (fun j => nI (fb j)) num NS p)) := by
  refine rx_iconst (v := 0) d_Mo_seek_0 (by decide) ?_
  refine rx_istore_n d_Mo_seek_1 (Nat.le_of_ble_eq_true rfl) ?_
  refine rx_iconst (v := 0) d_Mo_seek_2 (by decide) ?_
  refine rx_istore d_Mo_seek_3 (Nat.le_of_ble_eq_true rfl) ?_
  exact l_seek5 ha B h24 hf hN4 N 0 0 _ (by omega)
theorem k_wrongPart1 (ha : a = V.2.1 + h1.length) {p : Int32} (hp : iwn p 0 2 = 0) : rx_C V (d + 7) kc ks m_Mo_wrongPart [.ref a, .int p] (mw V h1 a S h2) (rx_X (.inl (some (.int 1))) (mw V h1 a S h2)) := by
  refine rx_iload_n d_Mo_wrongPart_0 (by rfl) ?_
  refine rx_cS d_Mo_wrongPart_1 ml_Mo_81 st_Mo_isPart (by exact c9_Mo_isPart) (by rfl) (by exact Nat.le_of_ble_eq_true rfl) (k_isPart p) ?_
  refine rx_if_ne (tgt := 11) d_Mo_wrongPart_4 (by rfl) (fun z => absurd hp z) (fun c4 => ?_)
  refine rx_iconst (v := 1) d_Mo_wrongPart_7 (by decide) ?_
  refine rx_goto (tgt := 23) d_Mo_wrongPart_8 (by rfl) ?_
  refine rx_ireturn d_Mo_wrongPart_23 (by rfl) ?_
  exact ⟨rfl, rfl⟩
theorem k_wrongPart (ha : a = V.2.1 + h1.length) (hN : mN n S) (hv : vok n (S.2.2 4)) {p : Int32} (hp : ¬ iwn p 0 2 = 0) : rx_C V (d + 7) kc ks m_Mo_wrongPart [.ref a, .int p] (mw V h1 a S h2) (fun r9 h' => r9 = .inl (some (.int (if flt n (S.2.2 4) = 0 then 0 else 2))) ∧ wkP V h1 a S h2 n h') := by
  refine rx_iload_n d_Mo_wrongPart_0 (by rfl) ?_
  refine rx_cS d_Mo_wrongPart_1 ml_Mo_81 st_Mo_isPart (by exact c9_Mo_isPart) (by rfl) (by exact Nat.le_of_ble_eq_true rfl) (k_isPart p) ?_
  refine rx_if_ne (tgt := 11) d_Mo_wrongPart_4 (by rfl) (fun c4 => ?_) (fun z => absurd z hp)
  refine rx_aload_nr d_Mo_wrongPart_11 (by rfl) ?_
  refine rx_pV d_Mo_wrongPart_12 (by rfl) ml_Mo_183 im_Mo_walk se_Mo_walk (by exact c9_Mo_walk) (mr0 ha) (by rfl) (by exact Nat.le_of_ble_eq_true rfl) (k_walk (d := d) ha hN hv) ?_
  intro hx z9
  have z8 := z9
  refine rx_if_ne (tgt := 22) d_Mo_wrongPart_15 (by rfl) (fun c15 => ?_) (fun c15 => ?_)
  · have c15 : flt n (S.2.2 4) = 0 := ite11.mp c15
    refine rx_iconst (v := 0) d_Mo_wrongPart_22 (by decide) ?_
    refine rx_ireturn d_Mo_wrongPart_23 (by rfl) ?_
    first
      | exact ⟨by rw [if_pos c15], z8⟩
      | exact ⟨by rw [if_neg c15], z8⟩
  · have c15 : ¬ flt n (S.2.2 4) = 0 := ite10.mp c15
    refine rx_iconst (v := 2) d_Mo_wrongPart_18 (by decide) ?_
    refine rx_goto (tgt := 23) d_Mo_wrongPart_19 (by rfl) ?_
    refine rx_ireturn d_Mo_wrongPart_23 (by rfl) ?_
    first
      | exact ⟨by rw [if_pos c15], z8⟩
      | exact ⟨by rw [if_neg c15], z8⟩
end MSK
