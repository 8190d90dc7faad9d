/-! the law's loop, and its beginning -/
theorem and15 (x : Int32) : ∃ j : Nat, j < 16 ∧ x &&& 15 = nI j := by
  refine ⟨(x.toBitVec &&& 15#32).toNat, ?_, ?_⟩
  · have : (x.toBitVec &&& 15#32).toNat ≤ 15 := by
      rw [BitVec.toNat_and]
      exact Nat.and_le_right
    omega
  · apply Int32.toBitVec_inj.mp
    rw [Int32.toBitVec_and]
    have e : x.toBitVec &&& 15#32 = BitVec.ofNat 32 (x.toBitVec &&& 15#32).toNat := by rw [BitVec.ofNat_toNat, BitVec.setWidth_eq]
    exact e
section LP
variable {V : rx_V} {d b L a n : Nat} {xs : Nat → Int32} {A ra : Nat → Nat} {Q : rx_R → List va_E → Prop} {l1 l2 : Nat} {fl fm : Nat → Int32}
theorem l7_i {L : Nat} (hL : L ≤ 3585) : (nI L - 7).toInt = (L : Int) - 7 := by
  rw [Int32.toInt_sub, i_n (by omega), show (7 : Int32).toInt = 7 from by decide, Int.bmod_eq_of_le (by omega) (by omega)]
theorem la_loop (htr : V.1.stackTraces = false) (hq : (b, L, xs) ∈ V.2.2.2.2) (hL : L ≤ 3585) (e1 : V.2.2.2.2[1]? = some (l1, 10, fl)) (e2 : V.2.2.2.2[2]? = some (l2, 10, fm)) (f1 : ∀ k, k < 10 → fl k = lsF k) (f2 : ∀ k, k < 10 → fm k = msF k) (hA : lwA A ra n a) (KQ : ∀ h, Q (.inl (some (.int 1))) h) :
    ∀ (m i : Nat) (h : List va_E) (y5 y6 y7 : Option Value), L < i + 7 * m + 7 → i ≤ 4000 → lwI V A ra n a h → rx_W V (d + 10) m (6 * m) m_La_law 33 [some (.ref b), some (.ref (A 0)), some (.ref a), some (.ref (a + 17)), some (.int (nI i)), y5, y6, y7] [] h Q := by
  have l7 := l7_i hL
  have ex : ∀ (m i : Nat) (h : List va_E) (y5 y6 y7 : Option Value), L < i + 7 → i ≤ 4000 → rx_W V (d + 10) m (6 * m) m_La_law 33 [some (.ref b), some (.ref (A 0)), some (.ref a), some (.ref (a + 17)), some (.int (nI i)), y5, y6, y7] [] h Q := by
    intro m i h y5 y6 y7 hi hi2
    refine rx_iload d_La_law_33 (by rfl) ?_
    refine rx_aload_nr d_La_law_35 (by rfl) ?_
    refine rx_alenX d_La_law_36 hq ?_
    rw [show Int32.ofNat L = nI L from rfl]
    refine rx_bipush (v := 7) d_La_law_37 (by decide) ?_
    refine rx_isub d_La_law_39 ?_
    refine rx_icmp_gt (tgt := 1068) d_La_law_40 (by rfl) (fun c40 => ?_) (fun z => absurd (show nI L - 7 < nI i by rw [i_lt, l7, i_n (by omega)]; omega) z)
    refine rx_iconst (v := 1) d_La_law_1068 (by decide) ?_
    refine rx_zreturn d_La_law_1069 (by rfl) (by rfl) ?_
    exact KQ _
  intro m
  induction m with
  | zero => exact fun i h y5 y6 y7 h1 h2 I => ex 0 i h y5 y6 y7 (by omega) h2
  | succ m ih =>
    intro i h y5 y6 y7 h1 h2 I
    by_cases hi : i + 7 ≤ L
    · have K1 : ∀ h' y5 y6 y7, lwI V A ra n a h' → rx_W V (d + 10) m (6 * m) m_La_law 1062 [some (.ref b), some (.ref (A 0)), some (.ref a), some (.ref (a + 17)), some (.int (nI i)), y5, y6, y7] [] h' Q := by
        intro h' y5 y6 y7 I9
        refine rx_iinc (v := nI (i + 7)) d_La_law_1062 (by rfl) (show nI i + Int32.ofInt 7 = nI (i + 7) from nI_add i 7) ?_
        refine rx_goto (tgt := 33) d_La_law_1065 (by rfl) ?_
        exact ih (i + 7) h' _ _ _ (by omega) (by omega) I9
      refine rx_iload d_La_law_33 (by rfl) ?_
      refine rx_aload_nr d_La_law_35 (by rfl) ?_
      refine rx_alenX d_La_law_36 hq ?_
      rw [show Int32.ofNat L = nI L from rfl]
      refine rx_bipush (v := 7) d_La_law_37 (by decide) ?_
      refine rx_isub d_La_law_39 ?_
      refine rx_icmp_gt (tgt := 1068) d_La_law_40 (by rfl) (fun z => absurd z (show ¬ nI L - 7 < nI i by rw [i_lt, l7, i_n (by omega)]; omega)) (fun c40 => ?_)
      refine rx_aload_nr d_La_law_43 (by rfl) ?_
      refine rx_iload d_La_law_44 (by rfl) ?_
      refine rx_ialoadX d_La_law_46 hq (vp_in_nI (by omega) (by omega)) ?_
      rw [i_cl (by omega)]
      refine rx_bipush (v := 15) d_La_law_47 (by decide) ?_
      refine rx_iand d_La_law_49 ?_
      obtain ⟨j, hj, ej⟩ := and15 (xs i)
      rw [ej, Nat.add_comm m 1, show 6 * (1 + m) = 6 + 6 * m by omega]
      match j, hj with
      | 0, _ =>
        refine rx_tableIn (off := 74) (tgt := 124) d_La_law_50 (by decide) (by decide) (by rfl) (by rfl) ?_
        exact la_bar htr hq hL hA hi I K1
      | 1, _ =>
        refine rx_tableIn (off := 134) (tgt := 184) d_La_law_50 (by decide) (by decide) (by rfl) (by rfl) ?_
        exact la_sign htr hq hL e1 e2 f1 f2 hA hi I K1
      | 2, _ =>
        refine rx_tableIn (off := 221) (tgt := 271) d_La_law_50 (by decide) (by decide) (by rfl) (by rfl) ?_
        exact la_signAt htr hq hL hA hi I K1
      | 3, _ =>
        refine rx_tableIn (off := 258) (tgt := 308) d_La_law_50 (by decide) (by decide) (by rfl) (by rfl) ?_
        exact la_note htr hq hL hA hi I K1
      | 4, _ =>
        refine rx_tableIn (off := 392) (tgt := 442) d_La_law_50 (by decide) (by decide) (by rfl) (by rfl) ?_
        exact la_transpose htr hq hL hA hi I K1
      | 5, _ =>
        refine rx_tableIn (off := 460) (tgt := 510) d_La_law_50 (by decide) (by decide) (by rfl) (by rfl) ?_
        exact la_check htr hq hL hA hi I K1
      | 6, _ =>
        refine rx_tableIn (off := 473) (tgt := 523) d_La_law_50 (by decide) (by decide) (by rfl) (by rfl) ?_
        exact la_plays htr hq hL hA hi I K1
      | 7, _ =>
        refine rx_tableIn (off := 486) (tgt := 536) d_La_law_50 (by decide) (by decide) (by rfl) (by rfl) ?_
        exact la_played htr hq hL hA hi I K1
      | 8, _ =>
        refine rx_tableIn (off := 542) (tgt := 592) d_La_law_50 (by decide) (by decide) (by rfl) (by rfl) ?_
        exact la_time htr hq hL hA hi I K1
      | 9, _ =>
        refine rx_tableIn (off := 598) (tgt := 648) d_La_law_50 (by decide) (by decide) (by rfl) (by rfl) ?_
        exact la_find htr hq hL hA hi I K1
      | 10, _ =>
        refine rx_tableIn (off := 666) (tgt := 716) d_La_law_50 (by decide) (by decide) (by rfl) (by rfl) ?_
        exact la_tick htr hq hL hA hi I K1
      | 11, _ =>
        refine rx_tableIn (off := 721) (tgt := 771) d_La_law_50 (by decide) (by decide) (by rfl) (by rfl) ?_
        exact la_at htr hq hL hA hi I K1
      | 12, _ =>
        refine rx_tableIn (off := 809) (tgt := 859) d_La_law_50 (by decide) (by decide) (by rfl) (by rfl) ?_
        exact la_sounds htr hq hL hA hi I K1
      | 13, _ =>
        refine rx_tableIn (off := 865) (tgt := 915) d_La_law_50 (by decide) (by decide) (by rfl) (by rfl) ?_
        exact la_sound htr hq hL hA hi I K1
      | 14, _ =>
        refine rx_tableIn (off := 944) (tgt := 994) d_La_law_50 (by decide) (by decide) (by rfl) (by rfl) ?_
        exact la_rest htr hq hL hA hi I K1
      | 15, _ =>
        refine rx_tableOut (tgt := 1062) d_La_law_50 (Or.inr (by decide)) (by rfl) ?_
        exact rx_more (K1 h _ _ _ I) (Nat.le_refl _) (by omega) (by omega)
      | j + 16, hj => exact absurd hj (by omega)
    · exact ex (m + 1) i h y5 y6 y7 (by omega) h2
theorem mA_0 {n : Nat} {S' : mT} (h0 : 0 < n) (hn : n ≤ 20) (s2 : S'.1 2 = nI n) (s6 : S'.1 6 = 0) (s23 : ∀ b, b < 20 → S'.2.2 2 b = 16 ∧ S'.2.2 3 b = 10) (s4 : S'.2.2 4 = (fun _ => 0)) (s1 : S'.2.2 1 = mo0) : mA n (pl0 n 16) (pl0 n 10) (fun _ => 0) 0 (fun _ _ => 0) S' := by
  refine ⟨⟨s2, h0, hn⟩, fun _ _ _ _ => Or.inl rfl, s4, fun b hb => ?_, fun i hi => by rw [s1]; exact mo0_f i hi, ⟨id, ⟨s6, by omega, hn, fun i hi => absurd hi (Nat.not_lt_zero _)⟩, ⟨fun c hc => absurd hc (Nat.not_lt_zero _), fun c hc => absurd hc (Nat.not_lt_zero _), fun c c' hc => absurd hc (Nat.not_lt_zero _)⟩, fun c c' _ hc => absurd hc (Nat.not_lt_zero _), fun c hc => absurd hc (Nat.not_lt_zero _)⟩, fun p => rfl⟩
  have e1 : pl0 n 16 b = 16 := if_pos hb
  have e2 : pl0 n 10 b = 10 := if_pos hb
  rw [e1, e2]
  exact ⟨s23 b (by omega), by decide, by decide, by decide, by decide⟩
theorem la_start (htr : V.1.stackTraces = false) (hq : (b, L, xs) ∈ V.2.2.2.2) (hL : L ≤ 3585) (e1 : V.2.2.2.2[1]? = some (l1, 10, fl)) (e2 : V.2.2.2.2[2]? = some (l2, 10, fm)) (f1 : ∀ k, k < 10 → fl k = lsF k) (f2 : ∀ k, k < 10 → fm k = msF k) : rx_C V 10 700 7000 m_La_law [.ref b] [] (fun r _ => r = .inl (some (.int 1))) := by
  have hc9 := cnt_ok (if 0 < L then xs 0 else 0)
  refine rx_more (rx_new (kc := 699) (ks := 6993) (ci := 0) (N := 7) (fs := [.null, .null, .null, .null, .null, .int 0, .int 0]) t_SR d_La_law_0 (by rfl) w_SR t_SR_ok ck_La_8 (rx_in 21 (by decide +kernel) (by decide +kernel)) (rx_in 1 (by decide +kernel) (by decide +kernel)) (by decide +kernel) ?_) (Nat.le_refl _) (by omega) (by omega)
  refine rx_dup d_La_law_3 (by rfl) ?_
  refine rx_aload_nr d_La_law_4 (by rfl) ?_
  refine rx_iconst (v := 0) d_La_law_5 (by decide) ?_
  refine rx_cS d_La_law_6 ml_La_59 st_La_cell (by exact c9_La_cell) (by rfl) (by exact Nat.le_of_ble_eq_true rfl) (w_cell hq hL) ?_
  refine rx_more (rx_pI (kc := 664) (ks := 5293) d_La_law_9 ml_La_65 im_SR_init (by rfl) (by rfl) (by exact c9_SR_init) (by rfl) (by exact Nat.le_of_ble_eq_true rfl) (c_srInit (d := 6) (q := V.2.1 + 0) (if 0 < L then xs 0 else 0) rx_rd_new rfl) ?_) (Nat.le_refl _) (by omega) (by omega)
  intro hc z9
  obtain ⟨C, gc, lc⟩ := z9
  have lc : hc.length = 16 + cnt (if 0 < L then xs 0 else 0) := by rw [lc]; show 0 + 1 + 15 + cnt (if 0 < L then xs 0 else 0) = _; omega
  refine rx_astore_nr d_La_law_12 (Nat.le_of_ble_eq_true rfl) ?_
  refine rx_more (rx_new (kc := 663) (ks := 5264) (ci := 8) (N := 29) (fs := [.null, .int 0, .int 0, .null, .null, .null, .int 0, .null, .null, .null, .null, .null, .null, .int 0, .null, .null, .null, .null, .null, .int 0, .int 0, .int 0, .int 0, .int 0, .int 0, .null, .long 0, .long 0, .long 0]) t_Mo d_La_law_13 (by rfl) w_Mo t_Mo_ok ck_La_68 (rx_in 790 (by decide +kernel) (by decide +kernel)) (rx_in 9 (by decide +kernel) (by decide +kernel)) (by decide +kernel) ?_) (Nat.le_refl _) (by omega) (by omega)
  refine rx_dup d_La_law_16 (by rfl) ?_
  refine rx_aload_nr d_La_law_17 (by rfl) ?_
  refine rx_iconst (v := 0) d_La_law_18 (by decide) ?_
  refine rx_cS d_La_law_19 ml_La_59 st_La_cell (by exact c9_La_cell) (by rfl) (by exact Nat.le_of_ble_eq_true rfl) (w_cell hq hL) ?_
  refine rx_more (rx_pI (kc := 647) (ks := 4274) d_La_law_22 ml_La_70 im_Mo_init (by rfl) (by rfl) (by exact c9_Mo_init) (by rfl) (by exact Nat.le_of_ble_eq_true rfl) (k_moInit (d := 8) (a := V.2.1 + hc.length) (h0 := hc) rfl (if 0 < L then xs 0 else 0)) ?_) (Nat.le_refl _) (by omega) (by omega)
  intro hm z9
  obtain ⟨S', rfl, s2, s6, s23, s4, s1⟩ := z9
  refine rx_astore_nr d_La_law_25 (Nat.le_of_ble_eq_true rfl) ?_
  refine rx_iconst (v := 1) d_La_law_26 (by decide) ?_
  refine rx_more (rx_newarray (kc := 646) (ks := 4273) (ty := .long) (t0 := 1) (a0 := (1, .inr (.inl (fun _ => 0)))) d_La_law_27 (by rfl) (by rfl) (rx_in 1104 (by decide +kernel) (by decide +kernel)) (fun _ _ z => z) (fun _ => by rfl) (by decide) (by decide) (by decide) ?_) (Nat.le_refl _) (by omega) (by omega)
  have lm : (mw V hc (V.2.1 + hc.length) S' []).length = hc.length + 17 := by
    unfold mw
    rw [List.append_nil, List.length_append]
    rfl
  rw [lm, show V.2.1 + (hc.length + 17) = V.2.1 + hc.length + 17 by omega, show mw V hc (V.2.1 + hc.length) S' [] ++ [.inl (V.2.2.2.1 1, 1, .inr (.inl (fun _ => 0)))] = mw V hc (V.2.1 + hc.length) S' [.inl (V.2.2.2.1 1, 1, .inr (.inl (fun _ => 0)))] by unfold mw; rw [List.append_nil, List.append_assoc]]
  refine rx_astore_nr d_La_law_29 (Nat.le_of_ble_eq_true rfl) ?_
  refine rx_iconst (v := 1) d_La_law_30 (by decide) ?_
  refine rx_istore d_La_law_31 (Nat.le_of_ble_eq_true rfl) ?_
  refine rx_more (la_loop (d := 0) (A := adr (V.2.1 + 0) (cnt (if 0 < L then xs 0 else 0))) (ra := fun r => V.2.1 + 0 + 11 + r) (n := cnt (if 0 < L then xs 0 else 0)) (a := V.2.1 + hc.length) htr hq hL e1 e2 f1 f2 ⟨fun i hi => ?_, fun r hr => ?_⟩ (fun _ => rfl) 512 1 _ _ _ _ (by omega) (by omega) ⟨fun _ => 0, _, _, _, 0, _, S', fun _ => 0, ⟨⟨false, -1, C.ap⟩, ⟨hc, _, rfl, rfl⟩, ?_, fun i hi => absurd hi (Nat.not_lt_zero _)⟩, mA_0 hc9.1 hc9.2 s2 s6 s23 s4 s1⟩) (Nat.le_refl _) (by omega) (by omega)
  · unfold adr
    by_cases c : i < 11
    · rw [if_pos c]; omega
    · rw [if_neg c]; omega
  · show V.2.1 + 0 + 11 + r < _
    omega
  · unfold rx_rd mw
    have hl : (mc V (V.2.1 + hc.length) S').length = 17 := rfl
    rw [if_pos (by omega), List.getElem?_append_right (by omega), List.getElem?_append_right (by omega), hl, show V.2.1 + hc.length + 17 - V.2.1 - hc.length - 17 = 0 by omega]
    rfl
end LP
