/-! the class's public methods: transpose, note -/
theorem sgo_shf {n : Nat} {Le : Nat → Int32} {N : Nat} {f : Nat → Int32} {num : Nat} {NS : Nat → Nat → Int32} {p st : Int32} {i k : Nat} (hk : k < num) : sgo n Le N f num (shf NS p st num) i k = sgo n Le N f num NS i k := by
  have z : ∀ j c, c ≠ 4 → shf NS p st num j c = NS j c := fun j c hc => if_neg (fun w => hc w.2.1)
  have fc : ∀ (P Q : Nat → Bool) (m i : Nat), (∀ j, i ≤ j → j < i + m → P j = Q j) → fix P i m = fix Q i m := by
    intro P Q m
    induction m with
    | zero => intro i _; rfl
    | succ m ih =>
      intro i h
      show (if P i then some i else fix P (i + 1) m) = (if Q i then some i else fix Q (i + 1) m)
      rw [h i (Nat.le_refl _) (by omega), ih (i + 1) (fun j h1 h2 => h j (by omega) (by omega))]
  unfold sgo
  rw [z k 2 (by omega)]
  congr 2
  refine fc _ _ num 0 (fun j _ hj => ?_)
  rw [z j 0 (by omega), z k 0 (by omega), z j 1 (by omega), z j 5 (by omega), z j 2 (by omega), z j 3 (by omega)]
  have key : NS j 0 = NS k 0 → (shf NS p st num j 4 = shf NS p st num k 4 ↔ NS j 4 = NS k 4) := by
    intro e
    unfold shf
    by_cases c : NS j 0 = p
    · rw [if_pos ⟨by omega, rfl, c⟩, if_pos ⟨hk, rfl, e ▸ c⟩]
      exact ⟨fun w => by have w2 := congrArg (fun x => x - st) w; simp only [Int32.add_sub_cancel] at w2; exact w2, fun w => by rw [w]⟩
    · rw [if_neg (fun w => c w.2.2), if_neg (fun w => c (e.trans w.2.2))]
  by_cases e : NS j 0 = NS k 0
  · rw [decide_eq_decide]
    constructor
    · exact fun w => ⟨w.1, w.2.1, (key e).mp w.2.2.1, w.2.2.2⟩
    · exact fun w => ⟨w.1, w.2.1, (key e).mpr w.2.2.1, w.2.2.2⟩
  · rw [decide_eq_false (fun w => e w.1), decide_eq_false (fun w => e w.1)]
theorem sgl_c {P Q : Nat → Bool} {i : Nat} : ∀ (m k : Nat), (∀ j, k ≤ j → j < k + m → P j = Q j) → sgl P i k m = sgl Q i k m := by
  intro m
  induction m with
  | zero => intro k _; rfl
  | succ m ih =>
    intro k h
    show (if P k = true then (k, i) :: sgl P i (k + 1) m else sgl P i (k + 1) m) = (if Q k = true then (k, i) :: sgl Q i (k + 1) m else sgl Q i (k + 1) m)
    rw [h k (Nat.le_refl _) (by omega), ih (k + 1) (fun j h1 h2 => h j (by omega) (by omega))]
theorem sll_c {P Q : Nat → Nat → Bool} {num : Nat} : ∀ (m i : Nat), (∀ a j, i ≤ a → a < i + m → j < num → P a j = Q a j) → sll P num i m = sll Q num i m := by
  intro m
  induction m with
  | zero => intro i _; rfl
  | succ m ih =>
    intro i h
    show sgl (P i) i 0 num ++ sll P num (i + 1) m = sgl (Q i) i 0 num ++ sll Q num (i + 1) m
    rw [sgl_c num 0 (fun j _ h2 => h i j (Nat.le_refl _) (by omega) (by omega)), ih (i + 1) (fun a j h1 h2 => h a j (by omega) (by omega))]
theorem sdc_shf {n : Nat} {Le Va : Nat → Int32} {num : Nat} {NS : Nat → Nat → Int32} {p st q : Int32} : sdc n Le Va num (shf NS p st num) q = sdc n Le Va num NS q := by
  unfold sdc sds
  refine sll_c _ _ (fun a j _ _ hj => ?_)
  unfold sok
  rw [sgo_shf hj, show shf NS p st num j 0 = NS j 0 from if_neg (fun w => by omega), show shf NS p st num j 1 = NS j 1 from if_neg (fun w => by omega)]
section C4
variable {V : rx_V} {d kc ks l1 l2 : Nat} {h h' : List va_E} {A ra na : Nat → Nat} {n num : Nat} {Le Te Va fl fm : Nat → Int32} {NS : Nat → Nat → Int32} {kn : Bool} {kp : Int32}
def ncs (NS : Nat → Nat → Int32) (num : Nat) (p st : Int32) : Prop := (fix (fun i => decide (NS i 0 = p ∧ ((NS i 4).toInt64 + st.toInt64 < 0 ∨ 127 < (NS i 4).toInt64 + st.toInt64))) 0 num).isSome = true
theorem x_trans1 (htr : V.1.stackTraces = false) (C : is_cl V h A ra na n Le Te Va num NS kn kp) {p : Int32} (hx : iwn p 0 2 = 0) (st : Int32) : rx_C V (d + 8) 1 6 m_SR_transpose [.ref (A 0), .int p, .int st] h (cPo V h A ra na n num (.inr 0) na Le Te Va num NS) := by
  obtain ⟨fa, fw, fA, fE, fG, numR, R, N0, jm, wo, wy, tk, f, m9, fF, fI, ⟨c1, hp, hN, H, hE, hG, D, S⟩, ⟨kc1, kc2⟩, st9⟩ := id C
  have hn : n ≤ 20 := hp.2.2.2.2
  have h0 : 0 < n := st9.2.2.2
  have fpA : ∀ i, i < 16 → fp_c A ra na n num (A i) := fun i hi => Or.inl ⟨i, hi, rfl⟩
  refine rx_iload_n d_SR_transpose_0 (by rfl) ?_
  refine rx_xS d_SR_transpose_1 ml_SR_99 st_SR_needPart (by exact c9_SR_needPart) rfl (by rfl) (by exact Nat.le_of_ble_eq_true rfl) (x_needPart (d := d + 1) htr hx) ?_
  rintro h1 rfl
  exact ⟨rfl, ⟨kn, kp, C.ap⟩, rx_gr.ap, by rw [List.length_append]; exact Nat.le_refl _⟩
theorem x_trans2 (htr : V.1.stackTraces = false) (C : is_cl V h A ra na n Le Te Va num NS kn kp) {p st : Int32} (hp0 : ¬ iwn p 0 2 = 0) (hx : ncs NS num p st) : rx_C V (d + 8) 1 6 m_SR_transpose [.ref (A 0), .int p, .int st] h (cPo V h A ra na n num (.inr 0) na Le Te Va num NS) := by
  unfold ncs at hx
  obtain ⟨fa, fw, fA, fE, fG, numR, R, N0, jm, wo, wy, tk, f, m9, fF, fI, ⟨c1, hp, hN, H, hE, hG, D, S⟩, ⟨kc1, kc2⟩, st9⟩ := id C
  have hn : n ≤ 20 := hp.2.2.2.2
  have h0 : 0 < n := st9.2.2.2
  have fpA : ∀ i, i < 16 → fp_c A ra na n num (A i) := fun i hi => Or.inl ⟨i, hi, rfl⟩
  refine rx_iload_n d_SR_transpose_0 (by rfl) ?_
  refine rx_cS d_SR_transpose_1 ml_SR_99 st_SR_needPart (by exact c9_SR_needPart) (by rfl) (by exact Nat.le_of_ble_eq_true rfl) (c_needPart hp0) ?_
  refine rx_aload_nr d_SR_transpose_4 (by rfl) ?_
  refine rx_getfield d_SR_transpose_5 fl_SR_21 c1 (by rfl) ?_
  refine rx_iload_n d_SR_transpose_8 (by rfl) ?_
  refine rx_iload_n d_SR_transpose_9 (by rfl) ?_
  refine rx_cV d_SR_transpose_10 (by rfl) ml_SR_132 im_Notes_canShift se_Notes_canShift (by exact c9_Notes_canShift) hN.1 (by rfl) (by exact Nat.le_of_ble_eq_true rfl) (c_canShift hN p st) ?_
  rw [if_pos hx]
  refine rx_if_ne (tgt := 26) d_SR_transpose_13 (by rfl) (fun z => absurd rfl z) (fun c13 => ?_)
  exact rx_throw (E := 0) htr (by rfl) (by rfl) (by decide) d_SR_transpose_16 d_SR_transpose_19 d_SR_transpose_20 d_SR_transpose_22 d_SR_transpose_25 ck_SR_54 (text := "a pitch would be out of its bounds") (by decide +kernel) (Nat.le_of_ble_eq_true rfl) ⟨rfl, ⟨kn, kp, C.ap⟩, rx_gr.ap, by rw [List.length_append]; exact Nat.le_refl _⟩
theorem c_trans (C : is_cl V h A ra na n Le Te Va num NS kn kp) {p st : Int32} (hp0 : ¬ iwn p 0 2 = 0) (hx : ¬ ncs NS num p st) : rx_C V (d + 8) 1 6 m_SR_transpose [.ref (A 0), .int p, .int st] h (cPo V h A ra na n num (.inl (some (.int (ffo (ctp NS p) 0 0 num)))) na Le Te Va num (shf NS p st num)) := by
  unfold ncs at hx
  obtain ⟨fa, fw, fA, fE, fG, numR, R, N0, jm, wo, wy, tk, f, m9, fF, fI, ⟨c1, hp, hN, H, hE, hG, D, S⟩, ⟨kc1, kc2⟩, st9⟩ := id C
  have hn : n ≤ 20 := hp.2.2.2.2
  have h0 : 0 < n := st9.2.2.2
  have fpA : ∀ i, i < 16 → fp_c A ra na n num (A i) := fun i hi => Or.inl ⟨i, hi, rfl⟩
  refine rx_iload_n d_SR_transpose_0 (by rfl) ?_
  refine rx_cS d_SR_transpose_1 ml_SR_99 st_SR_needPart (by exact c9_SR_needPart) (by rfl) (by exact Nat.le_of_ble_eq_true rfl) (c_needPart hp0) ?_
  refine rx_aload_nr d_SR_transpose_4 (by rfl) ?_
  refine rx_getfield d_SR_transpose_5 fl_SR_21 c1 (by rfl) ?_
  refine rx_iload_n d_SR_transpose_8 (by rfl) ?_
  refine rx_iload_n d_SR_transpose_9 (by rfl) ?_
  refine rx_cV d_SR_transpose_10 (by rfl) ml_SR_132 im_Notes_canShift se_Notes_canShift (by exact c9_Notes_canShift) hN.1 (by rfl) (by exact Nat.le_of_ble_eq_true rfl) (c_canShift hN p st) ?_
  rw [if_neg hx]
  refine rx_if_ne (tgt := 26) d_SR_transpose_13 (by rfl) (fun c13 => ?_) (fun z => absurd z (by decide))
  refine rx_aload_nr d_SR_transpose_26 (by rfl) ?_
  refine rx_getfield d_SR_transpose_27 fl_SR_21 c1 (by rfl) ?_
  refine rx_iload_n d_SR_transpose_30 (by rfl) ?_
  refine rx_iload_n d_SR_transpose_31 (by rfl) ?_
  refine rx_pV d_SR_transpose_32 (by rfl) ml_SR_137 im_Notes_shift se_Notes_shift (by exact c9_Notes_shift) hN.1 (by rfl) (by exact Nat.le_of_ble_eq_true rfl) (c_shift hN st9.1 p st) ?_
  intro h1 z9
  obtain ⟨hN1, f1⟩ := z9
  have tt1 := hN.tM
  have c11 := ob_frT c1 f1 tt1 (by unfold tM; omega)
  have hp1 := hp.frT f1 tt1 (by unfold tM; omega) (by unfold tM; omega) (by unfold tM; omega)
  have H1 := H.frT f1 tt1 (by unfold tM; omega) (by unfold tM; omega) (by unfold tM; omega)
  have D1 := D.frT f1 tt1 (by unfold tM; omega) (by unfold tM; omega)
  have S1 := S.frT f1 tt1 (by unfold tM; omega) (by unfold tM; omega) (by unfold tM; omega)
  refine rx_ireturn d_SR_transpose_35 (by rfl) ?_
  exact ⟨rfl, ⟨kn, kp, fa, fw, fA, fE, fG, numR, R, N0, jm, wo, wy, tk, f, m9, fF, fI, ⟨c11, hp1, hN1, H1, hE, hG, D1, S1⟩, ⟨kc1, fun z => by rw [sdc_shf]; exact kc2 z⟩, st9⟩, (f1.mo (fun q z => Or.inr (Or.inr z))).gr, by rw [f1.1]; omega⟩
def nx (p b s l t y : Int32) : Nat → Int32 := (fun j => match j with | 0 => p | 1 => b | 2 => s | 3 => l | 4 => t | _ => y)
theorem c_noteInit {q : Nat} (hq : rx_rd V h q = some (.inr (7, [.int 0, .int 0, .int 0, .int 0, .int 0, .int 0]))) (p b s l t : Int32) (y : Bool) : rx_C V (d + 1) kc ks m_Note_init [.ref q, .int p, .int b, .int s, .int l, .int t, .int (bi y)] h (rx_X (.inl none) (rx_wr V h q (ncl (nx p b s l t (bi y))))) := by
  have hfz : ∀ x : Bool, fits .boolean (.int (bi x)) = true := by intro x; cases x <;> rfl
  have hnz : ∀ x : Bool, narrow .boolean (.int (bi x)) = .int (bi x) := by intro x; cases x <;> rfl
  refine rx_aload_nr d_Note_init_0 (by rfl) ?_
  refine rx_objInit d_Note_init_1 w_obj_Note w_obj2 w_obj3 (by exact Nat.le_of_ble_eq_true rfl) ?_
  refine rx_aload_nr d_Note_init_4 (by rfl) ?_
  refine rx_iload_n d_Note_init_5 (by rfl) ?_
  refine rx_putfield d_Note_init_6 (fw_Note_7 rfl rfl) hq (Nat.le_of_ble_eq_true rfl) (by rfl) (by rfl) ?_
  try rw [rx_wr_wr]
  refine rx_aload_nr d_Note_init_9 (by rfl) ?_
  refine rx_iload_n d_Note_init_10 (by rfl) ?_
  refine rx_putfield d_Note_init_11 (fw_Note_13 rfl rfl) (rx_rd_wr hq) (Nat.le_of_ble_eq_true rfl) (by rfl) (by rfl) ?_
  rw [rx_wr_wr]
  refine rx_aload_nr d_Note_init_14 (by rfl) ?_
  refine rx_iload_n d_Note_init_15 (by rfl) ?_
  refine rx_putfield d_Note_init_16 (fw_Note_16 rfl rfl) (rx_rd_wr hq) (Nat.le_of_ble_eq_true rfl) (by rfl) (by rfl) ?_
  rw [rx_wr_wr]
  refine rx_aload_nr d_Note_init_19 (by rfl) ?_
  refine rx_iload d_Note_init_20 (by rfl) ?_
  refine rx_putfield d_Note_init_22 (fw_Note_19 rfl rfl) (rx_rd_wr hq) (Nat.le_of_ble_eq_true rfl) (by rfl) (by rfl) ?_
  rw [rx_wr_wr]
  refine rx_aload_nr d_Note_init_25 (by rfl) ?_
  refine rx_iload d_Note_init_26 (by rfl) ?_
  refine rx_putfield d_Note_init_28 (fw_Note_22 rfl) (rx_rd_wr hq) (Nat.le_of_ble_eq_true rfl) (by rfl) (by rfl) ?_
  rw [rx_wr_wr]
  refine rx_aload_nr d_Note_init_31 (by rfl) ?_
  refine rx_iload d_Note_init_32 (by rfl) ?_
  refine rx_putfield d_Note_init_34 (fw_Note_25 rfl rfl) (rx_rd_wr hq) (Nat.le_of_ble_eq_true rfl) (hnz _) (hfz _) ?_
  rw [rx_wr_wr]
  refine rx_vreturn d_Note_init_37 (by rfl) ?_
  exact ⟨rfl, rfl⟩
theorem x_note1 (htr : V.1.stackTraces = false) (C : is_cl V h A ra na n Le Te Va num NS kn kp) {p : Int32} (hx : iwn p 0 2 = 0) (b s l t : Int32) (y : Bool) : rx_C V (d + 8) 1 6 m_SR_note [.ref (A 0), .int p, .int b, .int s, .int l, .int t, .int (bi y)] h (cPo V h A ra na n num (.inr 0) na Le Te Va num NS) := by
  obtain ⟨fa, fw, fA, fE, fG, numR, R, N0, jm, wo, wy, tk, f, m9, fF, fI, ⟨c1, hp, hN, H, hE, hG, D, S⟩, ⟨kc1, kc2⟩, st⟩ := id C
  have hn : n ≤ 20 := hp.2.2.2.2
  have h0 : 0 < n := st.2.2.2
  have fpA : ∀ i, i < 16 → fp_c A ra na n num (A i) := fun i hi => Or.inl ⟨i, hi, rfl⟩
  refine rx_iload_n d_SR_note_0 (by rfl) ?_
  refine rx_xS d_SR_note_1 ml_SR_99 st_SR_needPart (by exact c9_SR_needPart) rfl (by rfl) (by exact Nat.le_of_ble_eq_true rfl) (x_needPart (d := d + 1) htr hx) ?_
  rintro h1 rfl
  exact ⟨rfl, ⟨kn, kp, C.ap⟩, rx_gr.ap, by rw [List.length_append]; exact Nat.le_refl _⟩
theorem x_note2 (htr : V.1.stackTraces = false) (C : is_cl V h A ra na n Le Te Va num NS kn kp) {p b s l t : Int32} (hp0 : ¬ iwn p 0 2 = 0) (hx : (pgh n b = 0 ∨ iwn t 0 127 = 0 ∨ s < 0 ∨ l < 1 ∨ pgl n Le b - s < l)) (y : Bool) : rx_C V (d + 8) 1 6 m_SR_note [.ref (A 0), .int p, .int b, .int s, .int l, .int t, .int (bi y)] h (cPo V h A ra na n num (.inr 0) na Le Te Va num NS) := by
  obtain ⟨fa, fw, fA, fE, fG, numR, R, N0, jm, wo, wy, tk, f, m9, fF, fI, ⟨c1, hp, hN, H, hE, hG, D, S⟩, ⟨kc1, kc2⟩, st⟩ := id C
  have hn : n ≤ 20 := hp.2.2.2.2
  have h0 : 0 < n := st.2.2.2
  have fpA : ∀ i, i < 16 → fp_c A ra na n num (A i) := fun i hi => Or.inl ⟨i, hi, rfl⟩
  refine rx_iload_n d_SR_note_0 (by rfl) ?_
  refine rx_cS d_SR_note_1 ml_SR_99 st_SR_needPart (by exact c9_SR_needPart) (by rfl) (by exact Nat.le_of_ble_eq_true rfl) (c_needPart hp0) ?_
  refine rx_aload_nr d_SR_note_4 (by rfl) ?_
  refine rx_getfield d_SR_note_5 fl_SR_14 c1 (by rfl) ?_
  refine rx_iload_n d_SR_note_8 (by rfl) ?_
  refine rx_cV d_SR_note_9 (by rfl) ml_SR_46 im_Page_hasBar se_Page_hasBar (by exact c9_Page_hasBar) hp.1 (by rfl) (by exact Nat.le_of_ble_eq_true rfl) (c_hasBar hp b) ?_
  refine rx_if_eq (tgt := 26) d_SR_note_12 (by rfl) (fun c12 => ?_) (fun c12 => ?_)
  · exact rx_throw (E := 0) htr (by rfl) (by rfl) (by decide) d_SR_note_26 d_SR_note_29 d_SR_note_30 d_SR_note_32 d_SR_note_35 ck_SR_54 (text := "no such bar or pitch") (by decide +kernel) (Nat.le_of_ble_eq_true rfl) ⟨rfl, ⟨kn, kp, C.ap⟩, rx_gr.ap, by rw [List.length_append]; exact Nat.le_refl _⟩
  · refine rx_iload d_SR_note_15 (by rfl) ?_
    refine rx_iconst (v := 0) d_SR_note_17 (by decide) ?_
    refine rx_bipush (v := 127) d_SR_note_18 (by decide) ?_
    refine rx_cS d_SR_note_20 ml_SR_50 st_SR_isWithin (by exact c9_SR_isWithin) (by rfl) (by exact Nat.le_of_ble_eq_true rfl) (c_isWithin t 0 127) ?_
    refine rx_if_ne (tgt := 36) d_SR_note_23 (by rfl) (fun c23 => ?_) (fun c23 => ?_)
    · refine rx_iload_n d_SR_note_36 (by rfl) ?_
      refine rx_if_lt (tgt := 61) d_SR_note_37 (by rfl) (fun c37 => ?_) (fun c37 => ?_)
      · exact rx_throw (E := 0) htr (by rfl) (by rfl) (by decide) d_SR_note_61 d_SR_note_64 d_SR_note_65 d_SR_note_67 d_SR_note_70 ck_SR_54 (text := "the note does not lie in the bar") (by decide +kernel) (Nat.le_of_ble_eq_true rfl) ⟨rfl, ⟨kn, kp, C.ap⟩, rx_gr.ap, by rw [List.length_append]; exact Nat.le_refl _⟩
      · refine rx_iload d_SR_note_40 (by rfl) ?_
        refine rx_iconst (v := 1) d_SR_note_42 (by decide) ?_
        refine rx_icmp_lt (tgt := 61) d_SR_note_43 (by rfl) (fun c43 => ?_) (fun c43 => ?_)
        · exact rx_throw (E := 0) htr (by rfl) (by rfl) (by decide) d_SR_note_61 d_SR_note_64 d_SR_note_65 d_SR_note_67 d_SR_note_70 ck_SR_54 (text := "the note does not lie in the bar") (by decide +kernel) (Nat.le_of_ble_eq_true rfl) ⟨rfl, ⟨kn, kp, C.ap⟩, rx_gr.ap, by rw [List.length_append]; exact Nat.le_refl _⟩
        · refine rx_iload d_SR_note_46 (by rfl) ?_
          refine rx_aload_nr d_SR_note_48 (by rfl) ?_
          refine rx_getfield d_SR_note_49 fl_SR_14 c1 (by rfl) ?_
          refine rx_iload_n d_SR_note_52 (by rfl) ?_
          refine rx_cV d_SR_note_53 (by rfl) ml_SR_104 im_Page_lengthOf se_Page_lengthOf (by exact c9_Page_lengthOf) hp.1 (by rfl) (by exact Nat.le_of_ble_eq_true rfl) (c_lengthOf hp b) ?_
          refine rx_iload_n d_SR_note_56 (by rfl) ?_
          refine rx_isub d_SR_note_57 ?_
          refine rx_icmp_le (tgt := 71) d_SR_note_58 (by rfl) (fun c58 => ?_) (fun c58 => ?_)
          · exact (hx.elim c12 (fun z => z.elim c23 (fun z => z.elim c37 (fun z => z.elim c43 (fun z => i_nlt c58 z))))).elim
          · exact rx_throw (E := 0) htr (by rfl) (by rfl) (by decide) d_SR_note_61 d_SR_note_64 d_SR_note_65 d_SR_note_67 d_SR_note_70 ck_SR_54 (text := "the note does not lie in the bar") (by decide +kernel) (Nat.le_of_ble_eq_true rfl) ⟨rfl, ⟨kn, kp, C.ap⟩, rx_gr.ap, by rw [List.length_append]; exact Nat.le_refl _⟩
    · exact rx_throw (E := 0) htr (by rfl) (by rfl) (by decide) d_SR_note_26 d_SR_note_29 d_SR_note_30 d_SR_note_32 d_SR_note_35 ck_SR_54 (text := "no such bar or pitch") (by decide +kernel) (Nat.le_of_ble_eq_true rfl) ⟨rfl, ⟨kn, kp, C.ap⟩, rx_gr.ap, by rw [List.length_append]; exact Nat.le_refl _⟩
theorem x_note3 (htr : V.1.stackTraces = false) (C : is_cl V h A ra na n Le Te Va num NS kn kp) {p b s l t : Int32} (hp0 : ¬ iwn p 0 2 = 0) (hx : ¬ (pgh n b = 0 ∨ iwn t 0 127 = 0 ∨ s < 0 ∨ l < 1 ∨ pgl n Le b - s < l)) (hy : num = 40 ∨ (fix (fun i => decide (NS i 0 = p ∧ NS i 1 = b ∧ NS i 2 = s ∧ NS i 4 = t)) 0 num) ≠ none) (y : Bool) : rx_C V (d + 8) 1 6 m_SR_note [.ref (A 0), .int p, .int b, .int s, .int l, .int t, .int (bi y)] h (cPo V h A ra na n num (.inr 1) na Le Te Va num NS) := by
  obtain ⟨fa, fw, fA, fE, fG, numR, R, N0, jm, wo, wy, tk, f, m9, fF, fI, ⟨c1, hp, hN, H, hE, hG, D, S⟩, ⟨kc1, kc2⟩, st⟩ := id C
  have hn : n ≤ 20 := hp.2.2.2.2
  have h0 : 0 < n := st.2.2.2
  have fpA : ∀ i, i < 16 → fp_c A ra na n num (A i) := fun i hi => Or.inl ⟨i, hi, rfl⟩
  refine rx_iload_n d_SR_note_0 (by rfl) ?_
  refine rx_cS d_SR_note_1 ml_SR_99 st_SR_needPart (by exact c9_SR_needPart) (by rfl) (by exact Nat.le_of_ble_eq_true rfl) (c_needPart hp0) ?_
  refine rx_aload_nr d_SR_note_4 (by rfl) ?_
  refine rx_getfield d_SR_note_5 fl_SR_14 c1 (by rfl) ?_
  refine rx_iload_n d_SR_note_8 (by rfl) ?_
  refine rx_cV d_SR_note_9 (by rfl) ml_SR_46 im_Page_hasBar se_Page_hasBar (by exact c9_Page_hasBar) hp.1 (by rfl) (by exact Nat.le_of_ble_eq_true rfl) (c_hasBar hp b) ?_
  refine rx_if_eq (tgt := 26) d_SR_note_12 (by rfl) (fun z => absurd z (fun z => hx (Or.inl z))) (fun c12 => ?_)
  refine rx_iload d_SR_note_15 (by rfl) ?_
  refine rx_iconst (v := 0) d_SR_note_17 (by decide) ?_
  refine rx_bipush (v := 127) d_SR_note_18 (by decide) ?_
  refine rx_cS d_SR_note_20 ml_SR_50 st_SR_isWithin (by exact c9_SR_isWithin) (by rfl) (by exact Nat.le_of_ble_eq_true rfl) (c_isWithin t 0 127) ?_
  refine rx_if_ne (tgt := 36) d_SR_note_23 (by rfl) (fun c23 => ?_) (fun z => absurd z (fun z => hx (Or.inr (Or.inl z))))
  refine rx_iload_n d_SR_note_36 (by rfl) ?_
  refine rx_if_lt (tgt := 61) d_SR_note_37 (by rfl) (fun z => absurd z (fun z => hx (Or.inr (Or.inr (Or.inl z))))) (fun c37 => ?_)
  refine rx_iload d_SR_note_40 (by rfl) ?_
  refine rx_iconst (v := 1) d_SR_note_42 (by decide) ?_
  refine rx_icmp_lt (tgt := 61) d_SR_note_43 (by rfl) (fun z => absurd z (fun z => hx (Or.inr (Or.inr (Or.inr (Or.inl z)))))) (fun c43 => ?_)
  refine rx_iload d_SR_note_46 (by rfl) ?_
  refine rx_aload_nr d_SR_note_48 (by rfl) ?_
  refine rx_getfield d_SR_note_49 fl_SR_14 c1 (by rfl) ?_
  refine rx_iload_n d_SR_note_52 (by rfl) ?_
  refine rx_cV d_SR_note_53 (by rfl) ml_SR_104 im_Page_lengthOf se_Page_lengthOf (by exact c9_Page_lengthOf) hp.1 (by rfl) (by exact Nat.le_of_ble_eq_true rfl) (c_lengthOf hp b) ?_
  refine rx_iload_n d_SR_note_56 (by rfl) ?_
  refine rx_isub d_SR_note_57 ?_
  refine rx_icmp_le (tgt := 71) d_SR_note_58 (by rfl) (fun c58 => ?_) (fun z => absurd (i_nle' (fun z => hx (Or.inr (Or.inr (Or.inr (Or.inr z)))))) z)
  refine rx_aload_nr d_SR_note_71 (by rfl) ?_
  refine rx_getfield d_SR_note_72 fl_SR_21 c1 (by rfl) ?_
  refine rx_cV d_SR_note_75 (by rfl) ml_SR_109 im_Notes_isFull se_Notes_isFull (by exact c9_Notes_isFull) hN.1 (by rfl) (by exact Nat.le_of_ble_eq_true rfl) (c_isFull hN) ?_
  refine rx_if_ne (tgt := 96) d_SR_note_78 (by rfl) (fun c78 => ?_) (fun c78 => ?_)
  · exact rx_throw (E := 1) htr (by rfl) (by rfl) (by decide) d_SR_note_96 d_SR_note_99 d_SR_note_100 d_SR_note_102 d_SR_note_105 ck_SR_65 (text := "there are too many notes, or there is this one") (by decide +kernel) (Nat.le_of_ble_eq_true rfl) ⟨rfl, ⟨kn, kp, C.ap⟩, rx_gr.ap, by rw [List.length_append]; exact Nat.le_refl _⟩
  · refine rx_aload_nr d_SR_note_81 (by rfl) ?_
    refine rx_getfield d_SR_note_82 fl_SR_21 c1 (by rfl) ?_
    refine rx_iload_n d_SR_note_85 (by rfl) ?_
    refine rx_iload_n d_SR_note_86 (by rfl) ?_
    refine rx_iload_n d_SR_note_87 (by rfl) ?_
    refine rx_iload d_SR_note_88 (by rfl) ?_
    refine rx_cV d_SR_note_90 (by rfl) ml_SR_113 im_Notes_seek se_Notes_seek (by exact c9_Notes_seek) hN.1 (by rfl) (by exact Nat.le_of_ble_eq_true rfl) (c_seek hN p b s t) ?_
    refine rx_ifnull (tgt := 106) d_SR_note_93 (by rfl) (fun c93 => ?_) (fun a93 c93 => ?_)
    · have e1 : num ≠ 40 := ite10.mp (Classical.not_not.mp (fun z => (fun (w : (if num = 40 then (1 : Int32) else 0) = 0) => z w) c78))
      exact (hy.elim e1 (fun z => z (by cases w : (fix (fun i => decide (NS i 0 = p ∧ NS i 1 = b ∧ NS i 2 = s ∧ NS i 4 = t)) 0 num) with | none => rfl | some x => rw [w] at c93; cases c93))).elim
    · exact rx_throw (E := 1) htr (by rfl) (by rfl) (by decide) d_SR_note_96 d_SR_note_99 d_SR_note_100 d_SR_note_102 d_SR_note_105 ck_SR_65 (text := "there are too many notes, or there is this one") (by decide +kernel) (Nat.le_of_ble_eq_true rfl) ⟨rfl, ⟨kn, kp, C.ap⟩, rx_gr.ap, by rw [List.length_append]; exact Nat.le_refl _⟩
theorem c_note (C : is_cl V h A ra na n Le Te Va num NS kn kp) {p s l t : Int32} {b : Nat} (hp0 : ¬ iwn p 0 2 = 0) (hx : ¬ (pgh n (nI b) = 0 ∨ iwn t 0 127 = 0 ∨ s < 0 ∨ l < 1 ∨ pgl n Le (nI b) - s < l)) (h40 : num ≠ 40) (htw : (fix (fun i => decide (NS i 0 = p ∧ NS i 1 = nI b ∧ NS i 2 = s ∧ NS i 4 = t)) 0 num) = none) (y : Bool) : rx_C V (d + 8) 1 6 m_SR_note [.ref (A 0), .int p, .int (nI b), .int s, .int l, .int t, .int (bi y)] h (cPo V h A ra na n num (.inl (some (.int (nI (num + 1))))) (ins na (plc NS (nx p (nI b) s l t (bi y)) num) (V.2.1 + h.length)) Le Te Va (num + 1) (ins NS (plc NS (nx p (nI b) s l t (bi y)) num) (nx p (nI b) s l t (bi y)))) := by
  obtain ⟨fa, fw, fA, fE, fG, numR, R, N0, jm, wo, wy, tk, f, m9, fF, fI, ⟨c1, hp, hN, H, hE, hG, D, S⟩, ⟨kc1, kc2⟩, st⟩ := id C
  have hn : n ≤ 20 := hp.2.2.2.2
  have h0 : 0 < n := st.2.2.2
  have fpA : ∀ i, i < 16 → fp_c A ra na n num (A i) := fun i hi => Or.inl ⟨i, hi, rfl⟩
  have hn40 : num ≤ 40 := hN.2.2.2.2
  refine rx_iload_n d_SR_note_0 (by rfl) ?_
  refine rx_cS d_SR_note_1 ml_SR_99 st_SR_needPart (by exact c9_SR_needPart) (by rfl) (by exact Nat.le_of_ble_eq_true rfl) (c_needPart hp0) ?_
  refine rx_aload_nr d_SR_note_4 (by rfl) ?_
  refine rx_getfield d_SR_note_5 fl_SR_14 c1 (by rfl) ?_
  refine rx_iload_n d_SR_note_8 (by rfl) ?_
  refine rx_cV d_SR_note_9 (by rfl) ml_SR_46 im_Page_hasBar se_Page_hasBar (by exact c9_Page_hasBar) hp.1 (by rfl) (by exact Nat.le_of_ble_eq_true rfl) (c_hasBar hp (nI b)) ?_
  refine rx_if_eq (tgt := 26) d_SR_note_12 (by rfl) (fun z => absurd z (fun z => hx (Or.inl z))) (fun c12 => ?_)
  refine rx_iload d_SR_note_15 (by rfl) ?_
  refine rx_iconst (v := 0) d_SR_note_17 (by decide) ?_
  refine rx_bipush (v := 127) d_SR_note_18 (by decide) ?_
  refine rx_cS d_SR_note_20 ml_SR_50 st_SR_isWithin (by exact c9_SR_isWithin) (by rfl) (by exact Nat.le_of_ble_eq_true rfl) (c_isWithin t 0 127) ?_
  refine rx_if_ne (tgt := 36) d_SR_note_23 (by rfl) (fun c23 => ?_) (fun z => absurd z (fun z => hx (Or.inr (Or.inl z))))
  refine rx_iload_n d_SR_note_36 (by rfl) ?_
  refine rx_if_lt (tgt := 61) d_SR_note_37 (by rfl) (fun z => absurd z (fun z => hx (Or.inr (Or.inr (Or.inl z))))) (fun c37 => ?_)
  refine rx_iload d_SR_note_40 (by rfl) ?_
  refine rx_iconst (v := 1) d_SR_note_42 (by decide) ?_
  refine rx_icmp_lt (tgt := 61) d_SR_note_43 (by rfl) (fun z => absurd z (fun z => hx (Or.inr (Or.inr (Or.inr (Or.inl z)))))) (fun c43 => ?_)
  refine rx_iload d_SR_note_46 (by rfl) ?_
  refine rx_aload_nr d_SR_note_48 (by rfl) ?_
  refine rx_getfield d_SR_note_49 fl_SR_14 c1 (by rfl) ?_
  refine rx_iload_n d_SR_note_52 (by rfl) ?_
  refine rx_cV d_SR_note_53 (by rfl) ml_SR_104 im_Page_lengthOf se_Page_lengthOf (by exact c9_Page_lengthOf) hp.1 (by rfl) (by exact Nat.le_of_ble_eq_true rfl) (c_lengthOf hp (nI b)) ?_
  refine rx_iload_n d_SR_note_56 (by rfl) ?_
  refine rx_isub d_SR_note_57 ?_
  refine rx_icmp_le (tgt := 71) d_SR_note_58 (by rfl) (fun c58 => ?_) (fun z => absurd (i_nle' (fun z => hx (Or.inr (Or.inr (Or.inr (Or.inr z)))))) z)
  refine rx_aload_nr d_SR_note_71 (by rfl) ?_
  refine rx_getfield d_SR_note_72 fl_SR_21 c1 (by rfl) ?_
  refine rx_cV d_SR_note_75 (by rfl) ml_SR_109 im_Notes_isFull se_Notes_isFull (by exact c9_Notes_isFull) hN.1 (by rfl) (by exact Nat.le_of_ble_eq_true rfl) (c_isFull hN) ?_
  rw [if_neg h40]
  refine rx_if_ne (tgt := 96) d_SR_note_78 (by rfl) (fun z => absurd rfl z) (fun c78 => ?_)
  refine rx_aload_nr d_SR_note_81 (by rfl) ?_
  refine rx_getfield d_SR_note_82 fl_SR_21 c1 (by rfl) ?_
  refine rx_iload_n d_SR_note_85 (by rfl) ?_
  refine rx_iload_n d_SR_note_86 (by rfl) ?_
  refine rx_iload_n d_SR_note_87 (by rfl) ?_
  refine rx_iload d_SR_note_88 (by rfl) ?_
  refine rx_cV d_SR_note_90 (by rfl) ml_SR_113 im_Notes_seek se_Notes_seek (by exact c9_Notes_seek) hN.1 (by rfl) (by exact Nat.le_of_ble_eq_true rfl) (c_seek hN p (nI b) s t) ?_
  rw [htw]
  refine rx_ifnull_N (tgt := 106) d_SR_note_93 (by rfl) ?_
  refine rx_aload_nr d_SR_note_106 (by rfl) ?_
  refine rx_getfield d_SR_note_107 fl_SR_21 c1 (by rfl) ?_
  
  refine rx_new (ci := 7) (N := 6) (kc := 0) (ks := 0) (fs := [.int 0, .int 0, .int 0, .int 0, .int 0, .int 0]) t_Note d_SR_note_110 (by rfl) w_Note t_Note_ok ck_SR_119 (rx_in 543 (by decide +kernel) (by decide +kernel)) (rx_in 16 (by decide +kernel) (by decide +kernel)) (by decide +kernel) ?_
  refine rx_dup d_SR_note_113 (by rfl) ?_
  refine rx_iload_n d_SR_note_114 (by rfl) ?_
  refine rx_iload_n d_SR_note_115 (by rfl) ?_
  refine rx_iload_n d_SR_note_116 (by rfl) ?_
  refine rx_iload d_SR_note_117 (by rfl) ?_
  refine rx_iload d_SR_note_119 (by rfl) ?_
  refine rx_iload d_SR_note_121 (by rfl) ?_
  refine rx_cI d_SR_note_123 ml_SR_121 im_Note_init (by rfl) (by rfl) (by exact c9_Note_init) (by rfl) (by exact Nat.le_of_ble_eq_true rfl) (c_noteInit rx_rd_new p (nI b) s l t y) ?_
  rw [rx_wr_new]
  have C1 := C.ap (t := [ncl (nx p (nI b) s l t (bi y))])
  obtain ⟨fa1, fw1, fA1, fE1, fG1, numR1, R1, N01, jm1, wo1, wy1, tk1, f1, m91, fF1, fI1, ⟨c11, hp1, hN1, H1, hE1, hG1, D1, S1⟩, ⟨kc11, kc21⟩, st1⟩ := C1
  have hq1 : rx_rd V (h ++ [ncl (nx p (nI b) s l t (bi y))]) (V.2.1 + h.length) = some (ncl (nx p (nI b) s l t (bi y))) := rx_rd_new
  refine rx_pV d_SR_note_126 (by rfl) ml_SR_124 im_Notes_add se_Notes_add (by exact c9_Notes_add) hN1.1 (by rfl) (by exact Nat.le_of_ble_eq_true rfl) (c_add hN1 (by omega) hq1) ?_
  intro h2 z9
  obtain ⟨fw2, hN2, g2⟩ := z9
  have tt2 := hN1.tN
  have c12 := ob_frT c11 g2 tt2 (by unfold tN; omega)
  have hp2 := hp1.frT g2 tt2 (by unfold tN; omega) (by unfold tN; omega) (by unfold tN; omega)
  have H2 := H1.frT g2 tt2 (by unfold tN; omega) (by unfold tN; omega) (by unfold tN; omega)
  have D2 := D1.frT g2 tt2 (by unfold tN; omega) (by unfold tN; omega)
  have S2 := S1.frT g2 tt2 (by unfold tN; omega) (by unfold tN; omega) (by unfold tN; omega)
  refine rx_aload_nr d_SR_note_129 (by rfl) ?_
  refine rx_getfield d_SR_note_130 fl_SR_42 c12 (by rfl) ?_
  refine rx_pV d_SR_note_133 (by rfl) ml_SR_74 im_Sounding_forget se_Sounding_forget (by exact c9_Sounding_forget) S2.1 (by rfl) (by exact Nat.le_of_ble_eq_true rfl) (c_forget S2) ?_
  intro h3 z9
  obtain ⟨S3, g3⟩ := z9
  have tt3 := S2.tS
  have c13 := ob_frT c12 g3 tt3 (by unfold tS; omega)
  have hp3 := hp2.frT g3 tt3 (by unfold tS; omega) (by unfold tS; omega) (by unfold tS; omega)
  have hN3 := hN2.frT g3 tt3 (by unfold tS; omega) (by unfold tS; omega) (by unfold tS; omega)
  have H3 := H2.frT g3 tt3 (by unfold tS; omega) (by unfold tS; omega) (by unfold tS; omega)
  have D3 := D2.frT g3 tt3 (by unfold tS; omega) (by unfold tS; omega)
  refine rx_aload_nr d_SR_note_136 (by rfl) ?_
  refine rx_getfield d_SR_note_137 fl_SR_21 c13 (by rfl) ?_
  refine rx_getfield d_SR_note_140 fl_SR_128 hN3.1 (by rfl) ?_
  refine rx_ireturn d_SR_note_143 (by rfl) ?_
  refine ⟨rfl, ⟨kn, -1, fa1, fw2, fA1, fE1, fG1, numR1, R1, N01, jm1, wo1, wy1, tk1, f1, m91, fF1, fI1, ⟨c13, hp3, hN3, H3, hE1, hG1, D3, S3⟩, ⟨kc11, fun z => absurd rfl z⟩, ?_, st1.2⟩, (rx_gr.ap (t := [ncl (nx p (nI b) s l t (bi y))])).tr ((g2.mo (fun q z => ?_)).tr (g3.mo (fun q z => ?_))).gr, by rw [g3.1, g2.1, List.length_append]; exact Nat.le_refl _⟩
  · have hlt : ∀ i, i < num → na i ≠ V.2.1 + h.length := fun i hi => by have := rx_rd_lt (hN.2.2.2.1 i hi); omega
    have key : ∀ i, i < num + 1 → (ins na (plc NS (nx p (nI b) s l t (bi y)) num) (V.2.1 + h.length) i = V.2.1 + h.length ∧ i = plc NS (nx p (nI b) s l t (bi y)) num) ∨ ∃ i0, i0 < num ∧ ins na (plc NS (nx p (nI b) s l t (bi y)) num) (V.2.1 + h.length) i = na i0 ∧ i = (if i0 < plc NS (nx p (nI b) s l t (bi y)) num then i0 else i0 + 1) := by
      intro i hi
      have hpl := plc_le (NS := NS) (X := (nx p (nI b) s l t (bi y))) num
      by_cases c : i < plc NS (nx p (nI b) s l t (bi y)) num
      · exact Or.inr ⟨i, by omega, ins_l c, (if_pos c).symm⟩
      · by_cases c2 : i = plc NS (nx p (nI b) s l t (bi y)) num
        · exact Or.inl ⟨by rw [c2, ins_e], c2⟩
        · exact Or.inr ⟨i - 1, by omega, ins_g (by omega), by rw [if_neg (by omega)]; omega⟩
    intro i j hi hj e
    obtain ⟨a1, a2⟩ | ⟨i0, a1, a2, a3⟩ := key i hi
    · obtain ⟨b1, b2⟩ | ⟨j0, b1, b2, b3⟩ := key j hj
      · omega
      · rw [a1, b2] at e; exact absurd e.symm (hlt j0 b1)
    · obtain ⟨b1, b2⟩ | ⟨j0, b1, b2, b3⟩ := key j hj
      · rw [a2, b1] at e; exact absurd e (hlt i0 a1)
      · rw [a2, b2] at e
        have := st.1 i0 j0 a1 b1 e
        rw [a3, b3, this]
  · obtain z | z := z
    · rw [z]; exact fpA 5 (by omega)
    · rw [z]; exact fpA 6 (by omega)
  · obtain z | z | z := z
    · rw [z]; exact fpA 13 (by omega)
    · rw [z]; exact fpA 14 (by omega)
    · rw [z]; exact fpA 15 (by omega)
end C4
