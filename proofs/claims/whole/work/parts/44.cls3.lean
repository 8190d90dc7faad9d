/-! the class's public methods: bar, sign, signAt, transpose, note -/
section RXI
variable {V : rx_V} {d kc ks : Nat} {M y : rx_T} {pc : Nat} {L : rx_L} {S Sr As : List Value} {h h0 : List va_E} {Q : rx_R → List va_E → Prop} {index : Nat} {v0 : Option Value}
theorem rx_cI {b : Nat} (hd : decode M.2.1 pc = .ok (.invokespecial index, 3)) (w1 : Cond.methodLink M.1.cls index y.1 ∈ rx_tbl) (w2 : Cond.instanceMethod y.1 ∈ rx_tbl) (hy1 : y.1.name = "<init>") (hret : y.2.2.2.1 = none) (hcl : rx_cl9 y As.length (lg_sl (.ref b :: As)).length)
    (hS : S = As.reverse ++ .ref b :: Sr) (hw8 : (Sr.map fun v => v.category).sum ≤ 8) (K : rx_C V d 0 0 y (.ref b :: As) h (rx_X (.inl v0) h0)) (k : rx_W V (d + 1) kc ks M (pc + 3) L (v0.toList ++ Sr) h0 Q) : rx_W V (d + 1) kc ks M pc L S h Q := by
  have z := rx_callI1 hd w1 w2 hy1 hret hcl hS hw8 K k
  rw [Nat.zero_add, Nat.zero_add] at z
  exact z
theorem rx_cIN {b : Nat} {host : String} (hd : decode M.2.1 pc = .ok (.invokespecial index, 3)) (w1 : Cond.methodLinkNest M.1.cls index y.1 host ∈ rx_tbl) (w2 : Cond.instanceMethod y.1 ∈ rx_tbl) (hy1 : y.1.name = "<init>") (hret : y.2.2.2.1 = none) (hcl : rx_cl9 y As.length (lg_sl (.ref b :: As)).length)
    (hS : S = As.reverse ++ .ref b :: Sr) (hw8 : (Sr.map fun v => v.category).sum ≤ 8) (K : rx_C V d 0 0 y (.ref b :: As) h (rx_X (.inl v0) h0)) (k : rx_W V (d + 1) kc ks M (pc + 3) L (v0.toList ++ Sr) h0 Q) : rx_W V (d + 1) kc ks M pc L S h Q := by
  have z := rx_callIN1 hd w1 w2 hy1 hret hcl hS hw8 K k
  rw [Nat.zero_add, Nat.zero_add] at z
  exact z
end RXI
theorem rx_rd_new {V : rx_V} {h : List va_E} {e : va_E} : rx_rd V (h ++ [e]) (V.2.1 + h.length) = some e := by
  rw [rx_rd_in, List.getElem?_append_right (Nat.le_refl _), Nat.sub_self]
  rfl
theorem rx_wr_new {V : rx_V} {h : List va_E} {e e' : va_E} : rx_wr V (h ++ [e]) (V.2.1 + h.length) e' = h ++ [e'] := by
  rw [rx_wr_in, List.set_append_right _ _ (Nat.le_refl _), Nat.sub_self]
  rfl
section C3
variable {V : rx_V} {d kc ks l1 l2 : Nat} {h h' : List va_E} {A ra na : Nat → Nat} {n num : Nat} {Le Te Va fl fm : Nat → Int32} {NS : Nat → Nat → Int32} {kn : Bool} {kp : Int32}
/-- where the last note of a bar ends -/
def nei (NS : Nat → Nat → Int32) (num : Nat) (b : Int32) : Int32 := ffo (fun (e : Int32) i => if NS i 1 = b then (if e < NS i 2 + NS i 3 then NS i 2 + NS i 3 else e) else e) 0 0 num
theorem c_signAt (C : is_cl V h A ra na n Le Te Va num NS kn kp) (b k : Int32) : rx_C V (d + 8) 1 6 m_SR_signAt [.ref (A 0), .int b, .int k] h (cPo V h A ra na n num (.inl (some (.int (pgv n Va b k)))) na Le Te Va num NS) := by
  obtain ⟨fa, fw, fA, fE, fG, numR, R, N0, jm, wo, wy, tk, f, m9, fF, fI, ⟨c1, hp, hN, H, hE, hG, D, S⟩, ⟨kc1, kc2⟩, st⟩ := id C
  have hn : n ≤ 20 := hp.2.2.2.2
  have h0 : 0 < n := st.2.2.2
  have fpA : ∀ i, i < 16 → fp_c A ra na n num (A i) := fun i hi => Or.inl ⟨i, hi, rfl⟩
  refine rx_aload_nr d_SR_signAt_0 (by rfl) ?_
  refine rx_getfield d_SR_signAt_1 fl_SR_14 c1 (by rfl) ?_
  refine rx_iload_n d_SR_signAt_4 (by rfl) ?_
  refine rx_iload_n d_SR_signAt_5 (by rfl) ?_
  refine rx_cV d_SR_signAt_6 (by rfl) ml_SR_86 im_Page_value se_Page_value (by exact c9_Page_value) hp.1 (by rfl) (by exact Nat.le_of_ble_eq_true rfl) (c_value hp b k) ?_
  refine rx_ireturn d_SR_signAt_9 (by rfl) ?_
  exact ⟨rfl, ⟨kn, kp, C⟩, rx_gr.rf, by omega⟩
theorem x_bar1 (htr : V.1.stackTraces = false) (C : is_cl V h A ra na n Le Te Va num NS kn kp) {b l t : Int32} (hx : pgh n b = 0 ∨ iwn l 1 32 = 0 ∨ iwn t 1 1000 = 0) : rx_C V (d + 8) 1 6 m_SR_bar [.ref (A 0), .int b, .int l, .int t] h (cPo V h A ra na n num (.inr 0) na Le Te Va num NS) := by
  obtain ⟨fa, fw, fA, fE, fG, numR, R, N0, jm, wo, wy, tk, f, m9, fF, fI, ⟨c1, hp, hN, H, hE, hG, D, S⟩, ⟨kc1, kc2⟩, st⟩ := id C
  have hn : n ≤ 20 := hp.2.2.2.2
  have h0 : 0 < n := st.2.2.2
  have fpA : ∀ i, i < 16 → fp_c A ra na n num (A i) := fun i hi => Or.inl ⟨i, hi, rfl⟩
  refine rx_aload_nr d_SR_bar_0 (by rfl) ?_
  refine rx_getfield d_SR_bar_1 fl_SR_14 c1 (by rfl) ?_
  refine rx_iload_n d_SR_bar_4 (by rfl) ?_
  refine rx_cV d_SR_bar_5 (by rfl) ml_SR_46 im_Page_hasBar se_Page_hasBar (by exact c9_Page_hasBar) hp.1 (by rfl) (by exact Nat.le_of_ble_eq_true rfl) (c_hasBar hp b) ?_
  refine rx_if_eq (tgt := 32) d_SR_bar_8 (by rfl) (fun c8 => ?_) (fun c8 => ?_)
  · exact rx_throw (E := 0) htr (by rfl) (by rfl) (by decide) d_SR_bar_32 d_SR_bar_35 d_SR_bar_36 d_SR_bar_38 d_SR_bar_41 ck_SR_54 (text := "no such bar, length or tempo") (by decide +kernel) (Nat.le_of_ble_eq_true rfl) ⟨rfl, ⟨kn, kp, C.ap⟩, rx_gr.ap, by rw [List.length_append]; exact Nat.le_refl _⟩
  · refine rx_iload_n d_SR_bar_11 (by rfl) ?_
    refine rx_iconst (v := 1) d_SR_bar_12 (by decide) ?_
    refine rx_bipush (v := 32) d_SR_bar_13 (by decide) ?_
    refine rx_cS d_SR_bar_15 ml_SR_50 st_SR_isWithin (by exact c9_SR_isWithin) (by rfl) (by exact Nat.le_of_ble_eq_true rfl) (c_isWithin l 1 32) ?_
    refine rx_if_eq (tgt := 32) d_SR_bar_18 (by rfl) (fun c18 => ?_) (fun c18 => ?_)
    · exact rx_throw (E := 0) htr (by rfl) (by rfl) (by decide) d_SR_bar_32 d_SR_bar_35 d_SR_bar_36 d_SR_bar_38 d_SR_bar_41 ck_SR_54 (text := "no such bar, length or tempo") (by decide +kernel) (Nat.le_of_ble_eq_true rfl) ⟨rfl, ⟨kn, kp, C.ap⟩, rx_gr.ap, by rw [List.length_append]; exact Nat.le_refl _⟩
    · refine rx_iload_n d_SR_bar_21 (by rfl) ?_
      refine rx_iconst (v := 1) d_SR_bar_22 (by decide) ?_
      refine rx_sipush (v := 1000) d_SR_bar_23 (by decide) ?_
      refine rx_cS d_SR_bar_26 ml_SR_50 st_SR_isWithin (by exact c9_SR_isWithin) (by rfl) (by exact Nat.le_of_ble_eq_true rfl) (c_isWithin t 1 1000) ?_
      refine rx_if_ne (tgt := 42) d_SR_bar_29 (by rfl) (fun c29 => ?_) (fun c29 => ?_)
      · exact (hx.elim c8 (fun y => y.elim c18 c29)).elim
      · exact rx_throw (E := 0) htr (by rfl) (by rfl) (by decide) d_SR_bar_32 d_SR_bar_35 d_SR_bar_36 d_SR_bar_38 d_SR_bar_41 ck_SR_54 (text := "no such bar, length or tempo") (by decide +kernel) (Nat.le_of_ble_eq_true rfl) ⟨rfl, ⟨kn, kp, C.ap⟩, rx_gr.ap, by rw [List.length_append]; exact Nat.le_refl _⟩
theorem x_bar2 (htr : V.1.stackTraces = false) (C : is_cl V h A ra na n Le Te Va num NS kn kp) {b l t : Int32} (hx : ¬ (pgh n b = 0 ∨ iwn l 1 32 = 0 ∨ iwn t 1 1000 = 0)) (hy : l < nei NS num b) : rx_C V (d + 8) 1 6 m_SR_bar [.ref (A 0), .int b, .int l, .int t] h (cPo V h A ra na n num (.inr 1) na Le Te Va num NS) := by
  obtain ⟨fa, fw, fA, fE, fG, numR, R, N0, jm, wo, wy, tk, f, m9, fF, fI, ⟨c1, hp, hN, H, hE, hG, D, S⟩, ⟨kc1, kc2⟩, st⟩ := id C
  have hn : n ≤ 20 := hp.2.2.2.2
  have h0 : 0 < n := st.2.2.2
  have fpA : ∀ i, i < 16 → fp_c A ra na n num (A i) := fun i hi => Or.inl ⟨i, hi, rfl⟩
  refine rx_aload_nr d_SR_bar_0 (by rfl) ?_
  refine rx_getfield d_SR_bar_1 fl_SR_14 c1 (by rfl) ?_
  refine rx_iload_n d_SR_bar_4 (by rfl) ?_
  refine rx_cV d_SR_bar_5 (by rfl) ml_SR_46 im_Page_hasBar se_Page_hasBar (by exact c9_Page_hasBar) hp.1 (by rfl) (by exact Nat.le_of_ble_eq_true rfl) (c_hasBar hp b) ?_
  refine rx_if_eq (tgt := 32) d_SR_bar_8 (by rfl) (fun z => absurd z (fun z => hx (Or.inl z))) (fun c8 => ?_)
  refine rx_iload_n d_SR_bar_11 (by rfl) ?_
  refine rx_iconst (v := 1) d_SR_bar_12 (by decide) ?_
  refine rx_bipush (v := 32) d_SR_bar_13 (by decide) ?_
  refine rx_cS d_SR_bar_15 ml_SR_50 st_SR_isWithin (by exact c9_SR_isWithin) (by rfl) (by exact Nat.le_of_ble_eq_true rfl) (c_isWithin l 1 32) ?_
  refine rx_if_eq (tgt := 32) d_SR_bar_18 (by rfl) (fun z => absurd z (fun z => hx (Or.inr (Or.inl z)))) (fun c18 => ?_)
  refine rx_iload_n d_SR_bar_21 (by rfl) ?_
  refine rx_iconst (v := 1) d_SR_bar_22 (by decide) ?_
  refine rx_sipush (v := 1000) d_SR_bar_23 (by decide) ?_
  refine rx_cS d_SR_bar_26 ml_SR_50 st_SR_isWithin (by exact c9_SR_isWithin) (by rfl) (by exact Nat.le_of_ble_eq_true rfl) (c_isWithin t 1 1000) ?_
  refine rx_if_ne (tgt := 42) d_SR_bar_29 (by rfl) (fun c29 => ?_) (fun z => absurd z (fun z => hx (Or.inr (Or.inr z))))
  refine rx_aload_nr d_SR_bar_42 (by rfl) ?_
  refine rx_getfield d_SR_bar_43 fl_SR_21 c1 (by rfl) ?_
  refine rx_iload_n d_SR_bar_46 (by rfl) ?_
  refine rx_cV d_SR_bar_47 (by rfl) ml_SR_61 im_Notes_endIn se_Notes_endIn (by exact c9_Notes_endIn) hN.1 (by rfl) (by exact Nat.le_of_ble_eq_true rfl) (c_endIn hN b) ?_
  refine rx_iload_n d_SR_bar_50 (by rfl) ?_
  refine rx_icmp_le (tgt := 64) d_SR_bar_51 (by rfl) (fun z => absurd z (fun z => i_nlt z hy)) (fun c51 => ?_)
  exact rx_throw (E := 1) htr (by rfl) (by rfl) (by decide) d_SR_bar_54 d_SR_bar_57 d_SR_bar_58 d_SR_bar_60 d_SR_bar_63 ck_SR_65 (text := "a note would go over the bar's end") (by decide +kernel) (Nat.le_of_ble_eq_true rfl) ⟨rfl, ⟨kn, kp, C.ap⟩, rx_gr.ap, by rw [List.length_append]; exact Nat.le_refl _⟩
theorem c_bar (C : is_cl V h A ra na n Le Te Va num NS kn kp) {b : Nat} (hbn : b < n) {l t : Int32} (hx : ¬ (iwn l 1 32 = 0 ∨ iwn t 1 1000 = 0)) (hy : ¬ l < nei NS num (nI b)) : rx_C V (d + 8) 1 6 m_SR_bar [.ref (A 0), .int (nI b), .int l, .int t] h (cPo V h A ra na n num (.inl none) na (up Le b l) (up Te b t) Va num NS) := by
  obtain ⟨fa, fw, fA, fE, fG, numR, R, N0, jm, wo, wy, tk, f, m9, fF, fI, ⟨c1, hp, hN, H, hE, hG, D, S⟩, ⟨kc1, kc2⟩, st⟩ := id C
  have hn : n ≤ 20 := hp.2.2.2.2
  have h0 : 0 < n := st.2.2.2
  have fpA : ∀ i, i < 16 → fp_c A ra na n num (A i) := fun i hi => Or.inl ⟨i, hi, rfl⟩
  have hb1 : ¬ pgh n (nI b) = 0 := by rw [pgh_nn hn hbn]; decide
  refine rx_aload_nr d_SR_bar_0 (by rfl) ?_
  refine rx_getfield d_SR_bar_1 fl_SR_14 c1 (by rfl) ?_
  refine rx_iload_n d_SR_bar_4 (by rfl) ?_
  refine rx_cV d_SR_bar_5 (by rfl) ml_SR_46 im_Page_hasBar se_Page_hasBar (by exact c9_Page_hasBar) hp.1 (by rfl) (by exact Nat.le_of_ble_eq_true rfl) (c_hasBar hp (nI b)) ?_
  refine rx_if_eq (tgt := 32) d_SR_bar_8 (by rfl) (fun z => absurd z hb1) (fun c8 => ?_)
  refine rx_iload_n d_SR_bar_11 (by rfl) ?_
  refine rx_iconst (v := 1) d_SR_bar_12 (by decide) ?_
  refine rx_bipush (v := 32) d_SR_bar_13 (by decide) ?_
  refine rx_cS d_SR_bar_15 ml_SR_50 st_SR_isWithin (by exact c9_SR_isWithin) (by rfl) (by exact Nat.le_of_ble_eq_true rfl) (c_isWithin l 1 32) ?_
  refine rx_if_eq (tgt := 32) d_SR_bar_18 (by rfl) (fun z => absurd z (fun z => hx (Or.inl z))) (fun c18 => ?_)
  refine rx_iload_n d_SR_bar_21 (by rfl) ?_
  refine rx_iconst (v := 1) d_SR_bar_22 (by decide) ?_
  refine rx_sipush (v := 1000) d_SR_bar_23 (by decide) ?_
  refine rx_cS d_SR_bar_26 ml_SR_50 st_SR_isWithin (by exact c9_SR_isWithin) (by rfl) (by exact Nat.le_of_ble_eq_true rfl) (c_isWithin t 1 1000) ?_
  refine rx_if_ne (tgt := 42) d_SR_bar_29 (by rfl) (fun c29 => ?_) (fun z => absurd z (fun z => hx (Or.inr z)))
  refine rx_aload_nr d_SR_bar_42 (by rfl) ?_
  refine rx_getfield d_SR_bar_43 fl_SR_21 c1 (by rfl) ?_
  refine rx_iload_n d_SR_bar_46 (by rfl) ?_
  refine rx_cV d_SR_bar_47 (by rfl) ml_SR_61 im_Notes_endIn se_Notes_endIn (by exact c9_Notes_endIn) hN.1 (by rfl) (by exact Nat.le_of_ble_eq_true rfl) (c_endIn hN (nI b)) ?_
  refine rx_iload_n d_SR_bar_50 (by rfl) ?_
  refine rx_icmp_le (tgt := 64) d_SR_bar_51 (by rfl) (fun c51 => ?_) (fun z => absurd (i_nle' hy) z)
  refine rx_aload_nr d_SR_bar_64 (by rfl) ?_
  refine rx_getfield d_SR_bar_65 fl_SR_14 c1 (by rfl) ?_
  refine rx_iload_n d_SR_bar_68 (by rfl) ?_
  refine rx_iload_n d_SR_bar_69 (by rfl) ?_
  refine rx_iload_n d_SR_bar_70 (by rfl) ?_
  refine rx_pV d_SR_bar_71 (by rfl) ml_SR_70 im_Page_shape se_Page_shape (by exact c9_Page_shape) hp.1 (by rfl) (by exact Nat.le_of_ble_eq_true rfl) (c_shape hp (st.pg hp) hbn l t) ?_
  intro h1 z9
  obtain ⟨hp1, f1⟩ := z9
  have tt1 := hp.tP
  have c11 := ob_frT c1 f1 tt1 (by unfold tP; omega)
  have hN1 := hN.frT f1 tt1 (by unfold tP; omega) (by unfold tP; omega) (by unfold tP; omega)
  have H1 := H.frT f1 tt1 (by unfold tP; omega) (by unfold tP; omega) (by unfold tP; omega)
  have D1 := D.frT f1 tt1 (by unfold tP; omega) (by unfold tP; omega)
  have S1 := S.frT f1 tt1 (by unfold tP; omega) (by unfold tP; omega) (by unfold tP; omega)
  refine rx_aload_nr d_SR_bar_74 (by rfl) ?_
  refine rx_getfield d_SR_bar_75 fl_SR_42 c11 (by rfl) ?_
  refine rx_pV d_SR_bar_78 (by rfl) ml_SR_74 im_Sounding_forget se_Sounding_forget (by exact c9_Sounding_forget) S1.1 (by rfl) (by exact Nat.le_of_ble_eq_true rfl) (c_forget S1) ?_
  intro h2 z9
  obtain ⟨S2, f2⟩ := z9
  have tt2 := S1.tS
  have c12 := ob_frT c11 f2 tt2 (by unfold tS; omega)
  have hp2 := hp1.frT f2 tt2 (by unfold tS; omega) (by unfold tS; omega) (by unfold tS; omega)
  have hN2 := hN1.frT f2 tt2 (by unfold tS; omega) (by unfold tS; omega) (by unfold tS; omega)
  have H2 := H1.frT f2 tt2 (by unfold tS; omega) (by unfold tS; omega) (by unfold tS; omega)
  have D2 := D1.frT f2 tt2 (by unfold tS; omega) (by unfold tS; omega)
  refine rx_vreturn d_SR_bar_81 (by rfl) ?_
  refine ⟨rfl, ⟨kn, -1, fa, fw, fA, fE, fG, numR, R, N0, jm, wo, wy, tk, f, m9, fF, fI, ⟨c12, hp2, hN2, H2, hE, hG, D2, S2⟩, ⟨kc1, fun z => absurd rfl z⟩, st⟩, ((f1.mo (fun q z => ?_)).tr (f2.mo (fun q z => ?_))).gr, by rw [f2.1, f1.1]; omega⟩
  · obtain z | z | z := z
    · rw [z]; exact fpA 2 (by omega)
    · rw [z]; exact fpA 3 (by omega)
    · rw [z]; exact fpA 4 (by omega)
  · obtain z | z | z := z
    · rw [z]; exact fpA 13 (by omega)
    · rw [z]; exact fpA 14 (by omega)
    · rw [z]; exact fpA 15 (by omega)
theorem x_sign1 (htr : V.1.stackTraces = false) (C : is_cl V h A ra na n Le Te Va num NS kn kp)(h1 : V.2.2.2.2[1]? = some (l1, 10, fl)) (h2 : V.2.2.2.2[2]? = some (l2, 10, fm)) {b k v : Int32} (hx : pgh n b = 0 ∨ iwn k 0 9 = 0 ∨ ¬ (v = 0 ∨ (¬ iwn k 0 9 = 0 ∧ ¬ iwn v (fl k.toNatClampNeg) (fm k.toNatClampNeg) = 0))) : rx_C V (d + 8) 1 6 m_SR_sign [.ref (A 0), .int b, .int k, .int v] h (cPo V h A ra na n num (.inr 0) na Le Te Va num NS) := by
  obtain ⟨fa, fw, fA, fE, fG, numR, R, N0, jm, wo, wy, tk, f, m9, fF, fI, ⟨c1, hp, hN, H, hE, hG, D, S⟩, ⟨kc1, kc2⟩, st⟩ := id C
  have hn : n ≤ 20 := hp.2.2.2.2
  have h0 : 0 < n := st.2.2.2
  have fpA : ∀ i, i < 16 → fp_c A ra na n num (A i) := fun i hi => Or.inl ⟨i, hi, rfl⟩
  refine rx_aload_nr d_SR_sign_0 (by rfl) ?_
  refine rx_getfield d_SR_sign_1 fl_SR_14 c1 (by rfl) ?_
  refine rx_iload_n d_SR_sign_4 (by rfl) ?_
  refine rx_cV d_SR_sign_5 (by rfl) ml_SR_46 im_Page_hasBar se_Page_hasBar (by exact c9_Page_hasBar) hp.1 (by rfl) (by exact Nat.le_of_ble_eq_true rfl) (c_hasBar hp b) ?_
  refine rx_if_eq (tgt := 26) d_SR_sign_8 (by rfl) (fun c8 => ?_) (fun c8 => ?_)
  · exact rx_throw (E := 0) htr (by rfl) (by rfl) (by decide) d_SR_sign_26 d_SR_sign_29 d_SR_sign_30 d_SR_sign_32 d_SR_sign_35 ck_SR_54 (text := "no such bar, kind or value") (by decide +kernel) (Nat.le_of_ble_eq_true rfl) ⟨rfl, ⟨kn, kp, C.ap⟩, rx_gr.ap, by rw [List.length_append]; exact Nat.le_refl _⟩
  · refine rx_iload_n d_SR_sign_11 (by rfl) ?_
    refine rx_cS d_SR_sign_12 ml_SR_77 st_SR_isKind (by exact c9_SR_isKind) (by rfl) (by exact Nat.le_of_ble_eq_true rfl) (c_isKind k) ?_
    refine rx_if_eq (tgt := 26) d_SR_sign_15 (by rfl) (fun c15 => ?_) (fun c15 => ?_)
    · exact rx_throw (E := 0) htr (by rfl) (by rfl) (by decide) d_SR_sign_26 d_SR_sign_29 d_SR_sign_30 d_SR_sign_32 d_SR_sign_35 ck_SR_54 (text := "no such bar, kind or value") (by decide +kernel) (Nat.le_of_ble_eq_true rfl) ⟨rfl, ⟨kn, kp, C.ap⟩, rx_gr.ap, by rw [List.length_append]; exact Nat.le_refl _⟩
    · refine rx_iload_n d_SR_sign_18 (by rfl) ?_
      refine rx_iload_n d_SR_sign_19 (by rfl) ?_
      refine rx_cS d_SR_sign_20 ml_SR_80 st_SR_isValue (by exact c9_SR_isValue) (by rfl) (by exact Nat.le_of_ble_eq_true rfl) (c_isValue h1 h2 k v) ?_
      refine rx_if_ne (tgt := 36) d_SR_sign_23 (by rfl) (fun c23 => ?_) (fun c23 => ?_)
      · exact (hx.elim c8 (fun y => y.elim c15 (fun z => z (ite11.mp c23)))).elim
      · exact rx_throw (E := 0) htr (by rfl) (by rfl) (by decide) d_SR_sign_26 d_SR_sign_29 d_SR_sign_30 d_SR_sign_32 d_SR_sign_35 ck_SR_54 (text := "no such bar, kind or value") (by decide +kernel) (Nat.le_of_ble_eq_true rfl) ⟨rfl, ⟨kn, kp, C.ap⟩, rx_gr.ap, by rw [List.length_append]; exact Nat.le_refl _⟩
theorem x_sign2 (htr : V.1.stackTraces = false) (C : is_cl V h A ra na n Le Te Va num NS kn kp)(h1 : V.2.2.2.2[1]? = some (l1, 10, fl)) (h2 : V.2.2.2.2[2]? = some (l2, 10, fm)) {b k : Nat} (hbn : b < n) (hk : k < 10) {v : Int32} (hx : (v = 0 ∨ (¬ iwn (nI k) 0 9 = 0 ∧ ¬ iwn v (fl (nI k).toNatClampNeg) (fm (nI k).toNatClampNeg) = 0))) (hv0 : v ≠ 0) (ho : Va (10 * b + k) ≠ 0) (hne : v ≠ Va (10 * b + k)) : rx_C V (d + 8) 1 6 m_SR_sign [.ref (A 0), .int (nI b), .int (nI k), .int v] h (cPo V h A ra na n num (.inr 1) na Le Te Va num NS) := by
  obtain ⟨fa, fw, fA, fE, fG, numR, R, N0, jm, wo, wy, tk, f, m9, fF, fI, ⟨c1, hp, hN, H, hE, hG, D, S⟩, ⟨kc1, kc2⟩, st⟩ := id C
  have hn : n ≤ 20 := hp.2.2.2.2
  have h0 : 0 < n := st.2.2.2
  have fpA : ∀ i, i < 16 → fp_c A ra na n num (A i) := fun i hi => Or.inl ⟨i, hi, rfl⟩
  have hb1 : ¬ pgh n (nI b) = 0 := by rw [pgh_nn hn hbn]; decide
  have hk1 : ¬ iwn (nI k) 0 9 = 0 := by
    unfold iwn
    rw [if_pos ⟨nI_pos' (by omega), show nI k ≤ nI 9 from nI_le (by omega) (by omega)⟩]; decide
  have hv1 : pgv n Va (nI b) (nI k) = Va (10 * b + k) := pgv_n hn hbn hk
  refine rx_aload_nr d_SR_sign_0 (by rfl) ?_
  refine rx_getfield d_SR_sign_1 fl_SR_14 c1 (by rfl) ?_
  refine rx_iload_n d_SR_sign_4 (by rfl) ?_
  refine rx_cV d_SR_sign_5 (by rfl) ml_SR_46 im_Page_hasBar se_Page_hasBar (by exact c9_Page_hasBar) hp.1 (by rfl) (by exact Nat.le_of_ble_eq_true rfl) (c_hasBar hp (nI b)) ?_
  refine rx_if_eq (tgt := 26) d_SR_sign_8 (by rfl) (fun z => absurd z hb1) (fun c8 => ?_)
  refine rx_iload_n d_SR_sign_11 (by rfl) ?_
  refine rx_cS d_SR_sign_12 ml_SR_77 st_SR_isKind (by exact c9_SR_isKind) (by rfl) (by exact Nat.le_of_ble_eq_true rfl) (c_isKind (nI k)) ?_
  refine rx_if_eq (tgt := 26) d_SR_sign_15 (by rfl) (fun z => absurd z hk1) (fun c15 => ?_)
  refine rx_iload_n d_SR_sign_18 (by rfl) ?_
  refine rx_iload_n d_SR_sign_19 (by rfl) ?_
  refine rx_cS d_SR_sign_20 ml_SR_80 st_SR_isValue (by exact c9_SR_isValue) (by rfl) (by exact Nat.le_of_ble_eq_true rfl) (c_isValue h1 h2 (nI k) v) ?_
  refine rx_if_ne (tgt := 36) d_SR_sign_23 (by rfl) (fun c23 => ?_) (fun z => absurd z (ite11.mpr hx))
  refine rx_aload_nr d_SR_sign_36 (by rfl) ?_
  refine rx_getfield d_SR_sign_37 fl_SR_14 c1 (by rfl) ?_
  refine rx_iload_n d_SR_sign_40 (by rfl) ?_
  refine rx_iload_n d_SR_sign_41 (by rfl) ?_
  refine rx_cV d_SR_sign_42 (by rfl) ml_SR_86 im_Page_value se_Page_value (by exact c9_Page_value) hp.1 (by rfl) (by exact Nat.le_of_ble_eq_true rfl) (c_value hp (nI b) (nI k)) ?_
  rw [hv1]
  refine rx_istore d_SR_sign_45 (Nat.le_of_ble_eq_true rfl) ?_
  refine rx_iload_n d_SR_sign_47 (by rfl) ?_
  refine rx_iload d_SR_sign_48 (by rfl) ?_
  refine rx_icmp_ne (tgt := 55) d_SR_sign_50 (by rfl) (fun c50 => ?_) (fun z => absurd z hne)
  refine rx_iload_n d_SR_sign_55 (by rfl) ?_
  refine rx_if_eq (tgt := 74) d_SR_sign_56 (by rfl) (fun z => absurd z hv0) (fun c56 => ?_)
  refine rx_iload d_SR_sign_59 (by rfl) ?_
  refine rx_if_eq (tgt := 74) d_SR_sign_61 (by rfl) (fun z => absurd z ho) (fun c61 => ?_)
  exact rx_throw (E := 1) htr (by rfl) (by rfl) (by decide) d_SR_sign_64 d_SR_sign_67 d_SR_sign_68 d_SR_sign_70 d_SR_sign_73 ck_SR_65 (text := "there is such a sign with another value") (by decide +kernel) (Nat.le_of_ble_eq_true rfl) ⟨rfl, ⟨kn, kp, C.ap⟩, rx_gr.ap, by rw [List.length_append]; exact Nat.le_refl _⟩
theorem c_sign0 (C : is_cl V h A ra na n Le Te Va num NS kn kp)(h1 : V.2.2.2.2[1]? = some (l1, 10, fl)) (h2 : V.2.2.2.2[2]? = some (l2, 10, fm)) {b k : Nat} (hbn : b < n) (hk : k < 10) {v : Int32} (hx : (v = 0 ∨ (¬ iwn (nI k) 0 9 = 0 ∧ ¬ iwn v (fl (nI k).toNatClampNeg) (fm (nI k).toNatClampNeg) = 0))) (hne : v = Va (10 * b + k)) : rx_C V (d + 8) 1 6 m_SR_sign [.ref (A 0), .int (nI b), .int (nI k), .int v] h (cPo V h A ra na n num (.inl (some (.int 0))) na Le Te Va num NS) := by
  obtain ⟨fa, fw, fA, fE, fG, numR, R, N0, jm, wo, wy, tk, f, m9, fF, fI, ⟨c1, hp, hN, H, hE, hG, D, S⟩, ⟨kc1, kc2⟩, st⟩ := id C
  have hn : n ≤ 20 := hp.2.2.2.2
  have h0 : 0 < n := st.2.2.2
  have fpA : ∀ i, i < 16 → fp_c A ra na n num (A i) := fun i hi => Or.inl ⟨i, hi, rfl⟩
  have hb1 : ¬ pgh n (nI b) = 0 := by rw [pgh_nn hn hbn]; decide
  have hk1 : ¬ iwn (nI k) 0 9 = 0 := by
    unfold iwn
    rw [if_pos ⟨nI_pos' (by omega), show nI k ≤ nI 9 from nI_le (by omega) (by omega)⟩]; decide
  have hv1 : pgv n Va (nI b) (nI k) = Va (10 * b + k) := pgv_n hn hbn hk
  refine rx_aload_nr d_SR_sign_0 (by rfl) ?_
  refine rx_getfield d_SR_sign_1 fl_SR_14 c1 (by rfl) ?_
  refine rx_iload_n d_SR_sign_4 (by rfl) ?_
  refine rx_cV d_SR_sign_5 (by rfl) ml_SR_46 im_Page_hasBar se_Page_hasBar (by exact c9_Page_hasBar) hp.1 (by rfl) (by exact Nat.le_of_ble_eq_true rfl) (c_hasBar hp (nI b)) ?_
  refine rx_if_eq (tgt := 26) d_SR_sign_8 (by rfl) (fun z => absurd z hb1) (fun c8 => ?_)
  refine rx_iload_n d_SR_sign_11 (by rfl) ?_
  refine rx_cS d_SR_sign_12 ml_SR_77 st_SR_isKind (by exact c9_SR_isKind) (by rfl) (by exact Nat.le_of_ble_eq_true rfl) (c_isKind (nI k)) ?_
  refine rx_if_eq (tgt := 26) d_SR_sign_15 (by rfl) (fun z => absurd z hk1) (fun c15 => ?_)
  refine rx_iload_n d_SR_sign_18 (by rfl) ?_
  refine rx_iload_n d_SR_sign_19 (by rfl) ?_
  refine rx_cS d_SR_sign_20 ml_SR_80 st_SR_isValue (by exact c9_SR_isValue) (by rfl) (by exact Nat.le_of_ble_eq_true rfl) (c_isValue h1 h2 (nI k) v) ?_
  refine rx_if_ne (tgt := 36) d_SR_sign_23 (by rfl) (fun c23 => ?_) (fun z => absurd z (ite11.mpr hx))
  refine rx_aload_nr d_SR_sign_36 (by rfl) ?_
  refine rx_getfield d_SR_sign_37 fl_SR_14 c1 (by rfl) ?_
  refine rx_iload_n d_SR_sign_40 (by rfl) ?_
  refine rx_iload_n d_SR_sign_41 (by rfl) ?_
  refine rx_cV d_SR_sign_42 (by rfl) ml_SR_86 im_Page_value se_Page_value (by exact c9_Page_value) hp.1 (by rfl) (by exact Nat.le_of_ble_eq_true rfl) (c_value hp (nI b) (nI k)) ?_
  rw [hv1]
  refine rx_istore d_SR_sign_45 (Nat.le_of_ble_eq_true rfl) ?_
  refine rx_iload_n d_SR_sign_47 (by rfl) ?_
  refine rx_iload d_SR_sign_48 (by rfl) ?_
  refine rx_icmp_ne (tgt := 55) d_SR_sign_50 (by rfl) (fun z => absurd hne z) (fun c50 => ?_)
  refine rx_iconst (v := 0) d_SR_sign_53 (by decide) ?_
  refine rx_zreturn d_SR_sign_54 (by rfl) (by rfl) ?_
  exact ⟨rfl, ⟨kn, kp, C⟩, rx_gr.rf, by omega⟩
theorem c_sign1 (C : is_cl V h A ra na n Le Te Va num NS kn kp)(h1 : V.2.2.2.2[1]? = some (l1, 10, fl)) (h2 : V.2.2.2.2[2]? = some (l2, 10, fm)) {b k : Nat} (hbn : b < n) (hk : k < 10) {v : Int32} (hx : (v = 0 ∨ (¬ iwn (nI k) 0 9 = 0 ∧ ¬ iwn v (fl (nI k).toNatClampNeg) (fm (nI k).toNatClampNeg) = 0))) (hne : v ≠ Va (10 * b + k)) (hy : v = 0 ∨ Va (10 * b + k) = 0) : rx_C V (d + 8) 1 6 m_SR_sign [.ref (A 0), .int (nI b), .int (nI k), .int v] h (cPo V h A ra na n num (.inl (some (.int 1))) na Le Te (up Va (10 * b + k) v) num NS) := by
  obtain ⟨fa, fw, fA, fE, fG, numR, R, N0, jm, wo, wy, tk, f, m9, fF, fI, ⟨c1, hp, hN, H, hE, hG, D, S⟩, ⟨kc1, kc2⟩, st⟩ := id C
  have hn : n ≤ 20 := hp.2.2.2.2
  have h0 : 0 < n := st.2.2.2
  have fpA : ∀ i, i < 16 → fp_c A ra na n num (A i) := fun i hi => Or.inl ⟨i, hi, rfl⟩
  have hb1 : ¬ pgh n (nI b) = 0 := by rw [pgh_nn hn hbn]; decide
  have hk1 : ¬ iwn (nI k) 0 9 = 0 := by
    unfold iwn
    rw [if_pos ⟨nI_pos' (by omega), show nI k ≤ nI 9 from nI_le (by omega) (by omega)⟩]; decide
  have hv1 : pgv n Va (nI b) (nI k) = Va (10 * b + k) := pgv_n hn hbn hk
  refine rx_aload_nr d_SR_sign_0 (by rfl) ?_
  refine rx_getfield d_SR_sign_1 fl_SR_14 c1 (by rfl) ?_
  refine rx_iload_n d_SR_sign_4 (by rfl) ?_
  refine rx_cV d_SR_sign_5 (by rfl) ml_SR_46 im_Page_hasBar se_Page_hasBar (by exact c9_Page_hasBar) hp.1 (by rfl) (by exact Nat.le_of_ble_eq_true rfl) (c_hasBar hp (nI b)) ?_
  refine rx_if_eq (tgt := 26) d_SR_sign_8 (by rfl) (fun z => absurd z hb1) (fun c8 => ?_)
  refine rx_iload_n d_SR_sign_11 (by rfl) ?_
  refine rx_cS d_SR_sign_12 ml_SR_77 st_SR_isKind (by exact c9_SR_isKind) (by rfl) (by exact Nat.le_of_ble_eq_true rfl) (c_isKind (nI k)) ?_
  refine rx_if_eq (tgt := 26) d_SR_sign_15 (by rfl) (fun z => absurd z hk1) (fun c15 => ?_)
  refine rx_iload_n d_SR_sign_18 (by rfl) ?_
  refine rx_iload_n d_SR_sign_19 (by rfl) ?_
  refine rx_cS d_SR_sign_20 ml_SR_80 st_SR_isValue (by exact c9_SR_isValue) (by rfl) (by exact Nat.le_of_ble_eq_true rfl) (c_isValue h1 h2 (nI k) v) ?_
  refine rx_if_ne (tgt := 36) d_SR_sign_23 (by rfl) (fun c23 => ?_) (fun z => absurd z (ite11.mpr hx))
  refine rx_aload_nr d_SR_sign_36 (by rfl) ?_
  refine rx_getfield d_SR_sign_37 fl_SR_14 c1 (by rfl) ?_
  refine rx_iload_n d_SR_sign_40 (by rfl) ?_
  refine rx_iload_n d_SR_sign_41 (by rfl) ?_
  refine rx_cV d_SR_sign_42 (by rfl) ml_SR_86 im_Page_value se_Page_value (by exact c9_Page_value) hp.1 (by rfl) (by exact Nat.le_of_ble_eq_true rfl) (c_value hp (nI b) (nI k)) ?_
  rw [hv1]
  refine rx_istore d_SR_sign_45 (Nat.le_of_ble_eq_true rfl) ?_
  refine rx_iload_n d_SR_sign_47 (by rfl) ?_
  refine rx_iload d_SR_sign_48 (by rfl) ?_
  refine rx_icmp_ne (tgt := 55) d_SR_sign_50 (by rfl) (fun c50 => ?_) (fun z => absurd z hne)
  refine rx_iload_n d_SR_sign_55 (by rfl) ?_
  refine rx_if_eq (tgt := 74) d_SR_sign_56 (by rfl) (fun c56 => ?_) (fun c56 => ?_)
  · refine rx_aload_nr d_SR_sign_74 (by rfl) ?_
    refine rx_getfield d_SR_sign_75 fl_SR_14 c1 (by rfl) ?_
    refine rx_iload_n d_SR_sign_78 (by rfl) ?_
    refine rx_iload_n d_SR_sign_79 (by rfl) ?_
    refine rx_iload_n d_SR_sign_80 (by rfl) ?_
    refine rx_pV d_SR_sign_81 (by rfl) ml_SR_92 im_Page_put se_Page_put (by exact c9_Page_put) hp.1 (by rfl) (by exact Nat.le_of_ble_eq_true rfl) (c_put hp (st.pg hp) hbn hk v) ?_
    intro h1 z9
    obtain ⟨hp1, f1⟩ := z9
    have tt1 := hp.tP
    have c11 := ob_frT c1 f1 tt1 (by unfold tP; omega)
    have hN1 := hN.frT f1 tt1 (by unfold tP; omega) (by unfold tP; omega) (by unfold tP; omega)
    have H1 := H.frT f1 tt1 (by unfold tP; omega) (by unfold tP; omega) (by unfold tP; omega)
    have D1 := D.frT f1 tt1 (by unfold tP; omega) (by unfold tP; omega)
    have S1 := S.frT f1 tt1 (by unfold tP; omega) (by unfold tP; omega) (by unfold tP; omega)
    refine rx_aload_nr d_SR_sign_84 (by rfl) ?_
    refine rx_iconst (v := 0) d_SR_sign_85 (by decide) ?_
    refine rx_putfield d_SR_sign_86 (fw_SR_95 rfl) c11 (Nat.le_of_ble_eq_true rfl) (by rfl) (by rfl) ?_
    have c12 := rx_rd_wr (e := .inr (0, [.ref (A 1), .ref (A 5), .ref (A 7), .ref (A 11), .ref (A 13), .int (bi false), .int fa])) c11
    have f2 : rx_fr V h1 _ (fun x => x = A 0) := rx_fr.wr (e := .inr (0, [.ref (A 1), .ref (A 5), .ref (A 7), .ref (A 11), .ref (A 13), .int (bi false), .int fa])) c11 rfl
    have tt2 := tO_of c11
    have hp2 := hp1.frT f2 tt2 (by unfold tO; omega) (by unfold tO; omega) (by unfold tO; omega)
    have hN2 := hN1.frT f2 tt2 (by unfold tO; omega) (by unfold tO; omega) (by unfold tO; omega)
    have H2 := H1.frT f2 tt2 (by unfold tO; omega) (by unfold tO; omega) (by unfold tO; omega)
    have D2 := D1.frT f2 tt2 (by unfold tO; omega) (by unfold tO; omega)
    have S2 := S1.frT f2 tt2 (by unfold tO; omega) (by unfold tO; omega) (by unfold tO; omega)
    refine rx_aload_nr d_SR_sign_89 (by rfl) ?_
    refine rx_getfield d_SR_sign_90 fl_SR_42 c12 (by rfl) ?_
    refine rx_pV d_SR_sign_93 (by rfl) ml_SR_74 im_Sounding_forget se_Sounding_forget (by exact c9_Sounding_forget) S2.1 (by rfl) (by exact Nat.le_of_ble_eq_true rfl) (c_forget S2) ?_
    intro h3 z9
    obtain ⟨S3, f3⟩ := z9
    have tt3 := S2.tS
    have c13 := ob_frT c12 f3 tt3 (by unfold tS; omega)
    have hp3 := hp2.frT f3 tt3 (by unfold tS; omega) (by unfold tS; omega) (by unfold tS; omega)
    have hN3 := hN2.frT f3 tt3 (by unfold tS; omega) (by unfold tS; omega) (by unfold tS; omega)
    have H3 := H2.frT f3 tt3 (by unfold tS; omega) (by unfold tS; omega) (by unfold tS; omega)
    have D3 := D2.frT f3 tt3 (by unfold tS; omega) (by unfold tS; omega)
    refine rx_iconst (v := 1) d_SR_sign_96 (by decide) ?_
    refine rx_zreturn d_SR_sign_97 (by rfl) (by rfl) ?_
    refine ⟨rfl, ⟨false, -1, fa, fw, fA, fE, fG, numR, R, N0, jm, wo, wy, tk, f, m9, fF, fI, ⟨c13, hp3, hN3, H3, hE, hG, D3, S3⟩, ⟨fun z => (nomatch z), fun z => absurd rfl z⟩, st⟩, (((f1.mo (fun q z => ?_)).tr (f2.mo (fun q z => ?_))).tr (f3.mo (fun q z => ?_))).gr, by have e3 := f3.1; rw [rx_wr_len] at e3; have e1 := f1.1; omega⟩
    · obtain z | z | z := z
      · rw [z]; exact fpA 2 (by omega)
      · rw [z]; exact fpA 3 (by omega)
      · rw [z]; exact fpA 4 (by omega)
    · rw [z]; exact fpA 0 (by omega)
    · obtain z | z | z := z
      · rw [z]; exact fpA 13 (by omega)
      · rw [z]; exact fpA 14 (by omega)
      · rw [z]; exact fpA 15 (by omega)
  · refine rx_iload d_SR_sign_59 (by rfl) ?_
    refine rx_if_eq (tgt := 74) d_SR_sign_61 (by rfl) (fun c61 => ?_) (fun z => absurd (hy.resolve_left c56) z)
    refine rx_aload_nr d_SR_sign_74 (by rfl) ?_
    refine rx_getfield d_SR_sign_75 fl_SR_14 c1 (by rfl) ?_
    refine rx_iload_n d_SR_sign_78 (by rfl) ?_
    refine rx_iload_n d_SR_sign_79 (by rfl) ?_
    refine rx_iload_n d_SR_sign_80 (by rfl) ?_
    refine rx_pV d_SR_sign_81 (by rfl) ml_SR_92 im_Page_put se_Page_put (by exact c9_Page_put) hp.1 (by rfl) (by exact Nat.le_of_ble_eq_true rfl) (c_put hp (st.pg hp) hbn hk v) ?_
    intro h1 z9
    obtain ⟨hp1, f1⟩ := z9
    have tt1 := hp.tP
    have c11 := ob_frT c1 f1 tt1 (by unfold tP; omega)
    have hN1 := hN.frT f1 tt1 (by unfold tP; omega) (by unfold tP; omega) (by unfold tP; omega)
    have H1 := H.frT f1 tt1 (by unfold tP; omega) (by unfold tP; omega) (by unfold tP; omega)
    have D1 := D.frT f1 tt1 (by unfold tP; omega) (by unfold tP; omega)
    have S1 := S.frT f1 tt1 (by unfold tP; omega) (by unfold tP; omega) (by unfold tP; omega)
    refine rx_aload_nr d_SR_sign_84 (by rfl) ?_
    refine rx_iconst (v := 0) d_SR_sign_85 (by decide) ?_
    refine rx_putfield d_SR_sign_86 (fw_SR_95 rfl) c11 (Nat.le_of_ble_eq_true rfl) (by rfl) (by rfl) ?_
    have c12 := rx_rd_wr (e := .inr (0, [.ref (A 1), .ref (A 5), .ref (A 7), .ref (A 11), .ref (A 13), .int (bi false), .int fa])) c11
    have f2 : rx_fr V h1 _ (fun x => x = A 0) := rx_fr.wr (e := .inr (0, [.ref (A 1), .ref (A 5), .ref (A 7), .ref (A 11), .ref (A 13), .int (bi false), .int fa])) c11 rfl
    have tt2 := tO_of c11
    have hp2 := hp1.frT f2 tt2 (by unfold tO; omega) (by unfold tO; omega) (by unfold tO; omega)
    have hN2 := hN1.frT f2 tt2 (by unfold tO; omega) (by unfold tO; omega) (by unfold tO; omega)
    have H2 := H1.frT f2 tt2 (by unfold tO; omega) (by unfold tO; omega) (by unfold tO; omega)
    have D2 := D1.frT f2 tt2 (by unfold tO; omega) (by unfold tO; omega)
    have S2 := S1.frT f2 tt2 (by unfold tO; omega) (by unfold tO; omega) (by unfold tO; omega)
    refine rx_aload_nr d_SR_sign_89 (by rfl) ?_
    refine rx_getfield d_SR_sign_90 fl_SR_42 c12 (by rfl) ?_
    refine rx_pV d_SR_sign_93 (by rfl) ml_SR_74 im_Sounding_forget se_Sounding_forget (by exact c9_Sounding_forget) S2.1 (by rfl) (by exact Nat.le_of_ble_eq_true rfl) (c_forget S2) ?_
    intro h3 z9
    obtain ⟨S3, f3⟩ := z9
    have tt3 := S2.tS
    have c13 := ob_frT c12 f3 tt3 (by unfold tS; omega)
    have hp3 := hp2.frT f3 tt3 (by unfold tS; omega) (by unfold tS; omega) (by unfold tS; omega)
    have hN3 := hN2.frT f3 tt3 (by unfold tS; omega) (by unfold tS; omega) (by unfold tS; omega)
    have H3 := H2.frT f3 tt3 (by unfold tS; omega) (by unfold tS; omega) (by unfold tS; omega)
    have D3 := D2.frT f3 tt3 (by unfold tS; omega) (by unfold tS; omega)
    refine rx_iconst (v := 1) d_SR_sign_96 (by decide) ?_
    refine rx_zreturn d_SR_sign_97 (by rfl) (by rfl) ?_
    refine ⟨rfl, ⟨false, -1, fa, fw, fA, fE, fG, numR, R, N0, jm, wo, wy, tk, f, m9, fF, fI, ⟨c13, hp3, hN3, H3, hE, hG, D3, S3⟩, ⟨fun z => (nomatch z), fun z => absurd rfl z⟩, st⟩, (((f1.mo (fun q z => ?_)).tr (f2.mo (fun q z => ?_))).tr (f3.mo (fun q z => ?_))).gr, by have e3 := f3.1; rw [rx_wr_len] at e3; have e1 := f1.1; omega⟩
    · obtain z | z | z := z
      · rw [z]; exact fpA 2 (by omega)
      · rw [z]; exact fpA 3 (by omega)
      · rw [z]; exact fpA 4 (by omega)
    · rw [z]; exact fpA 0 (by omega)
    · obtain z | z | z := z
      · rw [z]; exact fpA 13 (by omega)
      · rw [z]; exact fpA 14 (by omega)
      · rw [z]; exact fpA 15 (by omega)
end C3
