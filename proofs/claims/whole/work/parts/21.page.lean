/-! Page: what its reads answer -/
theorem i_lt {a b : Int32} : a < b ↔ a.toInt < b.toInt := Int32.lt_iff_toInt_lt
theorem i_le {a b : Int32} : a ≤ b ↔ a.toInt ≤ b.toInt := Int32.le_iff_toInt_le
theorem i_0 : (0 : Int32).toInt = 0 := Int32.toInt_zero
theorem i_10 : (10 : Int32).toInt = 10 := by decide
theorem i_n {n : Nat} (h : n ≤ 1000000) : (nI n).toInt = (n : Int) := nI_toInt (by omega)
theorem i_ix {n : Nat} {b : Int32} (hn : n ≤ 1000000) (h1 : ¬ b < 0) (h2 : ¬ nI n ≤ b) : ∃ j, j < n ∧ b = nI j := by
  rw [i_lt, i_0] at h1
  rw [i_le, i_n hn] at h2
  exact vp_in_of (vp_in_iff.mpr ⟨by omega, by omega⟩) (by omega)
theorem i_cl {n : Nat} (h : n ≤ 1000000) : (nI n).toNatClampNeg = n := nI_clamp (by omega)
/-- the page's cells -/
def is_pg (V : rx_V) (h : List va_E) (a n al at_ av : Nat) (Le Te Va : Nat → Int32) : Prop :=
  rx_rd V h a = some (.inr (1, [.int (nI n), .ref al, .ref at_, .ref av])) ∧ rx_rd V h al = some (.inl (V.2.2.2.1 0, n, .inl Le)) ∧ rx_rd V h at_ = some (.inl (V.2.2.2.1 0, n, .inl Te)) ∧ rx_rd V h av = some (.inl (V.2.2.2.1 0, 10 * n, .inl Va)) ∧ n ≤ 20
def pgh (n : Nat) (b : Int32) : Int32 := if 0 ≤ b.toInt ∧ b.toInt < n then 1 else 0
def pgl (n : Nat) (Le : Nat → Int32) (b : Int32) : Int32 := if 0 ≤ b.toInt ∧ b.toInt < n then Le b.toInt.toNat else 0
def pgv (n : Nat) (Va : Nat → Int32) (b k : Int32) : Int32 := if 0 ≤ b.toInt ∧ b.toInt < n ∧ 0 ≤ k.toInt ∧ k.toInt < 10 then Va (10 * b.toInt.toNat + k.toInt.toNat) else 0
def bI (p : Prop) (inst : Decidable p) : Int32 := @ite _ p inst 1 0
theorem pgh_0 {n : Nat} {b : Int32} (h : b < 0) : pgh n b = 0 := by
  rw [i_lt, i_0] at h
  exact if_neg (by omega)
theorem pgh_n {n : Nat} {b : Int32} (hn : n ≤ 1000000) (h : nI n ≤ b) : pgh n b = 0 := by
  rw [i_le, i_n hn] at h
  exact if_neg (by omega)
theorem pgh_1 {n : Nat} {b : Int32} (hn : n ≤ 1000000) (h1 : ¬ b < 0) (h2 : ¬ nI n ≤ b) : pgh n b = 1 := by
  rw [i_lt, i_0] at h1
  rw [i_le, i_n hn] at h2
  exact if_pos (by omega)
theorem pgh_in {n : Nat} {b : Int32} (h : ¬ pgh n b = 0) : ∃ j, j < n ∧ 0 ≤ b.toInt ∧ b.toInt < n := by
  unfold pgh at h
  by_cases z : 0 ≤ b.toInt ∧ b.toInt < n
  · exact ⟨b.toInt.toNat, by omega, z⟩
  · rw [if_neg z] at h; exact absurd rfl h
theorem pgl_0 {n : Nat} {Le : Nat → Int32} {b : Int32} (h : pgh n b = 0) : pgl n Le b = 0 := by
  unfold pgh at h
  unfold pgl
  by_cases z : 0 ≤ b.toInt ∧ b.toInt < n
  · rw [if_pos z] at h; exact absurd h (by decide)
  · rw [if_neg z]
theorem pgl_1 {n : Nat} {Le : Nat → Int32} {b : Int32} (hn : n ≤ 20) (h : ¬ pgh n b = 0) : vp_in b n ∧ pgl n Le b = Le b.toNatClampNeg := by
  unfold pgh at h
  unfold pgl
  by_cases z : 0 ≤ b.toInt ∧ b.toInt < n
  · rw [if_pos z]
    have hv := vp_in_iff.mpr z
    obtain ⟨j, hj, rfl⟩ := vp_in_of hv (by omega)
    exact ⟨hv, by rw [i_cl (by omega), i_n (by omega)]; rfl⟩
  · rw [if_neg z] at h; exact absurd rfl h
theorem pgv_ix {n : Nat} {b k : Int32} (hn : n ≤ 20) (h1 : ¬ b < 0) (h2 : ¬ nI n ≤ b) (h3 : ¬ k < 0) (h4 : ¬ 10 ≤ k) : vp_in (b * 10 + k) (10 * n) ∧ (b * 10 + k).toNatClampNeg = 10 * b.toInt.toNat + k.toInt.toNat := by
  obtain ⟨j, hj, rfl⟩ := i_ix (by omega) h1 h2
  obtain ⟨i, hi, rfl⟩ := i_ix (n := 10) (by omega) h3 h4
  have e : nI j * 10 + nI i = nI (j * 10 + i) := by rw [show (10 : Int32) = nI 10 from rfl, pk_mul, nI_add]
  rw [e, i_cl (by omega), i_n (by omega), i_n (by omega)]
  exact ⟨vp_in_nI (by omega) (by omega), by omega⟩
theorem pgv_b0 {n : Nat} {Va : Nat → Int32} {b k : Int32} (h : b < 0) : pgv n Va b k = 0 := by
  rw [i_lt, i_0] at h
  exact if_neg (by omega)
theorem pgv_b1 {n : Nat} {Va : Nat → Int32} {b k : Int32} (hn : n ≤ 20) (h : nI n ≤ b) : pgv n Va b k = 0 := by
  rw [i_le, i_n (by omega)] at h
  exact if_neg (by omega)
theorem pgv_k0 {n : Nat} {Va : Nat → Int32} {b k : Int32} (h : k < 0) : pgv n Va b k = 0 := by
  rw [i_lt, i_0] at h
  exact if_neg (by omega)
theorem pgv_k1 {n : Nat} {Va : Nat → Int32} {b k : Int32} (h : 10 ≤ k) : pgv n Va b k = 0 := by
  rw [i_le, i_10] at h
  exact if_neg (by omega)
theorem pgv_1 {n : Nat} {Va : Nat → Int32} {b k : Int32} (hn : n ≤ 20) (h1 : ¬ b < 0) (h2 : ¬ nI n ≤ b) (h3 : ¬ k < 0) (h4 : ¬ 10 ≤ k) : pgv n Va b k = Va (b * 10 + k).toNatClampNeg := by
  rw [(pgv_ix hn h1 h2 h3 h4).2]
  rw [i_lt, i_0] at h1 h3
  rw [i_le, i_n (by omega)] at h2
  rw [i_le, i_10] at h4
  exact if_pos (by omega)
theorem pgv_n {n : Nat} {Va : Nat → Int32} {b k : Nat} (hn : n ≤ 20) (hb : b < n) (hk : k < 10) : pgv n Va (nI b) (nI k) = Va (10 * b + k) := by
  unfold pgv
  rw [i_n (by omega), i_n (by omega), if_pos (by omega)]
  rfl
theorem pgh_nn {n b : Nat} (hn : n ≤ 20) (hb : b < n) : pgh n (nI b) = 1 := by
  unfold pgh
  rw [i_n (by omega), if_pos (by omega)]
theorem pgl_n {n b : Nat} {Le : Nat → Int32} (hn : n ≤ 20) (hb : b < n) : pgl n Le (nI b) = Le b := by
  unfold pgl
  rw [i_n (by omega), if_pos (by omega)]
  rfl
section PG
variable {V : rx_V} {d kc ks a n al at_ av : Nat} {h : List va_E} {Le Te Va : Nat → Int32}
theorem c_hasBar (hp : is_pg V h a n al at_ av Le Te Va) (b : Int32) : rx_C V d kc ks m_Page_hasBar [.ref a, .int b] h (rx_X (.inl (some (.int (pgh n b)))) h) := by
  have hn : n ≤ 20 := hp.2.2.2.2
  refine rx_iload_n d_Page_hasBar_0 (by rfl) ?_
  refine rx_if_lt (tgt := 16) d_Page_hasBar_1 (by rfl) (fun c1 => ?_) (fun c1 => ?_)
  · refine rx_iconst (v := 0) d_Page_hasBar_16 (by decide) ?_
    refine rx_zreturn d_Page_hasBar_17 (by rfl) (by rfl) ?_
    exact ⟨by first | rw [pgh_0 ‹_›] | rw [pgh_n (by omega) ‹_›] | rw [pgh_1 (by omega) ‹_› ‹_›], rfl⟩
  · refine rx_iload_n d_Page_hasBar_4 (by rfl) ?_
    refine rx_aload_nr d_Page_hasBar_5 (by rfl) ?_
    refine rx_getfield d_Page_hasBar_6 fl_Page_9 hp.1 (by rfl) ?_
    refine rx_icmp_ge (tgt := 16) d_Page_hasBar_9 (by rfl) (fun c9 => ?_) (fun c9 => ?_)
    · refine rx_iconst (v := 0) d_Page_hasBar_16 (by decide) ?_
      refine rx_zreturn d_Page_hasBar_17 (by rfl) (by rfl) ?_
      exact ⟨by first | rw [pgh_0 ‹_›] | rw [pgh_n (by omega) ‹_›] | rw [pgh_1 (by omega) ‹_› ‹_›], rfl⟩
    · refine rx_iconst (v := 1) d_Page_hasBar_12 (by decide) ?_
      refine rx_goto (tgt := 17) d_Page_hasBar_13 (by rfl) ?_
      refine rx_zreturn d_Page_hasBar_17 (by rfl) (by rfl) ?_
      exact ⟨by first | rw [pgh_0 ‹_›] | rw [pgh_n (by omega) ‹_›] | rw [pgh_1 (by omega) ‹_› ‹_›], rfl⟩
theorem c_value (hp : is_pg V h a n al at_ av Le Te Va) (b k : Int32) : rx_C V d kc ks m_Page_value [.ref a, .int b, .int k] h (rx_X (.inl (some (.int (pgv n Va b k)))) h) := by
  have hn : n ≤ 20 := hp.2.2.2.2
  refine rx_iload_n d_Page_value_0 (by rfl) ?_
  refine rx_if_lt (tgt := 26) d_Page_value_1 (by rfl) (fun c1 => ?_) (fun c1 => ?_)
  · refine rx_iconst (v := 0) d_Page_value_26 (by decide) ?_
    refine rx_istore_n d_Page_value_27 (Nat.le_of_ble_eq_true rfl) ?_
    refine rx_iload_n d_Page_value_28 (by rfl) ?_
    refine rx_if_eq (tgt := 46) d_Page_value_29 (by rfl) (fun _ => ?_) (fun z => absurd z (by decide))
    refine rx_iconst (v := 0) d_Page_value_46 (by decide) ?_
    refine rx_ireturn d_Page_value_47 (by rfl) ?_
    exact ⟨by first | rw [pgv_b0 ‹_›] | rw [pgv_b1 hn ‹_›] | rw [pgv_k0 ‹_›] | rw [pgv_k1 ‹_›] | rw [pgv_1 hn c1 c9 c13 c19], rfl⟩
  · refine rx_iload_n d_Page_value_4 (by rfl) ?_
    refine rx_aload_nr d_Page_value_5 (by rfl) ?_
    refine rx_getfield d_Page_value_6 fl_Page_9 hp.1 (by rfl) ?_
    refine rx_icmp_ge (tgt := 26) d_Page_value_9 (by rfl) (fun c9 => ?_) (fun c9 => ?_)
    · refine rx_iconst (v := 0) d_Page_value_26 (by decide) ?_
      refine rx_istore_n d_Page_value_27 (Nat.le_of_ble_eq_true rfl) ?_
      refine rx_iload_n d_Page_value_28 (by rfl) ?_
      refine rx_if_eq (tgt := 46) d_Page_value_29 (by rfl) (fun _ => ?_) (fun z => absurd z (by decide))
      refine rx_iconst (v := 0) d_Page_value_46 (by decide) ?_
      refine rx_ireturn d_Page_value_47 (by rfl) ?_
      exact ⟨by first | rw [pgv_b0 ‹_›] | rw [pgv_b1 hn ‹_›] | rw [pgv_k0 ‹_›] | rw [pgv_k1 ‹_›] | rw [pgv_1 hn c1 c9 c13 c19], rfl⟩
    · refine rx_iload_n d_Page_value_12 (by rfl) ?_
      refine rx_if_lt (tgt := 26) d_Page_value_13 (by rfl) (fun c13 => ?_) (fun c13 => ?_)
      · refine rx_iconst (v := 0) d_Page_value_26 (by decide) ?_
        refine rx_istore_n d_Page_value_27 (Nat.le_of_ble_eq_true rfl) ?_
        refine rx_iload_n d_Page_value_28 (by rfl) ?_
        refine rx_if_eq (tgt := 46) d_Page_value_29 (by rfl) (fun _ => ?_) (fun z => absurd z (by decide))
        refine rx_iconst (v := 0) d_Page_value_46 (by decide) ?_
        refine rx_ireturn d_Page_value_47 (by rfl) ?_
        exact ⟨by first | rw [pgv_b0 ‹_›] | rw [pgv_b1 hn ‹_›] | rw [pgv_k0 ‹_›] | rw [pgv_k1 ‹_›] | rw [pgv_1 hn c1 c9 c13 c19], rfl⟩
      · refine rx_iload_n d_Page_value_16 (by rfl) ?_
        refine rx_bipush (v := 10) d_Page_value_17 (by decide) ?_
        refine rx_icmp_ge (tgt := 26) d_Page_value_19 (by rfl) (fun c19 => ?_) (fun c19 => ?_)
        · refine rx_iconst (v := 0) d_Page_value_26 (by decide) ?_
          refine rx_istore_n d_Page_value_27 (Nat.le_of_ble_eq_true rfl) ?_
          refine rx_iload_n d_Page_value_28 (by rfl) ?_
          refine rx_if_eq (tgt := 46) d_Page_value_29 (by rfl) (fun _ => ?_) (fun z => absurd z (by decide))
          refine rx_iconst (v := 0) d_Page_value_46 (by decide) ?_
          refine rx_ireturn d_Page_value_47 (by rfl) ?_
          exact ⟨by first | rw [pgv_b0 ‹_›] | rw [pgv_b1 hn ‹_›] | rw [pgv_k0 ‹_›] | rw [pgv_k1 ‹_›] | rw [pgv_1 hn c1 c9 c13 c19], rfl⟩
        · refine rx_iconst (v := 1) d_Page_value_22 (by decide) ?_
          refine rx_goto (tgt := 27) d_Page_value_23 (by rfl) ?_
          refine rx_istore_n d_Page_value_27 (Nat.le_of_ble_eq_true rfl) ?_
          refine rx_iload_n d_Page_value_28 (by rfl) ?_
          refine rx_if_eq (tgt := 46) d_Page_value_29 (by rfl) (fun z => absurd z (by decide)) (fun _ => ?_)
          refine rx_aload_nr d_Page_value_32 (by rfl) ?_
          refine rx_getfield d_Page_value_33 fl_Page_22 hp.1 (by rfl) ?_
          refine rx_iload_n d_Page_value_36 (by rfl) ?_
          refine rx_bipush (v := 10) d_Page_value_37 (by decide) ?_
          refine rx_imul d_Page_value_39 ?_
          refine rx_iload_n d_Page_value_40 (by rfl) ?_
          refine rx_iadd d_Page_value_41 ?_
          refine rx_iaload d_Page_value_42 (by rfl) hp.2.2.2.1 (pgv_ix hn c1 c9 c13 c19).1 ?_
          refine rx_goto (tgt := 47) d_Page_value_43 (by rfl) ?_
          refine rx_ireturn d_Page_value_47 (by rfl) ?_
          exact ⟨by first | rw [pgv_b0 ‹_›] | rw [pgv_b1 hn ‹_›] | rw [pgv_k0 ‹_›] | rw [pgv_k1 ‹_›] | rw [pgv_1 hn c1 c9 c13 c19], rfl⟩
theorem c_lengthOf (hp : is_pg V h a n al at_ av Le Te Va) (b : Int32) : rx_C V (d + 1) kc ks m_Page_lengthOf [.ref a, .int b] h (rx_X (.inl (some (.int (pgl n Le b)))) h) := by
  have hn : n ≤ 20 := hp.2.2.2.2
  refine rx_aload_nr d_Page_lengthOf_0 (by rfl) ?_
  refine rx_iload_n d_Page_lengthOf_1 (by rfl) ?_
  refine rx_cV d_Page_lengthOf_2 (by rfl) ml_Page_31 im_Page_hasBar se_Page_hasBar (by exact c9_Page_hasBar) hp.1 (by rfl) (by exact Nat.le_of_ble_eq_true rfl) (c_hasBar hp b) ?_
  refine rx_if_eq (tgt := 17) d_Page_lengthOf_5 (by rfl) (fun c5 => ?_) (fun c5 => ?_)
  · refine rx_iconst (v := 0) d_Page_lengthOf_17 (by decide) ?_
    refine rx_ireturn d_Page_lengthOf_18 (by rfl) ?_
    exact ⟨by first | rw [pgl_0 ‹_›] | rw [(pgl_1 (Le := Le) hn c5).2], rfl⟩
  · refine rx_aload_nr d_Page_lengthOf_8 (by rfl) ?_
    refine rx_getfield d_Page_lengthOf_9 fl_Page_15 hp.1 (by rfl) ?_
    refine rx_iload_n d_Page_lengthOf_12 (by rfl) ?_
    refine rx_iaload d_Page_lengthOf_13 (by rfl) hp.2.1 (pgl_1 (Le := Le) hn c5).1 ?_
    refine rx_goto (tgt := 18) d_Page_lengthOf_14 (by rfl) ?_
    refine rx_ireturn d_Page_lengthOf_18 (by rfl) ?_
    exact ⟨by first | rw [pgl_0 ‹_›] | rw [(pgl_1 (Le := Le) hn c5).2], rfl⟩
theorem c_tempoOf (hp : is_pg V h a n al at_ av Le Te Va) (b : Int32) : rx_C V (d + 1) kc ks m_Page_tempoOf [.ref a, .int b] h (rx_X (.inl (some (.int (pgl n Te b)))) h) := by
  have hn : n ≤ 20 := hp.2.2.2.2
  refine rx_aload_nr d_Page_tempoOf_0 (by rfl) ?_
  refine rx_iload_n d_Page_tempoOf_1 (by rfl) ?_
  refine rx_cV d_Page_tempoOf_2 (by rfl) ml_Page_31 im_Page_hasBar se_Page_hasBar (by exact c9_Page_hasBar) hp.1 (by rfl) (by exact Nat.le_of_ble_eq_true rfl) (c_hasBar hp b) ?_
  refine rx_if_eq (tgt := 17) d_Page_tempoOf_5 (by rfl) (fun c5 => ?_) (fun c5 => ?_)
  · refine rx_iconst (v := 0) d_Page_tempoOf_17 (by decide) ?_
    refine rx_ireturn d_Page_tempoOf_18 (by rfl) ?_
    exact ⟨by first | rw [pgl_0 ‹_›] | rw [(pgl_1 (Le := Te) hn c5).2], rfl⟩
  · refine rx_aload_nr d_Page_tempoOf_8 (by rfl) ?_
    refine rx_getfield d_Page_tempoOf_9 fl_Page_19 hp.1 (by rfl) ?_
    refine rx_iload_n d_Page_tempoOf_12 (by rfl) ?_
    refine rx_iaload d_Page_tempoOf_13 (by rfl) hp.2.2.1 (pgl_1 (Le := Le) hn c5).1 ?_
    refine rx_goto (tgt := 18) d_Page_tempoOf_14 (by rfl) ?_
    refine rx_ireturn d_Page_tempoOf_18 (by rfl) ?_
    exact ⟨by first | rw [pgl_0 ‹_›] | rw [(pgl_1 (Le := Te) hn c5).2], rfl⟩
theorem c_has (hp : is_pg V h a n al at_ av Le Te Va) (b k : Int32) : rx_C V (d + 1) kc ks m_Page_has [.ref a, .int b, .int k] h (rx_X (.inl (some (.int (if pgv n Va b k = 0 then 0 else 1)))) h) := by
  refine rx_aload_nr d_Page_has_0 (by rfl) ?_
  refine rx_iload_n d_Page_has_1 (by rfl) ?_
  refine rx_iload_n d_Page_has_2 (by rfl) ?_
  refine rx_cV d_Page_has_3 (by rfl) ml_Page_38 im_Page_value se_Page_value (by exact c9_Page_value) hp.1 (by rfl) (by exact Nat.le_of_ble_eq_true rfl) (c_value hp b k) ?_
  refine rx_if_eq (tgt := 13) d_Page_has_6 (by rfl) (fun c6 => ?_) (fun c6 => ?_)
  · refine rx_iconst (v := 0) d_Page_has_13 (by decide) ?_
    refine rx_zreturn d_Page_has_14 (by rfl) (by rfl) ?_
    exact ⟨by first | rw [if_pos c6] | rw [if_neg c6], rfl⟩
  · refine rx_iconst (v := 1) d_Page_has_9 (by decide) ?_
    refine rx_goto (tgt := 14) d_Page_has_10 (by rfl) ?_
    refine rx_zreturn d_Page_has_14 (by rfl) (by rfl) ?_
    exact ⟨by first | rw [if_pos c6] | rw [if_neg c6], rfl⟩
theorem c_passBit (p : Int32) : rx_C V d kc ks m_Page_passBit [.int p] h (rx_X (.inl (some (.int (1 <<< ((p - 1) &&& 31))))) h) := by
  refine rx_iconst (v := 1) d_Page_passBit_0 (by decide) ?_
  refine rx_iload_n d_Page_passBit_1 (by rfl) ?_
  refine rx_iconst (v := 1) d_Page_passBit_2 (by decide) ?_
  refine rx_isub d_Page_passBit_3 ?_
  refine rx_ishl d_Page_passBit_4 ?_
  refine rx_ireturn d_Page_passBit_5 (by rfl) ?_
  exact ⟨rfl, rfl⟩
theorem c_hasPass (hp : is_pg V h a n al at_ av Le Te Va) (b p : Int32) : rx_C V (d + 1) kc ks m_Page_hasPass [.ref a, .int b, .int p] h (rx_X (.inl (some (.int (if pgv n Va b 2 &&& (1 <<< ((p - 1) &&& 31)) = 0 then 0 else 1)))) h) := by
  refine rx_aload_nr d_Page_hasPass_0 (by rfl) ?_
  refine rx_iload_n d_Page_hasPass_1 (by rfl) ?_
  refine rx_iconst (v := 2) d_Page_hasPass_2 (by decide) ?_
  refine rx_cV d_Page_hasPass_3 (by rfl) ml_Page_38 im_Page_value se_Page_value (by exact c9_Page_value) hp.1 (by rfl) (by exact Nat.le_of_ble_eq_true rfl) (c_value hp b 2) ?_
  refine rx_iload_n d_Page_hasPass_6 (by rfl) ?_
  refine rx_cS d_Page_hasPass_7 ml_Page_42 st_Page_passBit (by exact c9_Page_passBit) (by rfl) (by exact Nat.le_of_ble_eq_true rfl) (c_passBit p) ?_
  refine rx_iand d_Page_hasPass_10 ?_
  refine rx_if_eq (tgt := 18) d_Page_hasPass_11 (by rfl) (fun c11 => ?_) (fun c11 => ?_)
  · refine rx_iconst (v := 0) d_Page_hasPass_18 (by decide) ?_
    refine rx_zreturn d_Page_hasPass_19 (by rfl) (by rfl) ?_
    exact ⟨by first | rw [if_pos c11] | rw [if_neg c11], rfl⟩
  · refine rx_iconst (v := 1) d_Page_hasPass_14 (by decide) ?_
    refine rx_goto (tgt := 19) d_Page_hasPass_15 (by rfl) ?_
    refine rx_zreturn d_Page_hasPass_19 (by rfl) (by rfl) ?_
    exact ⟨by first | rw [if_pos c11] | rw [if_neg c11], rfl⟩
end PG
