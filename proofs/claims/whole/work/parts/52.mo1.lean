/-! the reference's object, as one stretch of seventeen cells -/
abbrev mT : Type := (Nat → Int32) × (Nat → Int64) × (Nat → Nat → Int32)
def sS (S : mT) (i : Nat) (v : Int32) : mT := (up S.1 i v, S.2)
def sL (S : mT) (i : Nat) (v : Int64) : mT := (S.1, up S.2.1 i v, S.2.2)
def sA (S : mT) (j i : Nat) (v : Int32) : mT := (S.1, S.2.1, up S.2.2 j (up (S.2.2 j) i v))
def mfl (a : Nat) (S : mT) : List Value := [.ref (a + 1), .int (S.1 1), .int (S.1 2), .ref (a + 2), .ref (a + 3), .ref (a + 4), .int (S.1 6), .ref (a + 5), .ref (a + 6), .ref (a + 7), .ref (a + 8), .ref (a + 9), .ref (a + 10), .int (S.1 13), .ref (a + 11), .ref (a + 12), .ref (a + 13), .ref (a + 14), .ref (a + 15), .int (S.1 19), .int (S.1 20), .int (S.1 21), .int (S.1 22), .int (S.1 23), .int (S.1 24), .ref (a + 16), .long (S.2.1 26), .long (S.2.1 27), .long (S.2.1 28)]
def mc (V : rx_V) (a : Nat) (S : mT) : List va_E := [.inr (8, mfl a S), .inl (V.2.2.2.1 0, 10, .inl (S.2.2 1)), .inl (V.2.2.2.1 0, 20, .inl (S.2.2 2)), .inl (V.2.2.2.1 0, 20, .inl (S.2.2 3)), .inl (V.2.2.2.1 0, 200, .inl (S.2.2 4)), .inl (V.2.2.2.1 0, 40, .inl (S.2.2 5)), .inl (V.2.2.2.1 0, 40, .inl (S.2.2 6)), .inl (V.2.2.2.1 0, 40, .inl (S.2.2 7)), .inl (V.2.2.2.1 0, 40, .inl (S.2.2 8)), .inl (V.2.2.2.1 0, 40, .inl (S.2.2 9)), .inl (V.2.2.2.1 2, 40, .inl (S.2.2 10)), .inl (V.2.2.2.1 0, 20, .inl (S.2.2 11)), .inl (V.2.2.2.1 0, 20, .inl (S.2.2 12)), .inl (V.2.2.2.1 0, 20, .inl (S.2.2 13)), .inl (V.2.2.2.1 0, 20, .inl (S.2.2 14)), .inl (V.2.2.2.1 0, 20, .inl (S.2.2 15)), .inl (V.2.2.2.1 0, 400, .inl (S.2.2 16))]
def mw (V : rx_V) (h1 : List va_E) (a : Nat) (S : mT) (h2 : List va_E) : List va_E := h1 ++ (mc V a S ++ h2)
section MW
variable {V : rx_V} {d kc ks : Nat} {M : rx_T} {pc : Nat} {L : rx_L} {St : List Value} {h h1 h2 : List va_E} {Q : rx_R → List va_E → Prop} {a : Nat} {S S' : mT}
theorem mrd {j : Nat} {e : va_E} (ha : a = V.2.1 + h1.length) (hj : (mc V a S)[j]? = some e) : rx_rd V (mw V h1 a S h2) (a + j) = some e := by
  have hl : j < (mc V a S).length := (List.getElem?_eq_some_iff.mp hj).1
  unfold rx_rd mw
  rw [if_pos (by omega), List.getElem?_append_right (by omega), List.getElem?_append_left (by omega), show a + j - V.2.1 - h1.length = j by omega]
  exact hj
theorem mr0 (ha : a = V.2.1 + h1.length) : rx_rd V (mw V h1 a S h2) a = some (.inr (8, mfl a S)) := mrd (j := 0) ha rfl
theorem mwr {j : Nat} {e : va_E} (ha : a = V.2.1 + h1.length) (hl : j < 17) (hS : (mc V a S).set j e = mc V a S') : rx_wr V (mw V h1 a S h2) (a + j) e = mw V h1 a S' h2 := by
  have hl2 : (mc V a S).length = 17 := rfl
  unfold rx_wr mw
  rw [List.set_append_right _ _ (by omega), show a + j - V.2.1 - h1.length = j by omega, List.set_append_left _ _ (by omega), hS]
theorem m_putI {index k9 : Nat} {v : Int32} {ty : FieldType} (ha : a = V.2.1 + h1.length) (hd : decode M.2.1 pc = .ok (.putfield index, 3)) (hF : rx_fw M index 8 k9 ty) (hn : narrow ty (.int v) = .int v) (hfit : fits ty (.int v) = true) (hS : (mfl a S).set k9 (.int v) = mfl a (sS S k9 v))
    (kk : rx_W V d kc ks M (pc + 3) L St (mw V h1 a (sS S k9 v) h2) Q) : rx_W V d kc ks M pc L (.int v :: .ref a :: St) (mw V h1 a S h2) Q := by
  have hk : k9 < (mfl a S).length := by
    obtain ⟨C, T, N, ty0, hc, hk, -⟩ := hF
    have e : some (C, T, N) = some ("ScoreRoadsModel", F_Mo, 29) := hc.symm.trans rfl
    cases e
    exact hk
  refine rx_putfield hd hF (mr0 ha) hk hn hfit ?_
  rw [hS, show rx_wr V (mw V h1 a S h2) a (.inr (8, mfl a (sS S k9 v))) = mw V h1 a (sS S k9 v) h2 from mwr (j := 0) ha (by decide) rfl]
  exact kk
theorem m_putL {index k9 : Nat} {v : Int64} {ty : FieldType} (ha : a = V.2.1 + h1.length) (hd : decode M.2.1 pc = .ok (.putfield index, 3)) (hF : rx_fw M index 8 k9 ty) (hn : narrow ty (.long v) = .long v) (hfit : fits ty (.long v) = true) (hS : (mfl a S).set k9 (.long v) = mfl a (sL S k9 v))
    (kk : rx_W V d kc ks M (pc + 3) L St (mw V h1 a (sL S k9 v) h2) Q) : rx_W V d kc ks M pc L (.long v :: .ref a :: St) (mw V h1 a S h2) Q := by
  have hk : k9 < (mfl a S).length := by
    obtain ⟨C, T, N, ty0, hc, hk, -⟩ := hF
    have e : some (C, T, N) = some ("ScoreRoadsModel", F_Mo, 29) := hc.symm.trans rfl
    cases e
    exact hk
  refine rx_putfield hd hF (mr0 ha) hk hn hfit ?_
  rw [hS, show rx_wr V (mw V h1 a S h2) a (.inr (8, mfl a (sL S k9 v))) = mw V h1 a (sL S k9 v) h2 from mwr (j := 0) ha (by decide) rfl]
  exact kk
theorem m_ial {j i n : Nat} {f : Nat → Int32} (ha : a = V.2.1 + h1.length) (hd : decode M.2.1 pc = .ok (.iaload, 1)) (hj : (mc V a S)[j]? = some (.inl (V.2.2.2.1 0, n, .inl f))) (hi : i < n) (hn : n ≤ 1000)
    (kk : rx_W V d kc ks M (pc + 1) L (.int (f i) :: St) (mw V h1 a S h2) Q) : rx_W V d kc ks M pc L (.int (nI i) :: .ref (a + j) :: St) (mw V h1 a S h2) Q := by
  refine rx_iaload hd rfl (mrd ha hj) (vp_in_nI hi (by omega)) ?_
  rw [i_cl (by omega)]
  exact kk
theorem m_bal {j i n : Nat} {f : Nat → Int32} (ha : a = V.2.1 + h1.length) (hd : decode M.2.1 pc = .ok (.baload, 1)) (hj : (mc V a S)[j]? = some (.inl (V.2.2.2.1 2, n, .inl f))) (hi : i < n) (hn : n ≤ 1000)
    (kk : rx_W V d kc ks M (pc + 1) L (.int (f i) :: St) (mw V h1 a S h2) Q) : rx_W V d kc ks M pc L (.int (nI i) :: .ref (a + j) :: St) (mw V h1 a S h2) Q := by
  refine rx_zaload hd rfl (mrd ha hj) (vp_in_nI hi (by omega)) ?_
  rw [i_cl (by omega)]
  exact kk
theorem m_ias {j i n : Nat} {f : Nat → Int32} {x : Int32} (ha : a = V.2.1 + h1.length) (hd : decode M.2.1 pc = .ok (.iastore, 1)) (hj : (mc V a S)[j]? = some (.inl (V.2.2.2.1 0, n, .inl f))) (hi : i < n) (hn : n ≤ 1000) (hS : (mc V a S).set j (.inl (V.2.2.2.1 0, n, .inl (up f i x))) = mc V a (sA S j i x)) (hl : j < 17)
    (kk : rx_W V d kc ks M (pc + 1) L St (mw V h1 a (sA S j i x) h2) Q) : rx_W V d kc ks M pc L (.int x :: .int (nI i) :: .ref (a + j) :: St) (mw V h1 a S h2) Q := by
  refine rx_iastore hd rfl (mrd ha hj) (vp_in_nI hi (by omega)) ?_
  rw [i_cl (by omega), up_upd, mwr ha hl hS]
  exact kk
theorem m_bas {j i n : Nat} {f : Nat → Int32} {x : Int32} (ha : a = V.2.1 + h1.length) (hd : decode M.2.1 pc = .ok (.bastore, 1)) (hj : (mc V a S)[j]? = some (.inl (V.2.2.2.1 2, n, .inl f))) (hi : i < n) (hn : n ≤ 1000) (hx : vp_nar .boolean x = x) (hS : (mc V a S).set j (.inl (V.2.2.2.1 2, n, .inl (up f i x))) = mc V a (sA S j i x)) (hl : j < 17)
    (kk : rx_W V d kc ks M (pc + 1) L St (mw V h1 a (sA S j i x) h2) Q) : rx_W V d kc ks M pc L (.int x :: .int (nI i) :: .ref (a + j) :: St) (mw V h1 a S h2) Q := by
  refine rx_zastore hd rfl (mrd ha hj) (vp_in_nI hi (by omega)) ?_
  rw [i_cl (by omega), hx, up_upd, mwr ha hl hS]
  exact kk
end MW
/-- the bars of the reference -/
def mN (n : Nat) (S : mT) : Prop := S.1 2 = nI n ∧ 0 < n ∧ n ≤ 20
def hbn (n : Nat) (Va : Nat → Int32) (k b : Nat) : Bool := decide (b < n) && hb Va k b
def sgn (n : Nat) (Va : Nat → Int32) (b k : Nat) : Int32 := if b < n then Va (10 * b + k) else 0
theorem sgn_1 {n b k : Nat} {Va : Nat → Int32} (h : b < n) : sgn n Va b k = Va (10 * b + k) := if_pos h
theorem sgn_0 {n b k : Nat} {Va : Nat → Int32} (h : ¬ b < n) : sgn n Va b k = 0 := if_neg h
theorem hbn_1 {n b k : Nat} {Va : Nat → Int32} (h : b < n) : hbn n Va k b = hb Va k b := by
  unfold hbn
  rw [decide_eq_true h, Bool.true_and]
theorem hbn_0 {n b k : Nat} {Va : Nat → Int32} (h : ¬ b < n) : hbn n Va k b = false := by
  unfold hbn
  rw [decide_eq_false h, Bool.false_and]
theorem iwn_nI {n b : Nat} (hn : 0 < n) (hn2 : n ≤ 1000) (hb : b ≤ 1000) : iwn (nI b) 0 (nI n - 1) = 0 ↔ ¬ b < n := by
  have e : (nI n - 1).toInt = (n : Int) - 1 := by
    cases n with
    | zero => omega
    | succ j => rw [show nI (j + 1) - 1 = nI j from nI_pred j, i_n (by omega)]; omega
  unfold iwn
  rw [ite10, i_le, i_0, i_le, e, i_n (by omega)]
  omega
theorem iwn_pgh {n : Nat} {b : Int32} (hn : 0 < n) (hn2 : n ≤ 1000) : iwn b 0 (nI n - 1) = pgh n b := by
  have e : (nI n - 1).toInt = (n : Int) - 1 := by
    cases n with
    | zero => omega
    | succ j => rw [show nI (j + 1) - 1 = nI j from nI_pred j, i_n (by omega)]; omega
  unfold iwn pgh
  simp only [i_le, i_0, e]
  by_cases z : 0 ≤ b.toInt ∧ b.toInt < n
  · rw [if_pos z, if_pos (by omega)]
  · rw [if_neg z, if_neg (by omega)]
theorem vok_pos {n b k : Nat} {Va : Nat → Int32} (hv : vok n Va) (h : b < n) (hk : k < 10) : Va (10 * b + k) ≤ 0 ↔ Va (10 * b + k) = 0 := by
  rw [i_le, i_0]
  constructor
  · intro z
    obtain e | e := hv b k h hk
    · exact e
    · have : 1 ≤ vlo k := by unfold vlo; split <;> omega
      omega
  · intro z; rw [z]; decide
theorem nI_dec {i : Nat} (h : 1 ≤ i) : nI i + Int32.ofInt (-1) = nI (i - 1) := by
  cases i with
  | zero => omega
  | succ j =>
    rw [Nat.add_sub_cancel, ← nI_pred j, Int32.sub_eq_add_neg]
    rfl
theorem iwn_nar {x l u : Int32} : narrow .boolean (.int (iwn x l u)) = .int (iwn x l u) := by
  unfold iwn
  by_cases z : l ≤ x ∧ x ≤ u
  · rw [if_pos z]; rfl
  · rw [if_neg z]; rfl
theorem pgh_nar {n : Nat} {b : Int32} : narrow .boolean (.int (pgh n b)) = .int (pgh n b) := by
  unfold pgh
  by_cases z : 0 ≤ b.toInt ∧ b.toInt < n
  · rw [if_pos z]; rfl
  · rw [if_neg z]; rfl
theorem bi_nar {b : Bool} : narrow .boolean (.int (bi b)) = .int (bi b) := by cases b <;> rfl
theorem bi_01 {b : Bool} : bi b = 0 ∨ bi b = 1 := by cases b <;> decide
/-- a bit of a mask -/
def inm (m : Int32) (b : Nat) : Bool := decide ((m >>> (nI b &&& 31)) &&& 1 = 1)
section MR
variable {V : rx_V} {d kc ks : Nat} {h h1 h2 : List va_E} {a n : Nat} {S : mT}
theorem k_within (x lo hi : Int32) : rx_C V d kc ks m_Mo_within [.int x, .int lo, .int hi] h (rx_X (.inl (some (.int (iwn x lo hi)))) h) := by
  refine rx_iload_n d_Mo_within_0 (by rfl) ?_
  refine rx_iload_n d_Mo_within_1 (by rfl) ?_
  refine rx_icmp_lt (tgt := 14) d_Mo_within_2 (by rfl) (fun c2 => ?_) (fun c2 => ?_)
  · have z : iwn x lo hi = 0 := if_neg (fun w => i_nlt w.1 c2)
    refine rx_iconst (v := 0) d_Mo_within_14 (by decide) ?_
    refine rx_zreturn d_Mo_within_15 (by rfl) (by rfl) ?_
    exact ⟨by rw [z], rfl⟩
  · refine rx_iload_n d_Mo_within_5 (by rfl) ?_
    refine rx_iload_n d_Mo_within_6 (by rfl) ?_
    refine rx_icmp_gt (tgt := 14) d_Mo_within_7 (by rfl) (fun c7 => ?_) (fun c7 => ?_)
    · have z : iwn x lo hi = 0 := if_neg (fun w => i_nlt w.2 c7)
      refine rx_iconst (v := 0) d_Mo_within_14 (by decide) ?_
      refine rx_zreturn d_Mo_within_15 (by rfl) (by rfl) ?_
      exact ⟨by rw [z], rfl⟩
    · have z : iwn x lo hi = 1 := if_pos ⟨i_nle' c2, i_nle' c7⟩
      refine rx_iconst (v := 1) d_Mo_within_10 (by decide) ?_
      refine rx_goto (tgt := 15) d_Mo_within_11 (by rfl) ?_
      refine rx_zreturn d_Mo_within_15 (by rfl) (by rfl) ?_
      exact ⟨by rw [z], rfl⟩
theorem k_isBar (ha : a = V.2.1 + h1.length) (hN : mN n S) (b : Int32) : rx_C V (d + 1) kc ks m_Mo_isBar [.ref a, .int b] (mw V h1 a S h2) (rx_X (.inl (some (.int (pgh n b)))) (mw V h1 a S h2)) := by
  refine rx_iload_n d_Mo_isBar_0 (by rfl) ?_
  refine rx_iconst (v := 0) d_Mo_isBar_1 (by decide) ?_
  refine rx_aload_nr d_Mo_isBar_2 (by rfl) ?_
  refine rx_getfield d_Mo_isBar_3 fl_Mo_59 (mr0 ha) (by rfl) ?_
  rw [show S.1 2 = nI n from hN.1]
  refine rx_iconst (v := 1) d_Mo_isBar_6 (by decide) ?_
  refine rx_isub d_Mo_isBar_7 ?_
  refine rx_cS d_Mo_isBar_8 ml_Mo_66 st_Mo_within (by exact c9_Mo_within) (by rfl) (by exact Nat.le_of_ble_eq_true rfl) (k_within b 0 (nI n - 1)) ?_
  rw [iwn_pgh hN.2.1 (by have := hN.2.2; omega)]
  refine rx_zreturn d_Mo_isBar_11 (by rfl) pgh_nar ?_
  exact ⟨rfl, rfl⟩
theorem k_isPart (p : Int32) : rx_C V (d + 1) kc ks m_Mo_isPart [.int p] h (rx_X (.inl (some (.int (iwn p 0 2)))) h) := by
  refine rx_iload_n d_Mo_isPart_0 (by rfl) ?_
  refine rx_iconst (v := 0) d_Mo_isPart_1 (by decide) ?_
  refine rx_iconst (v := 2) d_Mo_isPart_2 (by decide) ?_
  refine rx_cS d_Mo_isPart_3 ml_Mo_66 st_Mo_within (by exact c9_Mo_within) (by rfl) (by exact Nat.le_of_ble_eq_true rfl) (k_within p 0 2) ?_
  refine rx_zreturn d_Mo_isPart_6 (by rfl) iwn_nar ?_
  exact ⟨rfl, rfl⟩
theorem k_signOf (ha : a = V.2.1 + h1.length) (hN : mN n S) {b k : Nat} (hb9 : b ≤ 1000) (hk : k < 10) : rx_C V (d + 1) kc ks m_Mo_signOf [.ref a, .int (nI b), .int (nI k)] (mw V h1 a S h2) (rx_X (.inl (some (.int (sgn n (S.2.2 4) b k)))) (mw V h1 a S h2)) := by
  have hn := hN.2
  refine rx_iload_n d_Mo_signOf_0 (by rfl) ?_
  refine rx_iconst (v := 0) d_Mo_signOf_1 (by decide) ?_
  refine rx_aload_nr d_Mo_signOf_2 (by rfl) ?_
  refine rx_getfield d_Mo_signOf_3 fl_Mo_59 (mr0 ha) (by rfl) ?_
  rw [show S.1 2 = nI n from hN.1]
  refine rx_iconst (v := 1) d_Mo_signOf_6 (by decide) ?_
  refine rx_isub d_Mo_signOf_7 ?_
  refine rx_cS d_Mo_signOf_8 ml_Mo_66 st_Mo_within (by exact c9_Mo_within) (by rfl) (by exact Nat.le_of_ble_eq_true rfl) (k_within (nI b) 0 (nI n - 1)) ?_
  refine rx_if_eq (tgt := 28) d_Mo_signOf_11 (by rfl) (fun c11 => ?_) (fun c11 => ?_)
  · rw [sgn_0 ((iwn_nI hn.1 (by omega) hb9).mp c11)]
    refine rx_iconst (v := 0) d_Mo_signOf_28 (by decide) ?_
    refine rx_ireturn d_Mo_signOf_29 (by rfl) ?_
    exact ⟨rfl, rfl⟩
  · have z : b < n := Decidable.not_not.mp (fun z => c11 ((iwn_nI hn.1 (by omega) hb9).mpr z))
    rw [sgn_1 z]
    refine rx_aload_nr d_Mo_signOf_14 (by rfl) ?_
    refine rx_getfield d_Mo_signOf_15 fl_Mo_19 (mr0 ha) (by rfl) ?_
    refine rx_bipush (v := 10) d_Mo_signOf_18 (by decide) ?_
    refine rx_iload_n d_Mo_signOf_20 (by rfl) ?_
    refine rx_imul d_Mo_signOf_21 ?_
    refine rx_iload_n d_Mo_signOf_22 (by rfl) ?_
    refine rx_iadd d_Mo_signOf_23 ?_
    rw [show (10 : Int32) * nI b + nI k = nI (10 * b + k) by rw [show (10 : Int32) = nI 10 from rfl, pk_mul, nI_add]]
    refine m_ial (j := 4) ha d_Mo_signOf_24 (by rfl) (by omega) (by decide) ?_
    refine rx_goto (tgt := 29) d_Mo_signOf_25 (by rfl) ?_
    refine rx_ireturn d_Mo_signOf_29 (by rfl) ?_
    exact ⟨rfl, rfl⟩
theorem k_has (ha : a = V.2.1 + h1.length) (hN : mN n S) (hv : vok n (S.2.2 4)) {b k : Nat} (hb9 : b ≤ 1000) (hk : k < 10) : rx_C V (d + 2) kc ks m_Mo_has [.ref a, .int (nI b), .int (nI k)] (mw V h1 a S h2) (rx_X (.inl (some (.int (bi (hbn n (S.2.2 4) k b))))) (mw V h1 a S h2)) := by
  have e : sgn n (S.2.2 4) b k ≤ 0 ↔ hbn n (S.2.2 4) k b = false := by
    by_cases z : b < n
    · rw [sgn_1 z, hbn_1 z, vok_pos hv z hk, hb_f]
    · rw [sgn_0 z, hbn_0 z]; decide
  refine rx_aload_nr d_Mo_has_0 (by rfl) ?_
  refine rx_iload_n d_Mo_has_1 (by rfl) ?_
  refine rx_iload_n d_Mo_has_2 (by rfl) ?_
  refine rx_cV d_Mo_has_3 (by rfl) ml_Mo_70 im_Mo_signOf se_Mo_signOf (by exact c9_Mo_signOf) (mr0 ha) (by rfl) (by exact Nat.le_of_ble_eq_true rfl) (k_signOf ha hN hb9 hk) ?_
  refine rx_if_le (tgt := 13) d_Mo_has_6 (by rfl) (fun c6 => ?_) (fun c6 => ?_)
  · rw [e.mp c6]
    refine rx_iconst (v := 0) d_Mo_has_13 (by decide) ?_
    refine rx_zreturn d_Mo_has_14 (by rfl) (by rfl) ?_
    exact ⟨rfl, rfl⟩
  · rw [show hbn n (S.2.2 4) k b = true from by cases z : hbn n (S.2.2 4) k b with | true => rfl | false => exact absurd (e.mpr z) c6]
    refine rx_iconst (v := 1) d_Mo_has_9 (by decide) ?_
    refine rx_goto (tgt := 14) d_Mo_has_10 (by rfl) ?_
    refine rx_zreturn d_Mo_has_14 (by rfl) (by rfl) ?_
    exact ⟨rfl, rfl⟩
theorem k_in (m : Int32) {b : Nat} (hb9 : b ≤ 31) : rx_C V d kc ks m_Mo_in [.int m, .int (nI b)] h (rx_X (.inl (some (.int (bi (inm m b))))) h) := by
  refine rx_iload_n d_Mo_in_0 (by rfl) ?_
  refine rx_if_lt (tgt := 17) d_Mo_in_1 (by rfl) (fun z => absurd z (i_nlt (by rw [i_le, i_0, i_n (by omega)]; omega))) (fun c1 => ?_)
  refine rx_iload_n d_Mo_in_4 (by rfl) ?_
  refine rx_iload_n d_Mo_in_5 (by rfl) ?_
  refine rx_ishr d_Mo_in_6 ?_
  refine rx_iconst (v := 1) d_Mo_in_7 (by decide) ?_
  refine rx_iand d_Mo_in_8 ?_
  refine rx_iconst (v := 1) d_Mo_in_9 (by decide) ?_
  refine rx_icmp_ne (tgt := 17) d_Mo_in_10 (by rfl) (fun c10 => ?_) (fun c10 => ?_)
  · rw [show inm m b = false from decide_eq_false c10]
    refine rx_iconst (v := 0) d_Mo_in_17 (by decide) ?_
    refine rx_zreturn d_Mo_in_18 (by rfl) (by rfl) ?_
    exact ⟨rfl, rfl⟩
  · rw [show inm m b = true from decide_eq_true c10]
    refine rx_iconst (v := 1) d_Mo_in_13 (by decide) ?_
    refine rx_goto (tgt := 18) d_Mo_in_14 (by rfl) ?_
    refine rx_zreturn d_Mo_in_18 (by rfl) (by rfl) ?_
    exact ⟨rfl, rfl⟩
theorem l_lowest {m : Int32} {x : Nat} (hx : x ≤ 31) (h1x : inm m x = true) (h2x : ∀ y, y < x → inm m y = false) : ∀ (q i : Nat), i + q = x → rx_W V (d + 1) kc ks m_Mo_lowest 2 [some (.ref a), some (.int m), some (.int (nI i))] [] h (rx_X (.inl (some (.int (nI x)))) h) := by
  intro q
  induction q with
  | zero =>
    intro i hi
    have e : i = x := by omega
    subst e
    refine rx_iload_n d_Mo_lowest_2 (by rfl) ?_
    refine rx_iload_n d_Mo_lowest_3 (by rfl) ?_
    refine rx_cS d_Mo_lowest_4 ml_Mo_94 st_Mo_in (by exact c9_Mo_in) (by rfl) (by exact Nat.le_of_ble_eq_true rfl) (k_in m hx) ?_
    rw [h1x]
    refine rx_if_ne (tgt := 16) d_Mo_lowest_7 (by rfl) (fun c7 => ?_) (fun z => absurd z (show ¬ bi true = 0 by decide))
    refine rx_iload_n d_Mo_lowest_16 (by rfl) ?_
    refine rx_ireturn d_Mo_lowest_17 (by rfl) ?_
    exact ⟨rfl, rfl⟩
  | succ q ih =>
    intro i hi
    refine rx_iload_n d_Mo_lowest_2 (by rfl) ?_
    refine rx_iload_n d_Mo_lowest_3 (by rfl) ?_
    refine rx_cS d_Mo_lowest_4 ml_Mo_94 st_Mo_in (by exact c9_Mo_in) (by rfl) (by exact Nat.le_of_ble_eq_true rfl) (k_in m (b := i) (by omega)) ?_
    rw [h2x i (by omega)]
    refine rx_if_ne (tgt := 16) d_Mo_lowest_7 (by rfl) (fun z => absurd (show bi false = 0 by decide) z) (fun c7 => ?_)
    refine rx_iinc (v := nI (i + 1)) d_Mo_lowest_10 (by rfl) (i_inc i) ?_
    refine rx_goto (tgt := 2) d_Mo_lowest_13 (by rfl) ?_
    exact ih (i + 1) (by omega)
theorem k_lowest {m : Int32} {x : Nat} (hx : x ≤ 31) (h1x : inm m x = true) (h2x : ∀ y, y < x → inm m y = false) : rx_C V (d + 1) kc ks m_Mo_lowest [.ref a, .int m] h (rx_X (.inl (some (.int (nI x)))) h) := by
  refine rx_iconst (v := 0) d_Mo_lowest_0 (by decide) ?_
  refine rx_istore_n d_Mo_lowest_1 (Nat.le_of_ble_eq_true rfl) ?_
  exact l_lowest hx h1x h2x x 0 (by omega)
theorem l_highest {m : Int32} {x : Nat} (h1x : inm m x = true) (h2x : ∀ y, x < y → y ≤ 31 → inm m y = false) : ∀ (q i : Nat), i = x + q → i ≤ 31 → rx_W V (d + 1) kc ks m_Mo_highest 3 [some (.ref a), some (.int m), some (.int (nI i))] [] h (rx_X (.inl (some (.int (nI x)))) h) := by
  intro q
  induction q with
  | zero =>
    intro i hi hi9
    have e : i = x := by omega
    subst e
    refine rx_iload_n d_Mo_highest_3 (by rfl) ?_
    refine rx_iload_n d_Mo_highest_4 (by rfl) ?_
    refine rx_cS d_Mo_highest_5 ml_Mo_94 st_Mo_in (by exact c9_Mo_in) (by rfl) (by exact Nat.le_of_ble_eq_true rfl) (k_in m hi9) ?_
    rw [h1x]
    refine rx_if_ne (tgt := 17) d_Mo_highest_8 (by rfl) (fun c8 => ?_) (fun z => absurd z (show ¬ bi true = 0 by decide))
    refine rx_iload_n d_Mo_highest_17 (by rfl) ?_
    refine rx_ireturn d_Mo_highest_18 (by rfl) ?_
    exact ⟨rfl, rfl⟩
  | succ q ih =>
    intro i hi hi9
    refine rx_iload_n d_Mo_highest_3 (by rfl) ?_
    refine rx_iload_n d_Mo_highest_4 (by rfl) ?_
    refine rx_cS d_Mo_highest_5 ml_Mo_94 st_Mo_in (by exact c9_Mo_in) (by rfl) (by exact Nat.le_of_ble_eq_true rfl) (k_in m (b := i) hi9) ?_
    rw [h2x i (by omega) hi9]
    refine rx_if_ne (tgt := 17) d_Mo_highest_8 (by rfl) (fun z => absurd (show bi false = 0 by decide) z) (fun c8 => ?_)
    refine rx_iinc (v := nI (i - 1)) d_Mo_highest_11 (by rfl) (nI_dec (by omega)) ?_
    refine rx_goto (tgt := 3) d_Mo_highest_14 (by rfl) ?_
    exact ih (i - 1) (by omega) (by omega)
theorem k_highest {m : Int32} {x : Nat} (hx : x ≤ 31) (h1x : inm m x = true) (h2x : ∀ y, x < y → y ≤ 31 → inm m y = false) : rx_C V (d + 1) kc ks m_Mo_highest [.ref a, .int m] h (rx_X (.inl (some (.int (nI x)))) h) := by
  refine rx_bipush (v := 31) d_Mo_highest_0 (by decide) ?_
  refine rx_istore_n d_Mo_highest_2 (Nat.le_of_ble_eq_true rfl) ?_
  exact l_highest h1x h2x (31 - x) 31 (by omega) (by omega)
theorem l_withEnding (ha : a = V.2.1 + h1.length) {m0 b : Nat} (hm : S.1 13 = nI m0) (hm2 : m0 ≤ 20) (hb9 : b ≤ 31) : ∀ (m i : Nat), i + m = m0 → rx_W V (d + 1) kc ks m_Mo_withEnding 2 [some (.ref a), some (.int (nI b)), some (.int (nI i))] [] (mw V h1 a S h2) (rx_X (.inl (some (.int (onx (fix (fun r => inm (S.2.2 13 r) b) i m))))) (mw V h1 a S h2)) := by
  intro m
  induction m with
  | zero =>
    intro i hi
    have e : i = m0 := by omega
    subst e
    refine rx_iload_n d_Mo_withEnding_2 (by rfl) ?_
    refine rx_aload_nr d_Mo_withEnding_3 (by rfl) ?_
    refine rx_getfield d_Mo_withEnding_4 fl_Mo_97 (mr0 ha) (by rfl) ?_
    rw [hm]
    refine rx_icmp_ge (tgt := 31) d_Mo_withEnding_7 (by rfl) (fun c7 => ?_) (fun z => absurd (Int32.le_refl _) z)
    refine rx_iconst (v := -1) d_Mo_withEnding_31 (by decide) ?_
    refine rx_ireturn d_Mo_withEnding_32 (by rfl) ?_
    exact ⟨rfl, rfl⟩
  | succ m ih =>
    intro i hi
    refine rx_iload_n d_Mo_withEnding_2 (by rfl) ?_
    refine rx_aload_nr d_Mo_withEnding_3 (by rfl) ?_
    refine rx_getfield d_Mo_withEnding_4 fl_Mo_97 (mr0 ha) (by rfl) ?_
    rw [hm]
    refine rx_icmp_ge (tgt := 31) d_Mo_withEnding_7 (by rfl) (fun z => absurd z (nI_ge (by omega) (by omega))) (fun c7 => ?_)
    refine rx_aload_nr d_Mo_withEnding_10 (by rfl) ?_
    refine rx_getfield d_Mo_withEnding_11 fl_Mo_47 (mr0 ha) (by rfl) ?_
    refine rx_iload_n d_Mo_withEnding_14 (by rfl) ?_
    refine m_ial (j := 13) ha d_Mo_withEnding_15 (by rfl) (by omega) (by decide) ?_
    refine rx_iload_n d_Mo_withEnding_16 (by rfl) ?_
    refine rx_cS d_Mo_withEnding_17 ml_Mo_94 st_Mo_in (by exact c9_Mo_in) (by rfl) (by exact Nat.le_of_ble_eq_true rfl) (k_in _ hb9) ?_
    refine rx_if_eq (tgt := 25) d_Mo_withEnding_20 (by rfl) (fun c20 => ?_) (fun c20 => ?_)
    · rw [show fix (fun r => inm (S.2.2 13 r) b) i (m + 1) = fix (fun r => inm (S.2.2 13 r) b) (i + 1) m from fix_no (bi_0.mp c20)]
      refine rx_iinc (v := nI (i + 1)) d_Mo_withEnding_25 (by rfl) (i_inc i) ?_
      refine rx_goto (tgt := 2) d_Mo_withEnding_28 (by rfl) ?_
      exact ih (i + 1) (by omega)
    · rw [show fix (fun r => inm (S.2.2 13 r) b) i (m + 1) = some i from fix_yes (bi_1.mp c20)]
      refine rx_iload_n d_Mo_withEnding_23 (by rfl) ?_
      refine rx_ireturn d_Mo_withEnding_24 (by rfl) ?_
      exact ⟨rfl, rfl⟩
theorem k_withEnding (ha : a = V.2.1 + h1.length) {m0 b : Nat} (hm : S.1 13 = nI m0) (hm2 : m0 ≤ 20) (hb9 : b ≤ 31) : rx_C V (d + 1) kc ks m_Mo_withEnding [.ref a, .int (nI b)] (mw V h1 a S h2) (rx_X (.inl (some (.int (onx (fix (fun r => inm (S.2.2 13 r) b) 0 m0))))) (mw V h1 a S h2)) := by
  refine rx_iconst (v := 0) d_Mo_withEnding_0 (by decide) ?_
  refine rx_istore_n d_Mo_withEnding_1 (Nat.le_of_ble_eq_true rfl) ?_
  exact l_withEnding ha hm hm2 hb9 m0 0 (by omega)
theorem l_withEnd (ha : a = V.2.1 + h1.length) {m0 b : Nat} (hm : S.1 13 = nI m0) (hm2 : m0 ≤ 20) (hb9 : b ≤ 31) : ∀ (m i : Nat), i + m = m0 → rx_W V (d + 1) kc ks m_Mo_withEnd 2 [some (.ref a), some (.int (nI b)), some (.int (nI i))] [] (mw V h1 a S h2) (rx_X (.inl (some (.int (onx (fix (fun r => inm (S.2.2 12 r) b) i m))))) (mw V h1 a S h2)) := by
  intro m
  induction m with
  | zero =>
    intro i hi
    have e : i = m0 := by omega
    subst e
    refine rx_iload_n d_Mo_withEnd_2 (by rfl) ?_
    refine rx_aload_nr d_Mo_withEnd_3 (by rfl) ?_
    refine rx_getfield d_Mo_withEnd_4 fl_Mo_97 (mr0 ha) (by rfl) ?_
    rw [hm]
    refine rx_icmp_ge (tgt := 31) d_Mo_withEnd_7 (by rfl) (fun c7 => ?_) (fun z => absurd (Int32.le_refl _) z)
    refine rx_iconst (v := -1) d_Mo_withEnd_31 (by decide) ?_
    refine rx_ireturn d_Mo_withEnd_32 (by rfl) ?_
    exact ⟨rfl, rfl⟩
  | succ m ih =>
    intro i hi
    refine rx_iload_n d_Mo_withEnd_2 (by rfl) ?_
    refine rx_aload_nr d_Mo_withEnd_3 (by rfl) ?_
    refine rx_getfield d_Mo_withEnd_4 fl_Mo_97 (mr0 ha) (by rfl) ?_
    rw [hm]
    refine rx_icmp_ge (tgt := 31) d_Mo_withEnd_7 (by rfl) (fun z => absurd z (nI_ge (by omega) (by omega))) (fun c7 => ?_)
    refine rx_aload_nr d_Mo_withEnd_10 (by rfl) ?_
    refine rx_getfield d_Mo_withEnd_11 fl_Mo_44 (mr0 ha) (by rfl) ?_
    refine rx_iload_n d_Mo_withEnd_14 (by rfl) ?_
    refine m_ial (j := 12) ha d_Mo_withEnd_15 (by rfl) (by omega) (by decide) ?_
    refine rx_iload_n d_Mo_withEnd_16 (by rfl) ?_
    refine rx_cS d_Mo_withEnd_17 ml_Mo_94 st_Mo_in (by exact c9_Mo_in) (by rfl) (by exact Nat.le_of_ble_eq_true rfl) (k_in _ hb9) ?_
    refine rx_if_eq (tgt := 25) d_Mo_withEnd_20 (by rfl) (fun c20 => ?_) (fun c20 => ?_)
    · rw [show fix (fun r => inm (S.2.2 12 r) b) i (m + 1) = fix (fun r => inm (S.2.2 12 r) b) (i + 1) m from fix_no (bi_0.mp c20)]
      refine rx_iinc (v := nI (i + 1)) d_Mo_withEnd_25 (by rfl) (i_inc i) ?_
      refine rx_goto (tgt := 2) d_Mo_withEnd_28 (by rfl) ?_
      exact ih (i + 1) (by omega)
    · rw [show fix (fun r => inm (S.2.2 12 r) b) i (m + 1) = some i from fix_yes (bi_1.mp c20)]
      refine rx_iload_n d_Mo_withEnd_23 (by rfl) ?_
      refine rx_ireturn d_Mo_withEnd_24 (by rfl) ?_
      exact ⟨rfl, rfl⟩
theorem k_withEnd (ha : a = V.2.1 + h1.length) {m0 b : Nat} (hm : S.1 13 = nI m0) (hm2 : m0 ≤ 20) (hb9 : b ≤ 31) : rx_C V (d + 1) kc ks m_Mo_withEnd [.ref a, .int (nI b)] (mw V h1 a S h2) (rx_X (.inl (some (.int (onx (fix (fun r => inm (S.2.2 12 r) b) 0 m0))))) (mw V h1 a S h2)) := by
  refine rx_iconst (v := 0) d_Mo_withEnd_0 (by decide) ?_
  refine rx_istore_n d_Mo_withEnd_1 (Nat.le_of_ble_eq_true rfl) ?_
  exact l_withEnd ha hm hm2 hb9 m0 0 (by omega)
theorem l_lastStart (ha : a = V.2.1 + h1.length) (hN : mN n S) (hv : vok n (S.2.2 4)) {f t : Nat} (hf : t < n) : ∀ (m i : Nat) (s : Int32), i + m = t + 1 → f ≤ i → s = Int32.ofInt (lwf (hb (S.2.2 4) 0) f i) → rx_W V (d + 3) kc ks m_Mo_lastStart 5 [some (.ref a), some (.int (nI f)), some (.int (nI t)), some (.int s), some (.int (nI i))] [] (mw V h1 a S h2) (rx_X (.inl (some (.int (Int32.ofInt (lwf (hb (S.2.2 4) 0) f (t + 1)))))) (mw V h1 a S h2)) := by
  have hn := hN.2
  intro m
  induction m with
  | zero =>
    intro i s hi hfi hs
    have e : i = t + 1 := by omega
    subst e
    refine rx_iload d_Mo_lastStart_5 (by rfl) ?_
    refine rx_iload_n d_Mo_lastStart_7 (by rfl) ?_
    refine rx_icmp_gt (tgt := 34) d_Mo_lastStart_8 (by rfl) (fun c8 => ?_) (fun z => absurd (nI_lt (by omega) (by omega)) z)
    refine rx_iload_n d_Mo_lastStart_34 (by rfl) ?_
    refine rx_ireturn d_Mo_lastStart_35 (by rfl) ?_
    exact ⟨by rw [hs], rfl⟩
  | succ m ih =>
    intro i s hi hfi hs
    refine rx_iload d_Mo_lastStart_5 (by rfl) ?_
    refine rx_iload_n d_Mo_lastStart_7 (by rfl) ?_
    refine rx_icmp_gt (tgt := 34) d_Mo_lastStart_8 (by rfl) (fun z => absurd z (nI_nlt (by omega) (by omega))) (fun c8 => ?_)
    refine rx_aload_nr d_Mo_lastStart_11 (by rfl) ?_
    refine rx_iload d_Mo_lastStart_12 (by rfl) ?_
    refine rx_iconst (v := 0) d_Mo_lastStart_14 (by decide) ?_
    refine rx_cV d_Mo_lastStart_15 (by rfl) ml_Mo_90 im_Mo_has se_Mo_has (by exact c9_Mo_has) (mr0 ha) (by rfl) (by exact Nat.le_of_ble_eq_true rfl) (k_has ha hN hv (b := i) (k := 0) (by omega) (by omega)) ?_
    rw [hbn_1 (show i < n by omega)]
    refine rx_if_eq (tgt := 26) d_Mo_lastStart_18 (by rfl) (fun c18 => ?_) (fun c18 => ?_)
    · refine rx_iload_n d_Mo_lastStart_26 (by rfl) ?_
      refine rx_istore_n d_Mo_lastStart_27 (Nat.le_of_ble_eq_true rfl) ?_
      refine rx_iinc (v := nI (i + 1)) d_Mo_lastStart_28 (by rfl) (i_inc i) ?_
      refine rx_goto (tgt := 5) d_Mo_lastStart_31 (by rfl) ?_
      refine ih (i + 1) _ (by omega) (by omega) ?_
      first | (rw [lwf_no (by omega) (bi_0.mp c18)]; exact hs) | (rw [lwf_yes (by omega) (bi_1.mp c18)]; exact (i_ofI i).symm)
    · refine rx_iload d_Mo_lastStart_21 (by rfl) ?_
      refine rx_goto (tgt := 27) d_Mo_lastStart_23 (by rfl) ?_
      refine rx_istore_n d_Mo_lastStart_27 (Nat.le_of_ble_eq_true rfl) ?_
      refine rx_iinc (v := nI (i + 1)) d_Mo_lastStart_28 (by rfl) (i_inc i) ?_
      refine rx_goto (tgt := 5) d_Mo_lastStart_31 (by rfl) ?_
      refine ih (i + 1) _ (by omega) (by omega) ?_
      first | (rw [lwf_no (by omega) (bi_0.mp c18)]; exact hs) | (rw [lwf_yes (by omega) (bi_1.mp c18)]; exact (i_ofI i).symm)
theorem k_lastStart (ha : a = V.2.1 + h1.length) (hN : mN n S) (hv : vok n (S.2.2 4)) {f t : Nat} (hf : t < n) (hf2 : f ≤ t + 1) : rx_C V (d + 3) kc ks m_Mo_lastStart [.ref a, .int (nI f), .int (nI t)] (mw V h1 a S h2) (rx_X (.inl (some (.int (Int32.ofInt (lwf (hb (S.2.2 4) 0) f (t + 1)))))) (mw V h1 a S h2)) := by
  have z0 : lwf (hb (S.2.2 4) 0) f f = -1 := lwf_m1.mpr (fun j h1 h2 => absurd h1 (by omega))
  refine rx_iconst (v := -1) d_Mo_lastStart_0 (by decide) ?_
  refine rx_istore_n d_Mo_lastStart_1 (Nat.le_of_ble_eq_true rfl) ?_
  refine rx_iload_n d_Mo_lastStart_2 (by rfl) ?_
  refine rx_istore d_Mo_lastStart_3 (Nat.le_of_ble_eq_true rfl) ?_
  exact l_lastStart ha hN hv hf (t + 1 - f) f (-1) (by omega) (by omega) (by rw [z0]; rfl)
theorem l_isThere (ha : a = V.2.1 + h1.length) (hN : mN n S) (hv : vok n (S.2.2 4)) {k f : Nat} {t : Int32} (hk : k < 10) {u : Nat} (hu : u ≤ 100) (ht : t.toInt = (u : Int) - 1) : ∀ (m i : Nat) (s : Bool), i + m = u → rx_W V (d + 3) kc ks m_Mo_isThere 6 [some (.ref a), some (.int (nI k)), some (.int (nI f)), some (.int t), some (.int (bi s)), some (.int (nI i))] [] (mw V h1 a S h2) (rx_X (.inl (some (.int (bi (s || (fix (hbn n (S.2.2 4) k) i m).isSome))))) (mw V h1 a S h2)) := by
  intro m
  induction m with
  | zero =>
    intro i s hi
    have e : i = u := by omega
    subst e
    refine rx_iload d_Mo_isThere_6 (by rfl) ?_
    refine rx_iload_n d_Mo_isThere_8 (by rfl) ?_
    refine rx_icmp_gt (tgt := 40) d_Mo_isThere_9 (by rfl) (fun c9 => ?_) (fun z => absurd (show t < nI i by rw [i_lt, ht, i_n (by omega)]; omega) z)
    refine rx_iload d_Mo_isThere_40 (by rfl) ?_
    refine rx_zreturn d_Mo_isThere_42 (by rfl) bi_nar ?_
    exact ⟨by rw [show (fix (hbn n (S.2.2 4) k) i 0).isSome = false from rfl, Bool.or_false], rfl⟩
  | succ m ih =>
    intro i s hi
    refine rx_iload d_Mo_isThere_6 (by rfl) ?_
    refine rx_iload_n d_Mo_isThere_8 (by rfl) ?_
    refine rx_icmp_gt (tgt := 40) d_Mo_isThere_9 (by rfl) (fun z => absurd z (show ¬ t < nI i by rw [i_lt, ht, i_n (by omega)]; omega)) (fun c9 => ?_)
    refine rx_iload d_Mo_isThere_12 (by rfl) ?_
    refine rx_if_ne (tgt := 27) d_Mo_isThere_14 (by rfl) (fun c14 => ?_) (fun c14 => ?_)
    · rw [show (s || (fix (hbn n (S.2.2 4) k) i (m + 1)).isSome) = (true || (fix (hbn n (S.2.2 4) k) (i + 1) m).isSome) from by rw [bi_1.mp c14, Bool.true_or, Bool.true_or]]
      refine rx_iconst (v := 1) d_Mo_isThere_27 (by decide) ?_
      refine rx_goto (tgt := 32) d_Mo_isThere_28 (by rfl) ?_
      refine rx_istore d_Mo_isThere_32 (Nat.le_of_ble_eq_true rfl) ?_
      refine rx_iinc (v := nI (i + 1)) d_Mo_isThere_34 (by rfl) (i_inc i) ?_
      refine rx_goto (tgt := 6) d_Mo_isThere_37 (by rfl) ?_
      first | exact ih (i + 1) true (by omega) | exact ih (i + 1) false (by omega)
    · refine rx_aload_nr d_Mo_isThere_17 (by rfl) ?_
      refine rx_iload d_Mo_isThere_18 (by rfl) ?_
      refine rx_iload_n d_Mo_isThere_20 (by rfl) ?_
      refine rx_cV d_Mo_isThere_21 (by rfl) ml_Mo_90 im_Mo_has se_Mo_has (by exact c9_Mo_has) (mr0 ha) (by rfl) (by exact Nat.le_of_ble_eq_true rfl) (k_has ha hN hv (b := i) (k := k) (by omega) hk) ?_
      refine rx_if_eq (tgt := 31) d_Mo_isThere_24 (by rfl) (fun c24 => ?_) (fun c24 => ?_)
      · rw [show (s || (fix (hbn n (S.2.2 4) k) i (m + 1)).isSome) = (false || (fix (hbn n (S.2.2 4) k) (i + 1) m).isSome) from by rw [bi_0.mp c14, fix_no (bi_0.mp c24)]]
        refine rx_iconst (v := 0) d_Mo_isThere_31 (by decide) ?_
        refine rx_istore d_Mo_isThere_32 (Nat.le_of_ble_eq_true rfl) ?_
        refine rx_iinc (v := nI (i + 1)) d_Mo_isThere_34 (by rfl) (i_inc i) ?_
        refine rx_goto (tgt := 6) d_Mo_isThere_37 (by rfl) ?_
        first | exact ih (i + 1) true (by omega) | exact ih (i + 1) false (by omega)
      · rw [show (s || (fix (hbn n (S.2.2 4) k) i (m + 1)).isSome) = (true || (fix (hbn n (S.2.2 4) k) (i + 1) m).isSome) from by rw [fix_yes (bi_1.mp c24), Bool.true_or, Option.isSome_some, Bool.or_true]]
        refine rx_iconst (v := 1) d_Mo_isThere_27 (by decide) ?_
        refine rx_goto (tgt := 32) d_Mo_isThere_28 (by rfl) ?_
        refine rx_istore d_Mo_isThere_32 (Nat.le_of_ble_eq_true rfl) ?_
        refine rx_iinc (v := nI (i + 1)) d_Mo_isThere_34 (by rfl) (i_inc i) ?_
        refine rx_goto (tgt := 6) d_Mo_isThere_37 (by rfl) ?_
        first | exact ih (i + 1) true (by omega) | exact ih (i + 1) false (by omega)
theorem k_isThere (ha : a = V.2.1 + h1.length) (hN : mN n S) (hv : vok n (S.2.2 4)) {k f : Nat} {t : Int32} (hk : k < 10) {m : Nat} (hu : f + m ≤ 100) (ht : t.toInt = (f : Int) + m - 1) : rx_C V (d + 3) kc ks m_Mo_isThere [.ref a, .int (nI k), .int (nI f), .int t] (mw V h1 a S h2) (rx_X (.inl (some (.int (bi (fix (hbn n (S.2.2 4) k) f m).isSome)))) (mw V h1 a S h2)) := by
  refine rx_iconst (v := 0) d_Mo_isThere_0 (by decide) ?_
  refine rx_istore d_Mo_isThere_1 (Nat.le_of_ble_eq_true rfl) ?_
  refine rx_iload_n d_Mo_isThere_3 (by rfl) ?_
  refine rx_istore d_Mo_isThere_4 (Nat.le_of_ble_eq_true rfl) ?_
  have z := l_isThere (h2 := h2) (d := d) (kc := kc) (ks := ks) ha hN hv (f := f) (t := t) hk (u := f + m) hu (by omega) m f false (by omega)
  rw [Bool.false_or] at z
  exact z
theorem l_firstOf (ha : a = V.2.1 + h1.length) (hN : mN n S) (hv : vok n (S.2.2 4)) {k : Nat} (hk : k < 10) : ∀ (m i : Nat), i + m = n → rx_W V (d + 3) kc ks m_Mo_firstOf 2 [some (.ref a), some (.int (nI k)), some (.int (nI i))] [] (mw V h1 a S h2) (rx_X (.inl (some (.int (nI ((fix (hb (S.2.2 4) k) i m).getD n))))) (mw V h1 a S h2)) := by
  have hn := hN.2
  intro m
  induction m with
  | zero =>
    intro i hi
    have e : i = n := by omega
    subst e
    refine rx_iload_n d_Mo_firstOf_2 (by rfl) ?_
    refine rx_aload_nr d_Mo_firstOf_3 (by rfl) ?_
    refine rx_getfield d_Mo_firstOf_4 fl_Mo_59 (mr0 ha) (by rfl) ?_
    rw [show S.1 2 = nI i from hN.1]
    refine rx_icmp_ge (tgt := 25) d_Mo_firstOf_7 (by rfl) (fun c7 => ?_) (fun z => absurd (Int32.le_refl _) z)
    refine rx_iload_n d_Mo_firstOf_25 (by rfl) ?_
    refine rx_ireturn d_Mo_firstOf_26 (by rfl) ?_
    exact ⟨rfl, rfl⟩
  | succ m ih =>
    intro i hi
    refine rx_iload_n d_Mo_firstOf_2 (by rfl) ?_
    refine rx_aload_nr d_Mo_firstOf_3 (by rfl) ?_
    refine rx_getfield d_Mo_firstOf_4 fl_Mo_59 (mr0 ha) (by rfl) ?_
    rw [show S.1 2 = nI n from hN.1]
    refine rx_icmp_ge (tgt := 25) d_Mo_firstOf_7 (by rfl) (fun z => absurd z (nI_ge (by omega) (by omega))) (fun c7 => ?_)
    refine rx_aload_nr d_Mo_firstOf_10 (by rfl) ?_
    refine rx_iload_n d_Mo_firstOf_11 (by rfl) ?_
    refine rx_iload_n d_Mo_firstOf_12 (by rfl) ?_
    refine rx_cV d_Mo_firstOf_13 (by rfl) ml_Mo_90 im_Mo_has se_Mo_has (by exact c9_Mo_has) (mr0 ha) (by rfl) (by exact Nat.le_of_ble_eq_true rfl) (k_has ha hN hv (b := i) (k := k) (by omega) hk) ?_
    rw [hbn_1 (show i < n by omega)]
    refine rx_if_ne (tgt := 25) d_Mo_firstOf_16 (by rfl) (fun c16 => ?_) (fun c16 => ?_)
    · rw [show fix (hb (S.2.2 4) k) i (m + 1) = some i from fix_yes (bi_1.mp c16)]
      refine rx_iload_n d_Mo_firstOf_25 (by rfl) ?_
      refine rx_ireturn d_Mo_firstOf_26 (by rfl) ?_
      exact ⟨rfl, rfl⟩
    · rw [show fix (hb (S.2.2 4) k) i (m + 1) = fix (hb (S.2.2 4) k) (i + 1) m from fix_no (bi_0.mp c16)]
      refine rx_iinc (v := nI (i + 1)) d_Mo_firstOf_19 (by rfl) (i_inc i) ?_
      refine rx_goto (tgt := 2) d_Mo_firstOf_22 (by rfl) ?_
      exact ih (i + 1) (by omega)
theorem k_firstOf (ha : a = V.2.1 + h1.length) (hN : mN n S) (hv : vok n (S.2.2 4)) {k : Nat} (hk : k < 10) : rx_C V (d + 3) kc ks m_Mo_firstOf [.ref a, .int (nI k)] (mw V h1 a S h2) (rx_X (.inl (some (.int (nI ((fix (hb (S.2.2 4) k) 0 n).getD n))))) (mw V h1 a S h2)) := by
  refine rx_iconst (v := 0) d_Mo_firstOf_0 (by decide) ?_
  refine rx_istore_n d_Mo_firstOf_1 (Nat.le_of_ble_eq_true rfl) ?_
  exact l_firstOf ha hN hv hk n 0 (by omega)
theorem k_thrown (ha : a = V.2.1 + h1.length)  : rx_C V d kc ks m_Mo_thrown [.ref a] (mw V h1 a S h2) (rx_X (.inl (some (.int (S.1 1)))) (mw V h1 a S h2)) := by
  refine rx_aload_nr d_Mo_thrown_0 (by rfl) ?_
  refine rx_getfield d_Mo_thrown_1 fl_Mo_63 (mr0 ha) (by rfl) ?_
  refine rx_ireturn d_Mo_thrown_4 (by rfl) ?_
  exact ⟨rfl, rfl⟩
theorem k_refuse (ha : a = V.2.1 + h1.length) (v : Int32) : rx_C V d kc ks m_Mo_refuse [.ref a, .int v] (mw V h1 a S h2) (rx_X (.inl (some (.int 0))) (mw V h1 a (sS S 1 v) h2)) := by
  refine rx_aload_nr d_Mo_refuse_0 (by rfl) ?_
  refine rx_iload_n d_Mo_refuse_1 (by rfl) ?_
  refine m_putI (k9 := 1) ha d_Mo_refuse_2 (fw_Mo_63 rfl) (by rfl) (by rfl) (by rfl) ?_
  refine rx_iconst (v := 0) d_Mo_refuse_5 (by decide) ?_
  refine rx_ireturn d_Mo_refuse_6 (by rfl) ?_
  exact ⟨rfl, rfl⟩
end MR
