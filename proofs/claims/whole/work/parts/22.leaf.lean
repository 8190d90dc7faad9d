/-! Page.lastWith; Jump; Repeat; Note -/
/-- the last j with P, below m, not below lo; else -1 -/
def lwf (Pr : Nat → Bool) (lo : Int) : Nat → Int
  | 0 => -1
  | j + 1 => if (j : Int) < lo then -1 else if Pr j then j else lwf Pr lo j
theorem lwf_out {Pr : Nat → Bool} {lo : Int} {j : Nat} (h : (j : Int) < lo) : lwf Pr lo (j + 1) = -1 := if_pos h
theorem lwf_no {Pr : Nat → Bool} {lo : Int} {j : Nat} (h : ¬ (j : Int) < lo) (hp : Pr j = false) : lwf Pr lo (j + 1) = lwf Pr lo j := by
  show (if (j : Int) < lo then -1 else if Pr j then (j : Int) else lwf Pr lo j) = _
  rw [if_neg h, hp]; rfl
theorem lwf_yes {Pr : Nat → Bool} {lo : Int} {j : Nat} (h : ¬ (j : Int) < lo) (hp : Pr j = true) : lwf Pr lo (j + 1) = j := by
  show (if (j : Int) < lo then -1 else if Pr j then (j : Int) else lwf Pr lo j) = _
  rw [if_neg h, hp]; rfl
theorem lwm (f : Int32) : (if f < 0 then 0 else f).toInt = max f.toInt 0 := by
  by_cases hf : f < 0
  · rw [if_pos hf]
    rw [i_lt, i_0] at hf
    rw [i_0]; omega
  · rw [if_neg hf]
    rw [i_lt, i_0] at hf
    omega
theorem i_of {b : Int32} {j : Nat} (hj : j ≤ 1000000) (h : b.toInt = j) : b = nI j := Int32.toInt_inj.mp (by rw [h, i_n hj])
theorem i_m1 : (-1 : Int32).toInt = -1 := by decide
theorem i_dec {b : Int32} {j : Nat} (hj : j ≤ 1000000) (h : b.toInt = j) : (b + Int32.ofInt (-1)).toInt = (j : Int) - 1 := by
  rw [i_of hj h]
  cases j with
  | zero => decide
  | succ k =>
    have e : nI (k + 1) + Int32.ofInt (-1) = nI k := pk_m1 k
    rw [e, i_n (by omega)]
    omega
theorem i_ofI (j : Nat) : Int32.ofInt (j : Int) = nI j := Int32.ofInt_eq_ofNat
section LF
variable {V : rx_V} {d kc ks a n al at_ av : Nat} {h : List va_E} {Le Te Va : Nat → Int32}
theorem l_lw0 {k : Nat} (hp : is_pg V h a n al at_ av Le Te Va) (f t b : Int32) (hb : b.toInt < 0) : rx_W V (d + 1) kc ks m_Page_lastWith 24 [some (.ref a), some (.int (nI k)), some (.int f), some (.int t), some (.int b)] [] h (rx_X (.inl (some (.int (-1)))) h) := by
  refine rx_iload d_Page_lastWith_24 (by rfl) ?_
  refine rx_iload_n d_Page_lastWith_26 (by rfl) ?_
  refine rx_iconst (v := 0) d_Page_lastWith_27 (by decide) ?_
  refine rx_max d_Page_lastWith_28 ml_Page_51 (Nat.le_of_ble_eq_true rfl) ?_
  refine rx_icmp_lt (tgt := 58) d_Page_lastWith_31 (by rfl) (fun c31 => ?_) (fun z => absurd (show b < (if f < 0 then 0 else f) by rw [i_lt, lwm]; omega) z)
  refine rx_iconst (v := -1) d_Page_lastWith_58 (by decide) ?_
  refine rx_ireturn d_Page_lastWith_59 (by rfl) ?_
  exact ⟨rfl, rfl⟩
set_option maxHeartbeats 400000 in
theorem l_lastWith (hp : is_pg V h a n al at_ av Le Te Va) {k : Nat} (hk : k < 10) (f t : Int32) : ∀ (j : Nat) (b : Int32), j ≤ n → b.toInt = (j : Int) - 1 → rx_W V (d + 1) kc ks m_Page_lastWith 24 [some (.ref a), some (.int (nI k)), some (.int f), some (.int t), some (.int b)] [] h (rx_X (.inl (some (.int (Int32.ofInt (lwf (fun i => decide (Va (10 * i + k) ≠ 0)) (max f.toInt 0) j))))) h) := by
  have hn : n ≤ 20 := hp.2.2.2.2
  intro j
  induction j with
  | zero =>
    intro b hj hb
    exact l_lw0 hp f t b (by rw [hb]; omega)
  | succ j ih =>
    intro b hj hb
    have hb' : b.toInt = (j : Int) := by rw [hb]; omega
    have hbj : b = nI j := i_of (by omega) hb'
    refine rx_iload d_Page_lastWith_24 (by rfl) ?_
    refine rx_iload_n d_Page_lastWith_26 (by rfl) ?_
    refine rx_iconst (v := 0) d_Page_lastWith_27 (by decide) ?_
    refine rx_max d_Page_lastWith_28 ml_Page_51 (Nat.le_of_ble_eq_true rfl) ?_
    refine rx_icmp_lt (tgt := 58) d_Page_lastWith_31 (by rfl) (fun c31 => ?_) (fun c31 => ?_)
    · rw [i_lt, lwm, hb'] at c31
      refine rx_iconst (v := -1) d_Page_lastWith_58 (by decide) ?_
      refine rx_ireturn d_Page_lastWith_59 (by rfl) ?_
      exact ⟨by rw [lwf_out c31]; rfl, rfl⟩
    · rw [i_lt, lwm, hb'] at c31
      have e : nI j * 10 + nI k = nI (10 * j + k) := by rw [show (10 : Int32) = nI 10 from rfl, pk_mul, nI_add, Nat.mul_comm]
      have e2 : (b * 10 + nI k).toNatClampNeg = 10 * j + k := by rw [hbj, e, i_cl (by omega)]
      refine rx_aload_nr d_Page_lastWith_34 (by rfl) ?_
      refine rx_getfield d_Page_lastWith_35 fl_Page_22 hp.1 (by rfl) ?_
      refine rx_iload d_Page_lastWith_38 (by rfl) ?_
      refine rx_bipush (v := 10) d_Page_lastWith_40 (by decide) ?_
      refine rx_imul d_Page_lastWith_42 ?_
      refine rx_iload_n d_Page_lastWith_43 (by rfl) ?_
      refine rx_iadd d_Page_lastWith_44 ?_
      refine rx_iaload d_Page_lastWith_45 (by rfl) hp.2.2.2.1 (by rw [hbj, e]; exact vp_in_nI (by omega) (by omega)) ?_
      rw [e2]
      refine rx_if_eq (tgt := 52) d_Page_lastWith_46 (by rfl) (fun c46 => ?_) (fun c46 => ?_)
      · refine rx_iinc d_Page_lastWith_52 (by rfl) (by rfl) ?_
        refine rx_goto (tgt := 24) d_Page_lastWith_55 (by rfl) ?_
        exact rx_cons (ih (b + Int32.ofInt (-1)) (by omega) (i_dec (by omega) hb')) (fun r h9 z => ⟨z.1.trans (by rw [lwf_no c31 (by simp [c46])]), z.2⟩)
      · refine rx_iload d_Page_lastWith_49 (by rfl) ?_
        refine rx_ireturn d_Page_lastWith_51 (by rfl) ?_
        exact ⟨by rw [lwf_yes c31 (by simp [c46]), i_ofI, hbj], rfl⟩
theorem c_lastWith (hp : is_pg V h a n al at_ av Le Te Va) {k : Nat} (hk : k < 10) (f t : Int32) : rx_C V (d + 1) kc ks m_Page_lastWith [.ref a, .int (nI k), .int f, .int t] h (rx_X (.inl (some (.int (Int32.ofInt (lwf (fun i => decide (Va (10 * i + k) ≠ 0)) (max f.toInt 0) ((min t.toInt ((n : Int) - 1)) + 1).toNat))))) h) := by
  have hn : n ≤ 20 := hp.2.2.2.2
  have hk0 : ¬ nI k < 0 := by rw [i_lt, i_n (by omega), i_0]; omega
  have hk1 : nI k < 10 := by rw [i_lt, i_n (by omega), i_10]; omega
  have hm : (nI n - 1).toInt = (n : Int) - 1 := by
    cases n with
    | zero => decide
    | succ j => rw [show nI (j + 1) - 1 = nI j from nI_pred j, i_n (by omega)]; omega
  have hmin : (if nI n - 1 < t then nI n - 1 else t).toInt = min t.toInt ((n : Int) - 1) := by
    by_cases hc : nI n - 1 < t
    · rw [if_pos hc, hm]; rw [i_lt, hm] at hc; omega
    · rw [if_neg hc]; rw [i_lt, hm] at hc; omega
  refine rx_iload_n d_Page_lastWith_0 (by rfl) ?_
  refine rx_if_lt (tgt := 10) d_Page_lastWith_1 (by rfl) (fun z => absurd z hk0) (fun c1 => ?_)
  refine rx_iload_n d_Page_lastWith_4 (by rfl) ?_
  refine rx_bipush (v := 10) d_Page_lastWith_5 (by decide) ?_
  refine rx_icmp_lt (tgt := 12) d_Page_lastWith_7 (by rfl) (fun c7 => ?_) (fun z => absurd hk1 z)
  refine rx_iload_n d_Page_lastWith_12 (by rfl) ?_
  refine rx_aload_nr d_Page_lastWith_13 (by rfl) ?_
  refine rx_getfield d_Page_lastWith_14 fl_Page_9 hp.1 (by rfl) ?_
  refine rx_iconst (v := 1) d_Page_lastWith_17 (by decide) ?_
  refine rx_isub d_Page_lastWith_18 ?_
  refine rx_min d_Page_lastWith_19 ml_Page_46 (Nat.le_of_ble_eq_true rfl) ?_
  refine rx_istore d_Page_lastWith_22 (Nat.le_of_ble_eq_true rfl) ?_
  by_cases hneg : (if nI n - 1 < t then nI n - 1 else t).toInt < 0
  · have hz : ((min t.toInt ((n : Int) - 1)) + 1).toNat = 0 := by omega
    rw [hz]
    exact l_lw0 hp f t _ hneg
  · exact l_lastWith hp hk f t _ _ (by omega) (by rw [hmin]; omega)
theorem c_isToSegno (v : Int32) : rx_C V d kc ks m_Jump_isToSegno [.int v] h (rx_X (.inl (some (.int (if (v - 1) - (v - 1) / 2 * 2 = 1 then 1 else 0)))) h) := by
  refine rx_iload_n d_Jump_isToSegno_0 (by rfl) ?_
  refine rx_iconst (v := 1) d_Jump_isToSegno_1 (by decide) ?_
  refine rx_isub d_Jump_isToSegno_2 ?_
  refine rx_iconst (v := 2) d_Jump_isToSegno_3 (by decide) ?_
  refine rx_irem d_Jump_isToSegno_4 (by decide) ?_
  refine rx_iconst (v := 1) d_Jump_isToSegno_5 (by decide) ?_
  refine rx_icmp_ne (tgt := 13) d_Jump_isToSegno_6 (by rfl) (fun c6 => ?_) (fun c6 => ?_)
  · refine rx_iconst (v := 0) d_Jump_isToSegno_13 (by decide) ?_
    refine rx_zreturn d_Jump_isToSegno_14 (by rfl) (by rfl) ?_
    exact ⟨by first | rw [if_neg c6] | rw [if_pos c6], rfl⟩
  · refine rx_iconst (v := 1) d_Jump_isToSegno_9 (by decide) ?_
    refine rx_goto (tgt := 14) d_Jump_isToSegno_10 (by rfl) ?_
    refine rx_zreturn d_Jump_isToSegno_14 (by rfl) (by rfl) ?_
    exact ⟨by first | rw [if_neg c6] | rw [if_pos c6], rfl⟩
theorem c_hasRepeats (v : Int32) : rx_C V d kc ks m_Jump_hasRepeats [.int v] h (rx_X (.inl (some (.int (if v ≤ 6 then 0 else 1)))) h) := by
  refine rx_iload_n d_Jump_hasRepeats_0 (by rfl) ?_
  refine rx_bipush (v := 6) d_Jump_hasRepeats_1 (by decide) ?_
  refine rx_icmp_le (tgt := 10) d_Jump_hasRepeats_3 (by rfl) (fun c3 => ?_) (fun c3 => ?_)
  · refine rx_iconst (v := 0) d_Jump_hasRepeats_10 (by decide) ?_
    refine rx_zreturn d_Jump_hasRepeats_11 (by rfl) (by rfl) ?_
    exact ⟨by first | rw [if_pos c3] | rw [if_neg c3], rfl⟩
  · refine rx_iconst (v := 1) d_Jump_hasRepeats_6 (by decide) ?_
    refine rx_goto (tgt := 11) d_Jump_hasRepeats_7 (by rfl) ?_
    refine rx_zreturn d_Jump_hasRepeats_11 (by rfl) (by rfl) ?_
    exact ⟨by first | rw [if_pos c3] | rw [if_neg c3], rfl⟩
theorem c_way (v : Int32) : rx_C V d kc ks m_Jump_way [.int v] h (rx_X (.inl (some (.int ((v - 1) / 2 - (v - 1) / 2 / 3 * 3)))) h) := by
  refine rx_iload_n d_Jump_way_0 (by rfl) ?_
  refine rx_iconst (v := 1) d_Jump_way_1 (by decide) ?_
  refine rx_isub d_Jump_way_2 ?_
  refine rx_iconst (v := 2) d_Jump_way_3 (by decide) ?_
  refine rx_idiv d_Jump_way_4 (by decide) ?_
  refine rx_iconst (v := 3) d_Jump_way_5 (by decide) ?_
  refine rx_irem d_Jump_way_6 (by decide) ?_
  refine rx_ireturn d_Jump_way_7 (by rfl) ?_
  exact ⟨rfl, rfl⟩
/-- a Repeat's seven numbers -/
def rcl (R : Nat → Int32) : va_E := .inr (4, [.int (R 0), .int (R 1), .int (R 2), .int (R 3), .int (R 4), .int (R 5), .int (R 6)])
/-- a Note's six numbers -/
def ncl (N : Nat → Int32) : va_E := .inr (7, [.int (N 0), .int (N 1), .int (N 2), .int (N 3), .int (N 4), .int (N 5)])
variable {q q2 : Nat} {R N N2 : Nat → Int32}
theorem c_hasEndings (hr : rx_rd V h q = some (rcl R)) : rx_C V d kc ks m_Repeat_hasEndings [.ref q] h (rx_X (.inl (some (.int (if R 3 = -1 then 0 else 1)))) h) := by
  refine rx_aload_nr d_Repeat_hasEndings_0 (by rfl) ?_
  refine rx_getfield d_Repeat_hasEndings_1 fl_Repeat_9 hr (by rfl) ?_
  refine rx_iconst (v := -1) d_Repeat_hasEndings_4 (by decide) ?_
  refine rx_icmp_eq (tgt := 12) d_Repeat_hasEndings_5 (by rfl) (fun c5 => ?_) (fun c5 => ?_)
  · refine rx_iconst (v := 0) d_Repeat_hasEndings_12 (by decide) ?_
    refine rx_zreturn d_Repeat_hasEndings_13 (by rfl) (by rfl) ?_
    exact ⟨by first | rw [if_pos c5] | rw [if_neg c5], rfl⟩
  · refine rx_iconst (v := 1) d_Repeat_hasEndings_8 (by decide) ?_
    refine rx_goto (tgt := 13) d_Repeat_hasEndings_9 (by rfl) ?_
    refine rx_zreturn d_Repeat_hasEndings_13 (by rfl) (by rfl) ?_
    exact ⟨by first | rw [if_pos c5] | rw [if_neg c5], rfl⟩
theorem c_spans (hr : rx_rd V h q = some (rcl R)) (b : Int32) : rx_C V d kc ks m_Repeat_spans [.ref q, .int b] h (rx_X (.inl (some (.int (if b < R 0 ∨ R 2 < b then 0 else 1)))) h) := by
  refine rx_iload_n d_Repeat_spans_0 (by rfl) ?_
  refine rx_aload_nr d_Repeat_spans_1 (by rfl) ?_
  refine rx_getfield d_Repeat_spans_2 fl_Repeat_15 hr (by rfl) ?_
  refine rx_icmp_lt (tgt := 20) d_Repeat_spans_5 (by rfl) (fun c5 => ?_) (fun c5 => ?_)
  · refine rx_iconst (v := 0) d_Repeat_spans_20 (by decide) ?_
    refine rx_zreturn d_Repeat_spans_21 (by rfl) (by rfl) ?_
    exact ⟨by first | rw [if_pos (Or.inl c5)] | rw [if_pos (Or.inr c13)] | rw [if_neg (fun z => z.elim c5 c13)], rfl⟩
  · refine rx_iload_n d_Repeat_spans_8 (by rfl) ?_
    refine rx_aload_nr d_Repeat_spans_9 (by rfl) ?_
    refine rx_getfield d_Repeat_spans_10 fl_Repeat_18 hr (by rfl) ?_
    refine rx_icmp_gt (tgt := 20) d_Repeat_spans_13 (by rfl) (fun c13 => ?_) (fun c13 => ?_)
    · refine rx_iconst (v := 0) d_Repeat_spans_20 (by decide) ?_
      refine rx_zreturn d_Repeat_spans_21 (by rfl) (by rfl) ?_
      exact ⟨by first | rw [if_pos (Or.inl c5)] | rw [if_pos (Or.inr c13)] | rw [if_neg (fun z => z.elim c5 c13)], rfl⟩
    · refine rx_iconst (v := 1) d_Repeat_spans_16 (by decide) ?_
      refine rx_goto (tgt := 21) d_Repeat_spans_17 (by rfl) ?_
      refine rx_zreturn d_Repeat_spans_21 (by rfl) (by rfl) ?_
      exact ⟨by first | rw [if_pos (Or.inl c5)] | rw [if_pos (Or.inr c13)] | rw [if_neg (fun z => z.elim c5 c13)], rfl⟩
theorem c_end (hr : rx_rd V h q = some (ncl N)) : rx_C V d kc ks m_Note_end [.ref q] h (rx_X (.inl (some (.int (N 2 + N 3)))) h) := by
  refine rx_aload_nr d_Note_end_0 (by rfl) ?_
  refine rx_getfield d_Note_end_1 fl_Note_16 hr (by rfl) ?_
  refine rx_aload_nr d_Note_end_4 (by rfl) ?_
  refine rx_getfield d_Note_end_5 fl_Note_19 hr (by rfl) ?_
  refine rx_iadd d_Note_end_8 ?_
  refine rx_ireturn d_Note_end_9 (by rfl) ?_
  exact ⟨rfl, rfl⟩
theorem c_isIn (hr : rx_rd V h q = some (ncl N)) (p b : Int32) : rx_C V d kc ks m_Note_isIn [.ref q, .int p, .int b] h (rx_X (.inl (some (.int (if N 0 = p ∧ N 1 = b then 1 else 0)))) h) := by
  refine rx_aload_nr d_Note_isIn_0 (by rfl) ?_
  refine rx_getfield d_Note_isIn_1 fl_Note_7 hr (by rfl) ?_
  refine rx_iload_n d_Note_isIn_4 (by rfl) ?_
  refine rx_icmp_ne (tgt := 20) d_Note_isIn_5 (by rfl) (fun c5 => ?_) (fun c5 => ?_)
  · refine rx_iconst (v := 0) d_Note_isIn_20 (by decide) ?_
    refine rx_zreturn d_Note_isIn_21 (by rfl) (by rfl) ?_
    exact ⟨by first | rw [if_neg (fun z => c5 z.1)] | rw [if_neg (fun z => c13 z.2)] | rw [if_pos ⟨c5, c13⟩], rfl⟩
  · refine rx_aload_nr d_Note_isIn_8 (by rfl) ?_
    refine rx_getfield d_Note_isIn_9 fl_Note_13 hr (by rfl) ?_
    refine rx_iload_n d_Note_isIn_12 (by rfl) ?_
    refine rx_icmp_ne (tgt := 20) d_Note_isIn_13 (by rfl) (fun c13 => ?_) (fun c13 => ?_)
    · refine rx_iconst (v := 0) d_Note_isIn_20 (by decide) ?_
      refine rx_zreturn d_Note_isIn_21 (by rfl) (by rfl) ?_
      exact ⟨by first | rw [if_neg (fun z => c5 z.1)] | rw [if_neg (fun z => c13 z.2)] | rw [if_pos ⟨c5, c13⟩], rfl⟩
    · refine rx_iconst (v := 1) d_Note_isIn_16 (by decide) ?_
      refine rx_goto (tgt := 21) d_Note_isIn_17 (by rfl) ?_
      refine rx_zreturn d_Note_isIn_21 (by rfl) (by rfl) ?_
      exact ⟨by first | rw [if_neg (fun z => c5 z.1)] | rw [if_neg (fun z => c13 z.2)] | rw [if_pos ⟨c5, c13⟩], rfl⟩
theorem c_reachesOver (hp : is_pg V h a n al at_ av Le Te Va) (hr : rx_rd V h q = some (ncl N)) : rx_C V (d + 2) kc ks m_Note_reachesOver [.ref q, .ref a] h (rx_X (.inl (some (.int (if N 5 ≠ 0 ∧ N 2 + N 3 = pgl n Le (N 1) then 1 else 0)))) h) := by
  refine rx_aload_nr d_Note_reachesOver_0 (by rfl) ?_
  refine rx_getfield d_Note_reachesOver_1 fl_Note_25 hr (by rfl) ?_
  refine rx_if_eq (tgt := 26) d_Note_reachesOver_4 (by rfl) (fun c4 => ?_) (fun c4 => ?_)
  · refine rx_iconst (v := 0) d_Note_reachesOver_26 (by decide) ?_
    refine rx_zreturn d_Note_reachesOver_27 (by rfl) (by rfl) ?_
    exact ⟨by simp_all, rfl⟩
  · refine rx_aload_nr d_Note_reachesOver_7 (by rfl) ?_
    refine rx_cV d_Note_reachesOver_8 (by rfl) ml_Note_29 im_Note_end se_Note_end (by exact c9_Note_end) hr (by rfl) (by exact Nat.le_of_ble_eq_true rfl) (c_end hr) ?_
    refine rx_aload_nr d_Note_reachesOver_11 (by rfl) ?_
    refine rx_aload_nr d_Note_reachesOver_12 (by rfl) ?_
    refine rx_getfield d_Note_reachesOver_13 fl_Note_13 hr (by rfl) ?_
    refine rx_cV d_Note_reachesOver_16 (by rfl) ml_Note_33 im_Page_lengthOf se_Page_lengthOf (by exact c9_Page_lengthOf) hp.1 (by rfl) (by exact Nat.le_of_ble_eq_true rfl) (c_lengthOf hp (N 1)) ?_
    refine rx_icmp_ne (tgt := 26) d_Note_reachesOver_19 (by rfl) (fun c19 => ?_) (fun c19 => ?_)
    · refine rx_iconst (v := 0) d_Note_reachesOver_26 (by decide) ?_
      refine rx_zreturn d_Note_reachesOver_27 (by rfl) (by rfl) ?_
      exact ⟨by simp_all, rfl⟩
    · refine rx_iconst (v := 1) d_Note_reachesOver_22 (by decide) ?_
      refine rx_goto (tgt := 27) d_Note_reachesOver_23 (by rfl) ?_
      refine rx_zreturn d_Note_reachesOver_27 (by rfl) (by rfl) ?_
      exact ⟨by simp_all, rfl⟩
/-- the order of the notes: part, bar, start, pitch -/
def nbh (N N2 : Nat → Int32) : Prop := if N 0 ≠ N2 0 then N2 0 < N 0 else if N 1 ≠ N2 1 then N2 1 < N 1 else if N 2 ≠ N2 2 then N2 2 < N 2 else N2 4 < N 4
theorem i_nle {x y : Int32} (h : ¬ x ≤ y) : y < x := by rw [i_le] at h; rw [i_lt]; omega
theorem i_nlt {x y : Int32} (h : x ≤ y) : ¬ y < x := by rw [i_le] at h; rw [i_lt]; omega
theorem c_isBehind (hr : rx_rd V h q = some (ncl N)) (hr2 : rx_rd V h q2 = some (ncl N2)) : rx_C V d kc ks m_Note_isBehind [.ref q, .ref q2] h (fun r h' => h' = h ∧ ((nbh N N2 ∧ r = .inl (some (.int 1))) ∨ (¬ nbh N N2 ∧ r = .inl (some (.int 0))))) := by
  refine rx_aload_nr d_Note_isBehind_0 (by rfl) ?_
  refine rx_getfield d_Note_isBehind_1 fl_Note_7 hr (by rfl) ?_
  refine rx_aload_nr d_Note_isBehind_4 (by rfl) ?_
  refine rx_getfield d_Note_isBehind_5 fl_Note_7 hr2 (by rfl) ?_
  refine rx_icmp_eq (tgt := 28) d_Note_isBehind_8 (by rfl) (fun c8 => ?_) (fun c8 => ?_)
  · refine rx_aload_nr d_Note_isBehind_28 (by rfl) ?_
    refine rx_getfield d_Note_isBehind_29 fl_Note_13 hr (by rfl) ?_
    refine rx_aload_nr d_Note_isBehind_32 (by rfl) ?_
    refine rx_getfield d_Note_isBehind_33 fl_Note_13 hr2 (by rfl) ?_
    refine rx_icmp_eq (tgt := 56) d_Note_isBehind_36 (by rfl) (fun c36 => ?_) (fun c36 => ?_)
    · refine rx_aload_nr d_Note_isBehind_56 (by rfl) ?_
      refine rx_getfield d_Note_isBehind_57 fl_Note_16 hr (by rfl) ?_
      refine rx_aload_nr d_Note_isBehind_60 (by rfl) ?_
      refine rx_getfield d_Note_isBehind_61 fl_Note_16 hr2 (by rfl) ?_
      refine rx_icmp_eq (tgt := 86) d_Note_isBehind_64 (by rfl) (fun c64 => ?_) (fun c64 => ?_)
      · refine rx_aload_nr d_Note_isBehind_86 (by rfl) ?_
        refine rx_getfield d_Note_isBehind_87 fl_Note_22 hr (by rfl) ?_
        refine rx_aload_nr d_Note_isBehind_90 (by rfl) ?_
        refine rx_getfield d_Note_isBehind_91 fl_Note_22 hr2 (by rfl) ?_
        refine rx_icmp_le (tgt := 101) d_Note_isBehind_94 (by rfl) (fun c94 => ?_) (fun c94 => ?_)
        · refine rx_iconst (v := 0) d_Note_isBehind_101 (by decide) ?_
          refine rx_zreturn d_Note_isBehind_102 (by rfl) (by rfl) ?_
          exact ⟨rfl, by first | exact Or.inl ⟨by simp_all [nbh, i_nle], rfl⟩ | exact Or.inr ⟨by simp_all [nbh, i_nlt], rfl⟩⟩
        · refine rx_iconst (v := 1) d_Note_isBehind_97 (by decide) ?_
          refine rx_goto (tgt := 102) d_Note_isBehind_98 (by rfl) ?_
          refine rx_zreturn d_Note_isBehind_102 (by rfl) (by rfl) ?_
          exact ⟨rfl, by first | exact Or.inl ⟨by simp_all [nbh, i_nle], rfl⟩ | exact Or.inr ⟨by simp_all [nbh, i_nlt], rfl⟩⟩
      · refine rx_aload_nr d_Note_isBehind_67 (by rfl) ?_
        refine rx_getfield d_Note_isBehind_68 fl_Note_16 hr (by rfl) ?_
        refine rx_aload_nr d_Note_isBehind_71 (by rfl) ?_
        refine rx_getfield d_Note_isBehind_72 fl_Note_16 hr2 (by rfl) ?_
        refine rx_icmp_le (tgt := 82) d_Note_isBehind_75 (by rfl) (fun c75 => ?_) (fun c75 => ?_)
        · refine rx_iconst (v := 0) d_Note_isBehind_82 (by decide) ?_
          refine rx_goto (tgt := 102) d_Note_isBehind_83 (by rfl) ?_
          refine rx_zreturn d_Note_isBehind_102 (by rfl) (by rfl) ?_
          exact ⟨rfl, by first | exact Or.inl ⟨by simp_all [nbh, i_nle], rfl⟩ | exact Or.inr ⟨by simp_all [nbh, i_nlt], rfl⟩⟩
        · refine rx_iconst (v := 1) d_Note_isBehind_78 (by decide) ?_
          refine rx_goto (tgt := 102) d_Note_isBehind_79 (by rfl) ?_
          refine rx_zreturn d_Note_isBehind_102 (by rfl) (by rfl) ?_
          exact ⟨rfl, by first | exact Or.inl ⟨by simp_all [nbh, i_nle], rfl⟩ | exact Or.inr ⟨by simp_all [nbh, i_nlt], rfl⟩⟩
    · refine rx_aload_nr d_Note_isBehind_39 (by rfl) ?_
      refine rx_getfield d_Note_isBehind_40 fl_Note_13 hr (by rfl) ?_
      refine rx_aload_nr d_Note_isBehind_43 (by rfl) ?_
      refine rx_getfield d_Note_isBehind_44 fl_Note_13 hr2 (by rfl) ?_
      refine rx_icmp_le (tgt := 54) d_Note_isBehind_47 (by rfl) (fun c47 => ?_) (fun c47 => ?_)
      · refine rx_iconst (v := 0) d_Note_isBehind_54 (by decide) ?_
        refine rx_zreturn d_Note_isBehind_55 (by rfl) (by rfl) ?_
        exact ⟨rfl, by first | exact Or.inl ⟨by simp_all [nbh, i_nle], rfl⟩ | exact Or.inr ⟨by simp_all [nbh, i_nlt], rfl⟩⟩
      · refine rx_iconst (v := 1) d_Note_isBehind_50 (by decide) ?_
        refine rx_goto (tgt := 55) d_Note_isBehind_51 (by rfl) ?_
        refine rx_zreturn d_Note_isBehind_55 (by rfl) (by rfl) ?_
        exact ⟨rfl, by first | exact Or.inl ⟨by simp_all [nbh, i_nle], rfl⟩ | exact Or.inr ⟨by simp_all [nbh, i_nlt], rfl⟩⟩
  · refine rx_aload_nr d_Note_isBehind_11 (by rfl) ?_
    refine rx_getfield d_Note_isBehind_12 fl_Note_7 hr (by rfl) ?_
    refine rx_aload_nr d_Note_isBehind_15 (by rfl) ?_
    refine rx_getfield d_Note_isBehind_16 fl_Note_7 hr2 (by rfl) ?_
    refine rx_icmp_le (tgt := 26) d_Note_isBehind_19 (by rfl) (fun c19 => ?_) (fun c19 => ?_)
    · refine rx_iconst (v := 0) d_Note_isBehind_26 (by decide) ?_
      refine rx_zreturn d_Note_isBehind_27 (by rfl) (by rfl) ?_
      exact ⟨rfl, by first | exact Or.inl ⟨by simp_all [nbh, i_nle], rfl⟩ | exact Or.inr ⟨by simp_all [nbh, i_nlt], rfl⟩⟩
    · refine rx_iconst (v := 1) d_Note_isBehind_22 (by decide) ?_
      refine rx_goto (tgt := 27) d_Note_isBehind_23 (by rfl) ?_
      refine rx_zreturn d_Note_isBehind_27 (by rfl) (by rfl) ?_
      exact ⟨rfl, by first | exact Or.inl ⟨by simp_all [nbh, i_nle], rfl⟩ | exact Or.inr ⟨by simp_all [nbh, i_nlt], rfl⟩⟩
end LF
