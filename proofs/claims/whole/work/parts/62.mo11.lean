/-! the reference's calls: check, plays, played, time, find, tick, at -/
def mE2 (S0 S : mT) : Prop := S.1 2 = S0.1 2 ∧ S.1 6 = S0.1 6 ∧ ∀ j, j ≤ 10 → S.2.2 j = S0.2.2 j
theorem mE.e2 {S0 S : mT} (h : mE S0 S) : mE2 S0 S := h.2
/-- how a call of the reference ends that changes no state -/
def mPo (V : rx_V) (h1 : List va_E) (a : Nat) (S : mT) (h2 : List va_E) (r0 : rx_R) (code : Int32) : rx_R → List va_E → Prop := fun r h' => r = r0 ∧ ∃ S', h' = mw V h1 a S' h2 ∧ mE2 S S' ∧ S'.1 1 = code
noncomputable def wbc (n : Nat) (Va : Nat → Int32) (i m : Int32) : Int32 := if flt n Va = 0 then (if i < 0 ∨ nI (pN n Va) ≤ i - m then 2 else 0) else 1
theorem wbc_1 {n : Nat} {Va : Nat → Int32} {i m : Int32} (hz : ¬ flt n Va = 0) : wbc n Va i m = 1 := if_neg hz
theorem wbc_2 {n : Nat} {Va : Nat → Int32} {i m : Int32} (hz : flt n Va = 0) (h : i < 0 ∨ nI (pN n Va) ≤ i - m) : wbc n Va i m = 2 := (if_pos hz).trans (if_pos h)
theorem wbc_0 {n : Nat} {Va : Nat → Int32} {i m : Int32} (hz : flt n Va = 0) (h : ¬ (i < 0 ∨ nI (pN n Va) ≤ i - m)) : wbc n Va i m = 0 := (if_pos hz).trans (if_neg h)
section MPU
variable {V : rx_V} {d kc ks : Nat} {h h1 h2 : List va_E} {a n num N : Nat} {S S0 : mT} {f : Nat → Int32}
theorem k_check (ha : a = V.2.1 + h1.length) (hN : mN n S) (hv : vok n (S.2.2 4)) : rx_C V (d + 8) kc ks m_Mo_check [.ref a] (mw V h1 a S h2) (mPo V h1 a S h2 (.inl (some (.int (flt n (S.2.2 4))))) 0) := by
  refine rx_aload_nr d_Mo_check_0 (by rfl) ?_
  refine rx_iconst (v := 0) d_Mo_check_1 (by decide) ?_
  refine m_putI (k9 := 1) ha d_Mo_check_2 (fw_Mo_63 rfl) (by rfl) (by rfl) (by rfl) ?_
  refine rx_aload_nr d_Mo_check_5 (by rfl) ?_
  refine rx_pV d_Mo_check_6 (by rfl) ml_Mo_141 im_Mo_findFault se_Mo_findFault (by exact c9_Mo_findFault) (mr0 ha) (by rfl) (by exact Nat.le_of_ble_eq_true rfl) (k_findFault (S := sS S 1 0) (d := d + 2) ha hN hv) ?_
  intro hx z9
  obtain ⟨S1, rfl, E1, R1⟩ := z9
  refine rx_ireturn d_Mo_check_9 (by rfl) ?_
  exact ⟨rfl, S1, rfl, E1.e2, E1.1⟩
theorem k_plays (ha : a = V.2.1 + h1.length) (hN : mN n S) (hv : vok n (S.2.2 4)) : rx_C V (d + 8) kc ks m_Mo_plays [.ref a] (mw V h1 a S h2) (mPo V h1 a S h2 (.inl (some (.int (if flt n (S.2.2 4) = 0 then nI (pN n (S.2.2 4)) else -1)))) 0) := by
  refine rx_aload_nr d_Mo_plays_0 (by rfl) ?_
  refine rx_iconst (v := 0) d_Mo_plays_1 (by decide) ?_
  refine m_putI (k9 := 1) ha d_Mo_plays_2 (fw_Mo_63 rfl) (by rfl) (by rfl) (by rfl) ?_
  refine rx_aload_nr d_Mo_plays_5 (by rfl) ?_
  refine rx_pV d_Mo_plays_6 (by rfl) ml_Mo_183 im_Mo_walk se_Mo_walk (by exact c9_Mo_walk) (mr0 ha) (by rfl) (by exact Nat.le_of_ble_eq_true rfl) (k_walk (S := sS S 1 0) (d := d + 1) ha hN hv) ?_
  intro hx z9
  obtain ⟨S1, rfl, E1, F1⟩ := z9
  refine rx_if_eq (tgt := 19) d_Mo_plays_9 (by rfl) (fun c9 => ?_) (fun c9 => ?_)
  · have c9 : ¬ flt n (S.2.2 4) = 0 := ite10.mp c9
    rw [if_neg c9]
    refine rx_iconst (v := -1) d_Mo_plays_19 (by decide) ?_
    refine rx_ireturn d_Mo_plays_20 (by rfl) ?_
    exact ⟨rfl, S1, rfl, E1.e2, E1.1⟩
  · have c9 : flt n (S.2.2 4) = 0 := ite11.mp c9
    rw [if_pos c9]
    refine rx_aload_nr d_Mo_plays_12 (by rfl) ?_
    refine rx_getfield d_Mo_plays_13 fl_Mo_159 (mr0 ha) (by rfl) ?_
    rw [show S1.1 24 = nI (pN n (S.2.2 4)) from (F1 c9).1]
    refine rx_goto (tgt := 20) d_Mo_plays_16 (by rfl) ?_
    refine rx_ireturn d_Mo_plays_20 (by rfl) ?_
    exact ⟨rfl, S1, rfl, E1.e2, E1.1⟩
theorem k_wrongBar (ha : a = V.2.1 + h1.length) (hN : mN n S) (hv : vok n (S.2.2 4)) (i m : Int32) : rx_C V (d + 7) kc ks m_Mo_wrongBar [.ref a, .int i, .int m] (mw V h1 a S h2) (fun r9 h' => r9 = .inl (some (.int (wbc n (S.2.2 4) i m))) ∧ wkP V h1 a S h2 n h') := by
  refine rx_aload_nr d_Mo_wrongBar_0 (by rfl) ?_
  refine rx_pV d_Mo_wrongBar_1 (by rfl) ml_Mo_183 im_Mo_walk se_Mo_walk (by exact c9_Mo_walk) (mr0 ha) (by rfl) (by exact Nat.le_of_ble_eq_true rfl) (k_walk (d := d) ha hN hv) ?_
  intro hx z9
  obtain ⟨S1, rfl, E1, F1⟩ := z9
  refine rx_if_ne (tgt := 11) d_Mo_wrongBar_4 (by rfl) (fun c4 => ?_) (fun c4 => ?_)
  · have c4 : flt n (S.2.2 4) = 0 := ite11.mp c4
    refine rx_iload_n d_Mo_wrongBar_11 (by rfl) ?_
    refine rx_if_lt (tgt := 25) d_Mo_wrongBar_12 (by rfl) (fun c12 => ?_) (fun c12 => ?_)
    · refine rx_iconst (v := 2) d_Mo_wrongBar_25 (by decide) ?_
      refine rx_goto (tgt := 30) d_Mo_wrongBar_26 (by rfl) ?_
      refine rx_ireturn d_Mo_wrongBar_30 (by rfl) ?_
      first
        | exact ⟨by rw [wbc_1 c4], S1, rfl, E1, F1⟩
        | exact ⟨by rw [wbc_2 c4 (Or.inl c12)], S1, rfl, E1, F1⟩
        | exact ⟨by rw [wbc_0 c4 (fun z => z.elim c12 (fun y => absurd c22 (i_nlt y)))], S1, rfl, E1, F1⟩
        | exact ⟨by rw [wbc_2 c4 (Or.inr (i_nle' c22))], S1, rfl, E1, F1⟩
    · refine rx_iload_n d_Mo_wrongBar_15 (by rfl) ?_
      refine rx_iload_n d_Mo_wrongBar_16 (by rfl) ?_
      refine rx_isub d_Mo_wrongBar_17 ?_
      refine rx_aload_nr d_Mo_wrongBar_18 (by rfl) ?_
      refine rx_getfield d_Mo_wrongBar_19 fl_Mo_159 (mr0 ha) (by rfl) ?_
      rw [show S1.1 24 = nI (pN n (S.2.2 4)) from (F1 c4).1]
      refine rx_icmp_lt (tgt := 29) d_Mo_wrongBar_22 (by rfl) (fun c22 => ?_) (fun c22 => ?_)
      · refine rx_iconst (v := 0) d_Mo_wrongBar_29 (by decide) ?_
        refine rx_ireturn d_Mo_wrongBar_30 (by rfl) ?_
        first
          | exact ⟨by rw [wbc_1 c4], S1, rfl, E1, F1⟩
          | exact ⟨by rw [wbc_2 c4 (Or.inl c12)], S1, rfl, E1, F1⟩
          | exact ⟨by rw [wbc_0 c4 (fun z => z.elim c12 (fun y => absurd c22 (i_nlt y)))], S1, rfl, E1, F1⟩
          | exact ⟨by rw [wbc_2 c4 (Or.inr (i_nle' c22))], S1, rfl, E1, F1⟩
      · refine rx_iconst (v := 2) d_Mo_wrongBar_25 (by decide) ?_
        refine rx_goto (tgt := 30) d_Mo_wrongBar_26 (by rfl) ?_
        refine rx_ireturn d_Mo_wrongBar_30 (by rfl) ?_
        first
          | exact ⟨by rw [wbc_1 c4], S1, rfl, E1, F1⟩
          | exact ⟨by rw [wbc_2 c4 (Or.inl c12)], S1, rfl, E1, F1⟩
          | exact ⟨by rw [wbc_0 c4 (fun z => z.elim c12 (fun y => absurd c22 (i_nlt y)))], S1, rfl, E1, F1⟩
          | exact ⟨by rw [wbc_2 c4 (Or.inr (i_nle' c22))], S1, rfl, E1, F1⟩
  · have c4 : ¬ flt n (S.2.2 4) = 0 := ite10.mp c4
    refine rx_iconst (v := 1) d_Mo_wrongBar_7 (by decide) ?_
    refine rx_goto (tgt := 30) d_Mo_wrongBar_8 (by rfl) ?_
    refine rx_ireturn d_Mo_wrongBar_30 (by rfl) ?_
    first
      | exact ⟨by rw [wbc_1 c4], S1, rfl, E1, F1⟩
      | exact ⟨by rw [wbc_2 c4 (Or.inl c12)], S1, rfl, E1, F1⟩
      | exact ⟨by rw [wbc_0 c4 (fun z => z.elim c12 (fun y => absurd c22 (i_nlt y)))], S1, rfl, E1, F1⟩
      | exact ⟨by rw [wbc_2 c4 (Or.inr (i_nle' c22))], S1, rfl, E1, F1⟩
theorem out_0 {N : Nat} {i : Int32} (hN : N ≤ 1000) : iwn i 0 (nI N - 1) = 0 ↔ (i < 0 ∨ nI N ≤ i - 0) := by
  have e : (nI N - 1).toInt = (N : Int) - 1 := by
    cases N with
    | zero => decide
    | succ j => rw [show nI (j + 1) - 1 = nI j from nI_pred j, i_n (by omega)]; omega
  rw [show i - 0 = i from Int32.sub_zero i]
  unfold iwn
  rw [ite10, i_le, i_0, i_le, e, i_lt, i_0, i_le, i_n (by omega)]
  omega
theorem out_1 {N : Nat} {i : Int32} (hN : N ≤ 1000) : iwn i 0 (nI N) = 0 ↔ (i < 0 ∨ nI N ≤ i - 1) := by
  unfold iwn
  rw [ite10, i_le, i_0, i_le, i_n (by omega), i_lt, i_0]
  by_cases c : i.toInt < 0
  · exact ⟨fun _ => Or.inl c, fun _ => by omega⟩
  · have e : (i - 1).toInt = i.toInt - 1 := by
      have h2 := i.toInt_lt
      rw [Int32.toInt_sub, show (1 : Int32).toInt = 1 from by decide]
      exact Int.bmod_eq_of_le (by omega) (by omega)
    rw [i_le, i_n (by omega), e]
    omega
theorem in_0 {N i : Nat} (hN : N ≤ 1000) (h : i < N) : ¬ (nI i < 0 ∨ nI N ≤ nI i - 0) := by
  rw [show nI i - 0 = nI i from Int32.sub_zero _, i_lt, i_0, i_le, i_n (by omega), i_n (by omega)]
  omega
theorem in_1 {N i : Nat} (hN : N ≤ 1000) (h : i ≤ N) : ¬ (nI i < 0 ∨ nI N ≤ nI i - 1) := by
  rw [← out_1 hN]
  unfold iwn
  rw [ite10, i_le, i_0, i_le, i_n (by omega), i_n (by omega)]
  omega
theorem k_played1 (ha : a = V.2.1 + h1.length) (hN : mN n S) (hv : vok n (S.2.2 4)) (hz : ¬ flt n (S.2.2 4) = 0) (i : Int32) : rx_C V (d + 8) kc ks m_Mo_played [.ref a, .int i] (mw V h1 a S h2) (mPo V h1 a S h2 (.inl (some (.int 0))) 1) := by
  refine rx_aload_nr d_Mo_played_0 (by rfl) ?_
  refine rx_aload_nr d_Mo_played_1 (by rfl) ?_
  refine rx_iload_n d_Mo_played_2 (by rfl) ?_
  refine rx_iconst (v := 0) d_Mo_played_3 (by decide) ?_
  refine rx_pV d_Mo_played_4 (by rfl) ml_Mo_186 im_Mo_wrongBar se_Mo_wrongBar (by exact c9_Mo_wrongBar) (mr0 ha) (by rfl) (by exact Nat.le_of_ble_eq_true rfl) (k_wrongBar (d := d) ha hN hv i 0) ?_
  intro hx z9
  obtain ⟨S1, rfl, E1, F1⟩ := z9
  rw [wbc_1 hz]
  refine m_putI (k9 := 1) ha d_Mo_played_7 (fw_Mo_63 rfl) (by rfl) (by rfl) (by rfl) ?_
  refine rx_aload_nr d_Mo_played_10 (by rfl) ?_
  refine rx_getfield d_Mo_played_11 fl_Mo_63 (mr0 ha) (by rfl) ?_
  rw [show (sS S1 1 1).1 1 = 1 from rfl]
  refine rx_if_le (tgt := 21) d_Mo_played_14 (by rfl) (fun z => absurd z (show ¬ (1 : Int32) ≤ 0 by decide)) (fun c14 => ?_)
  refine rx_iconst (v := 0) d_Mo_played_17 (by decide) ?_
  refine rx_goto (tgt := 27) d_Mo_played_18 (by rfl) ?_
  refine rx_ireturn d_Mo_played_27 (by rfl) ?_
  exact ⟨rfl, sS S1 1 1, rfl, E1.e2, rfl⟩
theorem k_played2 (ha : a = V.2.1 + h1.length) (hN : mN n S) (hv : vok n (S.2.2 4)) (hz : flt n (S.2.2 4) = 0) {i : Int32} (hi : iwn i 0 (nI (pN n (S.2.2 4)) - 1) = 0) : rx_C V (d + 8) kc ks m_Mo_played [.ref a, .int i] (mw V h1 a S h2) (mPo V h1 a S h2 (.inl (some (.int 0))) 2) := by
  refine rx_aload_nr d_Mo_played_0 (by rfl) ?_
  refine rx_aload_nr d_Mo_played_1 (by rfl) ?_
  refine rx_iload_n d_Mo_played_2 (by rfl) ?_
  refine rx_iconst (v := 0) d_Mo_played_3 (by decide) ?_
  refine rx_pV d_Mo_played_4 (by rfl) ml_Mo_186 im_Mo_wrongBar se_Mo_wrongBar (by exact c9_Mo_wrongBar) (mr0 ha) (by rfl) (by exact Nat.le_of_ble_eq_true rfl) (k_wrongBar (d := d) ha hN hv i 0) ?_
  intro hx z9
  obtain ⟨S1, rfl, E1, F1⟩ := z9
  rw [wbc_2 hz ((out_0 (by have := (pN_ok hN.2.2 hN.2.1 hv hz).1; have := hN.2; omega)).mp hi)]
  refine m_putI (k9 := 1) ha d_Mo_played_7 (fw_Mo_63 rfl) (by rfl) (by rfl) (by rfl) ?_
  refine rx_aload_nr d_Mo_played_10 (by rfl) ?_
  refine rx_getfield d_Mo_played_11 fl_Mo_63 (mr0 ha) (by rfl) ?_
  rw [show (sS S1 1 2).1 1 = 2 from rfl]
  refine rx_if_le (tgt := 21) d_Mo_played_14 (by rfl) (fun z => absurd z (show ¬ (2 : Int32) ≤ 0 by decide)) (fun c14 => ?_)
  refine rx_iconst (v := 0) d_Mo_played_17 (by decide) ?_
  refine rx_goto (tgt := 27) d_Mo_played_18 (by rfl) ?_
  refine rx_ireturn d_Mo_played_27 (by rfl) ?_
  exact ⟨rfl, sS S1 1 2, rfl, E1.e2, rfl⟩
theorem k_played0 (ha : a = V.2.1 + h1.length) (hN : mN n S) (hv : vok n (S.2.2 4)) (hz : flt n (S.2.2 4) = 0) {i : Nat} (hi : i < pN n (S.2.2 4)) : rx_C V (d + 8) kc ks m_Mo_played [.ref a, .int (nI i)] (mw V h1 a S h2) (mPo V h1 a S h2 (.inl (some (.int (wf n (S.2.2 4) i)))) 0) := by
  have pk := pN_ok hN.2.2 hN.2.1 hv hz
  have hn := hN.2
  refine rx_aload_nr d_Mo_played_0 (by rfl) ?_
  refine rx_aload_nr d_Mo_played_1 (by rfl) ?_
  refine rx_iload_n d_Mo_played_2 (by rfl) ?_
  refine rx_iconst (v := 0) d_Mo_played_3 (by decide) ?_
  refine rx_pV d_Mo_played_4 (by rfl) ml_Mo_186 im_Mo_wrongBar se_Mo_wrongBar (by exact c9_Mo_wrongBar) (mr0 ha) (by rfl) (by exact Nat.le_of_ble_eq_true rfl) (k_wrongBar (d := d) ha hN hv (nI i) 0) ?_
  intro hx z9
  obtain ⟨S1, rfl, E1, F1⟩ := z9
  rw [wbc_0 hz (in_0 (by omega) hi)]
  refine m_putI (k9 := 1) ha d_Mo_played_7 (fw_Mo_63 rfl) (by rfl) (by rfl) (by rfl) ?_
  refine rx_aload_nr d_Mo_played_10 (by rfl) ?_
  refine rx_getfield d_Mo_played_11 fl_Mo_63 (mr0 ha) (by rfl) ?_
  rw [show (sS S1 1 0).1 1 = 0 from rfl]
  refine rx_if_le (tgt := 21) d_Mo_played_14 (by rfl) (fun c14 => ?_) (fun z => absurd (show (0 : Int32) ≤ 0 by decide) z)
  refine rx_aload_nr d_Mo_played_21 (by rfl) ?_
  refine rx_getfield d_Mo_played_22 fl_Mo_56 (mr0 ha) (by rfl) ?_
  refine rx_iload_n d_Mo_played_25 (by rfl) ?_
  refine m_ial (j := 16) ha d_Mo_played_26 (by rfl) (by omega) (by decide) ?_
  rw [show (sS S1 1 0).2.2 16 i = wf n (S.2.2 4) i from (F1 hz).2 i hi]
  refine rx_ireturn d_Mo_played_27 (by rfl) ?_
  exact ⟨rfl, sS S1 1 0, rfl, E1.e2, rfl⟩
theorem k_time1 (ha : a = V.2.1 + h1.length) (hN : mN n S) (hv : vok n (S.2.2 4)) (hz : ¬ flt n (S.2.2 4) = 0) (i : Int32) : rx_C V (d + 8) kc ks m_Mo_time [.ref a, .int i] (mw V h1 a S h2) (mPo V h1 a S h2 (.inl (some (.int 0))) 1) := by
  refine rx_aload_nr d_Mo_time_0 (by rfl) ?_
  refine rx_aload_nr d_Mo_time_1 (by rfl) ?_
  refine rx_iload_n d_Mo_time_2 (by rfl) ?_
  refine rx_iconst (v := 0) d_Mo_time_3 (by decide) ?_
  refine rx_pV d_Mo_time_4 (by rfl) ml_Mo_186 im_Mo_wrongBar se_Mo_wrongBar (by exact c9_Mo_wrongBar) (mr0 ha) (by rfl) (by exact Nat.le_of_ble_eq_true rfl) (k_wrongBar (d := d) ha hN hv i 0) ?_
  intro hx z9
  obtain ⟨S1, rfl, E1, F1⟩ := z9
  rw [wbc_1 hz]
  refine m_putI (k9 := 1) ha d_Mo_time_7 (fw_Mo_63 rfl) (by rfl) (by rfl) (by rfl) ?_
  refine rx_iconst (v := 0) d_Mo_time_10 (by decide) ?_
  refine rx_istore_n d_Mo_time_11 (Nat.le_of_ble_eq_true rfl) ?_
  refine rx_iconst (v := 0) d_Mo_time_12 (by decide) ?_
  refine rx_istore_n d_Mo_time_13 (Nat.le_of_ble_eq_true rfl) ?_
  refine rx_iload_n d_Mo_time_14 (by rfl) ?_
  refine rx_iload_n d_Mo_time_15 (by rfl) ?_
  refine rx_icmp_gt (tgt := 55) d_Mo_time_16 (by rfl) (fun c16 => ?_) (fun c16 => ?_)
  · refine rx_iload_n d_Mo_time_55 (by rfl) ?_
    refine rx_ireturn d_Mo_time_56 (by rfl) ?_
    exact ⟨rfl, sS S1 1 1, rfl, E1.e2, rfl⟩
  · refine rx_aload_nr d_Mo_time_19 (by rfl) ?_
    refine rx_getfield d_Mo_time_20 fl_Mo_63 (mr0 ha) (by rfl) ?_
    rw [show (sS S1 1 1).1 1 = 1 from rfl]
    refine rx_if_ne (tgt := 55) d_Mo_time_23 (by rfl) (fun c23 => ?_) (fun z => absurd z (show ¬ (1 : Int32) = 0 by decide))
    refine rx_iload_n d_Mo_time_55 (by rfl) ?_
    refine rx_ireturn d_Mo_time_56 (by rfl) ?_
    exact ⟨rfl, sS S1 1 1, rfl, E1.e2, rfl⟩
theorem k_time2 (ha : a = V.2.1 + h1.length) (hN : mN n S) (hv : vok n (S.2.2 4)) (hz : flt n (S.2.2 4) = 0) {i : Int32} (hi : iwn i 0 (nI (pN n (S.2.2 4)) - 1) = 0) : rx_C V (d + 8) kc ks m_Mo_time [.ref a, .int i] (mw V h1 a S h2) (mPo V h1 a S h2 (.inl (some (.int 0))) 2) := by
  refine rx_aload_nr d_Mo_time_0 (by rfl) ?_
  refine rx_aload_nr d_Mo_time_1 (by rfl) ?_
  refine rx_iload_n d_Mo_time_2 (by rfl) ?_
  refine rx_iconst (v := 0) d_Mo_time_3 (by decide) ?_
  refine rx_pV d_Mo_time_4 (by rfl) ml_Mo_186 im_Mo_wrongBar se_Mo_wrongBar (by exact c9_Mo_wrongBar) (mr0 ha) (by rfl) (by exact Nat.le_of_ble_eq_true rfl) (k_wrongBar (d := d) ha hN hv i 0) ?_
  intro hx z9
  obtain ⟨S1, rfl, E1, F1⟩ := z9
  rw [wbc_2 hz ((out_0 (by have := (pN_ok hN.2.2 hN.2.1 hv hz).1; have := hN.2; omega)).mp hi)]
  refine m_putI (k9 := 1) ha d_Mo_time_7 (fw_Mo_63 rfl) (by rfl) (by rfl) (by rfl) ?_
  refine rx_iconst (v := 0) d_Mo_time_10 (by decide) ?_
  refine rx_istore_n d_Mo_time_11 (Nat.le_of_ble_eq_true rfl) ?_
  refine rx_iconst (v := 0) d_Mo_time_12 (by decide) ?_
  refine rx_istore_n d_Mo_time_13 (Nat.le_of_ble_eq_true rfl) ?_
  refine rx_iload_n d_Mo_time_14 (by rfl) ?_
  refine rx_iload_n d_Mo_time_15 (by rfl) ?_
  refine rx_icmp_gt (tgt := 55) d_Mo_time_16 (by rfl) (fun c16 => ?_) (fun c16 => ?_)
  · refine rx_iload_n d_Mo_time_55 (by rfl) ?_
    refine rx_ireturn d_Mo_time_56 (by rfl) ?_
    exact ⟨rfl, sS S1 1 2, rfl, E1.e2, rfl⟩
  · refine rx_aload_nr d_Mo_time_19 (by rfl) ?_
    refine rx_getfield d_Mo_time_20 fl_Mo_63 (mr0 ha) (by rfl) ?_
    rw [show (sS S1 1 2).1 1 = 2 from rfl]
    refine rx_if_ne (tgt := 55) d_Mo_time_23 (by rfl) (fun c23 => ?_) (fun z => absurd z (show ¬ (2 : Int32) = 0 by decide))
    refine rx_iload_n d_Mo_time_55 (by rfl) ?_
    refine rx_ireturn d_Mo_time_56 (by rfl) ?_
    exact ⟨rfl, sS S1 1 2, rfl, E1.e2, rfl⟩
theorem l_time {h3 : List va_E} (ha : a = V.2.1 + h3.length) (h1 : S.1 1 = 0) (hf : ∀ j, j < N → S.2.2 16 j = f j) (hN4 : N ≤ 240) {i : Nat} (hi : i < N) : ∀ (m j : Nat) (c : Int32), j + m = i + 1 → rx_W V d kc ks m_Mo_time 14 [some (.ref a), some (.int (nI i)), some (.int c), some (.int (nI j))] [] (mw V h3 a S h2) (rx_X (.inl (some (.int (ffo (ctf f (f i)) c j m)))) (mw V h3 a S h2)) := by
  intro m
  induction m with
  | zero =>
    intro j c hj
    have e : j = i + 1 := by omega
    subst e
    refine rx_iload_n d_Mo_time_14 (by rfl) ?_
    refine rx_iload_n d_Mo_time_15 (by rfl) ?_
    refine rx_icmp_gt (tgt := 55) d_Mo_time_16 (by rfl) (fun c16 => ?_) (fun z => absurd (nI_lt (by omega) (by omega)) z)
    refine rx_iload_n d_Mo_time_55 (by rfl) ?_
    refine rx_ireturn d_Mo_time_56 (by rfl) ?_
    exact ⟨rfl, rfl⟩
  | succ m ih =>
    intro j c hj
    refine rx_iload_n d_Mo_time_14 (by rfl) ?_
    refine rx_iload_n d_Mo_time_15 (by rfl) ?_
    refine rx_icmp_gt (tgt := 55) d_Mo_time_16 (by rfl) (fun z => absurd z (nI_nlt (by omega) (by omega))) (fun c16 => ?_)
    refine rx_aload_nr d_Mo_time_19 (by rfl) ?_
    refine rx_getfield d_Mo_time_20 fl_Mo_63 (mr0 ha) (by rfl) ?_
    rw [h1]
    refine rx_if_ne (tgt := 55) d_Mo_time_23 (by rfl) (fun z => absurd (rfl : (0 : Int32) = 0) z) (fun c23 => ?_)
    refine rx_aload_nr d_Mo_time_26 (by rfl) ?_
    refine rx_getfield d_Mo_time_27 fl_Mo_56 (mr0 ha) (by rfl) ?_
    refine rx_iload_n d_Mo_time_30 (by rfl) ?_
    refine m_ial (j := 16) ha d_Mo_time_31 (by rfl) (by omega) (by decide) ?_
    rw [hf j (by omega)]
    refine rx_aload_nr d_Mo_time_32 (by rfl) ?_
    refine rx_getfield d_Mo_time_33 fl_Mo_56 (mr0 ha) (by rfl) ?_
    refine rx_iload_n d_Mo_time_36 (by rfl) ?_
    refine m_ial (j := 16) ha d_Mo_time_37 (by rfl) (by omega) (by decide) ?_
    rw [hf i hi]
    refine rx_icmp_ne (tgt := 47) d_Mo_time_38 (by rfl) (fun c38 => ?_) (fun c38 => ?_)
    · have hs : ctf f (f i) c j = c := if_neg c38
      refine rx_iload_n d_Mo_time_47 (by rfl) ?_
      refine rx_istore_n d_Mo_time_48 (Nat.le_of_ble_eq_true rfl) ?_
      refine rx_iinc (v := nI (j + 1)) d_Mo_time_49 (by rfl) (i_inc j) ?_
      refine rx_goto (tgt := 14) d_Mo_time_52 (by rfl) ?_
      have z := ih (j + 1) (ctf f (f i) c j) (by omega)
      rw [hs] at z
      show rx_W V d kc ks m_Mo_time 14 _ [] _ (rx_X (.inl (some (.int (ffo (ctf f (f i)) (ctf f (f i) c j) (j + 1) m)))) _)
      rw [hs]
      exact z
    · have hs : ctf f (f i) c j = c + 1 := if_pos c38
      refine rx_iload_n d_Mo_time_41 (by rfl) ?_
      refine rx_iconst (v := 1) d_Mo_time_42 (by decide) ?_
      refine rx_iadd d_Mo_time_43 ?_
      refine rx_goto (tgt := 48) d_Mo_time_44 (by rfl) ?_
      refine rx_istore_n d_Mo_time_48 (Nat.le_of_ble_eq_true rfl) ?_
      refine rx_iinc (v := nI (j + 1)) d_Mo_time_49 (by rfl) (i_inc j) ?_
      refine rx_goto (tgt := 14) d_Mo_time_52 (by rfl) ?_
      have z := ih (j + 1) (ctf f (f i) c j) (by omega)
      rw [hs] at z
      show rx_W V d kc ks m_Mo_time 14 _ [] _ (rx_X (.inl (some (.int (ffo (ctf f (f i)) (ctf f (f i) c j) (j + 1) m)))) _)
      rw [hs]
      exact z
theorem k_time0 (ha : a = V.2.1 + h1.length) (hN : mN n S) (hv : vok n (S.2.2 4)) (hz : flt n (S.2.2 4) = 0) {i : Nat} (hi : i < pN n (S.2.2 4)) : rx_C V (d + 8) kc ks m_Mo_time [.ref a, .int (nI i)] (mw V h1 a S h2) (mPo V h1 a S h2 (.inl (some (.int (ffo (ctf (wf n (S.2.2 4)) (wf n (S.2.2 4) i)) 0 0 (i + 1))))) 0) := by
  have pk := pN_ok hN.2.2 hN.2.1 hv hz
  have hn := hN.2
  refine rx_aload_nr d_Mo_time_0 (by rfl) ?_
  refine rx_aload_nr d_Mo_time_1 (by rfl) ?_
  refine rx_iload_n d_Mo_time_2 (by rfl) ?_
  refine rx_iconst (v := 0) d_Mo_time_3 (by decide) ?_
  refine rx_pV d_Mo_time_4 (by rfl) ml_Mo_186 im_Mo_wrongBar se_Mo_wrongBar (by exact c9_Mo_wrongBar) (mr0 ha) (by rfl) (by exact Nat.le_of_ble_eq_true rfl) (k_wrongBar (d := d) ha hN hv (nI i) 0) ?_
  intro hx z9
  obtain ⟨S1, rfl, E1, F1⟩ := z9
  rw [wbc_0 hz (in_0 (by omega) hi)]
  refine m_putI (k9 := 1) ha d_Mo_time_7 (fw_Mo_63 rfl) (by rfl) (by rfl) (by rfl) ?_
  refine rx_iconst (v := 0) d_Mo_time_10 (by decide) ?_
  refine rx_istore_n d_Mo_time_11 (Nat.le_of_ble_eq_true rfl) ?_
  refine rx_iconst (v := 0) d_Mo_time_12 (by decide) ?_
  refine rx_istore_n d_Mo_time_13 (Nat.le_of_ble_eq_true rfl) ?_
  exact rx_exact (l_time (S := sS S1 1 0) (N := pN n (S.2.2 4)) ha rfl (fun j hj => (F1 hz).2 j hj) (by omega) hi (i + 1) 0 0 (by omega)) ⟨rfl, sS S1 1 0, rfl, E1.e2, rfl⟩
theorem l_find {h3 : List va_E} (ha : a = V.2.1 + h3.length) (h1 : S.1 1 = 0) (h24 : S.1 24 = nI N) (hf : ∀ j, j < N → S.2.2 16 j = f j) (hN4 : N ≤ 240) (b k : Int32) : ∀ (m j : Nat) (c : Int32), j + m = N → rx_W V d kc ks m_Mo_find 21 [some (.ref a), some (.int b), some (.int k), some (.int c), some (.int (nI j))] [] (mw V h3 a S h2) (rx_X (.inl (some (.int (ixf f b k c j m)))) (mw V h3 a S h2)) := by
  intro m
  induction m with
  | zero =>
    intro j c hj
    have e : j = N := by omega
    subst e
    refine rx_iload d_Mo_find_21 (by rfl) ?_
    refine rx_aload_nr d_Mo_find_23 (by rfl) ?_
    refine rx_getfield d_Mo_find_24 fl_Mo_159 (mr0 ha) (by rfl) ?_
    rw [h24]
    refine rx_icmp_ge (tgt := 65) d_Mo_find_27 (by rfl) (fun c27 => ?_) (fun z => absurd (Int32.le_refl _) z)
    refine rx_aload_nr d_Mo_find_65 (by rfl) ?_
    refine rx_getfield d_Mo_find_66 fl_Mo_63 (mr0 ha) (by rfl) ?_
    rw [h1]
    refine rx_if_le (tgt := 76) d_Mo_find_69 (by rfl) (fun c69 => ?_) (fun z => absurd (show (0 : Int32) ≤ 0 by decide) z)
    refine rx_iconst (v := -1) d_Mo_find_76 (by decide) ?_
    refine rx_ireturn d_Mo_find_77 (by rfl) ?_
    exact ⟨rfl, rfl⟩
  | succ m ih =>
    intro j c hj
    refine rx_iload d_Mo_find_21 (by rfl) ?_
    refine rx_aload_nr d_Mo_find_23 (by rfl) ?_
    refine rx_getfield d_Mo_find_24 fl_Mo_159 (mr0 ha) (by rfl) ?_
    rw [h24]
    refine rx_icmp_ge (tgt := 65) d_Mo_find_27 (by rfl) (fun z => absurd z (nI_ge (by omega) (by omega))) (fun c27 => ?_)
    refine rx_aload_nr d_Mo_find_30 (by rfl) ?_
    refine rx_getfield d_Mo_find_31 fl_Mo_63 (mr0 ha) (by rfl) ?_
    rw [h1]
    refine rx_if_ne (tgt := 65) d_Mo_find_34 (by rfl) (fun z => absurd (rfl : (0 : Int32) = 0) z) (fun c34 => ?_)
    refine rx_aload_nr d_Mo_find_37 (by rfl) ?_
    refine rx_getfield d_Mo_find_38 fl_Mo_56 (mr0 ha) (by rfl) ?_
    refine rx_iload d_Mo_find_41 (by rfl) ?_
    refine m_ial (j := 16) ha d_Mo_find_43 (by rfl) (by omega) (by decide) ?_
    rw [hf j (by omega)]
    refine rx_iload_n d_Mo_find_44 (by rfl) ?_
    refine rx_icmp_ne (tgt := 59) d_Mo_find_45 (by rfl) (fun c45 => ?_) (fun c45 => ?_)
    · rw [show ixf f b k c j (m + 1) = ixf f b k c (j + 1) m from if_neg c45]
      refine rx_iinc (v := nI (j + 1)) d_Mo_find_59 (by rfl) (i_inc j) ?_
      refine rx_goto (tgt := 21) d_Mo_find_62 (by rfl) ?_
      exact ih (j + 1) _ (by omega)
    · refine rx_iinc d_Mo_find_48 (by rfl) (by rfl) ?_
      refine rx_iload_n d_Mo_find_51 (by rfl) ?_
      refine rx_iload_n d_Mo_find_52 (by rfl) ?_
      refine rx_icmp_ne (tgt := 59) d_Mo_find_53 (by rfl) (fun c53 => ?_) (fun c53 => ?_)
      · rw [show ixf f b k c j (m + 1) = ixf f b k (c + 1) (j + 1) m from (if_pos c45).trans (if_neg c53)]
        refine rx_iinc (v := nI (j + 1)) d_Mo_find_59 (by rfl) (i_inc j) ?_
        refine rx_goto (tgt := 21) d_Mo_find_62 (by rfl) ?_
        exact ih (j + 1) _ (by omega)
      · refine rx_iload d_Mo_find_56 (by rfl) ?_
        refine rx_ireturn d_Mo_find_58 (by rfl) ?_
        exact ⟨by rw [show ixf f b k c j (m + 1) = nI j from (if_pos c45).trans (if_pos c53)], rfl⟩
theorem k_find0 (ha : a = V.2.1 + h1.length) (hN : mN n S) (hv : vok n (S.2.2 4)) (hz : flt n (S.2.2 4) = 0) (b k : Int32) : rx_C V (d + 8) kc ks m_Mo_find [.ref a, .int b, .int k] (mw V h1 a S h2) (mPo V h1 a S h2 (.inl (some (.int (ixf (wf n (S.2.2 4)) b k 0 0 (pN n (S.2.2 4)))))) 0) := by
  have pk := pN_ok hN.2.2 hN.2.1 hv hz
  have hn := hN.2
  refine rx_aload_nr d_Mo_find_0 (by rfl) ?_
  refine rx_aload_nr d_Mo_find_1 (by rfl) ?_
  refine rx_pV d_Mo_find_2 (by rfl) ml_Mo_183 im_Mo_walk se_Mo_walk (by exact c9_Mo_walk) (mr0 ha) (by rfl) (by exact Nat.le_of_ble_eq_true rfl) (k_walk (d := d + 1) ha hN hv) ?_
  intro hx z9
  obtain ⟨S1, rfl, E1, F1⟩ := z9
  rw [if_pos hz]
  refine rx_if_eq (tgt := 12) d_Mo_find_5 (by rfl) (fun z => absurd z (show ¬ (1 : Int32) = 0 by decide)) (fun c5 => ?_)
  refine rx_iconst (v := 0) d_Mo_find_8 (by decide) ?_
  refine rx_goto (tgt := 13) d_Mo_find_9 (by rfl) ?_
  refine m_putI (k9 := 1) ha d_Mo_find_13 (fw_Mo_63 rfl) (by rfl) (by rfl) (by rfl) ?_
  refine rx_iconst (v := 0) d_Mo_find_16 (by decide) ?_
  refine rx_istore_n d_Mo_find_17 (Nat.le_of_ble_eq_true rfl) ?_
  refine rx_iconst (v := 0) d_Mo_find_18 (by decide) ?_
  refine rx_istore d_Mo_find_19 (Nat.le_of_ble_eq_true rfl) ?_
  exact rx_exact (l_find (S := sS S1 1 0) (N := pN n (S.2.2 4)) ha rfl (F1 hz).1 (fun j hj => (F1 hz).2 j hj) (by omega) b k _ 0 0 (Nat.zero_add _)) ⟨rfl, sS S1 1 0, rfl, E1.e2, rfl⟩
theorem k_find1 (ha : a = V.2.1 + h1.length) (hN : mN n S) (hv : vok n (S.2.2 4)) (hz : ¬ flt n (S.2.2 4) = 0) (b k : Int32) : rx_C V (d + 8) kc ks m_Mo_find [.ref a, .int b, .int k] (mw V h1 a S h2) (mPo V h1 a S h2 (.inl (some (.int 0))) 1) := by
  refine rx_aload_nr d_Mo_find_0 (by rfl) ?_
  refine rx_aload_nr d_Mo_find_1 (by rfl) ?_
  refine rx_pV d_Mo_find_2 (by rfl) ml_Mo_183 im_Mo_walk se_Mo_walk (by exact c9_Mo_walk) (mr0 ha) (by rfl) (by exact Nat.le_of_ble_eq_true rfl) (k_walk (d := d + 1) ha hN hv) ?_
  intro hx z9
  obtain ⟨S1, rfl, E1, F1⟩ := z9
  rw [if_neg hz]
  refine rx_if_eq (tgt := 12) d_Mo_find_5 (by rfl) (fun c5 => ?_) (fun z => absurd (show (0 : Int32) = 0 from rfl) z)
  refine rx_iconst (v := 1) d_Mo_find_12 (by decide) ?_
  refine m_putI (k9 := 1) ha d_Mo_find_13 (fw_Mo_63 rfl) (by rfl) (by rfl) (by rfl) ?_
  refine rx_iconst (v := 0) d_Mo_find_16 (by decide) ?_
  refine rx_istore_n d_Mo_find_17 (Nat.le_of_ble_eq_true rfl) ?_
  refine rx_iconst (v := 0) d_Mo_find_18 (by decide) ?_
  refine rx_istore d_Mo_find_19 (Nat.le_of_ble_eq_true rfl) ?_
  refine rx_iload d_Mo_find_21 (by rfl) ?_
  refine rx_aload_nr d_Mo_find_23 (by rfl) ?_
  refine rx_getfield d_Mo_find_24 fl_Mo_159 (mr0 ha) (by rfl) ?_
  refine rx_icmp_ge (tgt := 65) d_Mo_find_27 (by rfl) (fun c27 => ?_) (fun c27 => ?_)
  · refine rx_aload_nr d_Mo_find_65 (by rfl) ?_
    refine rx_getfield d_Mo_find_66 fl_Mo_63 (mr0 ha) (by rfl) ?_
    rw [show (sS S1 1 1).1 1 = 1 from rfl]
    refine rx_if_le (tgt := 76) d_Mo_find_69 (by rfl) (fun z => absurd z (show ¬ (1 : Int32) ≤ 0 by decide)) (fun c69 => ?_)
    refine rx_iconst (v := 0) d_Mo_find_72 (by decide) ?_
    refine rx_goto (tgt := 77) d_Mo_find_73 (by rfl) ?_
    refine rx_ireturn d_Mo_find_77 (by rfl) ?_
    exact ⟨rfl, sS S1 1 1, rfl, E1.e2, rfl⟩
  · refine rx_aload_nr d_Mo_find_30 (by rfl) ?_
    refine rx_getfield d_Mo_find_31 fl_Mo_63 (mr0 ha) (by rfl) ?_
    rw [show (sS S1 1 1).1 1 = 1 from rfl]
    refine rx_if_ne (tgt := 65) d_Mo_find_34 (by rfl) (fun c34 => ?_) (fun z => absurd z (show ¬ (1 : Int32) = 0 by decide))
    refine rx_aload_nr d_Mo_find_65 (by rfl) ?_
    refine rx_getfield d_Mo_find_66 fl_Mo_63 (mr0 ha) (by rfl) ?_
    rw [show (sS S1 1 1).1 1 = 1 from rfl]
    refine rx_if_le (tgt := 76) d_Mo_find_69 (by rfl) (fun z => absurd z (show ¬ (1 : Int32) ≤ 0 by decide)) (fun c69 => ?_)
    refine rx_iconst (v := 0) d_Mo_find_72 (by decide) ?_
    refine rx_goto (tgt := 77) d_Mo_find_73 (by rfl) ?_
    refine rx_ireturn d_Mo_find_77 (by rfl) ?_
    exact ⟨rfl, sS S1 1 1, rfl, E1.e2, rfl⟩
theorem tkf_nI {n b : Nat} {Le Te : Nat → Int32} (hn : n ≤ 20) (h : b < n) : tkf n Le Te (nI b) = (Le b).toInt64 * (Te b).toInt64 := by
  unfold tkf
  rw [pgl_nI hn h, pgl_nI hn h]
theorem l_ticksBefore {h3 : List va_E} (ha : a = V.2.1 + h3.length) (hn : n ≤ 20) {fb : Nat → Nat} (hf : ∀ j, j < N → S.2.2 16 j = nI (fb j) ∧ fb j < n) (hN4 : N ≤ 240) {i : Nat} (hi : i ≤ N) : ∀ (m j : Nat) (x : Int64), j + m = i → rx_W V d kc ks m_Mo_ticksBefore 5 [some (.ref a), some (.int (nI i)), some (.long x), none, some (.int (nI j))] [] (mw V h3 a S h2) (rx_X (.inl (some (.long (ffo (tks n (S.2.2 2) (S.2.2 3) (fun j => nI (fb j))) x j m)))) (mw V h3 a S h2)) := by
  intro m
  induction m with
  | zero =>
    intro j x hj
    have e : j = i := by omega
    subst e
    refine rx_iload d_Mo_ticksBefore_5 (by rfl) ?_
    refine rx_iload_n d_Mo_ticksBefore_7 (by rfl) ?_
    refine rx_icmp_ge (tgt := 47) d_Mo_ticksBefore_8 (by rfl) (fun c8 => ?_) (fun z => absurd (Int32.le_refl _) z)
    refine rx_lload_n d_Mo_ticksBefore_47 (by rfl) ?_
    refine rx_lreturn d_Mo_ticksBefore_48 (by rfl) ?_
    exact ⟨rfl, rfl⟩
  | succ m ih =>
    intro j x hj
    obtain ⟨f1, f2⟩ := hf j (by omega)
    rw [show ffo (tks n (S.2.2 2) (S.2.2 3) (fun j => nI (fb j))) x j (m + 1) = ffo (tks n (S.2.2 2) (S.2.2 3) (fun j => nI (fb j))) (x + (S.2.2 2 (fb j)).toInt64 * (S.2.2 3 (fb j)).toInt64) (j + 1) m by
      show ffo _ (tks n (S.2.2 2) (S.2.2 3) (fun j => nI (fb j)) x j) (j + 1) m = _
      unfold tks
      rw [tkf_nI hn f2]]
    refine rx_iload d_Mo_ticksBefore_5 (by rfl) ?_
    refine rx_iload_n d_Mo_ticksBefore_7 (by rfl) ?_
    refine rx_icmp_ge (tgt := 47) d_Mo_ticksBefore_8 (by rfl) (fun z => absurd z (nI_ge (by omega) (by omega))) (fun c8 => ?_)
    refine rx_lload_n d_Mo_ticksBefore_11 (by rfl) ?_
    refine rx_aload_nr d_Mo_ticksBefore_12 (by rfl) ?_
    refine rx_getfield d_Mo_ticksBefore_13 fl_Mo_13 (mr0 ha) (by rfl) ?_
    refine rx_aload_nr d_Mo_ticksBefore_16 (by rfl) ?_
    refine rx_getfield d_Mo_ticksBefore_17 fl_Mo_56 (mr0 ha) (by rfl) ?_
    refine rx_iload d_Mo_ticksBefore_20 (by rfl) ?_
    refine m_ial (j := 16) ha d_Mo_ticksBefore_22 (by rfl) (by omega) (by decide) ?_
    rw [f1]
    refine m_ial (j := 2) ha d_Mo_ticksBefore_23 (by rfl) (by omega) (by decide) ?_
    refine rx_i2l d_Mo_ticksBefore_24 ?_
    refine rx_aload_nr d_Mo_ticksBefore_25 (by rfl) ?_
    refine rx_getfield d_Mo_ticksBefore_26 fl_Mo_16 (mr0 ha) (by rfl) ?_
    refine rx_aload_nr d_Mo_ticksBefore_29 (by rfl) ?_
    refine rx_getfield d_Mo_ticksBefore_30 fl_Mo_56 (mr0 ha) (by rfl) ?_
    refine rx_iload d_Mo_ticksBefore_33 (by rfl) ?_
    refine m_ial (j := 16) ha d_Mo_ticksBefore_35 (by rfl) (by omega) (by decide) ?_
    rw [f1]
    refine m_ial (j := 3) ha d_Mo_ticksBefore_36 (by rfl) (by omega) (by decide) ?_
    refine rx_i2l d_Mo_ticksBefore_37 ?_
    refine rx_lmul d_Mo_ticksBefore_38 ?_
    refine rx_ladd d_Mo_ticksBefore_39 ?_
    refine rx_lstore_n d_Mo_ticksBefore_40 (Nat.le_of_ble_eq_true rfl) ?_
    refine rx_iinc (v := nI (j + 1)) d_Mo_ticksBefore_41 (by rfl) (i_inc j) ?_
    refine rx_goto (tgt := 5) d_Mo_ticksBefore_44 (by rfl) ?_
    exact ih (j + 1) _ (by omega)
theorem k_ticksBefore {h3 : List va_E} (ha : a = V.2.1 + h3.length) (hn : n ≤ 20) {fb : Nat → Nat} (hf : ∀ j, j < N → S.2.2 16 j = nI (fb j) ∧ fb j < n) (hN4 : N ≤ 240) {i : Nat} (hi : i ≤ N) : rx_C V d kc ks m_Mo_ticksBefore [.ref a, .int (nI i)] (mw V h3 a S h2) (rx_X (.inl (some (.long (ffo (tks n (S.2.2 2) (S.2.2 3) (fun j => nI (fb j))) 0 0 i)))) (mw V h3 a S h2)) := by
  refine rx_lconst (v := 0) d_Mo_ticksBefore_0 (by decide) ?_
  refine rx_lstore_n d_Mo_ticksBefore_1 (Nat.le_of_ble_eq_true rfl) ?_
  refine rx_iconst (v := 0) d_Mo_ticksBefore_2 (by decide) ?_
  refine rx_istore d_Mo_ticksBefore_3 (Nat.le_of_ble_eq_true rfl) ?_
  exact l_ticksBefore ha hn hf hN4 hi i 0 0 (by omega)
theorem k_tick1 (ha : a = V.2.1 + h1.length) (hN : mN n S) (hv : vok n (S.2.2 4)) (hz : ¬ flt n (S.2.2 4) = 0) (i : Int32) : rx_C V (d + 8) kc ks m_Mo_tick [.ref a, .int i] (mw V h1 a S h2) (mPo V h1 a S h2 (.inl (some (.long 0))) 1) := by
  refine rx_aload_nr d_Mo_tick_0 (by rfl) ?_
  refine rx_aload_nr d_Mo_tick_1 (by rfl) ?_
  refine rx_iload_n d_Mo_tick_2 (by rfl) ?_
  refine rx_iconst (v := 1) d_Mo_tick_3 (by decide) ?_
  refine rx_pV d_Mo_tick_4 (by rfl) ml_Mo_186 im_Mo_wrongBar se_Mo_wrongBar (by exact c9_Mo_wrongBar) (mr0 ha) (by rfl) (by exact Nat.le_of_ble_eq_true rfl) (k_wrongBar (d := d) ha hN hv i 1) ?_
  intro hx z9
  obtain ⟨S1, rfl, E1, F1⟩ := z9
  rw [wbc_1 hz]
  refine m_putI (k9 := 1) ha d_Mo_tick_7 (fw_Mo_63 rfl) (by rfl) (by rfl) (by rfl) ?_
  refine rx_aload_nr d_Mo_tick_10 (by rfl) ?_
  refine rx_getfield d_Mo_tick_11 fl_Mo_63 (mr0 ha) (by rfl) ?_
  rw [show (sS S1 1 1).1 1 = 1 from rfl]
  refine rx_if_le (tgt := 21) d_Mo_tick_14 (by rfl) (fun z => absurd z (show ¬ (1 : Int32) ≤ 0 by decide)) (fun c14 => ?_)
  refine rx_lconst (v := 0) d_Mo_tick_17 (by decide) ?_
  refine rx_goto (tgt := 26) d_Mo_tick_18 (by rfl) ?_
  refine rx_lreturn d_Mo_tick_26 (by rfl) ?_
  exact ⟨rfl, sS S1 1 1, rfl, E1.e2, rfl⟩
theorem k_tick2 (ha : a = V.2.1 + h1.length) (hN : mN n S) (hv : vok n (S.2.2 4)) (hz : flt n (S.2.2 4) = 0) {i : Int32} (hi : iwn i 0 (nI (pN n (S.2.2 4))) = 0) : rx_C V (d + 8) kc ks m_Mo_tick [.ref a, .int i] (mw V h1 a S h2) (mPo V h1 a S h2 (.inl (some (.long 0))) 2) := by
  refine rx_aload_nr d_Mo_tick_0 (by rfl) ?_
  refine rx_aload_nr d_Mo_tick_1 (by rfl) ?_
  refine rx_iload_n d_Mo_tick_2 (by rfl) ?_
  refine rx_iconst (v := 1) d_Mo_tick_3 (by decide) ?_
  refine rx_pV d_Mo_tick_4 (by rfl) ml_Mo_186 im_Mo_wrongBar se_Mo_wrongBar (by exact c9_Mo_wrongBar) (mr0 ha) (by rfl) (by exact Nat.le_of_ble_eq_true rfl) (k_wrongBar (d := d) ha hN hv i 1) ?_
  intro hx z9
  obtain ⟨S1, rfl, E1, F1⟩ := z9
  rw [wbc_2 hz ((out_1 (by have := (pN_ok hN.2.2 hN.2.1 hv hz).1; have := hN.2; omega)).mp hi)]
  refine m_putI (k9 := 1) ha d_Mo_tick_7 (fw_Mo_63 rfl) (by rfl) (by rfl) (by rfl) ?_
  refine rx_aload_nr d_Mo_tick_10 (by rfl) ?_
  refine rx_getfield d_Mo_tick_11 fl_Mo_63 (mr0 ha) (by rfl) ?_
  rw [show (sS S1 1 2).1 1 = 2 from rfl]
  refine rx_if_le (tgt := 21) d_Mo_tick_14 (by rfl) (fun z => absurd z (show ¬ (2 : Int32) ≤ 0 by decide)) (fun c14 => ?_)
  refine rx_lconst (v := 0) d_Mo_tick_17 (by decide) ?_
  refine rx_goto (tgt := 26) d_Mo_tick_18 (by rfl) ?_
  refine rx_lreturn d_Mo_tick_26 (by rfl) ?_
  exact ⟨rfl, sS S1 1 2, rfl, E1.e2, rfl⟩
theorem wf_hf (hN : mN n S) (hv : vok n (S.2.2 4)) (hz : flt n (S.2.2 4) = 0) {S1 : mT} (F : ∀ j, j < pN n (S.2.2 4) → S1.2.2 16 j = wf n (S.2.2 4) j) : ∀ j, j < pN n (S.2.2 4) → S1.2.2 16 j = nI (wbr n (S.2.2 4) (gst (S.2.2 4) n) (gGn n (S.2.2 4)) j) ∧ wbr n (S.2.2 4) (gst (S.2.2 4) n) (gGn n (S.2.2 4)) j < n := fun j hj => ⟨F j hj, wbr_lt hN.2.2 hN.2.1 hv hz j⟩
theorem k_tick0 (ha : a = V.2.1 + h1.length) (hN : mN n S) (hv : vok n (S.2.2 4)) (hz : flt n (S.2.2 4) = 0) {i : Nat} (hi : i ≤ pN n (S.2.2 4)) : rx_C V (d + 8) kc ks m_Mo_tick [.ref a, .int (nI i)] (mw V h1 a S h2) (mPo V h1 a S h2 (.inl (some (.long (ffo (tks n (S.2.2 2) (S.2.2 3) (wf n (S.2.2 4))) 0 0 i)))) 0) := by
  have pk := pN_ok hN.2.2 hN.2.1 hv hz
  have hn := hN.2
  refine rx_aload_nr d_Mo_tick_0 (by rfl) ?_
  refine rx_aload_nr d_Mo_tick_1 (by rfl) ?_
  refine rx_iload_n d_Mo_tick_2 (by rfl) ?_
  refine rx_iconst (v := 1) d_Mo_tick_3 (by decide) ?_
  refine rx_pV d_Mo_tick_4 (by rfl) ml_Mo_186 im_Mo_wrongBar se_Mo_wrongBar (by exact c9_Mo_wrongBar) (mr0 ha) (by rfl) (by exact Nat.le_of_ble_eq_true rfl) (k_wrongBar (d := d) ha hN hv (nI i) 1) ?_
  intro hx z9
  obtain ⟨S1, rfl, E1, F1⟩ := z9
  rw [wbc_0 hz (in_1 (by omega) hi)]
  refine m_putI (k9 := 1) ha d_Mo_tick_7 (fw_Mo_63 rfl) (by rfl) (by rfl) (by rfl) ?_
  refine rx_aload_nr d_Mo_tick_10 (by rfl) ?_
  refine rx_getfield d_Mo_tick_11 fl_Mo_63 (mr0 ha) (by rfl) ?_
  rw [show (sS S1 1 0).1 1 = 0 from rfl]
  refine rx_if_le (tgt := 21) d_Mo_tick_14 (by rfl) (fun c14 => ?_) (fun z => absurd (show (0 : Int32) ≤ 0 by decide) z)
  refine rx_aload_nr d_Mo_tick_21 (by rfl) ?_
  refine rx_iload_n d_Mo_tick_22 (by rfl) ?_
  refine rx_cV d_Mo_tick_23 (by rfl) ml_Mo_189 im_Mo_ticksBefore se_Mo_ticksBefore (by exact c9_Mo_ticksBefore) (mr0 ha) (by rfl) (by exact Nat.le_of_ble_eq_true rfl) (k_ticksBefore (S := sS S1 1 0) ha hn.2 (wf_hf hN hv hz (F1 hz).2) (by omega) hi) ?_
  rw [show (sS S1 1 0).2.2 2 = S.2.2 2 from E1.2.2.2 2 (by omega), show (sS S1 1 0).2.2 3 = S.2.2 3 from E1.2.2.2 3 (by omega)]
  refine rx_lreturn d_Mo_tick_26 (by rfl) ?_
  exact ⟨rfl, sS S1 1 0, rfl, E1.e2, rfl⟩
theorem l_at {h3 : List va_E} (ha : a = V.2.1 + h3.length) (hn : n ≤ 20) (h24 : S.1 24 = nI N) {fb : Nat → Nat} (hf : ∀ j, j < N → S.2.2 16 j = nI (fb j) ∧ fb j < n) (hN4 : N ≤ 240) (t : Int64) : ∀ (m j : Nat) (x : Int32), j + m = N → x = Int32.ofInt (lwf (fun i => decide (¬ t < ffo (tks n (S.2.2 2) (S.2.2 3) (fun j => nI (fb j))) 0 0 i ∧ t < ffo (tks n (S.2.2 2) (S.2.2 3) (fun j => nI (fb j))) 0 0 (i + 1))) 0 j) → rx_W V (d + 1) kc ks m_Mo_at 30 [some (.ref a), some (.long t), none, some (.int x), some (.int (nI j))] [] (mw V h3 a S h2) (rx_X (.inl (some (.int (Int32.ofInt (lwf (fun i => decide (¬ t < ffo (tks n (S.2.2 2) (S.2.2 3) (fun j => nI (fb j))) 0 0 i ∧ t < ffo (tks n (S.2.2 2) (S.2.2 3) (fun j => nI (fb j))) 0 0 (i + 1))) 0 N))))) (mw V h3 a S h2)) := by
  intro m
  induction m with
  | zero =>
    intro j x hj hx
    have e : j = N := by omega
    subst e
    refine rx_iload d_Mo_at_30 (by rfl) ?_
    refine rx_aload_nr d_Mo_at_32 (by rfl) ?_
    refine rx_getfield d_Mo_at_33 fl_Mo_159 (mr0 ha) (by rfl) ?_
    rw [h24]
    refine rx_icmp_ge (tgt := 76) d_Mo_at_36 (by rfl) (fun c36 => ?_) (fun z => absurd (Int32.le_refl _) z)
    refine rx_iload_n d_Mo_at_76 (by rfl) ?_
    refine rx_ireturn d_Mo_at_77 (by rfl) ?_
    exact ⟨by rw [hx], rfl⟩
  | succ m ih =>
    intro j x hj hx
    have no : ¬ (¬ t < ffo (tks n (S.2.2 2) (S.2.2 3) (fun j => nI (fb j))) 0 0 j ∧ t < ffo (tks n (S.2.2 2) (S.2.2 3) (fun j => nI (fb j))) 0 0 (j + 1)) → x = Int32.ofInt (lwf (fun i => decide (¬ t < ffo (tks n (S.2.2 2) (S.2.2 3) (fun j => nI (fb j))) 0 0 i ∧ t < ffo (tks n (S.2.2 2) (S.2.2 3) (fun j => nI (fb j))) 0 0 (i + 1))) 0 (j + 1)) := fun z => by
      rw [lwf_no (by omega) (decide_eq_false z)]; exact hx
    have yes : (¬ t < ffo (tks n (S.2.2 2) (S.2.2 3) (fun j => nI (fb j))) 0 0 j ∧ t < ffo (tks n (S.2.2 2) (S.2.2 3) (fun j => nI (fb j))) 0 0 (j + 1)) → nI j = Int32.ofInt (lwf (fun i => decide (¬ t < ffo (tks n (S.2.2 2) (S.2.2 3) (fun j => nI (fb j))) 0 0 i ∧ t < ffo (tks n (S.2.2 2) (S.2.2 3) (fun j => nI (fb j))) 0 0 (i + 1))) 0 (j + 1)) := fun z => by
      rw [lwf_yes (by omega) (decide_eq_true z)]; exact (i_ofI j).symm
    refine rx_iload d_Mo_at_30 (by rfl) ?_
    refine rx_aload_nr d_Mo_at_32 (by rfl) ?_
    refine rx_getfield d_Mo_at_33 fl_Mo_159 (mr0 ha) (by rfl) ?_
    rw [h24]
    refine rx_icmp_ge (tgt := 76) d_Mo_at_36 (by rfl) (fun z => absurd z (nI_ge (by omega) (by omega))) (fun c36 => ?_)
    refine rx_lload_n d_Mo_at_39 (by rfl) ?_
    refine rx_aload_nr d_Mo_at_40 (by rfl) ?_
    refine rx_iload d_Mo_at_41 (by rfl) ?_
    refine rx_cV d_Mo_at_43 (by rfl) ml_Mo_189 im_Mo_ticksBefore se_Mo_ticksBefore (by exact c9_Mo_ticksBefore) (mr0 ha) (by rfl) (by exact Nat.le_of_ble_eq_true rfl) (k_ticksBefore ha hn hf hN4 (i := j) (by omega)) ?_
    refine rx_lcmp d_Mo_at_46 ?_
    refine rx_if_lt (tgt := 68) d_Mo_at_47 (by rfl) (fun c47 => ?_) (fun c47 => ?_)
    · have c47 := (lg_lt0 _ _).mp c47
      refine rx_iload_n d_Mo_at_68 (by rfl) ?_
      refine rx_istore_n d_Mo_at_69 (Nat.le_of_ble_eq_true rfl) ?_
      refine rx_iinc (v := nI (j + 1)) d_Mo_at_70 (by rfl) (i_inc j) ?_
      refine rx_goto (tgt := 30) d_Mo_at_73 (by rfl) ?_
      first | exact ih (j + 1) _ (by omega) (no (fun z => z.1 c47)) | exact ih (j + 1) _ (by omega) (no (fun z => c60 z.2)) | exact ih (j + 1) _ (by omega) (yes ⟨c47, c60⟩)
    · have c47 := fun z => c47 ((lg_lt0 _ _).mpr z)
      refine rx_lload_n d_Mo_at_50 (by rfl) ?_
      refine rx_aload_nr d_Mo_at_51 (by rfl) ?_
      refine rx_iload d_Mo_at_52 (by rfl) ?_
      refine rx_iconst (v := 1) d_Mo_at_54 (by decide) ?_
      refine rx_iadd d_Mo_at_55 ?_
      rw [nI_1]
      refine rx_cV d_Mo_at_56 (by rfl) ml_Mo_189 im_Mo_ticksBefore se_Mo_ticksBefore (by exact c9_Mo_ticksBefore) (mr0 ha) (by rfl) (by exact Nat.le_of_ble_eq_true rfl) (k_ticksBefore ha hn hf hN4 (i := j + 1) (by omega)) ?_
      refine rx_lcmp d_Mo_at_59 ?_
      refine rx_if_ge (tgt := 68) d_Mo_at_60 (by rfl) (fun c60 => ?_) (fun c60 => ?_)
      · have c60 := (lg_ge0 _ _).mp c60
        refine rx_iload_n d_Mo_at_68 (by rfl) ?_
        refine rx_istore_n d_Mo_at_69 (Nat.le_of_ble_eq_true rfl) ?_
        refine rx_iinc (v := nI (j + 1)) d_Mo_at_70 (by rfl) (i_inc j) ?_
        refine rx_goto (tgt := 30) d_Mo_at_73 (by rfl) ?_
        first | exact ih (j + 1) _ (by omega) (no (fun z => z.1 c47)) | exact ih (j + 1) _ (by omega) (no (fun z => c60 z.2)) | exact ih (j + 1) _ (by omega) (yes ⟨c47, c60⟩)
      · have c60 := Decidable.not_not.mp (fun z => c60 ((lg_ge0 _ _).mpr z))
        refine rx_iload d_Mo_at_63 (by rfl) ?_
        refine rx_goto (tgt := 69) d_Mo_at_65 (by rfl) ?_
        refine rx_istore_n d_Mo_at_69 (Nat.le_of_ble_eq_true rfl) ?_
        refine rx_iinc (v := nI (j + 1)) d_Mo_at_70 (by rfl) (i_inc j) ?_
        refine rx_goto (tgt := 30) d_Mo_at_73 (by rfl) ?_
        first | exact ih (j + 1) _ (by omega) (no (fun z => z.1 c47)) | exact ih (j + 1) _ (by omega) (no (fun z => c60 z.2)) | exact ih (j + 1) _ (by omega) (yes ⟨c47, c60⟩)
theorem k_at0 (ha : a = V.2.1 + h1.length) (hN : mN n S) (hv : vok n (S.2.2 4)) (hz : flt n (S.2.2 4) = 0) (t : Int64) : rx_C V (d + 8) kc ks m_Mo_at [.ref a, .long t] (mw V h1 a S h2) (mPo V h1 a S h2 (.inl (some (.int (Int32.ofInt (lwf (fun i => decide (¬ t < ffo (tks n (S.2.2 2) (S.2.2 3) (wf n (S.2.2 4))) 0 0 i ∧ t < ffo (tks n (S.2.2 2) (S.2.2 3) (wf n (S.2.2 4))) 0 0 (i + 1))) 0 (pN n (S.2.2 4))))))) 0) := by
  have pk := pN_ok hN.2.2 hN.2.1 hv hz
  have hn := hN.2
  refine rx_aload_nr d_Mo_at_0 (by rfl) ?_
  refine rx_aload_nr d_Mo_at_1 (by rfl) ?_
  refine rx_pV d_Mo_at_2 (by rfl) ml_Mo_183 im_Mo_walk se_Mo_walk (by exact c9_Mo_walk) (mr0 ha) (by rfl) (by exact Nat.le_of_ble_eq_true rfl) (k_walk (d := d + 1) ha hN hv) ?_
  intro hx z9
  obtain ⟨S1, rfl, E1, F1⟩ := z9
  rw [if_pos hz]
  refine rx_if_eq (tgt := 12) d_Mo_at_5 (by rfl) (fun z => absurd z (show ¬ (1 : Int32) = 0 by decide)) (fun c5 => ?_)
  refine rx_iconst (v := 0) d_Mo_at_8 (by decide) ?_
  refine rx_goto (tgt := 13) d_Mo_at_9 (by rfl) ?_
  refine m_putI (k9 := 1) ha d_Mo_at_13 (fw_Mo_63 rfl) (by rfl) (by rfl) (by rfl) ?_
  refine rx_aload_nr d_Mo_at_16 (by rfl) ?_
  refine rx_getfield d_Mo_at_17 fl_Mo_63 (mr0 ha) (by rfl) ?_
  rw [show (sS S1 1 0).1 1 = 0 from rfl]
  refine rx_if_le (tgt := 25) d_Mo_at_20 (by rfl) (fun c20 => ?_) (fun z => absurd (show (0 : Int32) ≤ 0 by decide) z)
  refine rx_iconst (v := -1) d_Mo_at_25 (by decide) ?_
  refine rx_istore_n d_Mo_at_26 (Nat.le_of_ble_eq_true rfl) ?_
  refine rx_iconst (v := 0) d_Mo_at_27 (by decide) ?_
  refine rx_istore d_Mo_at_28 (Nat.le_of_ble_eq_true rfl) ?_
  have z := l_at (S := sS S1 1 0) (h2 := h2) (d := d + 7) (kc := kc) (ks := ks) (N := pN n (S.2.2 4)) ha hn.2 (F1 hz).1 (wf_hf hN hv hz (F1 hz).2) (by omega) t _ 0 (-1) (Nat.zero_add _) rfl
  rw [show (sS S1 1 0).2.2 2 = S.2.2 2 from E1.2.2.2 2 (by omega), show (sS S1 1 0).2.2 3 = S.2.2 3 from E1.2.2.2 3 (by omega)] at z
  exact rx_exact z ⟨rfl, sS S1 1 0, rfl, E1.e2, rfl⟩
theorem k_at1 (ha : a = V.2.1 + h1.length) (hN : mN n S) (hv : vok n (S.2.2 4)) (hz : ¬ flt n (S.2.2 4) = 0) (t : Int64) : rx_C V (d + 8) kc ks m_Mo_at [.ref a, .long t] (mw V h1 a S h2) (mPo V h1 a S h2 (.inl (some (.int 0))) 1) := by
  refine rx_aload_nr d_Mo_at_0 (by rfl) ?_
  refine rx_aload_nr d_Mo_at_1 (by rfl) ?_
  refine rx_pV d_Mo_at_2 (by rfl) ml_Mo_183 im_Mo_walk se_Mo_walk (by exact c9_Mo_walk) (mr0 ha) (by rfl) (by exact Nat.le_of_ble_eq_true rfl) (k_walk (d := d + 1) ha hN hv) ?_
  intro hx z9
  obtain ⟨S1, rfl, E1, F1⟩ := z9
  rw [if_neg hz]
  refine rx_if_eq (tgt := 12) d_Mo_at_5 (by rfl) (fun c5 => ?_) (fun z => absurd (show (0 : Int32) = 0 from rfl) z)
  refine rx_iconst (v := 1) d_Mo_at_12 (by decide) ?_
  refine m_putI (k9 := 1) ha d_Mo_at_13 (fw_Mo_63 rfl) (by rfl) (by rfl) (by rfl) ?_
  refine rx_aload_nr d_Mo_at_16 (by rfl) ?_
  refine rx_getfield d_Mo_at_17 fl_Mo_63 (mr0 ha) (by rfl) ?_
  rw [show (sS S1 1 1).1 1 = 1 from rfl]
  refine rx_if_le (tgt := 25) d_Mo_at_20 (by rfl) (fun z => absurd z (show ¬ (1 : Int32) ≤ 0 by decide)) (fun c20 => ?_)
  refine rx_iconst (v := 0) d_Mo_at_23 (by decide) ?_
  refine rx_ireturn d_Mo_at_24 (by rfl) ?_
  exact ⟨rfl, sS S1 1 1, rfl, E1.e2, rfl⟩
end MPU
