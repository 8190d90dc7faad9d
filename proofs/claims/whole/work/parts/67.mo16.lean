/-! the reference's calls: sounds, sound -/
theorem skP_no {V : rx_V} {h1 h2 h' : List va_E} {a n N num cnt : Nat} {S : mT} {fb : Nat → Nat} {NS : Nat → Nat → Int32} {σ : Nat → Nat} {wt : Int32} {L : List (Nat × Nat)} {r : rx_R} (H : skP V h1 a S h2 n N num fb NS σ wt cnt L r h') (h : ∀ t, t < L.length → wt ≠ nI (cnt + t)) : rx_X (.inl (some (.int (-1)))) (mw V h1 a (sL S 27 (nI (cnt + L.length)).toInt64) h2) r h' := by
  obtain ⟨t, c, i, q1, q2, q3, q4⟩ | ⟨q1, q2, q3⟩ := H
  · exact absurd q2 (h t (List.getElem?_eq_some_iff.mp q1).1)
  · exact ⟨q2, q3⟩
theorem skP_at {V : rx_V} {h1 h2 h' : List va_E} {a n N num j c i : Nat} {S : mT} {fb : Nat → Nat} {NS : Nat → Nat → Int32} {σ : Nat → Nat} {L : List (Nat × Nat)} {r : rx_R} (H : skP V h1 a S h2 n N num fb NS σ (nI j) 0 L r h') (hL : L.length ≤ 1000) (h : L[j]? = some (c, i)) : rx_X (.inl (some (.int (nI (σ c))))) (mw V h1 a (flS n N num fb NS S c i) h2) r h' := by
  have hj := (List.getElem?_eq_some_iff.mp h).1
  obtain ⟨t, c', i', q1, q2, q3, q4⟩ | ⟨q1, q2, q3⟩ := H
  · have ht := (List.getElem?_eq_some_iff.mp q1).1
    have e : j = 0 + t := (nI_eq (by omega) (by omega)).mp q2
    rw [show t = j by omega, h] at q1
    cases q1
    exact ⟨q3, q4⟩
  · exact absurd (by rw [Nat.zero_add]) (q1 j hj)
section MSO
variable {V : rx_V} {d kc ks : Nat} {h h1 h2 : List va_E} {a n num N : Nat} {S S0 : mT} {Q : rx_R → List va_E → Prop} {NS : Nat → Nat → Int32} {σ : Nat → Nat}
theorem k_sounds1 (ha : a = V.2.1 + h1.length) {p : Int32} (hp : iwn p 0 2 = 0) : rx_C V (d + 8) kc ks m_Mo_sounds [.ref a, .int p] (mw V h1 a S h2) (mPo V h1 a S h2 (.inl (some (.int 0))) 1) := by
  refine rx_aload_nr d_Mo_sounds_0 (by rfl) ?_
  refine rx_aload_nr d_Mo_sounds_1 (by rfl) ?_
  refine rx_iload_n d_Mo_sounds_2 (by rfl) ?_
  refine rx_cV d_Mo_sounds_3 (by rfl) ml_Mo_220 im_Mo_wrongPart se_Mo_wrongPart (by exact c9_Mo_wrongPart) (mr0 ha) (by rfl) (by exact Nat.le_of_ble_eq_true rfl) (k_wrongPart1 (d := d) ha hp) ?_
  refine m_putI (k9 := 1) ha d_Mo_sounds_6 (fw_Mo_63 rfl) (by rfl) (by rfl) (by rfl) ?_
  refine rx_aload_nr d_Mo_sounds_9 (by rfl) ?_
  refine rx_getfield d_Mo_sounds_10 fl_Mo_63 (mr0 ha) (by rfl) ?_
  rw [show (sS S 1 1).1 1 = 1 from rfl]
  refine rx_if_le (tgt := 18) d_Mo_sounds_13 (by rfl) (fun z => absurd z (show ¬ (1 : Int32) ≤ 0 by decide)) (fun c13 => ?_)
  refine rx_iconst (v := 0) d_Mo_sounds_16 (by decide) ?_
  refine rx_ireturn d_Mo_sounds_17 (by rfl) ?_
  exact ⟨rfl, sS S 1 1, rfl, mE2.s1, rfl⟩
theorem k_sounds2 (ha : a = V.2.1 + h1.length) (hN : mN n S) (hv : vok n (S.2.2 4)) {p : Int32} (hp : ¬ iwn p 0 2 = 0) (hz : ¬ flt n (S.2.2 4) = 0) : rx_C V (d + 8) kc ks m_Mo_sounds [.ref a, .int p] (mw V h1 a S h2) (mPo V h1 a S h2 (.inl (some (.int 0))) 2) := by
  refine rx_aload_nr d_Mo_sounds_0 (by rfl) ?_
  refine rx_aload_nr d_Mo_sounds_1 (by rfl) ?_
  refine rx_iload_n d_Mo_sounds_2 (by rfl) ?_
  refine rx_pV d_Mo_sounds_3 (by rfl) ml_Mo_220 im_Mo_wrongPart se_Mo_wrongPart (by exact c9_Mo_wrongPart) (mr0 ha) (by rfl) (by exact Nat.le_of_ble_eq_true rfl) (k_wrongPart (d := d) ha hN hv hp) ?_
  intro hx z9
  obtain ⟨S1, rfl, E1, F1⟩ := z9
  rw [if_neg hz]
  refine m_putI (k9 := 1) ha d_Mo_sounds_6 (fw_Mo_63 rfl) (by rfl) (by rfl) (by rfl) ?_
  refine rx_aload_nr d_Mo_sounds_9 (by rfl) ?_
  refine rx_getfield d_Mo_sounds_10 fl_Mo_63 (mr0 ha) (by rfl) ?_
  rw [show (sS S1 1 2).1 1 = 2 from rfl]
  refine rx_if_le (tgt := 18) d_Mo_sounds_13 (by rfl) (fun z => absurd z (show ¬ (2 : Int32) ≤ 0 by decide)) (fun c13 => ?_)
  refine rx_iconst (v := 0) d_Mo_sounds_16 (by decide) ?_
  refine rx_ireturn d_Mo_sounds_17 (by rfl) ?_
  exact ⟨rfl, sS S1 1 2, rfl, E1.e2, rfl⟩
theorem k_sounds0 (ha : a = V.2.1 + h1.length) (hN : mN n S) (hv : vok n (S.2.2 4)) (B : mB n num NS σ S) {p : Int32} (hp : ¬ iwn p 0 2 = 0) (hz : flt n (S.2.2 4) = 0) : rx_C V (d + 8) kc ks m_Mo_sounds [.ref a, .int p] (mw V h1 a S h2) (mPo V h1 a S h2 (.inl (some (.int (nI (sdc n (S.2.2 2) (S.2.2 4) num NS p).length)))) 0) := by
  have pk := pN_ok hN.2.2 hN.2.1 hv hz
  have hn := hN.2
  refine rx_aload_nr d_Mo_sounds_0 (by rfl) ?_
  refine rx_aload_nr d_Mo_sounds_1 (by rfl) ?_
  refine rx_iload_n d_Mo_sounds_2 (by rfl) ?_
  refine rx_pV d_Mo_sounds_3 (by rfl) ml_Mo_220 im_Mo_wrongPart se_Mo_wrongPart (by exact c9_Mo_wrongPart) (mr0 ha) (by rfl) (by exact Nat.le_of_ble_eq_true rfl) (k_wrongPart (d := d) ha hN hv hp) ?_
  intro hx z9
  obtain ⟨S1, rfl, E1, F1⟩ := z9
  rw [if_pos hz]
  have eL : S1.2.2 2 = S.2.2 2 := E1.2.2.2 2 (by omega)
  have hsk := rx_cons (k_seek (V := V) (h1 := h1) (h2 := h2) (a := a) (kc := 0) (ks := 0) (S := sS S1 1 0) (d := d + 5) (N := pN n (S.2.2 4)) (fb := wbr n (S.2.2 4) (gst (S.2.2 4) n) (gGn n (S.2.2 4))) ha (B.e2 E1.e2) (F1 hz).1 (wf_hf hN hv hz (F1 hz).2) (by omega) p (-1)) (fun r h9 z => skP_no z (fun t ht y => nI_m1 (by have h8 := sdc_len (Le := S1.2.2 2) (NS := NS) (p := p) hN.2.2 hN.2.1 hv hz B.1.2.1; have h9 : t < (sdc n (S1.2.2 2) (S.2.2 4) num NS p).length := ht; omega) y.symm))
  rw [Nat.zero_add, show (sS S1 1 0).2.2 2 = S.2.2 2 from eL] at hsk
  refine m_putI (k9 := 1) ha d_Mo_sounds_6 (fw_Mo_63 rfl) (by rfl) (by rfl) (by rfl) ?_
  refine rx_aload_nr d_Mo_sounds_9 (by rfl) ?_
  refine rx_getfield d_Mo_sounds_10 fl_Mo_63 (mr0 ha) (by rfl) ?_
  rw [show (sS S1 1 0).1 1 = 0 from rfl]
  refine rx_if_le (tgt := 18) d_Mo_sounds_13 (by rfl) (fun c13 => ?_) (fun z => absurd (show (0 : Int32) ≤ 0 by decide) z)
  refine rx_aload_nr d_Mo_sounds_18 (by rfl) ?_
  refine rx_iload_n d_Mo_sounds_19 (by rfl) ?_
  refine rx_iconst (v := -1) d_Mo_sounds_20 (by decide) ?_
  refine rx_cV d_Mo_sounds_21 (by rfl) ml_Mo_223 im_Mo_seek se_Mo_seek (by exact c9_Mo_seek) (mr0 ha) (by rfl) (by exact Nat.le_of_ble_eq_true rfl) hsk ?_
  refine rx_istore_n d_Mo_sounds_24 (Nat.le_of_ble_eq_true rfl) ?_
  refine rx_aload_nr d_Mo_sounds_25 (by rfl) ?_
  refine rx_getfield d_Mo_sounds_26 fl_Mo_200 (mr0 ha) (by rfl) ?_
  rw [show ∀ x, (sL (sS S1 1 0) 27 x).2.1 27 = x from fun _ => rfl]
  refine rx_l2i d_Mo_sounds_29 ?_
  rw [Int32.toInt32_toInt64]
  refine rx_ireturn d_Mo_sounds_30 (by rfl) ?_
  exact ⟨rfl, _, rfl, E1.e2, rfl⟩
theorem k_sound1 (ha : a = V.2.1 + h1.length) {p : Int32} (hp : iwn p 0 2 = 0) (i wh : Int32) : rx_C V (d + 8) kc ks m_Mo_sound [.ref a, .int p, .int i, .int wh] (mw V h1 a S h2) (mPo V h1 a S h2 (.inl (some (.long 0))) 1) := by
  refine rx_aload_nr d_Mo_sound_0 (by rfl) ?_
  refine rx_aload_nr d_Mo_sound_1 (by rfl) ?_
  refine rx_iload_n d_Mo_sound_2 (by rfl) ?_
  refine rx_cV d_Mo_sound_3 (by rfl) ml_Mo_220 im_Mo_wrongPart se_Mo_wrongPart (by exact c9_Mo_wrongPart) (mr0 ha) (by rfl) (by exact Nat.le_of_ble_eq_true rfl) (k_wrongPart1 (d := d) ha hp) ?_
  refine m_putI (k9 := 1) ha d_Mo_sound_6 (fw_Mo_63 rfl) (by rfl) (by rfl) (by rfl) ?_
  refine rx_aload_nr d_Mo_sound_9 (by rfl) ?_
  refine rx_getfield d_Mo_sound_10 fl_Mo_63 (mr0 ha) (by rfl) ?_
  rw [show (sS S 1 1).1 1 = 1 from rfl]
  refine rx_if_le (tgt := 18) d_Mo_sound_13 (by rfl) (fun z => absurd z (show ¬ (1 : Int32) ≤ 0 by decide)) (fun c13 => ?_)
  refine rx_lconst (v := 0) d_Mo_sound_16 (by decide) ?_
  refine rx_lreturn d_Mo_sound_17 (by rfl) ?_
  exact ⟨rfl, sS S 1 1, rfl, mE2.s1, rfl⟩
theorem k_sound2 (ha : a = V.2.1 + h1.length) (hN : mN n S) (hv : vok n (S.2.2 4)) {p : Int32} (hp : ¬ iwn p 0 2 = 0) (hz : ¬ flt n (S.2.2 4) = 0) (i wh : Int32) : rx_C V (d + 8) kc ks m_Mo_sound [.ref a, .int p, .int i, .int wh] (mw V h1 a S h2) (mPo V h1 a S h2 (.inl (some (.long 0))) 2) := by
  refine rx_aload_nr d_Mo_sound_0 (by rfl) ?_
  refine rx_aload_nr d_Mo_sound_1 (by rfl) ?_
  refine rx_iload_n d_Mo_sound_2 (by rfl) ?_
  refine rx_pV d_Mo_sound_3 (by rfl) ml_Mo_220 im_Mo_wrongPart se_Mo_wrongPart (by exact c9_Mo_wrongPart) (mr0 ha) (by rfl) (by exact Nat.le_of_ble_eq_true rfl) (k_wrongPart (d := d) ha hN hv hp) ?_
  intro hx z9
  obtain ⟨S1, rfl, E1, F1⟩ := z9
  rw [if_neg hz]
  refine m_putI (k9 := 1) ha d_Mo_sound_6 (fw_Mo_63 rfl) (by rfl) (by rfl) (by rfl) ?_
  refine rx_aload_nr d_Mo_sound_9 (by rfl) ?_
  refine rx_getfield d_Mo_sound_10 fl_Mo_63 (mr0 ha) (by rfl) ?_
  rw [show (sS S1 1 2).1 1 = 2 from rfl]
  refine rx_if_le (tgt := 18) d_Mo_sound_13 (by rfl) (fun z => absurd z (show ¬ (2 : Int32) ≤ 0 by decide)) (fun c13 => ?_)
  refine rx_lconst (v := 0) d_Mo_sound_16 (by decide) ?_
  refine rx_lreturn d_Mo_sound_17 (by rfl) ?_
  exact ⟨rfl, sS S1 1 2, rfl, E1.e2, rfl⟩
theorem k_soundN (ha : a = V.2.1 + h1.length) (hN : mN n S) (hv : vok n (S.2.2 4)) (B : mB n num NS σ S) {p : Int32} (hp : ¬ iwn p 0 2 = 0) (hz : flt n (S.2.2 4) = 0) {i : Int32} (hi : i.toInt < 0 ∨ ((sdc n (S.2.2 2) (S.2.2 4) num NS p).length : Int) ≤ i.toInt) (hl : (sdc n (S.2.2 2) (S.2.2 4) num NS p).length ≤ 1000) (wh : Int32) : rx_C V (d + 8) kc ks m_Mo_sound [.ref a, .int p, .int i, .int wh] (mw V h1 a S h2) (mPo V h1 a S h2 (.inl (some (.long (-1)))) 0) := by
  have pk := pN_ok hN.2.2 hN.2.1 hv hz
  have hn := hN.2
  refine rx_aload_nr d_Mo_sound_0 (by rfl) ?_
  refine rx_aload_nr d_Mo_sound_1 (by rfl) ?_
  refine rx_iload_n d_Mo_sound_2 (by rfl) ?_
  refine rx_pV d_Mo_sound_3 (by rfl) ml_Mo_220 im_Mo_wrongPart se_Mo_wrongPart (by exact c9_Mo_wrongPart) (mr0 ha) (by rfl) (by exact Nat.le_of_ble_eq_true rfl) (k_wrongPart (d := d) ha hN hv hp) ?_
  intro hx z9
  obtain ⟨S1, rfl, E1, F1⟩ := z9
  rw [if_pos hz]
  have eL : S1.2.2 2 = S.2.2 2 := E1.2.2.2 2 (by omega)
  refine m_putI (k9 := 1) ha d_Mo_sound_6 (fw_Mo_63 rfl) (by rfl) (by rfl) (by rfl) ?_
  refine rx_aload_nr d_Mo_sound_9 (by rfl) ?_
  refine rx_getfield d_Mo_sound_10 fl_Mo_63 (mr0 ha) (by rfl) ?_
  rw [show (sS S1 1 0).1 1 = 0 from rfl]
  refine rx_if_le (tgt := 18) d_Mo_sound_13 (by rfl) (fun c13 => ?_) (fun z => absurd (show (0 : Int32) ≤ 0 by decide) z)
  refine rx_iload_n d_Mo_sound_18 (by rfl) ?_
  refine rx_if_ge (tgt := 26) d_Mo_sound_19 (by rfl) (fun c19 => ?_) (fun c19 => ?_)
  · have c19 : 0 ≤ i.toInt := by rw [i_le, i_0] at c19; exact c19
    have hlen : ∀ t, t < (sds n ((sS S1 1 0).2.2 2) (pN n (S.2.2 4)) (fun j => nI (wbr n (S.2.2 4) (gst (S.2.2 4) n) (gGn n (S.2.2 4)) j)) num NS p).length → i ≠ nI (0 + t) := by
      intro t ht y
      rw [show (sS S1 1 0).2.2 2 = S.2.2 2 from eL] at ht
      have ht : t < (sdc n (S.2.2 2) (S.2.2 4) num NS p).length := ht
      rw [y, i_n (by omega)] at hi
      omega
    have hsk := rx_cons (k_seek (V := V) (h1 := h1) (h2 := h2) (a := a) (kc := 0) (ks := 0) (S := sS S1 1 0) (d := d + 5) (N := pN n (S.2.2 4)) (fb := wbr n (S.2.2 4) (gst (S.2.2 4) n) (gGn n (S.2.2 4))) ha (B.e2 E1.e2) (F1 hz).1 (wf_hf hN hv hz (F1 hz).2) (by omega) p i) (fun r h9 z => skP_no z hlen)
    refine rx_aload_nr d_Mo_sound_26 (by rfl) ?_
    refine rx_iload_n d_Mo_sound_27 (by rfl) ?_
    refine rx_iload_n d_Mo_sound_28 (by rfl) ?_
    refine rx_cV d_Mo_sound_29 (by rfl) ml_Mo_223 im_Mo_seek se_Mo_seek (by exact c9_Mo_seek) (mr0 ha) (by rfl) (by exact Nat.le_of_ble_eq_true rfl) hsk ?_
    refine rx_istore d_Mo_sound_32 (Nat.le_of_ble_eq_true rfl) ?_
    refine rx_iload d_Mo_sound_34 (by rfl) ?_
    refine rx_if_lt (tgt := 48) d_Mo_sound_36 (by rfl) (fun c36 => ?_) (fun z => absurd (show (-1 : Int32) < 0 by decide) z)
    refine rx_ldc2 d_Mo_sound_48 kl_Mo_226 ?_
    refine rx_lreturn d_Mo_sound_51 (by rfl) ?_
    exact ⟨rfl, _, rfl, E1.e2, rfl⟩
  · refine rx_iconst (v := -1) d_Mo_sound_22 (by decide) ?_
    refine rx_goto (tgt := 32) d_Mo_sound_23 (by rfl) ?_
    refine rx_istore d_Mo_sound_32 (Nat.le_of_ble_eq_true rfl) ?_
    refine rx_iload d_Mo_sound_34 (by rfl) ?_
    refine rx_if_lt (tgt := 48) d_Mo_sound_36 (by rfl) (fun _ => ?_) (fun z => absurd z (by decide))
    refine rx_ldc2 d_Mo_sound_48 kl_Mo_226 ?_
    refine rx_lreturn d_Mo_sound_51 (by rfl) ?_
    exact ⟨rfl, _, rfl, E1.e2, rfl⟩
theorem k_soundA0 (ha : a = V.2.1 + h1.length) (hN : mN n S) (hv : vok n (S.2.2 4)) (B : mB n num NS σ S) {p : Int32} (hp : ¬ iwn p 0 2 = 0) (hz : flt n (S.2.2 4) = 0) (hl : (sdc n (S.2.2 2) (S.2.2 4) num NS p).length ≤ 1000) {j c i0 : Nat} (hx : (sdc n (S.2.2 2) (S.2.2 4) num NS p)[j]? = some (c, i0)) (hc : c < num) : rx_C V (d + 8) kc ks m_Mo_sound [.ref a, .int p, .int (nI j), .int (nI 0)] (mw V h1 a S h2) (mPo V h1 a S h2 (.inl (some (.long (ffo (tks n (S.2.2 2) (S.2.2 3) (wf n (S.2.2 4))) 0 0 i0 + (NS c 2).toInt64 * (pgl n (S.2.2 3) (NS c 1)).toInt64)))) 0) := by
  have pk := pN_ok hN.2.2 hN.2.1 hv hz
  have hn := hN.2
  have hq := B.1.2
  have hs9 := (B.2.1.1 c hc).1
  have hj := (List.getElem?_eq_some_iff.mp hx).1
  refine rx_aload_nr d_Mo_sound_0 (by rfl) ?_
  refine rx_aload_nr d_Mo_sound_1 (by rfl) ?_
  refine rx_iload_n d_Mo_sound_2 (by rfl) ?_
  refine rx_pV d_Mo_sound_3 (by rfl) ml_Mo_220 im_Mo_wrongPart se_Mo_wrongPart (by exact c9_Mo_wrongPart) (mr0 ha) (by rfl) (by exact Nat.le_of_ble_eq_true rfl) (k_wrongPart (d := d) ha hN hv hp) ?_
  intro hx9 z9
  obtain ⟨S1, rfl, E1, F1⟩ := z9
  rw [if_pos hz]
  have eL : S1.2.2 2 = S.2.2 2 := E1.2.2.2 2 (by omega)
  have eT : S1.2.2 3 = S.2.2 3 := E1.2.2.2 3 (by omega)
  have hx2 : (sds n ((sS S1 1 0).2.2 2) (pN n (S.2.2 4)) (fun j => nI (wbr n (S.2.2 4) (gst (S.2.2 4) n) (gGn n (S.2.2 4)) j)) num NS p)[j]? = some (c, i0) := by rw [show (sS S1 1 0).2.2 2 = S.2.2 2 from eL]; exact hx
  have hl2 : (sds n ((sS S1 1 0).2.2 2) (pN n (S.2.2 4)) (fun j => nI (wbr n (S.2.2 4) (gst (S.2.2 4) n) (gGn n (S.2.2 4)) j)) num NS p).length ≤ 1000 := by rw [show (sS S1 1 0).2.2 2 = S.2.2 2 from eL]; exact hl
  have hsk := rx_cons (k_seek (V := V) (h1 := h1) (h2 := h2) (a := a) (kc := 0) (ks := 0) (S := sS S1 1 0) (d := d + 5) (N := pN n (S.2.2 4)) (fb := wbr n (S.2.2 4) (gst (S.2.2 4) n) (gGn n (S.2.2 4))) ha (B.e2 E1.e2) (F1 hz).1 (wf_hf hN hv hz (F1 hz).2) (by omega) p (nI j)) (fun r h9 z => skP_at z hl2 hx2)
  generalize hfl : flS n (pN n (S.2.2 4)) num (wbr n (S.2.2 4) (gst (S.2.2 4) n) (gGn n (S.2.2 4))) NS (sS S1 1 0) c i0 = S3 at hsk
  have g26 : S3.2.1 26 = (ffo (tks n (S.2.2 2) (S.2.2 3) (wf n (S.2.2 4))) 0 0 i0 + (NS c 2).toInt64 * (pgl n (S.2.2 3) (NS c 1)).toInt64) := by rw [← hfl, ← eL, ← eT]; rfl
  have g27 : S3.2.1 27 = (slf n (S.2.2 2) (S.2.2 3) (pN n (S.2.2 4)) (wf n (S.2.2 4)) num NS false 0 (some c) i0 (pN n (S.2.2 4) - i0)) := by rw [← hfl, ← eL, ← eT]; rfl
  have g28 : S3.2.1 28 = (slf n (S.2.2 2) (S.2.2 3) (pN n (S.2.2 4)) (wf n (S.2.2 4)) num NS true 0 (some c) i0 (pN n (S.2.2 4) - i0)) := by rw [← hfl, ← eL, ← eT]; rfl
  have g9 : S3.2.2 9 (σ c) = NS c 4 := by rw [(B.2.1.1 c hc).2 4 (by omega), ← hfl]; exact congrFun (E1.2.2.2 9 (by omega)) (σ c)
  have gE : mE2 S S3 := by rw [← hfl]; exact E1.e2
  have g1 : S3.1 1 = 0 := by rw [← hfl]; rfl
  refine m_putI (k9 := 1) ha d_Mo_sound_6 (fw_Mo_63 rfl) (by rfl) (by rfl) (by rfl) ?_
  refine rx_aload_nr d_Mo_sound_9 (by rfl) ?_
  refine rx_getfield d_Mo_sound_10 fl_Mo_63 (mr0 ha) (by rfl) ?_
  rw [show (sS S1 1 0).1 1 = 0 from rfl]
  refine rx_if_le (tgt := 18) d_Mo_sound_13 (by rfl) (fun c13 => ?_) (fun z => absurd (show (0 : Int32) ≤ 0 by decide) z)
  refine rx_iload_n d_Mo_sound_18 (by rfl) ?_
  refine rx_if_ge (tgt := 26) d_Mo_sound_19 (by rfl) (fun c19 => ?_) (fun z => absurd (show (0 : Int32) ≤ nI j by rw [i_le, i_0, i_n (by omega)]; omega) z)
  refine rx_aload_nr d_Mo_sound_26 (by rfl) ?_
  refine rx_iload_n d_Mo_sound_27 (by rfl) ?_
  refine rx_iload_n d_Mo_sound_28 (by rfl) ?_
  refine rx_cV d_Mo_sound_29 (by rfl) ml_Mo_223 im_Mo_seek se_Mo_seek (by exact c9_Mo_seek) (mr0 ha) (by rfl) (by exact Nat.le_of_ble_eq_true rfl) hsk ?_
  refine rx_istore d_Mo_sound_32 (Nat.le_of_ble_eq_true rfl) ?_
  refine rx_iload d_Mo_sound_34 (by rfl) ?_
  refine rx_if_lt (tgt := 48) d_Mo_sound_36 (by rfl) (fun z => absurd z (i_nlt (by rw [i_le, i_0, i_n (by omega)]; omega))) (fun c36 => ?_)
  refine rx_iload_n d_Mo_sound_39 (by rfl) ?_
  refine rx_iconst (v := 0) d_Mo_sound_40 (by decide) ?_
  refine rx_iconst (v := 3) d_Mo_sound_41 (by decide) ?_
  refine rx_cS d_Mo_sound_42 ml_Mo_66 st_Mo_within (by exact c9_Mo_within) (by rfl) (by exact Nat.le_of_ble_eq_true rfl) (k_within (nI 0) 0 3) ?_
  refine rx_if_ne (tgt := 52) d_Mo_sound_45 (by rfl) (fun c45 => ?_) (fun z => absurd z (show ¬ iwn (nI 0) 0 3 = 0 by decide))
  refine rx_iload_n d_Mo_sound_52 (by rfl) ?_
  refine rx_if_ne (tgt := 63) d_Mo_sound_53 (by rfl) (fun z => absurd (show nI 0 = 0 from rfl) z) (fun c53 => ?_)
  refine rx_aload_nr d_Mo_sound_56 (by rfl) ?_
  refine rx_getfield d_Mo_sound_57 fl_Mo_196 (mr0 ha) (by rfl) ?_
  rw [g26]
  refine rx_goto (tgt := 95) d_Mo_sound_60 (by rfl) ?_
  refine rx_lreturn d_Mo_sound_95 (by rfl) ?_
  exact ⟨rfl, S3, rfl, gE, g1⟩
theorem k_soundA1 (ha : a = V.2.1 + h1.length) (hN : mN n S) (hv : vok n (S.2.2 4)) (B : mB n num NS σ S) {p : Int32} (hp : ¬ iwn p 0 2 = 0) (hz : flt n (S.2.2 4) = 0) (hl : (sdc n (S.2.2 2) (S.2.2 4) num NS p).length ≤ 1000) {j c i0 : Nat} (hx : (sdc n (S.2.2 2) (S.2.2 4) num NS p)[j]? = some (c, i0)) (hc : c < num) : rx_C V (d + 8) kc ks m_Mo_sound [.ref a, .int p, .int (nI j), .int (nI 1)] (mw V h1 a S h2) (mPo V h1 a S h2 (.inl (some (.long ((NS c 4).toInt64)))) 0) := by
  have pk := pN_ok hN.2.2 hN.2.1 hv hz
  have hn := hN.2
  have hq := B.1.2
  have hs9 := (B.2.1.1 c hc).1
  have hj := (List.getElem?_eq_some_iff.mp hx).1
  refine rx_aload_nr d_Mo_sound_0 (by rfl) ?_
  refine rx_aload_nr d_Mo_sound_1 (by rfl) ?_
  refine rx_iload_n d_Mo_sound_2 (by rfl) ?_
  refine rx_pV d_Mo_sound_3 (by rfl) ml_Mo_220 im_Mo_wrongPart se_Mo_wrongPart (by exact c9_Mo_wrongPart) (mr0 ha) (by rfl) (by exact Nat.le_of_ble_eq_true rfl) (k_wrongPart (d := d) ha hN hv hp) ?_
  intro hx9 z9
  obtain ⟨S1, rfl, E1, F1⟩ := z9
  rw [if_pos hz]
  have eL : S1.2.2 2 = S.2.2 2 := E1.2.2.2 2 (by omega)
  have eT : S1.2.2 3 = S.2.2 3 := E1.2.2.2 3 (by omega)
  have hx2 : (sds n ((sS S1 1 0).2.2 2) (pN n (S.2.2 4)) (fun j => nI (wbr n (S.2.2 4) (gst (S.2.2 4) n) (gGn n (S.2.2 4)) j)) num NS p)[j]? = some (c, i0) := by rw [show (sS S1 1 0).2.2 2 = S.2.2 2 from eL]; exact hx
  have hl2 : (sds n ((sS S1 1 0).2.2 2) (pN n (S.2.2 4)) (fun j => nI (wbr n (S.2.2 4) (gst (S.2.2 4) n) (gGn n (S.2.2 4)) j)) num NS p).length ≤ 1000 := by rw [show (sS S1 1 0).2.2 2 = S.2.2 2 from eL]; exact hl
  have hsk := rx_cons (k_seek (V := V) (h1 := h1) (h2 := h2) (a := a) (kc := 0) (ks := 0) (S := sS S1 1 0) (d := d + 5) (N := pN n (S.2.2 4)) (fb := wbr n (S.2.2 4) (gst (S.2.2 4) n) (gGn n (S.2.2 4))) ha (B.e2 E1.e2) (F1 hz).1 (wf_hf hN hv hz (F1 hz).2) (by omega) p (nI j)) (fun r h9 z => skP_at z hl2 hx2)
  generalize hfl : flS n (pN n (S.2.2 4)) num (wbr n (S.2.2 4) (gst (S.2.2 4) n) (gGn n (S.2.2 4))) NS (sS S1 1 0) c i0 = S3 at hsk
  have g26 : S3.2.1 26 = (ffo (tks n (S.2.2 2) (S.2.2 3) (wf n (S.2.2 4))) 0 0 i0 + (NS c 2).toInt64 * (pgl n (S.2.2 3) (NS c 1)).toInt64) := by rw [← hfl, ← eL, ← eT]; rfl
  have g27 : S3.2.1 27 = (slf n (S.2.2 2) (S.2.2 3) (pN n (S.2.2 4)) (wf n (S.2.2 4)) num NS false 0 (some c) i0 (pN n (S.2.2 4) - i0)) := by rw [← hfl, ← eL, ← eT]; rfl
  have g28 : S3.2.1 28 = (slf n (S.2.2 2) (S.2.2 3) (pN n (S.2.2 4)) (wf n (S.2.2 4)) num NS true 0 (some c) i0 (pN n (S.2.2 4) - i0)) := by rw [← hfl, ← eL, ← eT]; rfl
  have g9 : S3.2.2 9 (σ c) = NS c 4 := by rw [(B.2.1.1 c hc).2 4 (by omega), ← hfl]; exact congrFun (E1.2.2.2 9 (by omega)) (σ c)
  have gE : mE2 S S3 := by rw [← hfl]; exact E1.e2
  have g1 : S3.1 1 = 0 := by rw [← hfl]; rfl
  refine m_putI (k9 := 1) ha d_Mo_sound_6 (fw_Mo_63 rfl) (by rfl) (by rfl) (by rfl) ?_
  refine rx_aload_nr d_Mo_sound_9 (by rfl) ?_
  refine rx_getfield d_Mo_sound_10 fl_Mo_63 (mr0 ha) (by rfl) ?_
  rw [show (sS S1 1 0).1 1 = 0 from rfl]
  refine rx_if_le (tgt := 18) d_Mo_sound_13 (by rfl) (fun c13 => ?_) (fun z => absurd (show (0 : Int32) ≤ 0 by decide) z)
  refine rx_iload_n d_Mo_sound_18 (by rfl) ?_
  refine rx_if_ge (tgt := 26) d_Mo_sound_19 (by rfl) (fun c19 => ?_) (fun z => absurd (show (0 : Int32) ≤ nI j by rw [i_le, i_0, i_n (by omega)]; omega) z)
  refine rx_aload_nr d_Mo_sound_26 (by rfl) ?_
  refine rx_iload_n d_Mo_sound_27 (by rfl) ?_
  refine rx_iload_n d_Mo_sound_28 (by rfl) ?_
  refine rx_cV d_Mo_sound_29 (by rfl) ml_Mo_223 im_Mo_seek se_Mo_seek (by exact c9_Mo_seek) (mr0 ha) (by rfl) (by exact Nat.le_of_ble_eq_true rfl) hsk ?_
  refine rx_istore d_Mo_sound_32 (Nat.le_of_ble_eq_true rfl) ?_
  refine rx_iload d_Mo_sound_34 (by rfl) ?_
  refine rx_if_lt (tgt := 48) d_Mo_sound_36 (by rfl) (fun z => absurd z (i_nlt (by rw [i_le, i_0, i_n (by omega)]; omega))) (fun c36 => ?_)
  refine rx_iload_n d_Mo_sound_39 (by rfl) ?_
  refine rx_iconst (v := 0) d_Mo_sound_40 (by decide) ?_
  refine rx_iconst (v := 3) d_Mo_sound_41 (by decide) ?_
  refine rx_cS d_Mo_sound_42 ml_Mo_66 st_Mo_within (by exact c9_Mo_within) (by rfl) (by exact Nat.le_of_ble_eq_true rfl) (k_within (nI 1) 0 3) ?_
  refine rx_if_ne (tgt := 52) d_Mo_sound_45 (by rfl) (fun c45 => ?_) (fun z => absurd z (show ¬ iwn (nI 1) 0 3 = 0 by decide))
  refine rx_iload_n d_Mo_sound_52 (by rfl) ?_
  refine rx_if_ne (tgt := 63) d_Mo_sound_53 (by rfl) (fun c53 => ?_) (fun z => absurd z (show ¬ nI 1 = 0 by decide))
  refine rx_iload_n d_Mo_sound_63 (by rfl) ?_
  refine rx_iconst (v := 1) d_Mo_sound_64 (by decide) ?_
  refine rx_icmp_ne (tgt := 79) d_Mo_sound_65 (by rfl) (fun z => absurd (show nI 1 = 1 from rfl) z) (fun c65 => ?_)
  refine rx_aload_nr d_Mo_sound_68 (by rfl) ?_
  refine rx_getfield d_Mo_sound_69 fl_Mo_34 (mr0 ha) (by rfl) ?_
  refine rx_iload d_Mo_sound_72 (by rfl) ?_
  refine m_ial (j := 9) ha d_Mo_sound_74 (by rfl) (by omega) (by decide) ?_
  rw [g9]
  refine rx_i2l d_Mo_sound_75 ?_
  refine rx_goto (tgt := 95) d_Mo_sound_76 (by rfl) ?_
  refine rx_lreturn d_Mo_sound_95 (by rfl) ?_
  exact ⟨rfl, S3, rfl, gE, g1⟩
theorem k_soundA2 (ha : a = V.2.1 + h1.length) (hN : mN n S) (hv : vok n (S.2.2 4)) (B : mB n num NS σ S) {p : Int32} (hp : ¬ iwn p 0 2 = 0) (hz : flt n (S.2.2 4) = 0) (hl : (sdc n (S.2.2 2) (S.2.2 4) num NS p).length ≤ 1000) {j c i0 : Nat} (hx : (sdc n (S.2.2 2) (S.2.2 4) num NS p)[j]? = some (c, i0)) (hc : c < num) : rx_C V (d + 8) kc ks m_Mo_sound [.ref a, .int p, .int (nI j), .int (nI 2)] (mw V h1 a S h2) (mPo V h1 a S h2 (.inl (some (.long (slf n (S.2.2 2) (S.2.2 3) (pN n (S.2.2 4)) (wf n (S.2.2 4)) num NS false 0 (some c) i0 (pN n (S.2.2 4) - i0))))) 0) := by
  have pk := pN_ok hN.2.2 hN.2.1 hv hz
  have hn := hN.2
  have hq := B.1.2
  have hs9 := (B.2.1.1 c hc).1
  have hj := (List.getElem?_eq_some_iff.mp hx).1
  refine rx_aload_nr d_Mo_sound_0 (by rfl) ?_
  refine rx_aload_nr d_Mo_sound_1 (by rfl) ?_
  refine rx_iload_n d_Mo_sound_2 (by rfl) ?_
  refine rx_pV d_Mo_sound_3 (by rfl) ml_Mo_220 im_Mo_wrongPart se_Mo_wrongPart (by exact c9_Mo_wrongPart) (mr0 ha) (by rfl) (by exact Nat.le_of_ble_eq_true rfl) (k_wrongPart (d := d) ha hN hv hp) ?_
  intro hx9 z9
  obtain ⟨S1, rfl, E1, F1⟩ := z9
  rw [if_pos hz]
  have eL : S1.2.2 2 = S.2.2 2 := E1.2.2.2 2 (by omega)
  have eT : S1.2.2 3 = S.2.2 3 := E1.2.2.2 3 (by omega)
  have hx2 : (sds n ((sS S1 1 0).2.2 2) (pN n (S.2.2 4)) (fun j => nI (wbr n (S.2.2 4) (gst (S.2.2 4) n) (gGn n (S.2.2 4)) j)) num NS p)[j]? = some (c, i0) := by rw [show (sS S1 1 0).2.2 2 = S.2.2 2 from eL]; exact hx
  have hl2 : (sds n ((sS S1 1 0).2.2 2) (pN n (S.2.2 4)) (fun j => nI (wbr n (S.2.2 4) (gst (S.2.2 4) n) (gGn n (S.2.2 4)) j)) num NS p).length ≤ 1000 := by rw [show (sS S1 1 0).2.2 2 = S.2.2 2 from eL]; exact hl
  have hsk := rx_cons (k_seek (V := V) (h1 := h1) (h2 := h2) (a := a) (kc := 0) (ks := 0) (S := sS S1 1 0) (d := d + 5) (N := pN n (S.2.2 4)) (fb := wbr n (S.2.2 4) (gst (S.2.2 4) n) (gGn n (S.2.2 4))) ha (B.e2 E1.e2) (F1 hz).1 (wf_hf hN hv hz (F1 hz).2) (by omega) p (nI j)) (fun r h9 z => skP_at z hl2 hx2)
  generalize hfl : flS n (pN n (S.2.2 4)) num (wbr n (S.2.2 4) (gst (S.2.2 4) n) (gGn n (S.2.2 4))) NS (sS S1 1 0) c i0 = S3 at hsk
  have g26 : S3.2.1 26 = (ffo (tks n (S.2.2 2) (S.2.2 3) (wf n (S.2.2 4))) 0 0 i0 + (NS c 2).toInt64 * (pgl n (S.2.2 3) (NS c 1)).toInt64) := by rw [← hfl, ← eL, ← eT]; rfl
  have g27 : S3.2.1 27 = (slf n (S.2.2 2) (S.2.2 3) (pN n (S.2.2 4)) (wf n (S.2.2 4)) num NS false 0 (some c) i0 (pN n (S.2.2 4) - i0)) := by rw [← hfl, ← eL, ← eT]; rfl
  have g28 : S3.2.1 28 = (slf n (S.2.2 2) (S.2.2 3) (pN n (S.2.2 4)) (wf n (S.2.2 4)) num NS true 0 (some c) i0 (pN n (S.2.2 4) - i0)) := by rw [← hfl, ← eL, ← eT]; rfl
  have g9 : S3.2.2 9 (σ c) = NS c 4 := by rw [(B.2.1.1 c hc).2 4 (by omega), ← hfl]; exact congrFun (E1.2.2.2 9 (by omega)) (σ c)
  have gE : mE2 S S3 := by rw [← hfl]; exact E1.e2
  have g1 : S3.1 1 = 0 := by rw [← hfl]; rfl
  refine m_putI (k9 := 1) ha d_Mo_sound_6 (fw_Mo_63 rfl) (by rfl) (by rfl) (by rfl) ?_
  refine rx_aload_nr d_Mo_sound_9 (by rfl) ?_
  refine rx_getfield d_Mo_sound_10 fl_Mo_63 (mr0 ha) (by rfl) ?_
  rw [show (sS S1 1 0).1 1 = 0 from rfl]
  refine rx_if_le (tgt := 18) d_Mo_sound_13 (by rfl) (fun c13 => ?_) (fun z => absurd (show (0 : Int32) ≤ 0 by decide) z)
  refine rx_iload_n d_Mo_sound_18 (by rfl) ?_
  refine rx_if_ge (tgt := 26) d_Mo_sound_19 (by rfl) (fun c19 => ?_) (fun z => absurd (show (0 : Int32) ≤ nI j by rw [i_le, i_0, i_n (by omega)]; omega) z)
  refine rx_aload_nr d_Mo_sound_26 (by rfl) ?_
  refine rx_iload_n d_Mo_sound_27 (by rfl) ?_
  refine rx_iload_n d_Mo_sound_28 (by rfl) ?_
  refine rx_cV d_Mo_sound_29 (by rfl) ml_Mo_223 im_Mo_seek se_Mo_seek (by exact c9_Mo_seek) (mr0 ha) (by rfl) (by exact Nat.le_of_ble_eq_true rfl) hsk ?_
  refine rx_istore d_Mo_sound_32 (Nat.le_of_ble_eq_true rfl) ?_
  refine rx_iload d_Mo_sound_34 (by rfl) ?_
  refine rx_if_lt (tgt := 48) d_Mo_sound_36 (by rfl) (fun z => absurd z (i_nlt (by rw [i_le, i_0, i_n (by omega)]; omega))) (fun c36 => ?_)
  refine rx_iload_n d_Mo_sound_39 (by rfl) ?_
  refine rx_iconst (v := 0) d_Mo_sound_40 (by decide) ?_
  refine rx_iconst (v := 3) d_Mo_sound_41 (by decide) ?_
  refine rx_cS d_Mo_sound_42 ml_Mo_66 st_Mo_within (by exact c9_Mo_within) (by rfl) (by exact Nat.le_of_ble_eq_true rfl) (k_within (nI 2) 0 3) ?_
  refine rx_if_ne (tgt := 52) d_Mo_sound_45 (by rfl) (fun c45 => ?_) (fun z => absurd z (show ¬ iwn (nI 2) 0 3 = 0 by decide))
  refine rx_iload_n d_Mo_sound_52 (by rfl) ?_
  refine rx_if_ne (tgt := 63) d_Mo_sound_53 (by rfl) (fun c53 => ?_) (fun z => absurd z (show ¬ nI 2 = 0 by decide))
  refine rx_iload_n d_Mo_sound_63 (by rfl) ?_
  refine rx_iconst (v := 1) d_Mo_sound_64 (by decide) ?_
  refine rx_icmp_ne (tgt := 79) d_Mo_sound_65 (by rfl) (fun c65 => ?_) (fun z => absurd z (show ¬ nI 2 = 1 by decide))
  refine rx_iload_n d_Mo_sound_79 (by rfl) ?_
  refine rx_iconst (v := 2) d_Mo_sound_80 (by decide) ?_
  refine rx_icmp_ne (tgt := 91) d_Mo_sound_81 (by rfl) (fun z => absurd (show nI 2 = 2 from rfl) z) (fun c81 => ?_)
  refine rx_aload_nr d_Mo_sound_84 (by rfl) ?_
  refine rx_getfield d_Mo_sound_85 fl_Mo_200 (mr0 ha) (by rfl) ?_
  rw [g27]
  refine rx_goto (tgt := 95) d_Mo_sound_88 (by rfl) ?_
  refine rx_lreturn d_Mo_sound_95 (by rfl) ?_
  exact ⟨rfl, S3, rfl, gE, g1⟩
theorem k_soundA3 (ha : a = V.2.1 + h1.length) (hN : mN n S) (hv : vok n (S.2.2 4)) (B : mB n num NS σ S) {p : Int32} (hp : ¬ iwn p 0 2 = 0) (hz : flt n (S.2.2 4) = 0) (hl : (sdc n (S.2.2 2) (S.2.2 4) num NS p).length ≤ 1000) {j c i0 : Nat} (hx : (sdc n (S.2.2 2) (S.2.2 4) num NS p)[j]? = some (c, i0)) (hc : c < num) : rx_C V (d + 8) kc ks m_Mo_sound [.ref a, .int p, .int (nI j), .int (nI 3)] (mw V h1 a S h2) (mPo V h1 a S h2 (.inl (some (.long (slf n (S.2.2 2) (S.2.2 3) (pN n (S.2.2 4)) (wf n (S.2.2 4)) num NS true 0 (some c) i0 (pN n (S.2.2 4) - i0))))) 0) := by
  have pk := pN_ok hN.2.2 hN.2.1 hv hz
  have hn := hN.2
  have hq := B.1.2
  have hs9 := (B.2.1.1 c hc).1
  have hj := (List.getElem?_eq_some_iff.mp hx).1
  refine rx_aload_nr d_Mo_sound_0 (by rfl) ?_
  refine rx_aload_nr d_Mo_sound_1 (by rfl) ?_
  refine rx_iload_n d_Mo_sound_2 (by rfl) ?_
  refine rx_pV d_Mo_sound_3 (by rfl) ml_Mo_220 im_Mo_wrongPart se_Mo_wrongPart (by exact c9_Mo_wrongPart) (mr0 ha) (by rfl) (by exact Nat.le_of_ble_eq_true rfl) (k_wrongPart (d := d) ha hN hv hp) ?_
  intro hx9 z9
  obtain ⟨S1, rfl, E1, F1⟩ := z9
  rw [if_pos hz]
  have eL : S1.2.2 2 = S.2.2 2 := E1.2.2.2 2 (by omega)
  have eT : S1.2.2 3 = S.2.2 3 := E1.2.2.2 3 (by omega)
  have hx2 : (sds n ((sS S1 1 0).2.2 2) (pN n (S.2.2 4)) (fun j => nI (wbr n (S.2.2 4) (gst (S.2.2 4) n) (gGn n (S.2.2 4)) j)) num NS p)[j]? = some (c, i0) := by rw [show (sS S1 1 0).2.2 2 = S.2.2 2 from eL]; exact hx
  have hl2 : (sds n ((sS S1 1 0).2.2 2) (pN n (S.2.2 4)) (fun j => nI (wbr n (S.2.2 4) (gst (S.2.2 4) n) (gGn n (S.2.2 4)) j)) num NS p).length ≤ 1000 := by rw [show (sS S1 1 0).2.2 2 = S.2.2 2 from eL]; exact hl
  have hsk := rx_cons (k_seek (V := V) (h1 := h1) (h2 := h2) (a := a) (kc := 0) (ks := 0) (S := sS S1 1 0) (d := d + 5) (N := pN n (S.2.2 4)) (fb := wbr n (S.2.2 4) (gst (S.2.2 4) n) (gGn n (S.2.2 4))) ha (B.e2 E1.e2) (F1 hz).1 (wf_hf hN hv hz (F1 hz).2) (by omega) p (nI j)) (fun r h9 z => skP_at z hl2 hx2)
  generalize hfl : flS n (pN n (S.2.2 4)) num (wbr n (S.2.2 4) (gst (S.2.2 4) n) (gGn n (S.2.2 4))) NS (sS S1 1 0) c i0 = S3 at hsk
  have g26 : S3.2.1 26 = (ffo (tks n (S.2.2 2) (S.2.2 3) (wf n (S.2.2 4))) 0 0 i0 + (NS c 2).toInt64 * (pgl n (S.2.2 3) (NS c 1)).toInt64) := by rw [← hfl, ← eL, ← eT]; rfl
  have g27 : S3.2.1 27 = (slf n (S.2.2 2) (S.2.2 3) (pN n (S.2.2 4)) (wf n (S.2.2 4)) num NS false 0 (some c) i0 (pN n (S.2.2 4) - i0)) := by rw [← hfl, ← eL, ← eT]; rfl
  have g28 : S3.2.1 28 = (slf n (S.2.2 2) (S.2.2 3) (pN n (S.2.2 4)) (wf n (S.2.2 4)) num NS true 0 (some c) i0 (pN n (S.2.2 4) - i0)) := by rw [← hfl, ← eL, ← eT]; rfl
  have g9 : S3.2.2 9 (σ c) = NS c 4 := by rw [(B.2.1.1 c hc).2 4 (by omega), ← hfl]; exact congrFun (E1.2.2.2 9 (by omega)) (σ c)
  have gE : mE2 S S3 := by rw [← hfl]; exact E1.e2
  have g1 : S3.1 1 = 0 := by rw [← hfl]; rfl
  refine m_putI (k9 := 1) ha d_Mo_sound_6 (fw_Mo_63 rfl) (by rfl) (by rfl) (by rfl) ?_
  refine rx_aload_nr d_Mo_sound_9 (by rfl) ?_
  refine rx_getfield d_Mo_sound_10 fl_Mo_63 (mr0 ha) (by rfl) ?_
  rw [show (sS S1 1 0).1 1 = 0 from rfl]
  refine rx_if_le (tgt := 18) d_Mo_sound_13 (by rfl) (fun c13 => ?_) (fun z => absurd (show (0 : Int32) ≤ 0 by decide) z)
  refine rx_iload_n d_Mo_sound_18 (by rfl) ?_
  refine rx_if_ge (tgt := 26) d_Mo_sound_19 (by rfl) (fun c19 => ?_) (fun z => absurd (show (0 : Int32) ≤ nI j by rw [i_le, i_0, i_n (by omega)]; omega) z)
  refine rx_aload_nr d_Mo_sound_26 (by rfl) ?_
  refine rx_iload_n d_Mo_sound_27 (by rfl) ?_
  refine rx_iload_n d_Mo_sound_28 (by rfl) ?_
  refine rx_cV d_Mo_sound_29 (by rfl) ml_Mo_223 im_Mo_seek se_Mo_seek (by exact c9_Mo_seek) (mr0 ha) (by rfl) (by exact Nat.le_of_ble_eq_true rfl) hsk ?_
  refine rx_istore d_Mo_sound_32 (Nat.le_of_ble_eq_true rfl) ?_
  refine rx_iload d_Mo_sound_34 (by rfl) ?_
  refine rx_if_lt (tgt := 48) d_Mo_sound_36 (by rfl) (fun z => absurd z (i_nlt (by rw [i_le, i_0, i_n (by omega)]; omega))) (fun c36 => ?_)
  refine rx_iload_n d_Mo_sound_39 (by rfl) ?_
  refine rx_iconst (v := 0) d_Mo_sound_40 (by decide) ?_
  refine rx_iconst (v := 3) d_Mo_sound_41 (by decide) ?_
  refine rx_cS d_Mo_sound_42 ml_Mo_66 st_Mo_within (by exact c9_Mo_within) (by rfl) (by exact Nat.le_of_ble_eq_true rfl) (k_within (nI 3) 0 3) ?_
  refine rx_if_ne (tgt := 52) d_Mo_sound_45 (by rfl) (fun c45 => ?_) (fun z => absurd z (show ¬ iwn (nI 3) 0 3 = 0 by decide))
  refine rx_iload_n d_Mo_sound_52 (by rfl) ?_
  refine rx_if_ne (tgt := 63) d_Mo_sound_53 (by rfl) (fun c53 => ?_) (fun z => absurd z (show ¬ nI 3 = 0 by decide))
  refine rx_iload_n d_Mo_sound_63 (by rfl) ?_
  refine rx_iconst (v := 1) d_Mo_sound_64 (by decide) ?_
  refine rx_icmp_ne (tgt := 79) d_Mo_sound_65 (by rfl) (fun c65 => ?_) (fun z => absurd z (show ¬ nI 3 = 1 by decide))
  refine rx_iload_n d_Mo_sound_79 (by rfl) ?_
  refine rx_iconst (v := 2) d_Mo_sound_80 (by decide) ?_
  refine rx_icmp_ne (tgt := 91) d_Mo_sound_81 (by rfl) (fun c81 => ?_) (fun z => absurd z (show ¬ nI 3 = 2 by decide))
  refine rx_aload_nr d_Mo_sound_91 (by rfl) ?_
  refine rx_getfield d_Mo_sound_92 fl_Mo_203 (mr0 ha) (by rfl) ?_
  rw [g28]
  refine rx_lreturn d_Mo_sound_95 (by rfl) ?_
  exact ⟨rfl, S3, rfl, gE, g1⟩
theorem k_soundA9 (ha : a = V.2.1 + h1.length) (hN : mN n S) (hv : vok n (S.2.2 4)) (B : mB n num NS σ S) {p : Int32} (hp : ¬ iwn p 0 2 = 0) (hz : flt n (S.2.2 4) = 0) (hl : (sdc n (S.2.2 2) (S.2.2 4) num NS p).length ≤ 1000) {j c i0 : Nat} (hx : (sdc n (S.2.2 2) (S.2.2 4) num NS p)[j]? = some (c, i0)) (hc : c < num) {wh : Int32} (hw : iwn wh 0 3 = 0) : rx_C V (d + 8) kc ks m_Mo_sound [.ref a, .int p, .int (nI j), .int wh] (mw V h1 a S h2) (mPo V h1 a S h2 (.inl (some (.long (-1)))) 0) := by
  have pk := pN_ok hN.2.2 hN.2.1 hv hz
  have hn := hN.2
  have hq := B.1.2
  have hs9 := (B.2.1.1 c hc).1
  have hj := (List.getElem?_eq_some_iff.mp hx).1
  refine rx_aload_nr d_Mo_sound_0 (by rfl) ?_
  refine rx_aload_nr d_Mo_sound_1 (by rfl) ?_
  refine rx_iload_n d_Mo_sound_2 (by rfl) ?_
  refine rx_pV d_Mo_sound_3 (by rfl) ml_Mo_220 im_Mo_wrongPart se_Mo_wrongPart (by exact c9_Mo_wrongPart) (mr0 ha) (by rfl) (by exact Nat.le_of_ble_eq_true rfl) (k_wrongPart (d := d) ha hN hv hp) ?_
  intro hx9 z9
  obtain ⟨S1, rfl, E1, F1⟩ := z9
  rw [if_pos hz]
  have eL : S1.2.2 2 = S.2.2 2 := E1.2.2.2 2 (by omega)
  have eT : S1.2.2 3 = S.2.2 3 := E1.2.2.2 3 (by omega)
  have hx2 : (sds n ((sS S1 1 0).2.2 2) (pN n (S.2.2 4)) (fun j => nI (wbr n (S.2.2 4) (gst (S.2.2 4) n) (gGn n (S.2.2 4)) j)) num NS p)[j]? = some (c, i0) := by rw [show (sS S1 1 0).2.2 2 = S.2.2 2 from eL]; exact hx
  have hl2 : (sds n ((sS S1 1 0).2.2 2) (pN n (S.2.2 4)) (fun j => nI (wbr n (S.2.2 4) (gst (S.2.2 4) n) (gGn n (S.2.2 4)) j)) num NS p).length ≤ 1000 := by rw [show (sS S1 1 0).2.2 2 = S.2.2 2 from eL]; exact hl
  have hsk := rx_cons (k_seek (V := V) (h1 := h1) (h2 := h2) (a := a) (kc := 0) (ks := 0) (S := sS S1 1 0) (d := d + 5) (N := pN n (S.2.2 4)) (fb := wbr n (S.2.2 4) (gst (S.2.2 4) n) (gGn n (S.2.2 4))) ha (B.e2 E1.e2) (F1 hz).1 (wf_hf hN hv hz (F1 hz).2) (by omega) p (nI j)) (fun r h9 z => skP_at z hl2 hx2)
  generalize hfl : flS n (pN n (S.2.2 4)) num (wbr n (S.2.2 4) (gst (S.2.2 4) n) (gGn n (S.2.2 4))) NS (sS S1 1 0) c i0 = S3 at hsk
  have g26 : S3.2.1 26 = (ffo (tks n (S.2.2 2) (S.2.2 3) (wf n (S.2.2 4))) 0 0 i0 + (NS c 2).toInt64 * (pgl n (S.2.2 3) (NS c 1)).toInt64) := by rw [← hfl, ← eL, ← eT]; rfl
  have g27 : S3.2.1 27 = (slf n (S.2.2 2) (S.2.2 3) (pN n (S.2.2 4)) (wf n (S.2.2 4)) num NS false 0 (some c) i0 (pN n (S.2.2 4) - i0)) := by rw [← hfl, ← eL, ← eT]; rfl
  have g28 : S3.2.1 28 = (slf n (S.2.2 2) (S.2.2 3) (pN n (S.2.2 4)) (wf n (S.2.2 4)) num NS true 0 (some c) i0 (pN n (S.2.2 4) - i0)) := by rw [← hfl, ← eL, ← eT]; rfl
  have g9 : S3.2.2 9 (σ c) = NS c 4 := by rw [(B.2.1.1 c hc).2 4 (by omega), ← hfl]; exact congrFun (E1.2.2.2 9 (by omega)) (σ c)
  have gE : mE2 S S3 := by rw [← hfl]; exact E1.e2
  have g1 : S3.1 1 = 0 := by rw [← hfl]; rfl
  refine m_putI (k9 := 1) ha d_Mo_sound_6 (fw_Mo_63 rfl) (by rfl) (by rfl) (by rfl) ?_
  refine rx_aload_nr d_Mo_sound_9 (by rfl) ?_
  refine rx_getfield d_Mo_sound_10 fl_Mo_63 (mr0 ha) (by rfl) ?_
  rw [show (sS S1 1 0).1 1 = 0 from rfl]
  refine rx_if_le (tgt := 18) d_Mo_sound_13 (by rfl) (fun c13 => ?_) (fun z => absurd (show (0 : Int32) ≤ 0 by decide) z)
  refine rx_iload_n d_Mo_sound_18 (by rfl) ?_
  refine rx_if_ge (tgt := 26) d_Mo_sound_19 (by rfl) (fun c19 => ?_) (fun z => absurd (show (0 : Int32) ≤ nI j by rw [i_le, i_0, i_n (by omega)]; omega) z)
  refine rx_aload_nr d_Mo_sound_26 (by rfl) ?_
  refine rx_iload_n d_Mo_sound_27 (by rfl) ?_
  refine rx_iload_n d_Mo_sound_28 (by rfl) ?_
  refine rx_cV d_Mo_sound_29 (by rfl) ml_Mo_223 im_Mo_seek se_Mo_seek (by exact c9_Mo_seek) (mr0 ha) (by rfl) (by exact Nat.le_of_ble_eq_true rfl) hsk ?_
  refine rx_istore d_Mo_sound_32 (Nat.le_of_ble_eq_true rfl) ?_
  refine rx_iload d_Mo_sound_34 (by rfl) ?_
  refine rx_if_lt (tgt := 48) d_Mo_sound_36 (by rfl) (fun z => absurd z (i_nlt (by rw [i_le, i_0, i_n (by omega)]; omega))) (fun c36 => ?_)
  refine rx_iload_n d_Mo_sound_39 (by rfl) ?_
  refine rx_iconst (v := 0) d_Mo_sound_40 (by decide) ?_
  refine rx_iconst (v := 3) d_Mo_sound_41 (by decide) ?_
  refine rx_cS d_Mo_sound_42 ml_Mo_66 st_Mo_within (by exact c9_Mo_within) (by rfl) (by exact Nat.le_of_ble_eq_true rfl) (k_within wh 0 3) ?_
  refine rx_if_ne (tgt := 52) d_Mo_sound_45 (by rfl) (fun z => absurd hw z) (fun c45 => ?_)
  refine rx_ldc2 d_Mo_sound_48 kl_Mo_226 ?_
  refine rx_lreturn d_Mo_sound_51 (by rfl) ?_
  exact ⟨rfl, S3, rfl, gE, g1⟩
end MSO
