/-! Road: reads -/
def is_rd (V : rx_V) (h : List va_E) (a aO n N : Nat) (jm wo wy tk : Int32) (f : Nat → Int32) : Prop :=
  rx_rd V h a = some (.inr (5, [.ref aO, .int (nI N), .int jm, .int wo, .int wy, .int tk])) ∧ rx_rd V h aO = some (.inl (V.2.2.2.1 0, n * 12, .inl f)) ∧ N ≤ n * 12 ∧ n ≤ 20
/-- the bar played at a place, else -1 -/
def brf (N : Nat) (f : Nat → Int32) (i : Int32) : Int32 := if 0 ≤ i.toInt ∧ i.toInt < N then f i.toInt.toNat else -1
def ctf (f : Nat → Int32) (v : Int32) (c : Int32) (j : Nat) : Int32 := if f j = v then c + 1 else c
def ixf (f : Nat → Int32) (b k : Int32) : Int32 → Nat → Nat → Int32
  | _, _, 0 => -1
  | t, i, m + 1 => if f i = b then (if t + 1 = k then nI i else ixf f b k (t + 1) (i + 1) m) else ixf f b k t (i + 1) m
/-- a bar's ticks -/
def tkf (n : Nat) (Le Te : Nat → Int32) (b : Int32) : Int64 := (pgl n Le b).toInt64 * (pgl n Te b).toInt64
def tks (n : Nat) (Le Te f : Nat → Int32) (x : Int64) (j : Nat) : Int64 := x + tkf n Le Te (f j)
def iaf (n : Nat) (Le Te f : Nat → Int32) (t : Int64) : Int64 → Nat → Nat → Int32
  | _, _, 0 => -1
  | e, i, m + 1 => if t < e + tkf n Le Te (f i) then nI i else iaf n Le Te f t (e + tkf n Le Te (f i)) (i + 1) m
theorem lg_ge0 (x y : Int64) : 0 ≤ lg_cmp x y ↔ ¬ x < y := by
  rw [← lg_lt0, Int32.le_iff_toInt_le, Int32.lt_iff_toInt_lt]
  omega
theorem brf_0 {N : Nat} {f : Nat → Int32} {i : Int32} (hN : N ≤ 1000) (h : iwn i 0 (nI N - 1) = 0) : brf N f i = -1 := by
  refine if_neg (fun z => ?_)
  have e : (nI N - 1).toInt = (N : Int) - 1 := by
    cases N with
    | zero => omega
    | succ j => rw [show nI (j + 1) - 1 = nI j from nI_pred j, i_n (by omega)]; omega
  have w : iwn i 0 (nI N - 1) = 1 := if_pos ⟨by rw [i_le, i_0]; exact z.1, by rw [i_le, e]; omega⟩
  rw [w] at h; exact absurd h (by decide)
theorem brf_1 {N : Nat} {f : Nat → Int32} {i : Int32} (hN : N ≤ 1000) (h : ¬ iwn i 0 (nI N - 1) = 0) : ∃ j, j < N ∧ i = nI j ∧ brf N f i = f j := by
  have e : (nI N - 1).toInt = (N : Int) - 1 := by
    cases N with
    | zero => decide
    | succ j => rw [show nI (j + 1) - 1 = nI j from nI_pred j, i_n (by omega)]; omega
  unfold iwn at h
  by_cases z : (0 : Int32) ≤ i ∧ i ≤ nI N - 1
  · rw [i_le, i_0, i_le, e] at z
    refine ⟨i.toInt.toNat, by omega, i_of (by omega) (by omega), if_pos (by omega)⟩
  · rw [if_neg z] at h; exact absurd rfl h
theorem brf_n {N j : Nat} {f : Nat → Int32} (hN : N ≤ 1000) (h : j < N) : brf N f (nI j) = f j := by
  unfold brf
  rw [i_n (by omega), if_pos (by omega)]
  rfl
section RD
variable {V : rx_V} {d kc ks a aO n N aP al at_ av : Nat} {h : List va_E} {Le Te Va f : Nat → Int32} {jm wo wy tk : Int32}
theorem c_barOf (D : is_rd V h a aO n N jm wo wy tk f) (i : Int32) : rx_C V (d + 1) kc ks m_Road_barOf [.ref a, .int i] h (rx_X (.inl (some (.int (brf N f i)))) h) := by
  obtain ⟨D1, D2, D3, D4⟩ := id D
  refine rx_iload_n d_Road_barOf_0 (by rfl) ?_
  refine rx_iconst (v := 0) d_Road_barOf_1 (by decide) ?_
  refine rx_aload_nr d_Road_barOf_2 (by rfl) ?_
  refine rx_getfield d_Road_barOf_3 fl_Road_15 D1 (by rfl) ?_
  refine rx_iconst (v := 1) d_Road_barOf_6 (by decide) ?_
  refine rx_isub d_Road_barOf_7 ?_
  refine rx_cSN d_Road_barOf_8 ml_Road_116 st_SR_isWithin (by exact c9_SR_isWithin) (by rfl) (by exact Nat.le_of_ble_eq_true rfl) (c_isWithin i 0 (nI N - 1)) ?_
  refine rx_if_eq (tgt := 23) d_Road_barOf_11 (by rfl) (fun c11 => ?_) (fun c11 => ?_)
  · rw [brf_0 (by omega) c11]
    refine rx_iconst (v := -1) d_Road_barOf_23 (by decide) ?_
    refine rx_ireturn d_Road_barOf_24 (by rfl) ?_
    exact ⟨rfl, rfl⟩
  · obtain ⟨j, j1, j2, j3⟩ := brf_1 (f := f) (by omega) c11
    subst j2
    rw [j3]
    refine rx_aload_nr d_Road_barOf_14 (by rfl) ?_
    refine rx_getfield d_Road_barOf_15 fl_Road_9 D1 (by rfl) ?_
    refine rx_iload_n d_Road_barOf_18 (by rfl) ?_
    refine rx_iaload d_Road_barOf_19 (by rfl) D2 (vp_in_nI (by omega) (by omega)) ?_
    rw [i_cl (by omega)]
    refine rx_goto (tgt := 24) d_Road_barOf_20 (by rfl) ?_
    refine rx_ireturn d_Road_barOf_24 (by rfl) ?_
    exact ⟨rfl, rfl⟩
theorem l_timesUpTo (D : is_rd V h a aO n N jm wo wy tk f) {i : Nat} (hi : i < N) : ∀ (m j : Nat) (c : Int32), j + m = i + 1 → rx_W V (d + 2) kc ks m_Road_timesUpTo 4 [some (.ref a), some (.int (nI i)), some (.int c), some (.int (nI j))] [] h (rx_X (.inl (some (.int (ffo (ctf f (f i)) c j m)))) h) := by
  obtain ⟨D1, D2, D3, D4⟩ := id D
  intro m
  induction m with
  | zero =>
    intro j c hj
    have e : j = i + 1 := by omega
    subst e
    refine rx_iload_n d_Road_timesUpTo_4 (by rfl) ?_
    refine rx_iload_n d_Road_timesUpTo_5 (by rfl) ?_
    refine rx_icmp_gt (tgt := 40) d_Road_timesUpTo_6 (by rfl) (fun c6 => ?_) (fun z => absurd (nI_lt (by omega) (by omega)) z)
    refine rx_iload_n d_Road_timesUpTo_40 (by rfl) ?_
    refine rx_ireturn d_Road_timesUpTo_41 (by rfl) ?_
    exact ⟨rfl, rfl⟩
  | succ m ih =>
    intro j c hj
    refine rx_iload_n d_Road_timesUpTo_4 (by rfl) ?_
    refine rx_iload_n d_Road_timesUpTo_5 (by rfl) ?_
    refine rx_icmp_gt (tgt := 40) d_Road_timesUpTo_6 (by rfl) (fun z => absurd z (nI_nlt (by omega) (by omega))) (fun c6 => ?_)
    refine rx_iload_n d_Road_timesUpTo_9 (by rfl) ?_
    refine rx_aload_nr d_Road_timesUpTo_10 (by rfl) ?_
    refine rx_getfield d_Road_timesUpTo_11 fl_Road_15 D1 (by rfl) ?_
    refine rx_icmp_ge (tgt := 40) d_Road_timesUpTo_14 (by rfl) (fun z => absurd z (nI_ge (by omega) (by omega))) (fun c14 => ?_)
    refine rx_aload_nr d_Road_timesUpTo_17 (by rfl) ?_
    refine rx_getfield d_Road_timesUpTo_18 fl_Road_9 D1 (by rfl) ?_
    refine rx_iload_n d_Road_timesUpTo_21 (by rfl) ?_
    refine rx_iaload d_Road_timesUpTo_22 (by rfl) D2 (vp_in_nI (by omega) (by omega)) ?_
    rw [i_cl (by omega)]
    refine rx_aload_nr d_Road_timesUpTo_23 (by rfl) ?_
    refine rx_iload_n d_Road_timesUpTo_24 (by rfl) ?_
    refine rx_cV d_Road_timesUpTo_25 (by rfl) ml_Road_120 im_Road_barOf se_Road_barOf (by exact c9_Road_barOf) D1 (by rfl) (by exact Nat.le_of_ble_eq_true rfl) (c_barOf D (nI i)) ?_
    rw [brf_n (by omega) hi]
    refine rx_icmp_ne (tgt := 34) d_Road_timesUpTo_28 (by rfl) (fun c28 => ?_) (fun c28 => ?_)
    · have hs : ctf f (f i) c j = c := if_neg c28
      refine rx_iinc (v := nI (j + 1)) d_Road_timesUpTo_34 (by rfl) (i_inc j) ?_
      refine rx_goto (tgt := 4) d_Road_timesUpTo_37 (by rfl) ?_
      have z := ih (j + 1) (ctf f (f i) c j) (by omega)
      rw [hs] at z
      show rx_W V (d + 2) kc ks m_Road_timesUpTo 4 _ [] h (rx_X (.inl (some (.int (ffo (ctf f (f i)) (ctf f (f i) c j) (j + 1) m)))) h)
      rw [hs]
      exact z
    · have hs : ctf f (f i) c j = c + 1 := if_pos c28
      refine rx_iinc d_Road_timesUpTo_31 (by rfl) (by rfl) ?_
      refine rx_iinc (v := nI (j + 1)) d_Road_timesUpTo_34 (by rfl) (i_inc j) ?_
      refine rx_goto (tgt := 4) d_Road_timesUpTo_37 (by rfl) ?_
      have z := ih (j + 1) (ctf f (f i) c j) (by omega)
      rw [hs] at z
      show rx_W V (d + 2) kc ks m_Road_timesUpTo 4 _ [] h (rx_X (.inl (some (.int (ffo (ctf f (f i)) (ctf f (f i) c j) (j + 1) m)))) h)
      rw [hs]
      exact z
theorem c_timesUpTo (D : is_rd V h a aO n N jm wo wy tk f) {i : Nat} (hi : i < N) : rx_C V (d + 2) kc ks m_Road_timesUpTo [.ref a, .int (nI i)] h (rx_X (.inl (some (.int (ffo (ctf f (f i)) 0 0 (i + 1))))) h) := by
  refine rx_iconst (v := 0) d_Road_timesUpTo_0 (by decide) ?_
  refine rx_istore_n d_Road_timesUpTo_1 (Nat.le_of_ble_eq_true rfl) ?_
  refine rx_iconst (v := 0) d_Road_timesUpTo_2 (by decide) ?_
  refine rx_istore_n d_Road_timesUpTo_3 (Nat.le_of_ble_eq_true rfl) ?_
  exact l_timesUpTo D hi (i + 1) 0 0 (by omega)
theorem l_indexOf (D : is_rd V h a aO n N jm wo wy tk f) (b k : Int32) : ∀ (m j : Nat) (c : Int32), j + m = N → rx_W V d kc ks m_Road_indexOf 5 [some (.ref a), some (.int b), some (.int k), some (.int c), some (.int (nI j))] [] h (rx_X (.inl (some (.int (ixf f b k c j m)))) h) := by
  obtain ⟨D1, D2, D3, D4⟩ := id D
  intro m
  induction m with
  | zero =>
    intro j c hj
    have e : j = N := by omega
    subst e
    refine rx_iload d_Road_indexOf_5 (by rfl) ?_
    refine rx_aload_nr d_Road_indexOf_7 (by rfl) ?_
    refine rx_getfield d_Road_indexOf_8 fl_Road_15 D1 (by rfl) ?_
    refine rx_icmp_ge (tgt := 42) d_Road_indexOf_11 (by rfl) (fun c11 => ?_) (fun z => absurd (Int32.le_refl _) z)
    refine rx_iconst (v := -1) d_Road_indexOf_42 (by decide) ?_
    refine rx_ireturn d_Road_indexOf_43 (by rfl) ?_
    exact ⟨rfl, rfl⟩
  | succ m ih =>
    intro j c hj
    refine rx_iload d_Road_indexOf_5 (by rfl) ?_
    refine rx_aload_nr d_Road_indexOf_7 (by rfl) ?_
    refine rx_getfield d_Road_indexOf_8 fl_Road_15 D1 (by rfl) ?_
    refine rx_icmp_ge (tgt := 42) d_Road_indexOf_11 (by rfl) (fun z => absurd z (nI_ge (by omega) (by omega))) (fun c11 => ?_)
    refine rx_aload_nr d_Road_indexOf_14 (by rfl) ?_
    refine rx_getfield d_Road_indexOf_15 fl_Road_9 D1 (by rfl) ?_
    refine rx_iload d_Road_indexOf_18 (by rfl) ?_
    refine rx_iaload d_Road_indexOf_20 (by rfl) D2 (vp_in_nI (by omega) (by omega)) ?_
    rw [i_cl (by omega)]
    refine rx_iload_n d_Road_indexOf_21 (by rfl) ?_
    refine rx_icmp_ne (tgt := 36) d_Road_indexOf_22 (by rfl) (fun c22 => ?_) (fun c22 => ?_)
    · rw [show ixf f b k c j (m + 1) = ixf f b k c (j + 1) m from if_neg c22]
      refine rx_iinc (v := nI (j + 1)) d_Road_indexOf_36 (by rfl) (i_inc j) ?_
      refine rx_goto (tgt := 5) d_Road_indexOf_39 (by rfl) ?_
      exact ih (j + 1) _ (by omega)
    · refine rx_iinc d_Road_indexOf_25 (by rfl) (by rfl) ?_
      refine rx_iload_n d_Road_indexOf_28 (by rfl) ?_
      refine rx_iload_n d_Road_indexOf_29 (by rfl) ?_
      refine rx_icmp_ne (tgt := 36) d_Road_indexOf_30 (by rfl) (fun c30 => ?_) (fun c30 => ?_)
      · rw [show ixf f b k c j (m + 1) = ixf f b k (c + 1) (j + 1) m from (if_pos c22).trans (if_neg c30)]
        refine rx_iinc (v := nI (j + 1)) d_Road_indexOf_36 (by rfl) (i_inc j) ?_
        refine rx_goto (tgt := 5) d_Road_indexOf_39 (by rfl) ?_
        exact ih (j + 1) _ (by omega)
      · refine rx_iload d_Road_indexOf_33 (by rfl) ?_
        refine rx_ireturn d_Road_indexOf_35 (by rfl) ?_
        exact ⟨by rw [show ixf f b k c j (m + 1) = nI j from (if_pos c22).trans (if_pos c30)], rfl⟩
theorem c_indexOf (D : is_rd V h a aO n N jm wo wy tk f) (b k : Int32) : rx_C V d kc ks m_Road_indexOf [.ref a, .int b, .int k] h (rx_X (.inl (some (.int (ixf f b k 0 0 N)))) h) := by
  refine rx_iconst (v := 0) d_Road_indexOf_0 (by decide) ?_
  refine rx_istore_n d_Road_indexOf_1 (Nat.le_of_ble_eq_true rfl) ?_
  refine rx_iconst (v := 0) d_Road_indexOf_2 (by decide) ?_
  refine rx_istore d_Road_indexOf_3 (Nat.le_of_ble_eq_true rfl) ?_
  exact l_indexOf D b k N 0 0 (by omega)
theorem c_ticksOf (hp : is_pg V h aP n al at_ av Le Te Va) (b : Int32) : rx_C V (d + 2) kc ks m_Road_ticksOf [.ref aP, .int b] h (rx_X (.inl (some (.long (tkf n Le Te b)))) h) := by
  refine rx_aload_nr d_Road_ticksOf_0 (by rfl) ?_
  refine rx_iload_n d_Road_ticksOf_1 (by rfl) ?_
  refine rx_cV d_Road_ticksOf_2 (by rfl) ml_Road_127 im_Page_lengthOf se_Page_lengthOf (by exact c9_Page_lengthOf) hp.1 (by rfl) (by exact Nat.le_of_ble_eq_true rfl) (c_lengthOf hp b) ?_
  refine rx_i2l d_Road_ticksOf_5 ?_
  refine rx_aload_nr d_Road_ticksOf_6 (by rfl) ?_
  refine rx_iload_n d_Road_ticksOf_7 (by rfl) ?_
  refine rx_cV d_Road_ticksOf_8 (by rfl) ml_Road_130 im_Page_tempoOf se_Page_tempoOf (by exact c9_Page_tempoOf) hp.1 (by rfl) (by exact Nat.le_of_ble_eq_true rfl) (c_tempoOf hp b) ?_
  refine rx_i2l d_Road_ticksOf_11 ?_
  refine rx_lmul d_Road_ticksOf_12 ?_
  refine rx_lreturn d_Road_ticksOf_13 (by rfl) ?_
  exact ⟨rfl, rfl⟩
theorem l_ticksTo (hp : is_pg V h aP n al at_ av Le Te Va) (D : is_rd V h a aO n N jm wo wy tk f) {i : Nat} (hi : i ≤ N) : ∀ (m j : Nat) (x : Int64), j + m = i → rx_W V (d + 3) kc ks m_Road_ticksTo 5 [some (.ref a), some (.ref aP), some (.int (nI i)), some (.long x), none, some (.int (nI j))] [] h (rx_X (.inl (some (.long (ffo (tks n Le Te f) x j m)))) h) := by
  obtain ⟨D1, D2, D3, D4⟩ := id D
  intro m
  induction m with
  | zero =>
    intro j c hj
    have e : j = i := by omega
    subst e
    refine rx_iload d_Road_ticksTo_5 (by rfl) ?_
    refine rx_iload_n d_Road_ticksTo_7 (by rfl) ?_
    refine rx_icmp_ge (tgt := 40) d_Road_ticksTo_8 (by rfl) (fun c8 => ?_) (fun z => absurd (Int32.le_refl _) z)
    refine rx_lload_n d_Road_ticksTo_40 (by rfl) ?_
    refine rx_lreturn d_Road_ticksTo_41 (by rfl) ?_
    exact ⟨rfl, rfl⟩
  | succ m ih =>
    intro j x hj
    refine rx_iload d_Road_ticksTo_5 (by rfl) ?_
    refine rx_iload_n d_Road_ticksTo_7 (by rfl) ?_
    refine rx_icmp_ge (tgt := 40) d_Road_ticksTo_8 (by rfl) (fun z => absurd z (nI_ge (by omega) (by omega))) (fun c8 => ?_)
    refine rx_iload d_Road_ticksTo_11 (by rfl) ?_
    refine rx_aload_nr d_Road_ticksTo_13 (by rfl) ?_
    refine rx_getfield d_Road_ticksTo_14 fl_Road_15 D1 (by rfl) ?_
    refine rx_icmp_ge (tgt := 40) d_Road_ticksTo_17 (by rfl) (fun z => absurd z (nI_ge (by omega) (by omega))) (fun c17 => ?_)
    refine rx_lload_n d_Road_ticksTo_20 (by rfl) ?_
    refine rx_aload_nr d_Road_ticksTo_21 (by rfl) ?_
    refine rx_aload_nr d_Road_ticksTo_22 (by rfl) ?_
    refine rx_getfield d_Road_ticksTo_23 fl_Road_9 D1 (by rfl) ?_
    refine rx_iload d_Road_ticksTo_26 (by rfl) ?_
    refine rx_iaload d_Road_ticksTo_28 (by rfl) D2 (vp_in_nI (by omega) (by omega)) ?_
    rw [i_cl (by omega)]
    refine rx_cS d_Road_ticksTo_29 ml_Road_123 st_Road_ticksOf (by exact c9_Road_ticksOf) (by rfl) (by exact Nat.le_of_ble_eq_true rfl) (c_ticksOf hp (f j)) ?_
    refine rx_ladd d_Road_ticksTo_32 ?_
    refine rx_lstore_n d_Road_ticksTo_33 (Nat.le_of_ble_eq_true rfl) ?_
    refine rx_iinc (v := nI (j + 1)) d_Road_ticksTo_34 (by rfl) (i_inc j) ?_
    refine rx_goto (tgt := 5) d_Road_ticksTo_37 (by rfl) ?_
    exact ih (j + 1) _ (by omega)
theorem c_ticksTo (hp : is_pg V h aP n al at_ av Le Te Va) (D : is_rd V h a aO n N jm wo wy tk f) {i : Nat} (hi : i ≤ N) : rx_C V (d + 3) kc ks m_Road_ticksTo [.ref a, .ref aP, .int (nI i)] h (rx_X (.inl (some (.long (ffo (tks n Le Te f) 0 0 i)))) h) := by
  refine rx_lconst (v := 0) d_Road_ticksTo_0 (by decide) ?_
  refine rx_lstore_n d_Road_ticksTo_1 (Nat.le_of_ble_eq_true rfl) ?_
  refine rx_iconst (v := 0) d_Road_ticksTo_2 (by decide) ?_
  refine rx_istore d_Road_ticksTo_3 (Nat.le_of_ble_eq_true rfl) ?_
  exact l_ticksTo hp D hi i 0 0 (by omega)
theorem l_indexAt (hp : is_pg V h aP n al at_ av Le Te Va) (D : is_rd V h a aO n N jm wo wy tk f) (t : Int64) : ∀ (m j : Nat) (x : Int64), j + m = N → rx_W V (d + 3) kc ks m_Road_indexAt 14 [some (.ref a), some (.ref aP), some (.long t), none, some (.long x), none, some (.int (nI j))] [] h (rx_X (.inl (some (.int (iaf n Le Te f t x j m)))) h) := by
  obtain ⟨D1, D2, D3, D4⟩ := id D
  intro m
  induction m with
  | zero =>
    intro j c hj
    have e : j = N := by omega
    subst e
    refine rx_iload d_Road_indexAt_14 (by rfl) ?_
    refine rx_aload_nr d_Road_indexAt_16 (by rfl) ?_
    refine rx_getfield d_Road_indexAt_17 fl_Road_15 D1 (by rfl) ?_
    refine rx_icmp_ge (tgt := 55) d_Road_indexAt_20 (by rfl) (fun c20 => ?_) (fun z => absurd (Int32.le_refl _) z)
    refine rx_iconst (v := -1) d_Road_indexAt_55 (by decide) ?_
    refine rx_ireturn d_Road_indexAt_56 (by rfl) ?_
    exact ⟨rfl, rfl⟩
  | succ m ih =>
    intro j x hj
    refine rx_iload d_Road_indexAt_14 (by rfl) ?_
    refine rx_aload_nr d_Road_indexAt_16 (by rfl) ?_
    refine rx_getfield d_Road_indexAt_17 fl_Road_15 D1 (by rfl) ?_
    refine rx_icmp_ge (tgt := 55) d_Road_indexAt_20 (by rfl) (fun z => absurd z (nI_ge (by omega) (by omega))) (fun c20 => ?_)
    refine rx_lload d_Road_indexAt_23 (by rfl) ?_
    refine rx_aload_nr d_Road_indexAt_25 (by rfl) ?_
    refine rx_aload_nr d_Road_indexAt_26 (by rfl) ?_
    refine rx_getfield d_Road_indexAt_27 fl_Road_9 D1 (by rfl) ?_
    refine rx_iload d_Road_indexAt_30 (by rfl) ?_
    refine rx_iaload d_Road_indexAt_32 (by rfl) D2 (vp_in_nI (by omega) (by omega)) ?_
    rw [i_cl (by omega)]
    refine rx_cS d_Road_indexAt_33 ml_Road_123 st_Road_ticksOf (by exact c9_Road_ticksOf) (by rfl) (by exact Nat.le_of_ble_eq_true rfl) (c_ticksOf hp (f j)) ?_
    refine rx_ladd d_Road_indexAt_36 ?_
    refine rx_lstore d_Road_indexAt_37 (Nat.le_of_ble_eq_true rfl) ?_
    refine rx_lload_n d_Road_indexAt_39 (by rfl) ?_
    refine rx_lload d_Road_indexAt_40 (by rfl) ?_
    refine rx_lcmp d_Road_indexAt_42 ?_
    refine rx_if_ge (tgt := 49) d_Road_indexAt_43 (by rfl) (fun c43 => ?_) (fun c43 => ?_)
    · rw [show iaf n Le Te f t x j (m + 1) = iaf n Le Te f t (x + tkf n Le Te (f j)) (j + 1) m from if_neg ((lg_ge0 _ _).mp c43)]
      refine rx_iinc (v := nI (j + 1)) d_Road_indexAt_49 (by rfl) (i_inc j) ?_
      refine rx_goto (tgt := 14) d_Road_indexAt_52 (by rfl) ?_
      exact ih (j + 1) _ (by omega)
    · refine rx_iload d_Road_indexAt_46 (by rfl) ?_
      refine rx_ireturn d_Road_indexAt_48 (by rfl) ?_
      exact ⟨by rw [show iaf n Le Te f t x j (m + 1) = nI j from if_pos (Decidable.not_not.mp (fun w => c43 ((lg_ge0 _ _).mpr w)))], rfl⟩
theorem c_indexAt (hp : is_pg V h aP n al at_ av Le Te Va) (D : is_rd V h a aO n N jm wo wy tk f) (t : Int64) : rx_C V (d + 3) kc ks m_Road_indexAt [.ref a, .ref aP, .long t] h (rx_X (.inl (some (.int (if t < 0 then -1 else iaf n Le Te f t 0 0 N)))) h) := by
  refine rx_lload_n d_Road_indexAt_0 (by rfl) ?_
  refine rx_lconst (v := 0) d_Road_indexAt_1 (by decide) ?_
  refine rx_lcmp d_Road_indexAt_2 ?_
  refine rx_if_ge (tgt := 8) d_Road_indexAt_3 (by rfl) (fun c3 => ?_) (fun c3 => ?_)
  · rw [if_neg ((lg_ge0 _ _).mp c3)]
    refine rx_lconst (v := 0) d_Road_indexAt_8 (by decide) ?_
    refine rx_lstore d_Road_indexAt_9 (Nat.le_of_ble_eq_true rfl) ?_
    refine rx_iconst (v := 0) d_Road_indexAt_11 (by decide) ?_
    refine rx_istore d_Road_indexAt_12 (Nat.le_of_ble_eq_true rfl) ?_
    exact l_indexAt hp D t N 0 0 (by omega)
  · rw [if_pos (Decidable.not_not.mp (fun w => c3 ((lg_ge0 _ _).mpr w)))]
    refine rx_iconst (v := -1) d_Road_indexAt_6 (by decide) ?_
    refine rx_ireturn d_Road_indexAt_7 (by rfl) ?_
    exact ⟨rfl, rfl⟩
end RD
