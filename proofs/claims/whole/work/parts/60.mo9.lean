/-! the reference's notes: reads -/
/-- the reference's notes, by number and field -/
def MS (S : mT) (i k : Nat) : Int32 := S.2.2 (5 + k) i
def rcB (n : Nat) (Le : Nat → Int32) (N : Nat → Int32) : Bool := decide (N 5 ≠ 0 ∧ N 2 + N 3 = pgl n Le (N 1))
/-- how many notes, and that their bars are bars -/
def mQ (n num : Nat) (S : mT) : Prop := S.1 6 = nI num ∧ num ≤ 40 ∧ n ≤ 20 ∧ ∀ i, i < num → ∃ b, b < n ∧ S.2.2 6 i = nI b
theorem pgl_nI {n b : Nat} {Le : Nat → Int32} (hn : n ≤ 20) (h : b < n) : pgl n Le (nI b) = Le b := by
  unfold pgl
  rw [i_n (by omega), if_pos (by omega)]
  rfl
/-- a note's place within its bar -/
def nky (N : Nat → Int32) : Int32 := 128 * N 2 + N 4
def nns (S : mT) (p b be : Int32) (x : Int32) (k : Nat) : Int32 := if (MS S k 0 = p ∧ MS S k 1 = b ∧ be < nky (MS S k)) ∧ (x < 0 ∨ nky (MS S k) < nky (MS S x.toNatClampNeg)) then nI k else x
def gob (n : Nat) (S : mT) (m i : Nat) (k : Nat) : Bool := decide (MS S k 0 = MS S m 0 ∧ MS S k 4 = MS S m 4 ∧ MS S k 1 = S.2.2 16 (i - 1)) && rcB n (S.2.2 2) (MS S k)
section MNR
variable {V : rx_V} {d kc ks : Nat} {h h1 h2 : List va_E} {a n num : Nat} {S S0 : mT}
theorem k_reaches (ha : a = V.2.1 + h1.length) (q : mQ n num S) {k : Nat} (hk : k < num) : rx_C V d kc ks m_Mo_reaches [.ref a, .int (nI k)] (mw V h1 a S h2) (rx_X (.inl (some (.int (bi (rcB n (S.2.2 2) (MS S k)))))) (mw V h1 a S h2)) := by
  have hq := q.2
  obtain ⟨b, hb, eb⟩ := q.2.2.2 k hk
  have e : MS S k 1 = nI b := eb
  have er : rcB n (S.2.2 2) (MS S k) = decide (S.2.2 10 k ≠ 0 ∧ S.2.2 7 k + S.2.2 8 k = S.2.2 2 b) := by
    unfold rcB
    rw [e, pgl_nI (by omega) hb]
    rfl
  rw [er]
  refine rx_aload_nr d_Mo_reaches_0 (by rfl) ?_
  refine rx_getfield d_Mo_reaches_1 fl_Mo_37 (mr0 ha) (by rfl) ?_
  refine rx_iload_n d_Mo_reaches_4 (by rfl) ?_
  refine m_bal (j := 10) ha d_Mo_reaches_5 (by rfl) (by omega) (by decide) ?_
  refine rx_if_eq (tgt := 40) d_Mo_reaches_6 (by rfl) (fun c6 => ?_) (fun c6 => ?_)
  · rw [decide_eq_false (fun z => z.1 c6)]
    refine rx_iconst (v := 0) d_Mo_reaches_40 (by decide) ?_
    refine rx_zreturn d_Mo_reaches_41 (by rfl) (by rfl) ?_
    exact ⟨rfl, rfl⟩
  · refine rx_aload_nr d_Mo_reaches_9 (by rfl) ?_
    refine rx_getfield d_Mo_reaches_10 fl_Mo_28 (mr0 ha) (by rfl) ?_
    refine rx_iload_n d_Mo_reaches_13 (by rfl) ?_
    refine m_ial (j := 7) ha d_Mo_reaches_14 (by rfl) (by omega) (by decide) ?_
    refine rx_aload_nr d_Mo_reaches_15 (by rfl) ?_
    refine rx_getfield d_Mo_reaches_16 fl_Mo_31 (mr0 ha) (by rfl) ?_
    refine rx_iload_n d_Mo_reaches_19 (by rfl) ?_
    refine m_ial (j := 8) ha d_Mo_reaches_20 (by rfl) (by omega) (by decide) ?_
    refine rx_iadd d_Mo_reaches_21 ?_
    refine rx_aload_nr d_Mo_reaches_22 (by rfl) ?_
    refine rx_getfield d_Mo_reaches_23 fl_Mo_13 (mr0 ha) (by rfl) ?_
    refine rx_aload_nr d_Mo_reaches_26 (by rfl) ?_
    refine rx_getfield d_Mo_reaches_27 fl_Mo_25 (mr0 ha) (by rfl) ?_
    refine rx_iload_n d_Mo_reaches_30 (by rfl) ?_
    refine m_ial (j := 6) ha d_Mo_reaches_31 (by rfl) (by omega) (by decide) ?_
    rw [eb]
    refine m_ial (j := 2) ha d_Mo_reaches_32 (by rfl) (by omega) (by decide) ?_
    refine rx_icmp_ne (tgt := 40) d_Mo_reaches_33 (by rfl) (fun c33 => ?_) (fun c33 => ?_)
    · rw [decide_eq_false (fun z => c33 z.2)]
      refine rx_iconst (v := 0) d_Mo_reaches_40 (by decide) ?_
      refine rx_zreturn d_Mo_reaches_41 (by rfl) (by rfl) ?_
      exact ⟨rfl, rfl⟩
    · rw [decide_eq_true ⟨c6, c33⟩]
      refine rx_iconst (v := 1) d_Mo_reaches_36 (by decide) ?_
      refine rx_goto (tgt := 41) d_Mo_reaches_37 (by rfl) ?_
      refine rx_zreturn d_Mo_reaches_41 (by rfl) (by rfl) ?_
      exact ⟨rfl, rfl⟩
theorem l_opening (ha : a = V.2.1 + h1.length) (q : mQ n num S) (p b t : Int32) : ∀ (m i : Nat) (x : Int32), i + m = num → x = Int32.ofInt (lwf (fun k => decide (MS S k 0 = p ∧ MS S k 1 = b ∧ MS S k 2 = 0 ∧ MS S k 4 = t)) 0 i) → rx_W V d kc ks m_Mo_opening 6 [some (.ref a), some (.int p), some (.int b), some (.int t), some (.int x), some (.int (nI i))] [] (mw V h1 a S h2) (rx_X (.inl (some (.int (Int32.ofInt (lwf (fun k => decide (MS S k 0 = p ∧ MS S k 1 = b ∧ MS S k 2 = 0 ∧ MS S k 4 = t)) 0 num))))) (mw V h1 a S h2)) := by
  have hq := q.2
  intro m
  induction m with
  | zero =>
    intro i x hi hx
    have e : i = num := by omega
    subst e
    refine rx_iload d_Mo_opening_6 (by rfl) ?_
    refine rx_aload_nr d_Mo_opening_8 (by rfl) ?_
    refine rx_getfield d_Mo_opening_9 fl_Mo_78 (mr0 ha) (by rfl) ?_
    rw [show S.1 6 = nI i from q.1]
    refine rx_icmp_ge (tgt := 73) d_Mo_opening_12 (by rfl) (fun c12 => ?_) (fun z => absurd (Int32.le_refl _) z)
    refine rx_iload d_Mo_opening_73 (by rfl) ?_
    refine rx_ireturn d_Mo_opening_75 (by rfl) ?_
    exact ⟨by rw [hx], rfl⟩
  | succ m ih =>
    intro i x hi hx
    have no : ¬ (MS S i 0 = p ∧ MS S i 1 = b ∧ MS S i 2 = 0 ∧ MS S i 4 = t) → x = Int32.ofInt (lwf (fun k => decide (MS S k 0 = p ∧ MS S k 1 = b ∧ MS S k 2 = 0 ∧ MS S k 4 = t)) 0 (i + 1)) := fun z => by
      rw [lwf_no (by omega) (decide_eq_false z)]; exact hx
    have yes : (MS S i 0 = p ∧ MS S i 1 = b ∧ MS S i 2 = 0 ∧ MS S i 4 = t) → nI i = Int32.ofInt (lwf (fun k => decide (MS S k 0 = p ∧ MS S k 1 = b ∧ MS S k 2 = 0 ∧ MS S k 4 = t)) 0 (i + 1)) := fun z => by
      rw [lwf_yes (by omega) (decide_eq_true z)]; exact (i_ofI i).symm
    refine rx_iload d_Mo_opening_6 (by rfl) ?_
    refine rx_aload_nr d_Mo_opening_8 (by rfl) ?_
    refine rx_getfield d_Mo_opening_9 fl_Mo_78 (mr0 ha) (by rfl) ?_
    rw [show S.1 6 = nI num from q.1]
    refine rx_icmp_ge (tgt := 73) d_Mo_opening_12 (by rfl) (fun z => absurd z (nI_ge (by omega) (by omega))) (fun c12 => ?_)
    refine rx_aload_nr d_Mo_opening_15 (by rfl) ?_
    refine rx_getfield d_Mo_opening_16 fl_Mo_22 (mr0 ha) (by rfl) ?_
    refine rx_iload d_Mo_opening_19 (by rfl) ?_
    refine m_ial (j := 5) ha d_Mo_opening_21 (by rfl) (by omega) (by decide) ?_
    refine rx_iload_n d_Mo_opening_22 (by rfl) ?_
    refine rx_icmp_ne (tgt := 63) d_Mo_opening_23 (by rfl) (fun c23 => ?_) (fun c23 => ?_)
    · refine rx_iload d_Mo_opening_63 (by rfl) ?_
      refine rx_istore d_Mo_opening_65 (Nat.le_of_ble_eq_true rfl) ?_
      refine rx_iinc (v := nI (i + 1)) d_Mo_opening_67 (by rfl) (i_inc i) ?_
      refine rx_goto (tgt := 6) d_Mo_opening_70 (by rfl) ?_
      first
        | exact ih (i + 1) _ (by omega) (no (fun z => c23 z.1))
        | exact ih (i + 1) _ (by omega) (no (fun z => c34 z.2.1))
        | exact ih (i + 1) _ (by omega) (no (fun z => c44 z.2.2.1))
        | exact ih (i + 1) _ (by omega) (no (fun z => c55 z.2.2.2))
        | exact ih (i + 1) _ (by omega) (yes ⟨c23, c34, c44, c55⟩)
    · refine rx_aload_nr d_Mo_opening_26 (by rfl) ?_
      refine rx_getfield d_Mo_opening_27 fl_Mo_25 (mr0 ha) (by rfl) ?_
      refine rx_iload d_Mo_opening_30 (by rfl) ?_
      refine m_ial (j := 6) ha d_Mo_opening_32 (by rfl) (by omega) (by decide) ?_
      refine rx_iload_n d_Mo_opening_33 (by rfl) ?_
      refine rx_icmp_ne (tgt := 63) d_Mo_opening_34 (by rfl) (fun c34 => ?_) (fun c34 => ?_)
      · refine rx_iload d_Mo_opening_63 (by rfl) ?_
        refine rx_istore d_Mo_opening_65 (Nat.le_of_ble_eq_true rfl) ?_
        refine rx_iinc (v := nI (i + 1)) d_Mo_opening_67 (by rfl) (i_inc i) ?_
        refine rx_goto (tgt := 6) d_Mo_opening_70 (by rfl) ?_
        first
          | exact ih (i + 1) _ (by omega) (no (fun z => c23 z.1))
          | exact ih (i + 1) _ (by omega) (no (fun z => c34 z.2.1))
          | exact ih (i + 1) _ (by omega) (no (fun z => c44 z.2.2.1))
          | exact ih (i + 1) _ (by omega) (no (fun z => c55 z.2.2.2))
          | exact ih (i + 1) _ (by omega) (yes ⟨c23, c34, c44, c55⟩)
      · refine rx_aload_nr d_Mo_opening_37 (by rfl) ?_
        refine rx_getfield d_Mo_opening_38 fl_Mo_28 (mr0 ha) (by rfl) ?_
        refine rx_iload d_Mo_opening_41 (by rfl) ?_
        refine m_ial (j := 7) ha d_Mo_opening_43 (by rfl) (by omega) (by decide) ?_
        refine rx_if_ne (tgt := 63) d_Mo_opening_44 (by rfl) (fun c44 => ?_) (fun c44 => ?_)
        · refine rx_iload d_Mo_opening_63 (by rfl) ?_
          refine rx_istore d_Mo_opening_65 (Nat.le_of_ble_eq_true rfl) ?_
          refine rx_iinc (v := nI (i + 1)) d_Mo_opening_67 (by rfl) (i_inc i) ?_
          refine rx_goto (tgt := 6) d_Mo_opening_70 (by rfl) ?_
          first
            | exact ih (i + 1) _ (by omega) (no (fun z => c23 z.1))
            | exact ih (i + 1) _ (by omega) (no (fun z => c34 z.2.1))
            | exact ih (i + 1) _ (by omega) (no (fun z => c44 z.2.2.1))
            | exact ih (i + 1) _ (by omega) (no (fun z => c55 z.2.2.2))
            | exact ih (i + 1) _ (by omega) (yes ⟨c23, c34, c44, c55⟩)
        · refine rx_aload_nr d_Mo_opening_47 (by rfl) ?_
          refine rx_getfield d_Mo_opening_48 fl_Mo_34 (mr0 ha) (by rfl) ?_
          refine rx_iload d_Mo_opening_51 (by rfl) ?_
          refine m_ial (j := 9) ha d_Mo_opening_53 (by rfl) (by omega) (by decide) ?_
          refine rx_iload_n d_Mo_opening_54 (by rfl) ?_
          refine rx_icmp_ne (tgt := 63) d_Mo_opening_55 (by rfl) (fun c55 => ?_) (fun c55 => ?_)
          · refine rx_iload d_Mo_opening_63 (by rfl) ?_
            refine rx_istore d_Mo_opening_65 (Nat.le_of_ble_eq_true rfl) ?_
            refine rx_iinc (v := nI (i + 1)) d_Mo_opening_67 (by rfl) (i_inc i) ?_
            refine rx_goto (tgt := 6) d_Mo_opening_70 (by rfl) ?_
            first
              | exact ih (i + 1) _ (by omega) (no (fun z => c23 z.1))
              | exact ih (i + 1) _ (by omega) (no (fun z => c34 z.2.1))
              | exact ih (i + 1) _ (by omega) (no (fun z => c44 z.2.2.1))
              | exact ih (i + 1) _ (by omega) (no (fun z => c55 z.2.2.2))
              | exact ih (i + 1) _ (by omega) (yes ⟨c23, c34, c44, c55⟩)
          · refine rx_iload d_Mo_opening_58 (by rfl) ?_
            refine rx_goto (tgt := 65) d_Mo_opening_60 (by rfl) ?_
            refine rx_istore d_Mo_opening_65 (Nat.le_of_ble_eq_true rfl) ?_
            refine rx_iinc (v := nI (i + 1)) d_Mo_opening_67 (by rfl) (i_inc i) ?_
            refine rx_goto (tgt := 6) d_Mo_opening_70 (by rfl) ?_
            first
              | exact ih (i + 1) _ (by omega) (no (fun z => c23 z.1))
              | exact ih (i + 1) _ (by omega) (no (fun z => c34 z.2.1))
              | exact ih (i + 1) _ (by omega) (no (fun z => c44 z.2.2.1))
              | exact ih (i + 1) _ (by omega) (no (fun z => c55 z.2.2.2))
              | exact ih (i + 1) _ (by omega) (yes ⟨c23, c34, c44, c55⟩)
theorem k_opening (ha : a = V.2.1 + h1.length) (q : mQ n num S) (p b t : Int32) : rx_C V d kc ks m_Mo_opening [.ref a, .int p, .int b, .int t] (mw V h1 a S h2) (rx_X (.inl (some (.int (Int32.ofInt (lwf (fun k => decide (MS S k 0 = p ∧ MS S k 1 = b ∧ MS S k 2 = 0 ∧ MS S k 4 = t)) 0 num))))) (mw V h1 a S h2)) := by
  refine rx_iconst (v := -1) d_Mo_opening_0 (by decide) ?_
  refine rx_istore d_Mo_opening_1 (Nat.le_of_ble_eq_true rfl) ?_
  refine rx_iconst (v := 0) d_Mo_opening_3 (by decide) ?_
  refine rx_istore d_Mo_opening_4 (Nat.le_of_ble_eq_true rfl) ?_
  exact l_opening ha q p b t num 0 (-1) (by omega) rfl
theorem l_goesOn (ha : a = V.2.1 + h1.length) (q : mQ n num S) {m0 i0 : Nat} (hm0 : m0 < num) (hi0 : i0 < 400) (c1 : 0 < i0) (c2 : S.2.2 7 m0 = 0) : ∀ (m i : Nat) (x : Bool), i + m = num → rx_W V (d + 1) kc ks m_Mo_goesOn 5 [some (.ref a), some (.int (nI m0)), some (.int (nI i0)), some (.int (bi x)), some (.int (nI i))] [] (mw V h1 a S h2) (rx_X (.inl (some (.int (bi (x || (fix (gob n S m0 i0) i m).isSome))))) (mw V h1 a S h2)) := by
  have hq := q.2
  intro m
  induction m with
  | zero =>
    intro i x hi
    have e : i = num := by omega
    subst e
    refine rx_iload d_Mo_goesOn_5 (by rfl) ?_
    refine rx_aload_nr d_Mo_goesOn_7 (by rfl) ?_
    refine rx_getfield d_Mo_goesOn_8 fl_Mo_78 (mr0 ha) (by rfl) ?_
    rw [show S.1 6 = nI i from q.1]
    refine rx_icmp_ge (tgt := 102) d_Mo_goesOn_11 (by rfl) (fun c11 => ?_) (fun z => absurd (Int32.le_refl _) z)
    refine rx_iload_n d_Mo_goesOn_102 (by rfl) ?_
    refine rx_zreturn d_Mo_goesOn_103 (by rfl) bi_nar ?_
    exact ⟨by rw [show (fix (gob n S m0 i0) i 0).isSome = false from rfl, Bool.or_false], rfl⟩
  | succ m ih =>
    intro i x hi
    refine rx_iload d_Mo_goesOn_5 (by rfl) ?_
    refine rx_aload_nr d_Mo_goesOn_7 (by rfl) ?_
    refine rx_getfield d_Mo_goesOn_8 fl_Mo_78 (mr0 ha) (by rfl) ?_
    rw [show S.1 6 = nI num from q.1]
    refine rx_icmp_ge (tgt := 102) d_Mo_goesOn_11 (by rfl) (fun z => absurd z (nI_ge (by omega) (by omega))) (fun c11 => ?_)
    refine rx_iload_n d_Mo_goesOn_14 (by rfl) ?_
    refine rx_if_le (tgt := 102) d_Mo_goesOn_15 (by rfl) (fun z => absurd z (show ¬ nI i0 ≤ 0 by rw [i_le, i_0, i_n (by omega)]; omega)) (fun c15 => ?_)
    refine rx_aload_nr d_Mo_goesOn_18 (by rfl) ?_
    refine rx_getfield d_Mo_goesOn_19 fl_Mo_28 (mr0 ha) (by rfl) ?_
    refine rx_iload_n d_Mo_goesOn_22 (by rfl) ?_
    refine m_ial (j := 7) ha d_Mo_goesOn_23 (by rfl) (by omega) (by decide) ?_
    refine rx_if_ne (tgt := 102) d_Mo_goesOn_24 (by rfl) (fun z => absurd c2 z) (fun c24 => ?_)
    refine rx_iload_n d_Mo_goesOn_27 (by rfl) ?_
    refine rx_if_ne (tgt := 90) d_Mo_goesOn_28 (by rfl) (fun c28 => ?_) (fun c28 => ?_)
    · rw [show (x || (fix (gob n S m0 i0) i (m + 1)).isSome) = (true || (fix (gob n S m0 i0) (i + 1) m).isSome) from by rw [bi_1.mp c28, Bool.true_or, Bool.true_or]]
      refine rx_iconst (v := 1) d_Mo_goesOn_90 (by decide) ?_
      refine rx_goto (tgt := 95) d_Mo_goesOn_91 (by rfl) ?_
      refine rx_istore_n d_Mo_goesOn_95 (Nat.le_of_ble_eq_true rfl) ?_
      refine rx_iinc (v := nI (i + 1)) d_Mo_goesOn_96 (by rfl) (i_inc i) ?_
      refine rx_goto (tgt := 5) d_Mo_goesOn_99 (by rfl) ?_
      first | exact ih (i + 1) true (by omega) | exact ih (i + 1) false (by omega)
    · refine rx_aload_nr d_Mo_goesOn_31 (by rfl) ?_
      refine rx_getfield d_Mo_goesOn_32 fl_Mo_22 (mr0 ha) (by rfl) ?_
      refine rx_iload d_Mo_goesOn_35 (by rfl) ?_
      refine m_ial (j := 5) ha d_Mo_goesOn_37 (by rfl) (by omega) (by decide) ?_
      refine rx_aload_nr d_Mo_goesOn_38 (by rfl) ?_
      refine rx_getfield d_Mo_goesOn_39 fl_Mo_22 (mr0 ha) (by rfl) ?_
      refine rx_iload_n d_Mo_goesOn_42 (by rfl) ?_
      refine m_ial (j := 5) ha d_Mo_goesOn_43 (by rfl) (by omega) (by decide) ?_
      refine rx_icmp_ne (tgt := 94) d_Mo_goesOn_44 (by rfl) (fun c44 => ?_) (fun c44 => ?_)
      · rw [show (x || (fix (gob n S m0 i0) i (m + 1)).isSome) = (false || (fix (gob n S m0 i0) (i + 1) m).isSome) from by rw [bi_0.mp c28, fix_no (Pr := (gob n S m0 i0)) ((by unfold gob; rw [decide_eq_false (fun z => c44 z.1), Bool.false_and]))]]
        refine rx_iconst (v := 0) d_Mo_goesOn_94 (by decide) ?_
        refine rx_istore_n d_Mo_goesOn_95 (Nat.le_of_ble_eq_true rfl) ?_
        refine rx_iinc (v := nI (i + 1)) d_Mo_goesOn_96 (by rfl) (i_inc i) ?_
        refine rx_goto (tgt := 5) d_Mo_goesOn_99 (by rfl) ?_
        first | exact ih (i + 1) true (by omega) | exact ih (i + 1) false (by omega)
      · refine rx_aload_nr d_Mo_goesOn_47 (by rfl) ?_
        refine rx_getfield d_Mo_goesOn_48 fl_Mo_34 (mr0 ha) (by rfl) ?_
        refine rx_iload d_Mo_goesOn_51 (by rfl) ?_
        refine m_ial (j := 9) ha d_Mo_goesOn_53 (by rfl) (by omega) (by decide) ?_
        refine rx_aload_nr d_Mo_goesOn_54 (by rfl) ?_
        refine rx_getfield d_Mo_goesOn_55 fl_Mo_34 (mr0 ha) (by rfl) ?_
        refine rx_iload_n d_Mo_goesOn_58 (by rfl) ?_
        refine m_ial (j := 9) ha d_Mo_goesOn_59 (by rfl) (by omega) (by decide) ?_
        refine rx_icmp_ne (tgt := 94) d_Mo_goesOn_60 (by rfl) (fun c60 => ?_) (fun c60 => ?_)
        · rw [show (x || (fix (gob n S m0 i0) i (m + 1)).isSome) = (false || (fix (gob n S m0 i0) (i + 1) m).isSome) from by rw [bi_0.mp c28, fix_no (Pr := (gob n S m0 i0)) ((by unfold gob; rw [decide_eq_false (fun z => c60 z.2.1), Bool.false_and]))]]
          refine rx_iconst (v := 0) d_Mo_goesOn_94 (by decide) ?_
          refine rx_istore_n d_Mo_goesOn_95 (Nat.le_of_ble_eq_true rfl) ?_
          refine rx_iinc (v := nI (i + 1)) d_Mo_goesOn_96 (by rfl) (i_inc i) ?_
          refine rx_goto (tgt := 5) d_Mo_goesOn_99 (by rfl) ?_
          first | exact ih (i + 1) true (by omega) | exact ih (i + 1) false (by omega)
        · refine rx_aload_nr d_Mo_goesOn_63 (by rfl) ?_
          refine rx_getfield d_Mo_goesOn_64 fl_Mo_25 (mr0 ha) (by rfl) ?_
          refine rx_iload d_Mo_goesOn_67 (by rfl) ?_
          refine m_ial (j := 6) ha d_Mo_goesOn_69 (by rfl) (by omega) (by decide) ?_
          refine rx_aload_nr d_Mo_goesOn_70 (by rfl) ?_
          refine rx_getfield d_Mo_goesOn_71 fl_Mo_56 (mr0 ha) (by rfl) ?_
          refine rx_iload_n d_Mo_goesOn_74 (by rfl) ?_
          refine rx_iconst (v := 1) d_Mo_goesOn_75 (by decide) ?_
          refine rx_isub d_Mo_goesOn_76 ?_
          rw [nI_p1 (by omega)]
          refine m_ial (j := 16) ha d_Mo_goesOn_77 (by rfl) (by omega) (by decide) ?_
          refine rx_icmp_ne (tgt := 94) d_Mo_goesOn_78 (by rfl) (fun c78 => ?_) (fun c78 => ?_)
          · rw [show (x || (fix (gob n S m0 i0) i (m + 1)).isSome) = (false || (fix (gob n S m0 i0) (i + 1) m).isSome) from by rw [bi_0.mp c28, fix_no (Pr := (gob n S m0 i0)) ((by unfold gob; rw [decide_eq_false (fun z => c78 z.2.2), Bool.false_and]))]]
            refine rx_iconst (v := 0) d_Mo_goesOn_94 (by decide) ?_
            refine rx_istore_n d_Mo_goesOn_95 (Nat.le_of_ble_eq_true rfl) ?_
            refine rx_iinc (v := nI (i + 1)) d_Mo_goesOn_96 (by rfl) (i_inc i) ?_
            refine rx_goto (tgt := 5) d_Mo_goesOn_99 (by rfl) ?_
            first | exact ih (i + 1) true (by omega) | exact ih (i + 1) false (by omega)
          · refine rx_aload_nr d_Mo_goesOn_81 (by rfl) ?_
            refine rx_iload d_Mo_goesOn_82 (by rfl) ?_
            refine rx_cV d_Mo_goesOn_84 (by rfl) ml_Mo_193 im_Mo_reaches se_Mo_reaches (by exact c9_Mo_reaches) (mr0 ha) (by rfl) (by exact Nat.le_of_ble_eq_true rfl) (k_reaches ha q (k := i) (by omega)) ?_
            refine rx_if_eq (tgt := 94) d_Mo_goesOn_87 (by rfl) (fun c87 => ?_) (fun c87 => ?_)
            · rw [show (x || (fix (gob n S m0 i0) i (m + 1)).isSome) = (false || (fix (gob n S m0 i0) (i + 1) m).isSome) from by rw [bi_0.mp c28, fix_no (Pr := (gob n S m0 i0)) (by unfold gob; rw [bi_0.mp c87, Bool.and_false])]]
              refine rx_iconst (v := 0) d_Mo_goesOn_94 (by decide) ?_
              refine rx_istore_n d_Mo_goesOn_95 (Nat.le_of_ble_eq_true rfl) ?_
              refine rx_iinc (v := nI (i + 1)) d_Mo_goesOn_96 (by rfl) (i_inc i) ?_
              refine rx_goto (tgt := 5) d_Mo_goesOn_99 (by rfl) ?_
              first | exact ih (i + 1) true (by omega) | exact ih (i + 1) false (by omega)
            · rw [show (x || (fix (gob n S m0 i0) i (m + 1)).isSome) = (true || (fix (gob n S m0 i0) (i + 1) m).isSome) from by rw [fix_yes (Pr := (gob n S m0 i0)) (by unfold gob; rw [bi_1.mp c87, Bool.and_true]; exact decide_eq_true ⟨c44, c60, c78⟩), Bool.true_or, Option.isSome_some, Bool.or_true]]
              refine rx_iconst (v := 1) d_Mo_goesOn_90 (by decide) ?_
              refine rx_goto (tgt := 95) d_Mo_goesOn_91 (by rfl) ?_
              refine rx_istore_n d_Mo_goesOn_95 (Nat.le_of_ble_eq_true rfl) ?_
              refine rx_iinc (v := nI (i + 1)) d_Mo_goesOn_96 (by rfl) (i_inc i) ?_
              refine rx_goto (tgt := 5) d_Mo_goesOn_99 (by rfl) ?_
              first | exact ih (i + 1) true (by omega) | exact ih (i + 1) false (by omega)
theorem k_goesOn (ha : a = V.2.1 + h1.length) (q : mQ n num S) {m0 i0 : Nat} (hm0 : m0 < num) (hi0 : i0 < 400) : rx_C V (d + 1) kc ks m_Mo_goesOn [.ref a, .int (nI m0), .int (nI i0)] (mw V h1 a S h2) (rx_X (.inl (some (.int (bi (decide (0 < i0 ∧ S.2.2 7 m0 = 0) && (fix (gob n S m0 i0) 0 num).isSome))))) (mw V h1 a S h2)) := by
  have hq := q.2
  by_cases cc : 0 < i0 ∧ S.2.2 7 m0 = 0
  · rw [decide_eq_true cc, Bool.true_and]
    refine rx_iconst (v := 0) d_Mo_goesOn_0 (by decide) ?_
    refine rx_istore_n d_Mo_goesOn_1 (Nat.le_of_ble_eq_true rfl) ?_
    refine rx_iconst (v := 0) d_Mo_goesOn_2 (by decide) ?_
    refine rx_istore d_Mo_goesOn_3 (Nat.le_of_ble_eq_true rfl) ?_
    have z := l_goesOn (h2 := h2) (d := d) (kc := kc) (ks := ks) ha q hm0 hi0 cc.1 cc.2 num 0 false (by omega)
    rw [Bool.false_or] at z
    exact z
  · rw [decide_eq_false cc, Bool.false_and]
    refine rx_iconst (v := 0) d_Mo_goesOn_0 (by decide) ?_
    refine rx_istore_n d_Mo_goesOn_1 (Nat.le_of_ble_eq_true rfl) ?_
    refine rx_iconst (v := 0) d_Mo_goesOn_2 (by decide) ?_
    refine rx_istore d_Mo_goesOn_3 (Nat.le_of_ble_eq_true rfl) ?_
    refine rx_iload d_Mo_goesOn_5 (by rfl) ?_
    refine rx_aload_nr d_Mo_goesOn_7 (by rfl) ?_
    refine rx_getfield d_Mo_goesOn_8 fl_Mo_78 (mr0 ha) (by rfl) ?_
    rw [show S.1 6 = nI num from q.1]
    refine rx_icmp_ge (tgt := 102) d_Mo_goesOn_11 (by rfl) (fun z => absurd z (show ¬ nI num ≤ (0 : Int32) from nI_ge (show 0 < num by omega) (by omega))) (fun c11 => ?_)
    refine rx_iload_n d_Mo_goesOn_14 (by rfl) ?_
    refine rx_if_le (tgt := 102) d_Mo_goesOn_15 (by rfl) (fun c15 => ?_) (fun c15 => ?_)
    · refine rx_iload_n d_Mo_goesOn_102 (by rfl) ?_
      refine rx_zreturn d_Mo_goesOn_103 (by rfl) (by rfl) ?_
      exact ⟨rfl, rfl⟩
    · refine rx_aload_nr d_Mo_goesOn_18 (by rfl) ?_
      refine rx_getfield d_Mo_goesOn_19 fl_Mo_28 (mr0 ha) (by rfl) ?_
      refine rx_iload_n d_Mo_goesOn_22 (by rfl) ?_
      refine m_ial (j := 7) ha d_Mo_goesOn_23 (by rfl) (by omega) (by decide) ?_
      refine rx_if_ne (tgt := 102) d_Mo_goesOn_24 (by rfl) (fun c24 => ?_) (fun c24 => ?_)
      · refine rx_iload_n d_Mo_goesOn_102 (by rfl) ?_
        refine rx_zreturn d_Mo_goesOn_103 (by rfl) (by rfl) ?_
        exact ⟨rfl, rfl⟩
      · exact absurd ⟨by rw [i_le, i_0, i_n (by omega)] at c15; omega, c24⟩ cc
end MNR
