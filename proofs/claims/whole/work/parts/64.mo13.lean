/-! the reference's calls: note, transpose, rest -/
theorem sub_ok {x s : Int32} (h1 : 0 ≤ x.toInt) (h2 : x.toInt ≤ 32) (h3 : 0 ≤ s.toInt) : (x - s).toInt = x.toInt - s.toInt := by
  have h4 := s.toInt_lt
  rw [Int32.toInt_sub]
  exact Int.bmod_eq_of_le (by omega) (by omega)
theorem bi_vp {y : Bool} : vp_nar .boolean (bi y) = bi y := by cases y <;> rfl
section MNT
variable {V : rx_V} {d kc ks : Nat} {h h1 h2 : List va_E} {a n num N : Nat} {S S0 : mT} {f : Nat → Int32} {Q : rx_R → List va_E → Prop}
theorem k_note1 (ha : a = V.2.1 + h1.length) (hN : mN n S) {p b s l t : Int32} {y : Bool} (hx : (iwn p 0 2 = 0 ∨ pgh n b = 0 ∨ iwn t 0 127 = 0 ∨ s < 0 ∨ l < 1 ∨ pgl n (S.2.2 2) b - s < l)) : rx_C V (d + 8) kc ks m_Mo_note [.ref a, .int p, .int b, .int s, .int l, .int t, .int (bi y)] (mw V h1 a S h2) (mPo V h1 a S h2 (.inl (some (.int 0))) 1) := by
  have hn := hN.2
  have e76 : ∀ y7, rx_W V (d + 8) kc ks m_Mo_note 76 [some (.ref a), some (.int p), some (.int b), some (.int s), some (.int l), some (.int t), some (.int (bi y)), y7, none, none] [] (mw V h1 a (sS S 1 0) h2) (mPo V h1 a S h2 (.inl (some (.int 0))) 1) := by
    intro y7
    refine rx_aload_nr d_Mo_note_76 (by rfl) ?_
    refine rx_iconst (v := 1) d_Mo_note_77 (by decide) ?_
    refine rx_cV d_Mo_note_78 (by rfl) ml_Mo_84 im_Mo_refuse se_Mo_refuse (by exact c9_Mo_refuse) (mr0 ha) (by rfl) (by exact Nat.le_of_ble_eq_true rfl) (k_refuse (S := sS S 1 0) ha 1) ?_
    refine rx_ireturn d_Mo_note_81 (by rfl) ?_
    exact ⟨rfl, sS S 1 1, by rw [sS_sS], mE2.s1, rfl⟩
  have e53 : ¬ iwn p 0 2 = 0 → ¬ pgh n b = 0 → ¬ iwn t 0 127 = 0 → ¬ s < 0 → ¬ l < 1 → rx_W V (d + 8) kc ks m_Mo_note 53 [some (.ref a), some (.int p), some (.int b), some (.int s), some (.int l), some (.int t), some (.int (bi y)), some (.int 1), none, none] [] (mw V h1 a (sS S 1 0) h2) (mPo V h1 a S h2 (.inl (some (.int 0))) 1) := by
    intro q1 q2 q3 q4 q5
    have hx := (((((hx.resolve_left q1).resolve_left q2).resolve_left q3).resolve_left q4).resolve_left q5)
    obtain ⟨b0, hb0, rfl⟩ := pgh_b hn.2 q2
    rw [pgl_nI hn.2 hb0] at hx
    refine rx_iload_n d_Mo_note_53 (by rfl) ?_
    refine rx_aload_nr d_Mo_note_54 (by rfl) ?_
    refine rx_getfield d_Mo_note_55 fl_Mo_13 (mr0 ha) (by rfl) ?_
    refine rx_iload_n d_Mo_note_58 (by rfl) ?_
    refine m_ial (j := 2) ha d_Mo_note_59 (by rfl) (by omega) (by decide) ?_
    refine rx_icmp_ge (tgt := 76) d_Mo_note_60 (by rfl) (fun c60 => ?_) (fun c60 => ?_)
    · exact e76 _
    · refine rx_iload d_Mo_note_63 (by rfl) ?_
      refine rx_aload_nr d_Mo_note_65 (by rfl) ?_
      refine rx_getfield d_Mo_note_66 fl_Mo_13 (mr0 ha) (by rfl) ?_
      refine rx_iload_n d_Mo_note_69 (by rfl) ?_
      refine m_ial (j := 2) ha d_Mo_note_70 (by rfl) (by omega) (by decide) ?_
      refine rx_iload_n d_Mo_note_71 (by rfl) ?_
      refine rx_isub d_Mo_note_72 ?_
      refine rx_icmp_le (tgt := 82) d_Mo_note_73 (by rfl) (fun z => absurd z (fun z => i_nlt z hx)) (fun c73 => ?_)
      exact e76 _
  refine rx_aload_nr d_Mo_note_0 (by rfl) ?_
  refine rx_iconst (v := 0) d_Mo_note_1 (by decide) ?_
  refine m_putI (k9 := 1) ha d_Mo_note_2 (fw_Mo_63 rfl) (by rfl) (by rfl) (by rfl) ?_
  refine rx_iload_n d_Mo_note_5 (by rfl) ?_
  refine rx_cS d_Mo_note_6 ml_Mo_81 st_Mo_isPart (by exact c9_Mo_isPart) (by rfl) (by exact Nat.le_of_ble_eq_true rfl) (k_isPart p) ?_
  refine rx_if_eq (tgt := 45) d_Mo_note_9 (by rfl) (fun c9 => ?_) (fun c9 => ?_)
  · refine rx_iconst (v := 0) d_Mo_note_45 (by decide) ?_
    refine rx_istore d_Mo_note_46 (Nat.le_of_ble_eq_true rfl) ?_
    refine rx_iload d_Mo_note_48 (by rfl) ?_
    refine rx_if_eq (tgt := 76) d_Mo_note_50 (by rfl) (fun _ => ?_) (fun z => absurd z (by decide))
    exact e76 _
  · refine rx_aload_nr d_Mo_note_12 (by rfl) ?_
    refine rx_iload_n d_Mo_note_13 (by rfl) ?_
    refine rx_cV d_Mo_note_14 (by rfl) ml_Mo_74 im_Mo_isBar se_Mo_isBar (by exact c9_Mo_isBar) (mr0 ha) (by rfl) (by exact Nat.le_of_ble_eq_true rfl) (k_isBar (S := sS S 1 0) (d := d + 6) ha hN b) ?_
    refine rx_if_eq (tgt := 45) d_Mo_note_17 (by rfl) (fun c17 => ?_) (fun c17 => ?_)
    · refine rx_iconst (v := 0) d_Mo_note_45 (by decide) ?_
      refine rx_istore d_Mo_note_46 (Nat.le_of_ble_eq_true rfl) ?_
      refine rx_iload d_Mo_note_48 (by rfl) ?_
      refine rx_if_eq (tgt := 76) d_Mo_note_50 (by rfl) (fun _ => ?_) (fun z => absurd z (by decide))
      exact e76 _
    · refine rx_iload d_Mo_note_20 (by rfl) ?_
      refine rx_iconst (v := 0) d_Mo_note_22 (by decide) ?_
      refine rx_bipush (v := 127) d_Mo_note_23 (by decide) ?_
      refine rx_cS d_Mo_note_25 ml_Mo_66 st_Mo_within (by exact c9_Mo_within) (by rfl) (by exact Nat.le_of_ble_eq_true rfl) (k_within t 0 127) ?_
      refine rx_if_eq (tgt := 45) d_Mo_note_28 (by rfl) (fun c28 => ?_) (fun c28 => ?_)
      · refine rx_iconst (v := 0) d_Mo_note_45 (by decide) ?_
        refine rx_istore d_Mo_note_46 (Nat.le_of_ble_eq_true rfl) ?_
        refine rx_iload d_Mo_note_48 (by rfl) ?_
        refine rx_if_eq (tgt := 76) d_Mo_note_50 (by rfl) (fun _ => ?_) (fun z => absurd z (by decide))
        exact e76 _
      · refine rx_iload_n d_Mo_note_31 (by rfl) ?_
        refine rx_if_lt (tgt := 45) d_Mo_note_32 (by rfl) (fun c32 => ?_) (fun c32 => ?_)
        · refine rx_iconst (v := 0) d_Mo_note_45 (by decide) ?_
          refine rx_istore d_Mo_note_46 (Nat.le_of_ble_eq_true rfl) ?_
          refine rx_iload d_Mo_note_48 (by rfl) ?_
          refine rx_if_eq (tgt := 76) d_Mo_note_50 (by rfl) (fun _ => ?_) (fun z => absurd z (by decide))
          exact e76 _
        · refine rx_iload d_Mo_note_35 (by rfl) ?_
          refine rx_iconst (v := 1) d_Mo_note_37 (by decide) ?_
          refine rx_icmp_lt (tgt := 45) d_Mo_note_38 (by rfl) (fun c38 => ?_) (fun c38 => ?_)
          · refine rx_iconst (v := 0) d_Mo_note_45 (by decide) ?_
            refine rx_istore d_Mo_note_46 (Nat.le_of_ble_eq_true rfl) ?_
            refine rx_iload d_Mo_note_48 (by rfl) ?_
            refine rx_if_eq (tgt := 76) d_Mo_note_50 (by rfl) (fun _ => ?_) (fun z => absurd z (by decide))
            exact e76 _
          · refine rx_iconst (v := 1) d_Mo_note_41 (by decide) ?_
            refine rx_goto (tgt := 46) d_Mo_note_42 (by rfl) ?_
            refine rx_istore d_Mo_note_46 (Nat.le_of_ble_eq_true rfl) ?_
            refine rx_iload d_Mo_note_48 (by rfl) ?_
            refine rx_if_eq (tgt := 76) d_Mo_note_50 (by rfl) (fun z => absurd z (by decide)) (fun _ => ?_)
            exact e53 c9 c17 c28 c32 c38
theorem k_noteX (ha : a = V.2.1 + h1.length) (hN : mN n S) (hle : ∀ x, x < n → 1 ≤ (S.2.2 2 x).toInt ∧ (S.2.2 2 x).toInt ≤ 32) {p s l t : Int32} {b : Nat} (hb0 : b < n) {y : Bool} (hx : ¬ (iwn p 0 2 = 0 ∨ pgh n (nI b) = 0 ∨ iwn t 0 127 = 0 ∨ s < 0 ∨ l < 1 ∨ pgl n (S.2.2 2) (nI b) - s < l)) (K : rx_W V (d + 8) kc ks m_Mo_note 82 [some (.ref a), some (.int p), some (.int (nI b)), some (.int s), some (.int l), some (.int t), some (.int (bi y)), some (.int 1), none, none] [] (mw V h1 a (sS S 1 0) h2) Q) : rx_C V (d + 8) kc ks m_Mo_note [.ref a, .int p, .int (nI b), .int s, .int l, .int t, .int (bi y)] (mw V h1 a S h2) Q := by
  have hn := hN.2
  have h4 : ¬ s < 0 := fun z => hx (Or.inr (Or.inr (Or.inr (Or.inl z))))
  have h5 : ¬ l < 1 := fun z => hx (Or.inr (Or.inr (Or.inr (Or.inr (Or.inl z)))))
  have h6 : ¬ S.2.2 2 b - s < l := fun z => hx (Or.inr (Or.inr (Or.inr (Or.inr (Or.inr (by rw [pgl_nI hn.2 hb0]; exact z))))))
  have h7 : ¬ S.2.2 2 b ≤ s := by
    have q1 := hle b hb0
    rw [i_lt, i_0] at h4
    rw [i_lt, show (1 : Int32).toInt = 1 from by decide] at h5
    rw [i_lt, sub_ok (by omega) (by omega) (by omega)] at h6
    rw [i_le]
    omega
  refine rx_aload_nr d_Mo_note_0 (by rfl) ?_
  refine rx_iconst (v := 0) d_Mo_note_1 (by decide) ?_
  refine m_putI (k9 := 1) ha d_Mo_note_2 (fw_Mo_63 rfl) (by rfl) (by rfl) (by rfl) ?_
  refine rx_iload_n d_Mo_note_5 (by rfl) ?_
  refine rx_cS d_Mo_note_6 ml_Mo_81 st_Mo_isPart (by exact c9_Mo_isPart) (by rfl) (by exact Nat.le_of_ble_eq_true rfl) (k_isPart p) ?_
  refine rx_if_eq (tgt := 45) d_Mo_note_9 (by rfl) (fun z => absurd z (fun z => hx (Or.inl z))) (fun c9 => ?_)
  refine rx_aload_nr d_Mo_note_12 (by rfl) ?_
  refine rx_iload_n d_Mo_note_13 (by rfl) ?_
  refine rx_cV d_Mo_note_14 (by rfl) ml_Mo_74 im_Mo_isBar se_Mo_isBar (by exact c9_Mo_isBar) (mr0 ha) (by rfl) (by exact Nat.le_of_ble_eq_true rfl) (k_isBar (S := sS S 1 0) (d := d + 6) ha hN (nI b)) ?_
  refine rx_if_eq (tgt := 45) d_Mo_note_17 (by rfl) (fun z => absurd z (fun z => hx (Or.inr (Or.inl z)))) (fun c17 => ?_)
  refine rx_iload d_Mo_note_20 (by rfl) ?_
  refine rx_iconst (v := 0) d_Mo_note_22 (by decide) ?_
  refine rx_bipush (v := 127) d_Mo_note_23 (by decide) ?_
  refine rx_cS d_Mo_note_25 ml_Mo_66 st_Mo_within (by exact c9_Mo_within) (by rfl) (by exact Nat.le_of_ble_eq_true rfl) (k_within t 0 127) ?_
  refine rx_if_eq (tgt := 45) d_Mo_note_28 (by rfl) (fun z => absurd z (fun z => hx (Or.inr (Or.inr (Or.inl z))))) (fun c28 => ?_)
  refine rx_iload_n d_Mo_note_31 (by rfl) ?_
  refine rx_if_lt (tgt := 45) d_Mo_note_32 (by rfl) (fun z => absurd z h4) (fun c32 => ?_)
  refine rx_iload d_Mo_note_35 (by rfl) ?_
  refine rx_iconst (v := 1) d_Mo_note_37 (by decide) ?_
  refine rx_icmp_lt (tgt := 45) d_Mo_note_38 (by rfl) (fun z => absurd z h5) (fun c38 => ?_)
  refine rx_iconst (v := 1) d_Mo_note_41 (by decide) ?_
  refine rx_goto (tgt := 46) d_Mo_note_42 (by rfl) ?_
  refine rx_istore d_Mo_note_46 (Nat.le_of_ble_eq_true rfl) ?_
  refine rx_iload d_Mo_note_48 (by rfl) ?_
  refine rx_if_eq (tgt := 76) d_Mo_note_50 (by rfl) (fun z => absurd z (by decide)) (fun _ => ?_)
  refine rx_iload_n d_Mo_note_53 (by rfl) ?_
  refine rx_aload_nr d_Mo_note_54 (by rfl) ?_
  refine rx_getfield d_Mo_note_55 fl_Mo_13 (mr0 ha) (by rfl) ?_
  refine rx_iload_n d_Mo_note_58 (by rfl) ?_
  refine m_ial (j := 2) ha d_Mo_note_59 (by rfl) (by omega) (by decide) ?_
  refine rx_icmp_ge (tgt := 76) d_Mo_note_60 (by rfl) (fun z => absurd z h7) (fun c60 => ?_)
  refine rx_iload d_Mo_note_63 (by rfl) ?_
  refine rx_aload_nr d_Mo_note_65 (by rfl) ?_
  refine rx_getfield d_Mo_note_66 fl_Mo_13 (mr0 ha) (by rfl) ?_
  refine rx_iload_n d_Mo_note_69 (by rfl) ?_
  refine m_ial (j := 2) ha d_Mo_note_70 (by rfl) (by omega) (by decide) ?_
  refine rx_iload_n d_Mo_note_71 (by rfl) ?_
  refine rx_isub d_Mo_note_72 ?_
  refine rx_icmp_le (tgt := 82) d_Mo_note_73 (by rfl) (fun c73 => ?_) (fun z => absurd (i_nle' h6) z)
  exact K
theorem l_note101 (ha : a = V.2.1 + h1.length) (q : mQ n num S) {p s l t : Int32} {b : Nat} {y : Bool} {tw0 : Bool} (K : ∀ y9, rx_W V (d + 8) kc ks m_Mo_note 173 [some (.ref a), some (.int p), some (.int (nI b)), some (.int s), some (.int l), some (.int t), some (.int (bi y)), some (.int 1), some (.int (bi tw0)), y9] [] (mw V h1 a (sS S 1 0) h2) Q) :
    ∀ (m i : Nat) (x : Bool), i + m = num → tw0 = (x || (fix (fun i => decide (MS S i 0 = p ∧ MS S i 1 = nI b ∧ MS S i 2 = s ∧ MS S i 4 = t)) i m).isSome) → rx_W V (d + 8) kc ks m_Mo_note 101 [some (.ref a), some (.int p), some (.int (nI b)), some (.int s), some (.int l), some (.int t), some (.int (bi y)), some (.int 1), some (.int (bi x)), some (.int (nI i))] [] (mw V h1 a (sS S 1 0) h2) Q := by
  have hq := q.2
  have e6 : (sS S 1 0).1 6 = nI num := q.1
  intro m
  induction m with
  | zero =>
    intro i x hi hx
    have e : i = num := by omega
    subst e
    rw [show (fix (fun i => decide (MS S i 0 = p ∧ MS S i 1 = nI b ∧ MS S i 2 = s ∧ MS S i 4 = t)) i 0).isSome = false from rfl, Bool.or_false] at hx
    subst hx
    refine rx_iload d_Mo_note_101 (by rfl) ?_
    refine rx_aload_nr d_Mo_note_103 (by rfl) ?_
    refine rx_getfield d_Mo_note_104 fl_Mo_78 (mr0 ha) (by rfl) ?_
    rw [e6]
    refine rx_icmp_ge (tgt := 173) d_Mo_note_107 (by rfl) (fun c107 => ?_) (fun z => absurd (Int32.le_refl _) z)
    exact K _
  | succ m ih =>
    intro i x hi hx
    refine rx_iload d_Mo_note_101 (by rfl) ?_
    refine rx_aload_nr d_Mo_note_103 (by rfl) ?_
    refine rx_getfield d_Mo_note_104 fl_Mo_78 (mr0 ha) (by rfl) ?_
    rw [e6]
    refine rx_icmp_ge (tgt := 173) d_Mo_note_107 (by rfl) (fun z => absurd z (nI_ge (by omega) (by omega))) (fun c107 => ?_)
    refine rx_iload d_Mo_note_110 (by rfl) ?_
    refine rx_if_ne (tgt := 160) d_Mo_note_112 (by rfl) (fun c112 => ?_) (fun c112 => ?_)
    · refine rx_iconst (v := 1) d_Mo_note_160 (by decide) ?_
      refine rx_goto (tgt := 165) d_Mo_note_161 (by rfl) ?_
      refine rx_istore d_Mo_note_165 (Nat.le_of_ble_eq_true rfl) ?_
      refine rx_iinc (v := nI (i + 1)) d_Mo_note_167 (by rfl) (i_inc i) ?_
      refine rx_goto (tgt := 101) d_Mo_note_170 (by rfl) ?_
      first
        | exact ih (i + 1) true (by omega) (hx.trans (by rw [bi_1.mp c112, Bool.true_or, Bool.true_or]))
        | exact ih (i + 1) false (by omega) (hx.trans (by rw [bi_0.mp c112, fix_no (Pr := (fun i => decide (MS S i 0 = p ∧ MS S i 1 = nI b ∧ MS S i 2 = s ∧ MS S i 4 = t))) (decide_eq_false (fun z => c123 z.1))]))
        | exact ih (i + 1) false (by omega) (hx.trans (by rw [bi_0.mp c112, fix_no (Pr := (fun i => decide (MS S i 0 = p ∧ MS S i 1 = nI b ∧ MS S i 2 = s ∧ MS S i 4 = t))) (decide_eq_false (fun z => c134 z.2.1))]))
        | exact ih (i + 1) false (by omega) (hx.trans (by rw [bi_0.mp c112, fix_no (Pr := (fun i => decide (MS S i 0 = p ∧ MS S i 1 = nI b ∧ MS S i 2 = s ∧ MS S i 4 = t))) (decide_eq_false (fun z => c145 z.2.2.1))]))
        | exact ih (i + 1) false (by omega) (hx.trans (by rw [bi_0.mp c112, fix_no (Pr := (fun i => decide (MS S i 0 = p ∧ MS S i 1 = nI b ∧ MS S i 2 = s ∧ MS S i 4 = t))) (decide_eq_false (fun z => c157 z.2.2.2))]))
        | exact ih (i + 1) true (by omega) (hx.trans (by rw [fix_yes (Pr := (fun i => decide (MS S i 0 = p ∧ MS S i 1 = nI b ∧ MS S i 2 = s ∧ MS S i 4 = t))) (decide_eq_true ⟨c123, c134, c145, c157⟩), Option.isSome_some, Bool.or_true, Bool.true_or]))
    · refine rx_aload_nr d_Mo_note_115 (by rfl) ?_
      refine rx_getfield d_Mo_note_116 fl_Mo_22 (mr0 ha) (by rfl) ?_
      refine rx_iload d_Mo_note_119 (by rfl) ?_
      refine m_ial (j := 5) ha d_Mo_note_121 (by rfl) (by omega) (by decide) ?_
      refine rx_iload_n d_Mo_note_122 (by rfl) ?_
      refine rx_icmp_ne (tgt := 164) d_Mo_note_123 (by rfl) (fun c123 => ?_) (fun c123 => ?_)
      · refine rx_iconst (v := 0) d_Mo_note_164 (by decide) ?_
        refine rx_istore d_Mo_note_165 (Nat.le_of_ble_eq_true rfl) ?_
        refine rx_iinc (v := nI (i + 1)) d_Mo_note_167 (by rfl) (i_inc i) ?_
        refine rx_goto (tgt := 101) d_Mo_note_170 (by rfl) ?_
        first
          | exact ih (i + 1) true (by omega) (hx.trans (by rw [bi_1.mp c112, Bool.true_or, Bool.true_or]))
          | exact ih (i + 1) false (by omega) (hx.trans (by rw [bi_0.mp c112, fix_no (Pr := (fun i => decide (MS S i 0 = p ∧ MS S i 1 = nI b ∧ MS S i 2 = s ∧ MS S i 4 = t))) (decide_eq_false (fun z => c123 z.1))]))
          | exact ih (i + 1) false (by omega) (hx.trans (by rw [bi_0.mp c112, fix_no (Pr := (fun i => decide (MS S i 0 = p ∧ MS S i 1 = nI b ∧ MS S i 2 = s ∧ MS S i 4 = t))) (decide_eq_false (fun z => c134 z.2.1))]))
          | exact ih (i + 1) false (by omega) (hx.trans (by rw [bi_0.mp c112, fix_no (Pr := (fun i => decide (MS S i 0 = p ∧ MS S i 1 = nI b ∧ MS S i 2 = s ∧ MS S i 4 = t))) (decide_eq_false (fun z => c145 z.2.2.1))]))
          | exact ih (i + 1) false (by omega) (hx.trans (by rw [bi_0.mp c112, fix_no (Pr := (fun i => decide (MS S i 0 = p ∧ MS S i 1 = nI b ∧ MS S i 2 = s ∧ MS S i 4 = t))) (decide_eq_false (fun z => c157 z.2.2.2))]))
          | exact ih (i + 1) true (by omega) (hx.trans (by rw [fix_yes (Pr := (fun i => decide (MS S i 0 = p ∧ MS S i 1 = nI b ∧ MS S i 2 = s ∧ MS S i 4 = t))) (decide_eq_true ⟨c123, c134, c145, c157⟩), Option.isSome_some, Bool.or_true, Bool.true_or]))
      · refine rx_aload_nr d_Mo_note_126 (by rfl) ?_
        refine rx_getfield d_Mo_note_127 fl_Mo_25 (mr0 ha) (by rfl) ?_
        refine rx_iload d_Mo_note_130 (by rfl) ?_
        refine m_ial (j := 6) ha d_Mo_note_132 (by rfl) (by omega) (by decide) ?_
        refine rx_iload_n d_Mo_note_133 (by rfl) ?_
        refine rx_icmp_ne (tgt := 164) d_Mo_note_134 (by rfl) (fun c134 => ?_) (fun c134 => ?_)
        · refine rx_iconst (v := 0) d_Mo_note_164 (by decide) ?_
          refine rx_istore d_Mo_note_165 (Nat.le_of_ble_eq_true rfl) ?_
          refine rx_iinc (v := nI (i + 1)) d_Mo_note_167 (by rfl) (i_inc i) ?_
          refine rx_goto (tgt := 101) d_Mo_note_170 (by rfl) ?_
          first
            | exact ih (i + 1) true (by omega) (hx.trans (by rw [bi_1.mp c112, Bool.true_or, Bool.true_or]))
            | exact ih (i + 1) false (by omega) (hx.trans (by rw [bi_0.mp c112, fix_no (Pr := (fun i => decide (MS S i 0 = p ∧ MS S i 1 = nI b ∧ MS S i 2 = s ∧ MS S i 4 = t))) (decide_eq_false (fun z => c123 z.1))]))
            | exact ih (i + 1) false (by omega) (hx.trans (by rw [bi_0.mp c112, fix_no (Pr := (fun i => decide (MS S i 0 = p ∧ MS S i 1 = nI b ∧ MS S i 2 = s ∧ MS S i 4 = t))) (decide_eq_false (fun z => c134 z.2.1))]))
            | exact ih (i + 1) false (by omega) (hx.trans (by rw [bi_0.mp c112, fix_no (Pr := (fun i => decide (MS S i 0 = p ∧ MS S i 1 = nI b ∧ MS S i 2 = s ∧ MS S i 4 = t))) (decide_eq_false (fun z => c145 z.2.2.1))]))
            | exact ih (i + 1) false (by omega) (hx.trans (by rw [bi_0.mp c112, fix_no (Pr := (fun i => decide (MS S i 0 = p ∧ MS S i 1 = nI b ∧ MS S i 2 = s ∧ MS S i 4 = t))) (decide_eq_false (fun z => c157 z.2.2.2))]))
            | exact ih (i + 1) true (by omega) (hx.trans (by rw [fix_yes (Pr := (fun i => decide (MS S i 0 = p ∧ MS S i 1 = nI b ∧ MS S i 2 = s ∧ MS S i 4 = t))) (decide_eq_true ⟨c123, c134, c145, c157⟩), Option.isSome_some, Bool.or_true, Bool.true_or]))
        · refine rx_aload_nr d_Mo_note_137 (by rfl) ?_
          refine rx_getfield d_Mo_note_138 fl_Mo_28 (mr0 ha) (by rfl) ?_
          refine rx_iload d_Mo_note_141 (by rfl) ?_
          refine m_ial (j := 7) ha d_Mo_note_143 (by rfl) (by omega) (by decide) ?_
          refine rx_iload_n d_Mo_note_144 (by rfl) ?_
          refine rx_icmp_ne (tgt := 164) d_Mo_note_145 (by rfl) (fun c145 => ?_) (fun c145 => ?_)
          · refine rx_iconst (v := 0) d_Mo_note_164 (by decide) ?_
            refine rx_istore d_Mo_note_165 (Nat.le_of_ble_eq_true rfl) ?_
            refine rx_iinc (v := nI (i + 1)) d_Mo_note_167 (by rfl) (i_inc i) ?_
            refine rx_goto (tgt := 101) d_Mo_note_170 (by rfl) ?_
            first
              | exact ih (i + 1) true (by omega) (hx.trans (by rw [bi_1.mp c112, Bool.true_or, Bool.true_or]))
              | exact ih (i + 1) false (by omega) (hx.trans (by rw [bi_0.mp c112, fix_no (Pr := (fun i => decide (MS S i 0 = p ∧ MS S i 1 = nI b ∧ MS S i 2 = s ∧ MS S i 4 = t))) (decide_eq_false (fun z => c123 z.1))]))
              | exact ih (i + 1) false (by omega) (hx.trans (by rw [bi_0.mp c112, fix_no (Pr := (fun i => decide (MS S i 0 = p ∧ MS S i 1 = nI b ∧ MS S i 2 = s ∧ MS S i 4 = t))) (decide_eq_false (fun z => c134 z.2.1))]))
              | exact ih (i + 1) false (by omega) (hx.trans (by rw [bi_0.mp c112, fix_no (Pr := (fun i => decide (MS S i 0 = p ∧ MS S i 1 = nI b ∧ MS S i 2 = s ∧ MS S i 4 = t))) (decide_eq_false (fun z => c145 z.2.2.1))]))
              | exact ih (i + 1) false (by omega) (hx.trans (by rw [bi_0.mp c112, fix_no (Pr := (fun i => decide (MS S i 0 = p ∧ MS S i 1 = nI b ∧ MS S i 2 = s ∧ MS S i 4 = t))) (decide_eq_false (fun z => c157 z.2.2.2))]))
              | exact ih (i + 1) true (by omega) (hx.trans (by rw [fix_yes (Pr := (fun i => decide (MS S i 0 = p ∧ MS S i 1 = nI b ∧ MS S i 2 = s ∧ MS S i 4 = t))) (decide_eq_true ⟨c123, c134, c145, c157⟩), Option.isSome_some, Bool.or_true, Bool.true_or]))
          · refine rx_aload_nr d_Mo_note_148 (by rfl) ?_
            refine rx_getfield d_Mo_note_149 fl_Mo_34 (mr0 ha) (by rfl) ?_
            refine rx_iload d_Mo_note_152 (by rfl) ?_
            refine m_ial (j := 9) ha d_Mo_note_154 (by rfl) (by omega) (by decide) ?_
            refine rx_iload d_Mo_note_155 (by rfl) ?_
            refine rx_icmp_ne (tgt := 164) d_Mo_note_157 (by rfl) (fun c157 => ?_) (fun c157 => ?_)
            · refine rx_iconst (v := 0) d_Mo_note_164 (by decide) ?_
              refine rx_istore d_Mo_note_165 (Nat.le_of_ble_eq_true rfl) ?_
              refine rx_iinc (v := nI (i + 1)) d_Mo_note_167 (by rfl) (i_inc i) ?_
              refine rx_goto (tgt := 101) d_Mo_note_170 (by rfl) ?_
              first
                | exact ih (i + 1) true (by omega) (hx.trans (by rw [bi_1.mp c112, Bool.true_or, Bool.true_or]))
                | exact ih (i + 1) false (by omega) (hx.trans (by rw [bi_0.mp c112, fix_no (Pr := (fun i => decide (MS S i 0 = p ∧ MS S i 1 = nI b ∧ MS S i 2 = s ∧ MS S i 4 = t))) (decide_eq_false (fun z => c123 z.1))]))
                | exact ih (i + 1) false (by omega) (hx.trans (by rw [bi_0.mp c112, fix_no (Pr := (fun i => decide (MS S i 0 = p ∧ MS S i 1 = nI b ∧ MS S i 2 = s ∧ MS S i 4 = t))) (decide_eq_false (fun z => c134 z.2.1))]))
                | exact ih (i + 1) false (by omega) (hx.trans (by rw [bi_0.mp c112, fix_no (Pr := (fun i => decide (MS S i 0 = p ∧ MS S i 1 = nI b ∧ MS S i 2 = s ∧ MS S i 4 = t))) (decide_eq_false (fun z => c145 z.2.2.1))]))
                | exact ih (i + 1) false (by omega) (hx.trans (by rw [bi_0.mp c112, fix_no (Pr := (fun i => decide (MS S i 0 = p ∧ MS S i 1 = nI b ∧ MS S i 2 = s ∧ MS S i 4 = t))) (decide_eq_false (fun z => c157 z.2.2.2))]))
                | exact ih (i + 1) true (by omega) (hx.trans (by rw [fix_yes (Pr := (fun i => decide (MS S i 0 = p ∧ MS S i 1 = nI b ∧ MS S i 2 = s ∧ MS S i 4 = t))) (decide_eq_true ⟨c123, c134, c145, c157⟩), Option.isSome_some, Bool.or_true, Bool.true_or]))
            · refine rx_iconst (v := 1) d_Mo_note_160 (by decide) ?_
              refine rx_goto (tgt := 165) d_Mo_note_161 (by rfl) ?_
              refine rx_istore d_Mo_note_165 (Nat.le_of_ble_eq_true rfl) ?_
              refine rx_iinc (v := nI (i + 1)) d_Mo_note_167 (by rfl) (i_inc i) ?_
              refine rx_goto (tgt := 101) d_Mo_note_170 (by rfl) ?_
              first
                | exact ih (i + 1) true (by omega) (hx.trans (by rw [bi_1.mp c112, Bool.true_or, Bool.true_or]))
                | exact ih (i + 1) false (by omega) (hx.trans (by rw [bi_0.mp c112, fix_no (Pr := (fun i => decide (MS S i 0 = p ∧ MS S i 1 = nI b ∧ MS S i 2 = s ∧ MS S i 4 = t))) (decide_eq_false (fun z => c123 z.1))]))
                | exact ih (i + 1) false (by omega) (hx.trans (by rw [bi_0.mp c112, fix_no (Pr := (fun i => decide (MS S i 0 = p ∧ MS S i 1 = nI b ∧ MS S i 2 = s ∧ MS S i 4 = t))) (decide_eq_false (fun z => c134 z.2.1))]))
                | exact ih (i + 1) false (by omega) (hx.trans (by rw [bi_0.mp c112, fix_no (Pr := (fun i => decide (MS S i 0 = p ∧ MS S i 1 = nI b ∧ MS S i 2 = s ∧ MS S i 4 = t))) (decide_eq_false (fun z => c145 z.2.2.1))]))
                | exact ih (i + 1) false (by omega) (hx.trans (by rw [bi_0.mp c112, fix_no (Pr := (fun i => decide (MS S i 0 = p ∧ MS S i 1 = nI b ∧ MS S i 2 = s ∧ MS S i 4 = t))) (decide_eq_false (fun z => c157 z.2.2.2))]))
                | exact ih (i + 1) true (by omega) (hx.trans (by rw [fix_yes (Pr := (fun i => decide (MS S i 0 = p ∧ MS S i 1 = nI b ∧ MS S i 2 = s ∧ MS S i 4 = t))) (decide_eq_true ⟨c123, c134, c145, c157⟩), Option.isSome_some, Bool.or_true, Bool.true_or]))
theorem k_note2 (ha : a = V.2.1 + h1.length) (hN : mN n S) (hle : ∀ x, x < n → 1 ≤ (S.2.2 2 x).toInt ∧ (S.2.2 2 x).toInt ≤ 32) (q : mQ n num S) {p s l t : Int32} {b : Nat} (hb0 : b < n) {y : Bool} (hx : ¬ (iwn p 0 2 = 0 ∨ pgh n (nI b) = 0 ∨ iwn t 0 127 = 0 ∨ s < 0 ∨ l < 1 ∨ pgl n (S.2.2 2) (nI b) - s < l)) (hy : num = 40 ∨ (fix (fun i => decide (MS S i 0 = p ∧ MS S i 1 = nI b ∧ MS S i 2 = s ∧ MS S i 4 = t)) 0 num).isSome = true) : rx_C V (d + 8) kc ks m_Mo_note [.ref a, .int p, .int (nI b), .int s, .int l, .int t, .int (bi y)] (mw V h1 a S h2) (mPo V h1 a S h2 (.inl (some (.int 0))) 2) := by
  have hq := q.2
  have e6 : (sS S 1 0).1 6 = nI num := q.1
  refine k_noteX ha hN hle hb0 hx ?_
  have e101 := l_note101 (d := d) (kc := kc) (ks := ks) (h2 := h2) (p := p) (s := s) (l := l) (t := t) (b := b) (y := y) (tw0 := true) (Q := mPo V h1 a S h2 (.inl (some (.int 0))) 2) ha q (fun y9 => by
    refine rx_iload d_Mo_note_173 (by rfl) ?_
    refine rx_if_eq (tgt := 184) d_Mo_note_175 (by rfl) (fun z => absurd z (show ¬ bi true = 0 by decide)) (fun c175 => ?_)
    refine rx_aload_nr d_Mo_note_178 (by rfl) ?_
    refine rx_iconst (v := 2) d_Mo_note_179 (by decide) ?_
    refine rx_cV d_Mo_note_180 (by rfl) ml_Mo_84 im_Mo_refuse se_Mo_refuse (by exact c9_Mo_refuse) (mr0 ha) (by rfl) (by exact Nat.le_of_ble_eq_true rfl) (k_refuse (S := sS S 1 0) ha 2) ?_
    refine rx_ireturn d_Mo_note_183 (by rfl) ?_
    exact ⟨rfl, sS S 1 2, by rw [sS_sS], mE2.s1, rfl⟩) num 0
  refine rx_aload_nr d_Mo_note_82 (by rfl) ?_
  refine rx_getfield d_Mo_note_83 fl_Mo_78 (mr0 ha) (by rfl) ?_
  rw [e6]
  refine rx_bipush (v := 40) d_Mo_note_86 (by decide) ?_
  refine rx_icmp_ne (tgt := 95) d_Mo_note_88 (by rfl) (fun c88 => ?_) (fun c88 => ?_)
  · have c88 : num ≠ 40 := fun z => c88 (by rw [z]; rfl)
    refine rx_iconst (v := 0) d_Mo_note_95 (by decide) ?_
    refine rx_istore d_Mo_note_96 (Nat.le_of_ble_eq_true rfl) ?_
    refine rx_iconst (v := 0) d_Mo_note_98 (by decide) ?_
    refine rx_istore d_Mo_note_99 (Nat.le_of_ble_eq_true rfl) ?_
    first
      | exact e101 false (by omega) (by rw [hy.resolve_left c88]; rfl)
      | exact e101 true (by omega) (Bool.true_or _).symm
  · refine rx_iconst (v := 1) d_Mo_note_91 (by decide) ?_
    refine rx_goto (tgt := 96) d_Mo_note_92 (by rfl) ?_
    refine rx_istore d_Mo_note_96 (Nat.le_of_ble_eq_true rfl) ?_
    refine rx_iconst (v := 0) d_Mo_note_98 (by decide) ?_
    refine rx_istore d_Mo_note_99 (Nat.le_of_ble_eq_true rfl) ?_
    first
      | exact e101 false (by omega) (by rw [hy.resolve_left c88]; rfl)
      | exact e101 true (by omega) (Bool.true_or _).symm
theorem k_note0 (ha : a = V.2.1 + h1.length) (hN : mN n S) (hle : ∀ x, x < n → 1 ≤ (S.2.2 2 x).toInt ∧ (S.2.2 2 x).toInt ≤ 32) (q : mQ n num S) {p s l t : Int32} {b : Nat} (hb0 : b < n) {y : Bool} (hx : ¬ (iwn p 0 2 = 0 ∨ pgh n (nI b) = 0 ∨ iwn t 0 127 = 0 ∨ s < 0 ∨ l < 1 ∨ pgl n (S.2.2 2) (nI b) - s < l)) (h40 : num ≠ 40) (hy : (fix (fun i => decide (MS S i 0 = p ∧ MS S i 1 = nI b ∧ MS S i 2 = s ∧ MS S i 4 = t)) 0 num).isSome = false) : rx_C V (d + 8) kc ks m_Mo_note [.ref a, .int p, .int (nI b), .int s, .int l, .int t, .int (bi y)] (mw V h1 a S h2) (rx_X (.inl (some (.int (nI (num + 1))))) (mw V h1 a (sS (sA (sA (sA (sA (sA (sA (sS S 1 0) 5 num p) 6 num (nI b)) 7 num s) 8 num l) 9 num t) 10 num (bi y)) 6 (nI (num + 1))) h2)) := by
  have hq := q.2
  have e6 : (sS S 1 0).1 6 = nI num := q.1
  have e40 : ¬ nI num = 40 := fun z => h40 ((nI_eq (b := 40) (by omega) (by omega)).mp z)
  refine k_noteX ha hN hle hb0 hx ?_
  have e101 := l_note101 (d := d) (kc := kc) (ks := ks) (h2 := h2) (p := p) (s := s) (l := l) (t := t) (b := b) (y := y) (tw0 := false) (Q := rx_X (.inl (some (.int (nI (num + 1))))) (mw V h1 a (sS (sA (sA (sA (sA (sA (sA (sS S 1 0) 5 num p) 6 num (nI b)) 7 num s) 8 num l) 9 num t) 10 num (bi y)) 6 (nI (num + 1))) h2)) ha q (fun y9 => by
    refine rx_iload d_Mo_note_173 (by rfl) ?_
    refine rx_if_eq (tgt := 184) d_Mo_note_175 (by rfl) (fun c175 => ?_) (fun z => absurd (show bi false = 0 by decide) z)
    refine rx_aload_nr d_Mo_note_184 (by rfl) ?_
    refine rx_getfield d_Mo_note_185 fl_Mo_22 (mr0 ha) (by rfl) ?_
    refine rx_aload_nr d_Mo_note_188 (by rfl) ?_
    refine rx_getfield d_Mo_note_189 fl_Mo_78 (mr0 ha) (by rfl) ?_
    rw [show (sS S 1 0).1 6 = nI num from q.1]
    refine rx_iload_n d_Mo_note_192 (by rfl) ?_
    refine m_ias (j := 5) ha d_Mo_note_193 (by rfl) (by omega) (by decide) (by rfl) (by decide) ?_
    refine rx_aload_nr d_Mo_note_194 (by rfl) ?_
    refine rx_getfield d_Mo_note_195 fl_Mo_25 (mr0 ha) (by rfl) ?_
    refine rx_aload_nr d_Mo_note_198 (by rfl) ?_
    refine rx_getfield d_Mo_note_199 fl_Mo_78 (mr0 ha) (by rfl) ?_
    rw [show (sA (sS S 1 0) 5 num p).1 6 = nI num from q.1]
    refine rx_iload_n d_Mo_note_202 (by rfl) ?_
    refine m_ias (j := 6) ha d_Mo_note_203 (by rfl) (by omega) (by decide) (by rfl) (by decide) ?_
    refine rx_aload_nr d_Mo_note_204 (by rfl) ?_
    refine rx_getfield d_Mo_note_205 fl_Mo_28 (mr0 ha) (by rfl) ?_
    refine rx_aload_nr d_Mo_note_208 (by rfl) ?_
    refine rx_getfield d_Mo_note_209 fl_Mo_78 (mr0 ha) (by rfl) ?_
    rw [show (sA (sA (sS S 1 0) 5 num p) 6 num (nI b)).1 6 = nI num from q.1]
    refine rx_iload_n d_Mo_note_212 (by rfl) ?_
    refine m_ias (j := 7) ha d_Mo_note_213 (by rfl) (by omega) (by decide) (by rfl) (by decide) ?_
    refine rx_aload_nr d_Mo_note_214 (by rfl) ?_
    refine rx_getfield d_Mo_note_215 fl_Mo_31 (mr0 ha) (by rfl) ?_
    refine rx_aload_nr d_Mo_note_218 (by rfl) ?_
    refine rx_getfield d_Mo_note_219 fl_Mo_78 (mr0 ha) (by rfl) ?_
    rw [show (sA (sA (sA (sS S 1 0) 5 num p) 6 num (nI b)) 7 num s).1 6 = nI num from q.1]
    refine rx_iload d_Mo_note_222 (by rfl) ?_
    refine m_ias (j := 8) ha d_Mo_note_224 (by rfl) (by omega) (by decide) (by rfl) (by decide) ?_
    refine rx_aload_nr d_Mo_note_225 (by rfl) ?_
    refine rx_getfield d_Mo_note_226 fl_Mo_34 (mr0 ha) (by rfl) ?_
    refine rx_aload_nr d_Mo_note_229 (by rfl) ?_
    refine rx_getfield d_Mo_note_230 fl_Mo_78 (mr0 ha) (by rfl) ?_
    rw [show (sA (sA (sA (sA (sS S 1 0) 5 num p) 6 num (nI b)) 7 num s) 8 num l).1 6 = nI num from q.1]
    refine rx_iload d_Mo_note_233 (by rfl) ?_
    refine m_ias (j := 9) ha d_Mo_note_235 (by rfl) (by omega) (by decide) (by rfl) (by decide) ?_
    refine rx_aload_nr d_Mo_note_236 (by rfl) ?_
    refine rx_getfield d_Mo_note_237 fl_Mo_37 (mr0 ha) (by rfl) ?_
    refine rx_aload_nr d_Mo_note_240 (by rfl) ?_
    refine rx_getfield d_Mo_note_241 fl_Mo_78 (mr0 ha) (by rfl) ?_
    rw [show (sA (sA (sA (sA (sA (sS S 1 0) 5 num p) 6 num (nI b)) 7 num s) 8 num l) 9 num t).1 6 = nI num from q.1]
    refine rx_iload d_Mo_note_244 (by rfl) ?_
    refine m_bas (j := 10) ha d_Mo_note_246 (by rfl) (by omega) (by decide) bi_vp (by rfl) (by decide) ?_
    refine rx_aload_nr d_Mo_note_247 (by rfl) ?_
    refine rx_dup d_Mo_note_248 (by rfl) ?_
    refine rx_getfield d_Mo_note_249 fl_Mo_78 (mr0 ha) (by rfl) ?_
    rw [show (sA (sA (sA (sA (sA (sA (sS S 1 0) 5 num p) 6 num (nI b)) 7 num s) 8 num l) 9 num t) 10 num (bi y)).1 6 = nI num from q.1]
    refine rx_iconst (v := 1) d_Mo_note_252 (by decide) ?_
    refine rx_iadd d_Mo_note_253 ?_
    rw [nI_1]
    refine m_putI (k9 := 6) ha d_Mo_note_254 (fw_Mo_78 rfl) (by rfl) (by rfl) (by rfl) ?_
    refine rx_aload_nr d_Mo_note_257 (by rfl) ?_
    refine rx_getfield d_Mo_note_258 fl_Mo_78 (mr0 ha) (by rfl) ?_
    rw [show (sS (sA (sA (sA (sA (sA (sA (sS S 1 0) 5 num p) 6 num (nI b)) 7 num s) 8 num l) 9 num t) 10 num (bi y)) 6 (nI (num + 1))).1 6 = nI (num + 1) from rfl]
    refine rx_ireturn d_Mo_note_261 (by rfl) ?_
    exact ⟨rfl, rfl⟩) num 0
  refine rx_aload_nr d_Mo_note_82 (by rfl) ?_
  refine rx_getfield d_Mo_note_83 fl_Mo_78 (mr0 ha) (by rfl) ?_
  rw [e6]
  refine rx_bipush (v := 40) d_Mo_note_86 (by decide) ?_
  refine rx_icmp_ne (tgt := 95) d_Mo_note_88 (by rfl) (fun c88 => ?_) (fun z => absurd z e40)
  refine rx_iconst (v := 0) d_Mo_note_95 (by decide) ?_
  refine rx_istore d_Mo_note_96 (Nat.le_of_ble_eq_true rfl) ?_
  refine rx_iconst (v := 0) d_Mo_note_98 (by decide) ?_
  refine rx_istore d_Mo_note_99 (Nat.le_of_ble_eq_true rfl) ?_
  exact e101 false (by omega) (by rw [hy]; rfl)
theorem k_trans1 (ha : a = V.2.1 + h1.length) {p : Int32} (hx : iwn p 0 2 = 0) (st : Int32) : rx_C V (d + 8) kc ks m_Mo_transpose [.ref a, .int p, .int st] (mw V h1 a S h2) (mPo V h1 a S h2 (.inl (some (.int 0))) 1) := by
  refine rx_aload_nr d_Mo_transpose_0 (by rfl) ?_
  refine rx_iload_n d_Mo_transpose_1 (by rfl) ?_
  refine rx_cS d_Mo_transpose_2 ml_Mo_81 st_Mo_isPart (by exact c9_Mo_isPart) (by rfl) (by exact Nat.le_of_ble_eq_true rfl) (k_isPart p) ?_
  refine rx_if_eq (tgt := 12) d_Mo_transpose_5 (by rfl) (fun c5 => ?_) (fun z => absurd hx z)
  refine rx_iconst (v := 1) d_Mo_transpose_12 (by decide) ?_
  refine m_putI (k9 := 1) ha d_Mo_transpose_13 (fw_Mo_63 rfl) (by rfl) (by rfl) (by rfl) ?_
  refine rx_iconst (v := 0) d_Mo_transpose_16 (by decide) ?_
  refine rx_istore_n d_Mo_transpose_17 (Nat.le_of_ble_eq_true rfl) ?_
  refine rx_iconst (v := 0) d_Mo_transpose_18 (by decide) ?_
  refine rx_istore d_Mo_transpose_19 (Nat.le_of_ble_eq_true rfl) ?_
  refine rx_iload d_Mo_transpose_21 (by rfl) ?_
  refine rx_aload_nr d_Mo_transpose_23 (by rfl) ?_
  refine rx_getfield d_Mo_transpose_24 fl_Mo_78 (mr0 ha) (by rfl) ?_
  refine rx_icmp_ge (tgt := 95) d_Mo_transpose_27 (by rfl) (fun c27 => ?_) (fun c27 => ?_)
  · refine rx_aload_nr d_Mo_transpose_95 (by rfl) ?_
    refine rx_getfield d_Mo_transpose_96 fl_Mo_63 (mr0 ha) (by rfl) ?_
    rw [show (sS S 1 1).1 1 = 1 from rfl]
    refine rx_if_le (tgt := 104) d_Mo_transpose_99 (by rfl) (fun z => absurd z (show ¬ (1 : Int32) ≤ 0 by decide)) (fun c99 => ?_)
    refine rx_iconst (v := 0) d_Mo_transpose_102 (by decide) ?_
    refine rx_ireturn d_Mo_transpose_103 (by rfl) ?_
    exact ⟨rfl, sS S 1 1, rfl, mE2.s1, rfl⟩
  · refine rx_aload_nr d_Mo_transpose_30 (by rfl) ?_
    refine rx_getfield d_Mo_transpose_31 fl_Mo_63 (mr0 ha) (by rfl) ?_
    rw [show (sS S 1 1).1 1 = 1 from rfl]
    refine rx_if_ne (tgt := 95) d_Mo_transpose_34 (by rfl) (fun c34 => ?_) (fun z => absurd z (show ¬ (1 : Int32) = 0 by decide))
    refine rx_aload_nr d_Mo_transpose_95 (by rfl) ?_
    refine rx_getfield d_Mo_transpose_96 fl_Mo_63 (mr0 ha) (by rfl) ?_
    rw [show (sS S 1 1).1 1 = 1 from rfl]
    refine rx_if_le (tgt := 104) d_Mo_transpose_99 (by rfl) (fun z => absurd z (show ¬ (1 : Int32) ≤ 0 by decide)) (fun c99 => ?_)
    refine rx_iconst (v := 0) d_Mo_transpose_102 (by decide) ?_
    refine rx_ireturn d_Mo_transpose_103 (by rfl) ?_
    exact ⟨rfl, sS S 1 1, rfl, mE2.s1, rfl⟩
theorem l_trans21 (ha : a = V.2.1 + h1.length) (q : mQ n num S) {p st : Int32} (K0 : (fix (fun i => decide (MS S i 0 = p ∧ ((MS S i 4).toInt64 + st.toInt64 < 0 ∨ 127 < (MS S i 4).toInt64 + st.toInt64))) 0 num).isSome = false → ∀ y5, rx_W V (d + 2) kc ks m_Mo_transpose 95 [some (.ref a), some (.int p), some (.int st), some (.int (ffo (ctp (MS S) p) 0 0 num)), some (.int (nI num)), y5, none] [] (mw V h1 a (sS S 1 0) h2) Q) (K1 : (fix (fun i => decide (MS S i 0 = p ∧ ((MS S i 4).toInt64 + st.toInt64 < 0 ∨ 127 < (MS S i 4).toInt64 + st.toInt64))) 0 num).isSome = true → ∀ many i y5, rx_W V (d + 2) kc ks m_Mo_transpose 95 [some (.ref a), some (.int p), some (.int st), many, i, y5, none] [] (mw V h1 a (sS S 1 1) h2) Q) :
    ∀ (m i : Nat) (c : Int32) (y5 : Option Value), i + m = num → c = ffo (ctp (MS S) p) 0 0 i → (fix (fun i => decide (MS S i 0 = p ∧ ((MS S i 4).toInt64 + st.toInt64 < 0 ∨ 127 < (MS S i 4).toInt64 + st.toInt64))) 0 num).isSome = (fix (fun i => decide (MS S i 0 = p ∧ ((MS S i 4).toInt64 + st.toInt64 < 0 ∨ 127 < (MS S i 4).toInt64 + st.toInt64))) i m).isSome → rx_W V (d + 2) kc ks m_Mo_transpose 21 [some (.ref a), some (.int p), some (.int st), some (.int c), some (.int (nI i)), y5, none] [] (mw V h1 a (sS S 1 0) h2) Q := by
  have hq := q.2
  have e6 : ∀ v, (sS S 1 v).1 6 = nI num := fun _ => q.1
  intro m
  induction m with
  | zero =>
    intro i c y5 hi hc hx
    have e : i = num := by omega
    subst e
    subst hc
    refine rx_iload d_Mo_transpose_21 (by rfl) ?_
    refine rx_aload_nr d_Mo_transpose_23 (by rfl) ?_
    refine rx_getfield d_Mo_transpose_24 fl_Mo_78 (mr0 ha) (by rfl) ?_
    rw [e6]
    refine rx_icmp_ge (tgt := 95) d_Mo_transpose_27 (by rfl) (fun c27 => ?_) (fun z => absurd (Int32.le_refl _) z)
    exact K0 hx _
  | succ m ih =>
    intro i c y5 hi hc hx
    have hc1 : ffo (ctp (MS S) p) 0 0 (i + 1) = ctp (MS S) p c i := by rw [ffo_s, ← hc]
    have e21 : (fix (fun i => decide (MS S i 0 = p ∧ ((MS S i 4).toInt64 + st.toInt64 < 0 ∨ 127 < (MS S i 4).toInt64 + st.toInt64))) 0 num).isSome = true → ∀ c y5, rx_W V (d + 2) kc ks m_Mo_transpose 21 [some (.ref a), some (.int p), some (.int st), some (.int c), some (.int (nI (i + 1))), y5, none] [] (mw V h1 a (sS S 1 1) h2) Q := by
      intro z c y5
      refine rx_iload d_Mo_transpose_21 (by rfl) ?_
      refine rx_aload_nr d_Mo_transpose_23 (by rfl) ?_
      refine rx_getfield d_Mo_transpose_24 fl_Mo_78 (mr0 ha) (by rfl) ?_
      rw [e6]
      refine rx_icmp_ge (tgt := 95) d_Mo_transpose_27 (by rfl) (fun c27 => ?_) (fun c27 => ?_)
      · exact K1 z _ _ _
      · refine rx_aload_nr d_Mo_transpose_30 (by rfl) ?_
        refine rx_getfield d_Mo_transpose_31 fl_Mo_63 (mr0 ha) (by rfl) ?_
        rw [show (sS S 1 1).1 1 = 1 from rfl]
        refine rx_if_ne (tgt := 95) d_Mo_transpose_34 (by rfl) (fun c34 => ?_) (fun z => absurd z (show ¬ (1 : Int32) = 0 by decide))
        exact K1 z _ _ _
    refine rx_iload d_Mo_transpose_21 (by rfl) ?_
    refine rx_aload_nr d_Mo_transpose_23 (by rfl) ?_
    refine rx_getfield d_Mo_transpose_24 fl_Mo_78 (mr0 ha) (by rfl) ?_
    rw [e6]
    refine rx_icmp_ge (tgt := 95) d_Mo_transpose_27 (by rfl) (fun z => absurd z (nI_ge (by omega) (by omega))) (fun c27 => ?_)
    refine rx_aload_nr d_Mo_transpose_30 (by rfl) ?_
    refine rx_getfield d_Mo_transpose_31 fl_Mo_63 (mr0 ha) (by rfl) ?_
    rw [show (sS S 1 0).1 1 = 0 from rfl]
    refine rx_if_ne (tgt := 95) d_Mo_transpose_34 (by rfl) (fun z => absurd (rfl : (0 : Int32) = 0) z) (fun c34 => ?_)
    refine rx_aload_nr d_Mo_transpose_37 (by rfl) ?_
    refine rx_getfield d_Mo_transpose_38 fl_Mo_22 (mr0 ha) (by rfl) ?_
    refine rx_iload d_Mo_transpose_41 (by rfl) ?_
    refine m_ial (j := 5) ha d_Mo_transpose_43 (by rfl) (by omega) (by decide) ?_
    refine rx_iload_n d_Mo_transpose_44 (by rfl) ?_
    refine rx_icmp_ne (tgt := 89) d_Mo_transpose_45 (by rfl) (fun c45 => ?_) (fun c45 => ?_)
    · refine rx_iinc (v := nI (i + 1)) d_Mo_transpose_89 (by rfl) (i_inc i) ?_
      refine rx_goto (tgt := 21) d_Mo_transpose_92 (by rfl) ?_
      first
        | exact ih (i + 1) c _ (by omega) (by rw [hc1]; exact (if_neg c45).symm) (hx.trans (by rw [fix_no (Pr := (fun i => decide (MS S i 0 = p ∧ ((MS S i 4).toInt64 + st.toInt64 < 0 ∨ 127 < (MS S i 4).toInt64 + st.toInt64)))) (decide_eq_false (fun z => c45 z.1))]))
        | exact ih (i + 1) (c + 1) _ (by omega) (by rw [hc1]; exact (if_pos c45).symm) (hx.trans (by rw [fix_no (Pr := (fun i => decide (MS S i 0 = p ∧ ((MS S i 4).toInt64 + st.toInt64 < 0 ∨ 127 < (MS S i 4).toInt64 + st.toInt64)))) (decide_eq_false (fun z => z.2.elim c66 c75))]))
        | exact e21 (by rw [hx, fix_yes (Pr := (fun i => decide (MS S i 0 = p ∧ ((MS S i 4).toInt64 + st.toInt64 < 0 ∨ 127 < (MS S i 4).toInt64 + st.toInt64)))) (decide_eq_true ⟨c45, Or.inl c66⟩)]; rfl) _ _
        | exact e21 (by rw [hx, fix_yes (Pr := (fun i => decide (MS S i 0 = p ∧ ((MS S i 4).toInt64 + st.toInt64 < 0 ∨ 127 < (MS S i 4).toInt64 + st.toInt64)))) (decide_eq_true ⟨c45, Or.inr c75⟩)]; rfl) _ _
    · refine rx_aload_nr d_Mo_transpose_48 (by rfl) ?_
      refine rx_getfield d_Mo_transpose_49 fl_Mo_34 (mr0 ha) (by rfl) ?_
      refine rx_iload d_Mo_transpose_52 (by rfl) ?_
      refine m_ial (j := 9) ha d_Mo_transpose_54 (by rfl) (by omega) (by decide) ?_
      refine rx_i2l d_Mo_transpose_55 ?_
      refine rx_iload_n d_Mo_transpose_56 (by rfl) ?_
      refine rx_i2l d_Mo_transpose_57 ?_
      refine rx_ladd d_Mo_transpose_58 ?_
      refine rx_lstore d_Mo_transpose_59 (Nat.le_of_ble_eq_true rfl) ?_
      refine rx_aload_nr d_Mo_transpose_61 (by rfl) ?_
      refine rx_lload d_Mo_transpose_62 (by rfl) ?_
      refine rx_lconst (v := 0) d_Mo_transpose_64 (by decide) ?_
      refine rx_lcmp d_Mo_transpose_65 ?_
      refine rx_if_lt (tgt := 78) d_Mo_transpose_66 (by rfl) (fun c66 => ?_) (fun c66 => ?_)
      · have c66 := (lg_lt0 _ _).mp c66
        refine rx_iconst (v := 1) d_Mo_transpose_78 (by decide) ?_
        refine rx_goto (tgt := 83) d_Mo_transpose_79 (by rfl) ?_
        refine m_putI (k9 := 1) ha d_Mo_transpose_83 (fw_Mo_63 rfl) (by rfl) (by rfl) (by rfl) ?_
        rw [sS_sS]
        refine rx_iinc d_Mo_transpose_86 (by rfl) (by rfl) ?_
        refine rx_iinc (v := nI (i + 1)) d_Mo_transpose_89 (by rfl) (i_inc i) ?_
        refine rx_goto (tgt := 21) d_Mo_transpose_92 (by rfl) ?_
        first
          | exact ih (i + 1) c _ (by omega) (by rw [hc1]; exact (if_neg c45).symm) (hx.trans (by rw [fix_no (Pr := (fun i => decide (MS S i 0 = p ∧ ((MS S i 4).toInt64 + st.toInt64 < 0 ∨ 127 < (MS S i 4).toInt64 + st.toInt64)))) (decide_eq_false (fun z => c45 z.1))]))
          | exact ih (i + 1) (c + 1) _ (by omega) (by rw [hc1]; exact (if_pos c45).symm) (hx.trans (by rw [fix_no (Pr := (fun i => decide (MS S i 0 = p ∧ ((MS S i 4).toInt64 + st.toInt64 < 0 ∨ 127 < (MS S i 4).toInt64 + st.toInt64)))) (decide_eq_false (fun z => z.2.elim c66 c75))]))
          | exact e21 (by rw [hx, fix_yes (Pr := (fun i => decide (MS S i 0 = p ∧ ((MS S i 4).toInt64 + st.toInt64 < 0 ∨ 127 < (MS S i 4).toInt64 + st.toInt64)))) (decide_eq_true ⟨c45, Or.inl c66⟩)]; rfl) _ _
          | exact e21 (by rw [hx, fix_yes (Pr := (fun i => decide (MS S i 0 = p ∧ ((MS S i 4).toInt64 + st.toInt64 < 0 ∨ 127 < (MS S i 4).toInt64 + st.toInt64)))) (decide_eq_true ⟨c45, Or.inr c75⟩)]; rfl) _ _
      · have c66 := fun z => c66 ((lg_lt0 _ _).mpr z)
        refine rx_lload d_Mo_transpose_69 (by rfl) ?_
        refine rx_ldc2 d_Mo_transpose_71 kl_Mo_88 ?_
        refine rx_lcmp d_Mo_transpose_74 ?_
        refine rx_if_le (tgt := 82) d_Mo_transpose_75 (by rfl) (fun c75 => ?_) (fun c75 => ?_)
        · have c75 := (lg_le0 _ _).mp c75
          refine rx_iconst (v := 0) d_Mo_transpose_82 (by decide) ?_
          refine m_putI (k9 := 1) ha d_Mo_transpose_83 (fw_Mo_63 rfl) (by rfl) (by rfl) (by rfl) ?_
          rw [sS_sS]
          refine rx_iinc d_Mo_transpose_86 (by rfl) (by rfl) ?_
          refine rx_iinc (v := nI (i + 1)) d_Mo_transpose_89 (by rfl) (i_inc i) ?_
          refine rx_goto (tgt := 21) d_Mo_transpose_92 (by rfl) ?_
          first
            | exact ih (i + 1) c _ (by omega) (by rw [hc1]; exact (if_neg c45).symm) (hx.trans (by rw [fix_no (Pr := (fun i => decide (MS S i 0 = p ∧ ((MS S i 4).toInt64 + st.toInt64 < 0 ∨ 127 < (MS S i 4).toInt64 + st.toInt64)))) (decide_eq_false (fun z => c45 z.1))]))
            | exact ih (i + 1) (c + 1) _ (by omega) (by rw [hc1]; exact (if_pos c45).symm) (hx.trans (by rw [fix_no (Pr := (fun i => decide (MS S i 0 = p ∧ ((MS S i 4).toInt64 + st.toInt64 < 0 ∨ 127 < (MS S i 4).toInt64 + st.toInt64)))) (decide_eq_false (fun z => z.2.elim c66 c75))]))
            | exact e21 (by rw [hx, fix_yes (Pr := (fun i => decide (MS S i 0 = p ∧ ((MS S i 4).toInt64 + st.toInt64 < 0 ∨ 127 < (MS S i 4).toInt64 + st.toInt64)))) (decide_eq_true ⟨c45, Or.inl c66⟩)]; rfl) _ _
            | exact e21 (by rw [hx, fix_yes (Pr := (fun i => decide (MS S i 0 = p ∧ ((MS S i 4).toInt64 + st.toInt64 < 0 ∨ 127 < (MS S i 4).toInt64 + st.toInt64)))) (decide_eq_true ⟨c45, Or.inr c75⟩)]; rfl) _ _
        · have c75 := Decidable.not_not.mp (fun z => c75 ((lg_le0 _ _).mpr z))
          refine rx_iconst (v := 1) d_Mo_transpose_78 (by decide) ?_
          refine rx_goto (tgt := 83) d_Mo_transpose_79 (by rfl) ?_
          refine m_putI (k9 := 1) ha d_Mo_transpose_83 (fw_Mo_63 rfl) (by rfl) (by rfl) (by rfl) ?_
          rw [sS_sS]
          refine rx_iinc d_Mo_transpose_86 (by rfl) (by rfl) ?_
          refine rx_iinc (v := nI (i + 1)) d_Mo_transpose_89 (by rfl) (i_inc i) ?_
          refine rx_goto (tgt := 21) d_Mo_transpose_92 (by rfl) ?_
          first
            | exact ih (i + 1) c _ (by omega) (by rw [hc1]; exact (if_neg c45).symm) (hx.trans (by rw [fix_no (Pr := (fun i => decide (MS S i 0 = p ∧ ((MS S i 4).toInt64 + st.toInt64 < 0 ∨ 127 < (MS S i 4).toInt64 + st.toInt64)))) (decide_eq_false (fun z => c45 z.1))]))
            | exact ih (i + 1) (c + 1) _ (by omega) (by rw [hc1]; exact (if_pos c45).symm) (hx.trans (by rw [fix_no (Pr := (fun i => decide (MS S i 0 = p ∧ ((MS S i 4).toInt64 + st.toInt64 < 0 ∨ 127 < (MS S i 4).toInt64 + st.toInt64)))) (decide_eq_false (fun z => z.2.elim c66 c75))]))
            | exact e21 (by rw [hx, fix_yes (Pr := (fun i => decide (MS S i 0 = p ∧ ((MS S i 4).toInt64 + st.toInt64 < 0 ∨ 127 < (MS S i 4).toInt64 + st.toInt64)))) (decide_eq_true ⟨c45, Or.inl c66⟩)]; rfl) _ _
            | exact e21 (by rw [hx, fix_yes (Pr := (fun i => decide (MS S i 0 = p ∧ ((MS S i 4).toInt64 + st.toInt64 < 0 ∨ 127 < (MS S i 4).toInt64 + st.toInt64)))) (decide_eq_true ⟨c45, Or.inr c75⟩)]; rfl) _ _
theorem k_trans2 (ha : a = V.2.1 + h1.length) (q : mQ n num S) {p st : Int32} (hp : ¬ iwn p 0 2 = 0) (hx : (fix (fun i => decide (MS S i 0 = p ∧ ((MS S i 4).toInt64 + st.toInt64 < 0 ∨ 127 < (MS S i 4).toInt64 + st.toInt64))) 0 num).isSome = true) : rx_C V (d + 8) kc ks m_Mo_transpose [.ref a, .int p, .int st] (mw V h1 a S h2) (mPo V h1 a S h2 (.inl (some (.int 0))) 1) := by
  have e21 := l_trans21 (d := d + 6) (kc := kc) (ks := ks) (h2 := h2) (p := p) (st := st) (Q := mPo V h1 a S h2 (.inl (some (.int 0))) 1) ha q (fun z => by rw [hx] at z; cases z) (fun _ many i y5 => by
    refine rx_aload_nr d_Mo_transpose_95 (by rfl) ?_
    refine rx_getfield d_Mo_transpose_96 fl_Mo_63 (mr0 ha) (by rfl) ?_
    rw [show (sS S 1 1).1 1 = 1 from rfl]
    refine rx_if_le (tgt := 104) d_Mo_transpose_99 (by rfl) (fun z => absurd z (show ¬ (1 : Int32) ≤ 0 by decide)) (fun c99 => ?_)
    refine rx_iconst (v := 0) d_Mo_transpose_102 (by decide) ?_
    refine rx_ireturn d_Mo_transpose_103 (by rfl) ?_
    exact ⟨rfl, sS S 1 1, rfl, mE2.s1, rfl⟩) num 0 0 none (by omega) rfl rfl
  refine rx_aload_nr d_Mo_transpose_0 (by rfl) ?_
  refine rx_iload_n d_Mo_transpose_1 (by rfl) ?_
  refine rx_cS d_Mo_transpose_2 ml_Mo_81 st_Mo_isPart (by exact c9_Mo_isPart) (by rfl) (by exact Nat.le_of_ble_eq_true rfl) (k_isPart p) ?_
  refine rx_if_eq (tgt := 12) d_Mo_transpose_5 (by rfl) (fun z => absurd z hp) (fun c5 => ?_)
  refine rx_iconst (v := 0) d_Mo_transpose_8 (by decide) ?_
  refine rx_goto (tgt := 13) d_Mo_transpose_9 (by rfl) ?_
  refine m_putI (k9 := 1) ha d_Mo_transpose_13 (fw_Mo_63 rfl) (by rfl) (by rfl) (by rfl) ?_
  refine rx_iconst (v := 0) d_Mo_transpose_16 (by decide) ?_
  refine rx_istore_n d_Mo_transpose_17 (Nat.le_of_ble_eq_true rfl) ?_
  refine rx_iconst (v := 0) d_Mo_transpose_18 (by decide) ?_
  refine rx_istore d_Mo_transpose_19 (Nat.le_of_ble_eq_true rfl) ?_
  exact e21
theorem l_trans107 (ha : a = V.2.1 + h1.length) (q : mQ n num S) {p st c : Int32} {y5 : Option Value} : ∀ (m i : Nat), i + m = num → rx_W V (d + 2) kc ks m_Mo_transpose 107 [some (.ref a), some (.int p), some (.int st), some (.int c), some (.int (nI i)), y5, none] [] (mw V h1 a (sF (sS S 1 0) 9 (fun j => if j < i ∧ S.2.2 5 j = p then S.2.2 9 j + st else S.2.2 9 j)) h2) (rx_X (.inl (some (.int c))) (mw V h1 a (sF (sS S 1 0) 9 (fun j => if j < num ∧ S.2.2 5 j = p then S.2.2 9 j + st else S.2.2 9 j)) h2)) := by
  have hq := q.2
  have e6 : ∀ f, (sF (sS S 1 0) 9 f).1 6 = nI num := fun _ => q.1
  intro m
  induction m with
  | zero =>
    intro i hi
    have e : i = num := by omega
    subst e
    refine rx_iload d_Mo_transpose_107 (by rfl) ?_
    refine rx_aload_nr d_Mo_transpose_109 (by rfl) ?_
    refine rx_getfield d_Mo_transpose_110 fl_Mo_78 (mr0 ha) (by rfl) ?_
    rw [e6]
    refine rx_icmp_ge (tgt := 159) d_Mo_transpose_113 (by rfl) (fun c113 => ?_) (fun z => absurd (Int32.le_refl _) z)
    refine rx_iload_n d_Mo_transpose_159 (by rfl) ?_
    refine rx_ireturn d_Mo_transpose_160 (by rfl) ?_
    exact ⟨rfl, rfl⟩
  | succ m ih =>
    intro i hi
    have e9 : ∀ g x, sA (sF (sS S 1 0) 9 g) 9 i x = sF (sS S 1 0) 9 (up g i x) := by
      intro g x
      unfold sA sF
      have : up (up (sS S 1 0).2.2 9 g) 9 (up ((up (sS S 1 0).2.2 9 g) 9) i x) = up (sS S 1 0).2.2 9 (up g i x) := by
        funext j
        by_cases e : j = 9
        · subst e; rw [up_s, up_s, up_s]
        · rw [up_o e, up_o e, up_o e]
      show ((sS S 1 0).1, (sS S 1 0).2.1, up (up (sS S 1 0).2.2 9 g) 9 (up ((up (sS S 1 0).2.2 9 g) 9) i x)) = _
      rw [this]
    have ei : ∀ f, (sF (sS S 1 0) 9 f).2.2 9 i = f i := fun _ => rfl
    have e5 : ∀ f, (sF (sS S 1 0) 9 f).2.2 5 i = S.2.2 5 i := fun _ => rfl
    have gi : (if i < i ∧ S.2.2 5 i = p then S.2.2 9 i + st else S.2.2 9 i) = S.2.2 9 i := if_neg (fun z => Nat.lt_irrefl _ z.1)
    have st1 : ∀ x, x = (if S.2.2 5 i = p then S.2.2 9 i + st else S.2.2 9 i) → up (fun j => if j < i ∧ S.2.2 5 j = p then S.2.2 9 j + st else S.2.2 9 j) i x = (fun j => if j < (i + 1) ∧ S.2.2 5 j = p then S.2.2 9 j + st else S.2.2 9 j) := by
      intro x hx
      funext j
      by_cases e : j = i
      · subst e
        rw [up_s, hx]
        by_cases z : S.2.2 5 j = p
        · rw [if_pos z, if_pos ⟨by omega, z⟩]
        · rw [if_neg z, if_neg (fun y => z y.2)]
      · rw [up_o e]
        by_cases z : j < i ∧ S.2.2 5 j = p
        · rw [if_pos z, if_pos ⟨by omega, z.2⟩]
        · rw [if_neg z, if_neg (fun y => z ⟨by omega, y.2⟩)]
    refine rx_iload d_Mo_transpose_107 (by rfl) ?_
    refine rx_aload_nr d_Mo_transpose_109 (by rfl) ?_
    refine rx_getfield d_Mo_transpose_110 fl_Mo_78 (mr0 ha) (by rfl) ?_
    rw [e6]
    refine rx_icmp_ge (tgt := 159) d_Mo_transpose_113 (by rfl) (fun z => absurd z (nI_ge (by omega) (by omega))) (fun c113 => ?_)
    refine rx_aload_nr d_Mo_transpose_116 (by rfl) ?_
    refine rx_getfield d_Mo_transpose_117 fl_Mo_34 (mr0 ha) (by rfl) ?_
    refine rx_iload d_Mo_transpose_120 (by rfl) ?_
    refine rx_aload_nr d_Mo_transpose_122 (by rfl) ?_
    refine rx_getfield d_Mo_transpose_123 fl_Mo_22 (mr0 ha) (by rfl) ?_
    refine rx_iload d_Mo_transpose_126 (by rfl) ?_
    refine m_ial (j := 5) ha d_Mo_transpose_128 (by rfl) (by omega) (by decide) ?_
    rw [e5]
    refine rx_iload_n d_Mo_transpose_129 (by rfl) ?_
    refine rx_icmp_ne (tgt := 145) d_Mo_transpose_130 (by rfl) (fun c130 => ?_) (fun c130 => ?_)
    · refine rx_aload_nr d_Mo_transpose_145 (by rfl) ?_
      refine rx_getfield d_Mo_transpose_146 fl_Mo_34 (mr0 ha) (by rfl) ?_
      refine rx_iload d_Mo_transpose_149 (by rfl) ?_
      refine m_ial (j := 9) ha d_Mo_transpose_151 (by rfl) (by omega) (by decide) ?_
      rw [ei, gi]
      refine m_ias (j := 9) ha d_Mo_transpose_152 (by rfl) (by omega) (by decide) (by rfl) (by decide) ?_
      rw [e9]
      first | rw [st1 _ (if_pos c130).symm] | rw [st1 _ (if_neg c130).symm]
      refine rx_iinc (v := nI (i + 1)) d_Mo_transpose_153 (by rfl) (i_inc i) ?_
      refine rx_goto (tgt := 107) d_Mo_transpose_156 (by rfl) ?_
      exact ih (i + 1) (by omega)
    · refine rx_aload_nr d_Mo_transpose_133 (by rfl) ?_
      refine rx_getfield d_Mo_transpose_134 fl_Mo_34 (mr0 ha) (by rfl) ?_
      refine rx_iload d_Mo_transpose_137 (by rfl) ?_
      refine m_ial (j := 9) ha d_Mo_transpose_139 (by rfl) (by omega) (by decide) ?_
      rw [ei, gi]
      refine rx_iload_n d_Mo_transpose_140 (by rfl) ?_
      refine rx_iadd d_Mo_transpose_141 ?_
      refine rx_goto (tgt := 152) d_Mo_transpose_142 (by rfl) ?_
      refine m_ias (j := 9) ha d_Mo_transpose_152 (by rfl) (by omega) (by decide) (by rfl) (by decide) ?_
      rw [e9]
      first | rw [st1 _ (if_pos c130).symm] | rw [st1 _ (if_neg c130).symm]
      refine rx_iinc (v := nI (i + 1)) d_Mo_transpose_153 (by rfl) (i_inc i) ?_
      refine rx_goto (tgt := 107) d_Mo_transpose_156 (by rfl) ?_
      exact ih (i + 1) (by omega)
theorem k_trans0 (ha : a = V.2.1 + h1.length) (q : mQ n num S) {p st : Int32} (hp : ¬ iwn p 0 2 = 0) (hx : (fix (fun i => decide (MS S i 0 = p ∧ ((MS S i 4).toInt64 + st.toInt64 < 0 ∨ 127 < (MS S i 4).toInt64 + st.toInt64))) 0 num).isSome = false) : rx_C V (d + 8) kc ks m_Mo_transpose [.ref a, .int p, .int st] (mw V h1 a S h2) (rx_X (.inl (some (.int (ffo (ctp (MS S) p) 0 0 num)))) (mw V h1 a (sF (sS S 1 0) 9 (fun j => if j < num ∧ S.2.2 5 j = p then S.2.2 9 j + st else S.2.2 9 j)) h2)) := by
  have e0 : sF (sS S 1 0) 9 (fun j => if j < 0 ∧ S.2.2 5 j = p then S.2.2 9 j + st else S.2.2 9 j) = sS S 1 0 := by
    unfold sF
    have : up (sS S 1 0).2.2 9 (fun j => if j < 0 ∧ S.2.2 5 j = p then S.2.2 9 j + st else S.2.2 9 j) = (sS S 1 0).2.2 := by
      funext j
      by_cases e : j = 9
      · subst e; rw [up_s]; funext i; exact if_neg (fun z => Nat.not_lt_zero _ z.1)
      · rw [up_o e]
    rw [this]
  have z107 := fun c y5 => l_trans107 (d := d + 6) (kc := kc) (ks := ks) (h2 := h2) (p := p) (st := st) (c := c) (y5 := y5) ha q num 0 (by omega)
  rw [e0] at z107
  have e21 := l_trans21 (d := d + 6) (kc := kc) (ks := ks) (h2 := h2) (p := p) (st := st) (Q := rx_X (.inl (some (.int (ffo (ctp (MS S) p) 0 0 num)))) (mw V h1 a (sF (sS S 1 0) 9 (fun j => if j < num ∧ S.2.2 5 j = p then S.2.2 9 j + st else S.2.2 9 j)) h2)) ha q (fun _ y5 => by
    refine rx_aload_nr d_Mo_transpose_95 (by rfl) ?_
    refine rx_getfield d_Mo_transpose_96 fl_Mo_63 (mr0 ha) (by rfl) ?_
    rw [show (sS S 1 0).1 1 = 0 from rfl]
    refine rx_if_le (tgt := 104) d_Mo_transpose_99 (by rfl) (fun c99 => ?_) (fun z => absurd (show (0 : Int32) ≤ 0 by decide) z)
    refine rx_iconst (v := 0) d_Mo_transpose_104 (by decide) ?_
    refine rx_istore d_Mo_transpose_105 (Nat.le_of_ble_eq_true rfl) ?_
    exact z107 _ _) (fun z => by rw [hx] at z; cases z) num 0 0 none (by omega) rfl rfl
  refine rx_aload_nr d_Mo_transpose_0 (by rfl) ?_
  refine rx_iload_n d_Mo_transpose_1 (by rfl) ?_
  refine rx_cS d_Mo_transpose_2 ml_Mo_81 st_Mo_isPart (by exact c9_Mo_isPart) (by rfl) (by exact Nat.le_of_ble_eq_true rfl) (k_isPart p) ?_
  refine rx_if_eq (tgt := 12) d_Mo_transpose_5 (by rfl) (fun z => absurd z hp) (fun c5 => ?_)
  refine rx_iconst (v := 0) d_Mo_transpose_8 (by decide) ?_
  refine rx_goto (tgt := 13) d_Mo_transpose_9 (by rfl) ?_
  refine m_putI (k9 := 1) ha d_Mo_transpose_13 (fw_Mo_63 rfl) (by rfl) (by rfl) (by rfl) ?_
  refine rx_iconst (v := 0) d_Mo_transpose_16 (by decide) ?_
  refine rx_istore_n d_Mo_transpose_17 (Nat.le_of_ble_eq_true rfl) ?_
  refine rx_iconst (v := 0) d_Mo_transpose_18 (by decide) ?_
  refine rx_istore d_Mo_transpose_19 (Nat.le_of_ble_eq_true rfl) ?_
  exact e21
theorem k_rest1 (ha : a = V.2.1 + h1.length) {p : Int32} (hx : iwn p 0 2 = 0) (i : Int32) : rx_C V (d + 8) kc ks m_Mo_rest [.ref a, .int p, .int i] (mw V h1 a S h2) (mPo V h1 a S h2 (.inl (some (.int 0))) 1) := by
  refine rx_aload_nr d_Mo_rest_0 (by rfl) ?_
  refine rx_iload_n d_Mo_rest_1 (by rfl) ?_
  refine rx_cS d_Mo_rest_2 ml_Mo_81 st_Mo_isPart (by exact c9_Mo_isPart) (by rfl) (by exact Nat.le_of_ble_eq_true rfl) (k_isPart p) ?_
  refine rx_if_eq (tgt := 12) d_Mo_rest_5 (by rfl) (fun c5 => ?_) (fun z => absurd hx z)
  refine rx_iconst (v := 1) d_Mo_rest_12 (by decide) ?_
  refine m_putI (k9 := 1) ha d_Mo_rest_13 (fw_Mo_63 rfl) (by rfl) (by rfl) (by rfl) ?_
  refine rx_aload_nr d_Mo_rest_16 (by rfl) ?_
  refine rx_getfield d_Mo_rest_17 fl_Mo_63 (mr0 ha) (by rfl) ?_
  rw [show (sS S 1 1).1 1 = 1 from rfl]
  refine rx_if_le (tgt := 25) d_Mo_rest_20 (by rfl) (fun z => absurd z (show ¬ (1 : Int32) ≤ 0 by decide)) (fun c20 => ?_)
  refine rx_iconst (v := 0) d_Mo_rest_23 (by decide) ?_
  refine rx_ireturn d_Mo_rest_24 (by rfl) ?_
  exact ⟨rfl, sS S 1 1, rfl, mE2.s1, rfl⟩
theorem l_rest86 (ha : a = V.2.1 + h1.length) (hN : mN n S) (hv : vok n (S.2.2 4)) (q : mQ n num S) {p i : Int32} {c0 : Int32} {b : Nat} (hb9 : b < n) {y5 : Int32} : ∀ (m c : Nat), b + c + m = n → 1 ≤ c → rx_W V (d + 4) kc ks m_Mo_rest 86 [some (.ref a), some (.int p), some (.int i), some (.int c0), some (.int (nI b)), some (.int y5), some (.int (nI c))] [] (mw V h1 a S h2) (rx_X (.inl (some (.int (nI (100 * b + (c + rbf (fun x => (rsB (MS S) num p) x && (goB n (S.2.2 2) (S.2.2 4) (MS S) num p) x) (b + c) m)))))) (mw V h1 a S h2)) := by
  have hn := hN.2
  intro m
  induction m with
  | zero =>
    intro c hc h1c
    have ej : jnB n (S.2.2 2) (S.2.2 4) (MS S) num p (b + c - 1) = false := by
      unfold jnB
      rw [decide_eq_false (by omega), Bool.false_and]
    refine rx_aload_nr d_Mo_rest_86 (by rfl) ?_
    refine rx_iload_n d_Mo_rest_87 (by rfl) ?_
    refine rx_iload d_Mo_rest_88 (by rfl) ?_
    refine rx_iload d_Mo_rest_90 (by rfl) ?_
    refine rx_iadd d_Mo_rest_92 ?_
    refine rx_iconst (v := 1) d_Mo_rest_93 (by decide) ?_
    refine rx_isub d_Mo_rest_94 ?_
    rw [nI_add, nI_p1 (by omega)]
    refine rx_cV d_Mo_rest_95 (by rfl) ml_Mo_231 im_Mo_joins se_Mo_joins (by exact c9_Mo_joins) (mr0 ha) (by rfl) (by exact Nat.le_of_ble_eq_true rfl) (k_joins ha hN hv q p (b := b + c - 1) (by omega)) ?_
    rw [ej]
    refine rx_if_eq (tgt := 107) d_Mo_rest_98 (by rfl) (fun c98 => ?_) (fun z => absurd (show bi false = 0 by decide) z)
    refine rx_bipush (v := 100) d_Mo_rest_107 (by decide) ?_
    refine rx_iload d_Mo_rest_109 (by rfl) ?_
    refine rx_imul d_Mo_rest_111 ?_
    refine rx_iload d_Mo_rest_112 (by rfl) ?_
    refine rx_iadd d_Mo_rest_114 ?_
    rw [show (100 : Int32) * nI b + nI c = nI (100 * b + c) by rw [show (100 : Int32) = nI 100 from rfl, pk_mul, nI_add]]
    refine rx_ireturn d_Mo_rest_115 (by rfl) ?_
    exact ⟨rfl, rfl⟩
  | succ m ih =>
    intro c hc h1c
    have ej : jnB n (S.2.2 2) (S.2.2 4) (MS S) num p (b + c - 1) = ((rsB (MS S) num p) (b + c) && (goB n (S.2.2 2) (S.2.2 4) (MS S) num p) (b + c)) := by
      unfold jnB
      rw [show b + c - 1 + 1 = b + c by omega, decide_eq_true (show b + c < n by omega), Bool.true_and]
    refine rx_aload_nr d_Mo_rest_86 (by rfl) ?_
    refine rx_iload_n d_Mo_rest_87 (by rfl) ?_
    refine rx_iload d_Mo_rest_88 (by rfl) ?_
    refine rx_iload d_Mo_rest_90 (by rfl) ?_
    refine rx_iadd d_Mo_rest_92 ?_
    refine rx_iconst (v := 1) d_Mo_rest_93 (by decide) ?_
    refine rx_isub d_Mo_rest_94 ?_
    rw [nI_add, nI_p1 (by omega)]
    refine rx_cV d_Mo_rest_95 (by rfl) ml_Mo_231 im_Mo_joins se_Mo_joins (by exact c9_Mo_joins) (mr0 ha) (by rfl) (by exact Nat.le_of_ble_eq_true rfl) (k_joins ha hN hv q p (b := b + c - 1) (by omega)) ?_
    rw [ej]
    refine rx_if_eq (tgt := 107) d_Mo_rest_98 (by rfl) (fun c98 => ?_) (fun c98 => ?_)
    · rw [show rbf (fun x => (rsB (MS S) num p) x && (goB n (S.2.2 2) (S.2.2 4) (MS S) num p) x) (b + c) (m + 1) = 0 from if_neg (fun z => absurd (show ((rsB (MS S) num p) (b + c) && (goB n (S.2.2 2) (S.2.2 4) (MS S) num p) (b + c)) = true from z) (by rw [bi_0.mp c98]; decide))]
      refine rx_bipush (v := 100) d_Mo_rest_107 (by decide) ?_
      refine rx_iload d_Mo_rest_109 (by rfl) ?_
      refine rx_imul d_Mo_rest_111 ?_
      refine rx_iload d_Mo_rest_112 (by rfl) ?_
      refine rx_iadd d_Mo_rest_114 ?_
      rw [show (100 : Int32) * nI b + nI c = nI (100 * b + c) by rw [show (100 : Int32) = nI 100 from rfl, pk_mul, nI_add]]
      refine rx_ireturn d_Mo_rest_115 (by rfl) ?_
      exact ⟨rfl, rfl⟩
    · rw [show rbf (fun x => (rsB (MS S) num p) x && (goB n (S.2.2 2) (S.2.2 4) (MS S) num p) x) (b + c) (m + 1) = 1 + rbf (fun x => (rsB (MS S) num p) x && (goB n (S.2.2 2) (S.2.2 4) (MS S) num p) x) (b + c + 1) m from if_pos (bi_1.mp c98), ← Nat.add_assoc c 1]
      refine rx_iinc (v := nI (c + 1)) d_Mo_rest_101 (by rfl) (i_inc c) ?_
      refine rx_goto (tgt := 86) d_Mo_rest_104 (by rfl) ?_
      exact ih (c + 1) (by omega) (by omega)
theorem l_rest30 (ha : a = V.2.1 + h1.length) (hN : mN n S) (hv : vok n (S.2.2 4)) (q : mQ n num S) {p i : Int32} : ∀ (m b : Nat) (c : Int32) (y5 y6 : Option Value), b + m = n → rx_W V (d + 4) kc ks m_Mo_rest 30 [some (.ref a), some (.int p), some (.int i), some (.int c), some (.int (nI b)), y5, y6] [] (mw V h1 a S h2) (rx_X (.inl (some (.int (rsf n (rsB (MS S) num p) (goB n (S.2.2 2) (S.2.2 4) (MS S) num p) i c b m)))) (mw V h1 a S h2)) := by
  have hn := hN.2
  intro m
  induction m with
  | zero =>
    intro b c y5 y6 hb9
    have e : b = n := by omega
    subst e
    refine rx_iload d_Mo_rest_30 (by rfl) ?_
    refine rx_aload_nr d_Mo_rest_32 (by rfl) ?_
    refine rx_getfield d_Mo_rest_33 fl_Mo_59 (mr0 ha) (by rfl) ?_
    rw [show S.1 2 = nI b from hN.1]
    refine rx_icmp_ge (tgt := 135) d_Mo_rest_36 (by rfl) (fun c36 => ?_) (fun z => absurd (Int32.le_refl _) z)
    refine rx_iconst (v := -1) d_Mo_rest_135 (by decide) ?_
    refine rx_ireturn d_Mo_rest_136 (by rfl) ?_
    exact ⟨rfl, rfl⟩
  | succ m ih =>
    intro b c y5 y6 hb9
    have hbl : b < n := by omega
    have er : rsf n (rsB (MS S) num p) (goB n (S.2.2 2) (S.2.2 4) (MS S) num p) i c b (m + 1) = if ((rsB (MS S) num p) b && !((goB n (S.2.2 2) (S.2.2 4) (MS S) num p) b)) = true then (if c = i then nI (100 * b + (1 + rbf (fun x => (rsB (MS S) num p) x && (goB n (S.2.2 2) (S.2.2 4) (MS S) num p) x) (b + 1) (n - (b + 1)))) else rsf n (rsB (MS S) num p) (goB n (S.2.2 2) (S.2.2 4) (MS S) num p) i (c + 1) (b + 1) m) else rsf n (rsB (MS S) num p) (goB n (S.2.2 2) (S.2.2 4) (MS S) num p) i c (b + 1) m := rfl
    have e71 : ∀ x, (¬ x = 0 ↔ ((rsB (MS S) num p) b && !((goB n (S.2.2 2) (S.2.2 4) (MS S) num p) b)) = true) → rx_W V (d + 4) kc ks m_Mo_rest 71 [some (.ref a), some (.int p), some (.int i), some (.int c), some (.int (nI b)), y5, y6] [.int x] (mw V h1 a S h2) (rx_X (.inl (some (.int (rsf n (rsB (MS S) num p) (goB n (S.2.2 2) (S.2.2 4) (MS S) num p) i c b (m + 1))))) (mw V h1 a S h2)) := by
      intro x hx
      rw [er]
      refine rx_istore d_Mo_rest_71 (Nat.le_of_ble_eq_true rfl) ?_
      refine rx_iload d_Mo_rest_73 (by rfl) ?_
      refine rx_if_eq (tgt := 116) d_Mo_rest_75 (by rfl) (fun c75 => ?_) (fun c75 => ?_)
      · rw [if_neg (fun z => hx.mpr z c75)]
        refine rx_iload d_Mo_rest_116 (by rfl) ?_
        refine rx_if_eq (tgt := 127) d_Mo_rest_118 (by rfl) (fun c118 => ?_) (fun c118 => ?_)
        · refine rx_iload_n d_Mo_rest_127 (by rfl) ?_
          refine rx_istore_n d_Mo_rest_128 (Nat.le_of_ble_eq_true rfl) ?_
          refine rx_iinc (v := nI (b + 1)) d_Mo_rest_129 (by rfl) (i_inc b) ?_
          refine rx_goto (tgt := 30) d_Mo_rest_132 (by rfl) ?_
          first | exact ih (b + 1) _ _ _ (by omega) | exact absurd c118 c75 | exact absurd c75 c118
        · refine rx_iload_n d_Mo_rest_121 (by rfl) ?_
          refine rx_iconst (v := 1) d_Mo_rest_122 (by decide) ?_
          refine rx_iadd d_Mo_rest_123 ?_
          refine rx_goto (tgt := 128) d_Mo_rest_124 (by rfl) ?_
          refine rx_istore_n d_Mo_rest_128 (Nat.le_of_ble_eq_true rfl) ?_
          refine rx_iinc (v := nI (b + 1)) d_Mo_rest_129 (by rfl) (i_inc b) ?_
          refine rx_goto (tgt := 30) d_Mo_rest_132 (by rfl) ?_
          first | exact ih (b + 1) _ _ _ (by omega) | exact absurd c118 c75 | exact absurd c75 c118
      · rw [if_pos (hx.mp c75)]
        refine rx_iload_n d_Mo_rest_78 (by rfl) ?_
        refine rx_iload_n d_Mo_rest_79 (by rfl) ?_
        refine rx_icmp_ne (tgt := 116) d_Mo_rest_80 (by rfl) (fun c80 => ?_) (fun c80 => ?_)
        · rw [if_neg c80]
          refine rx_iload d_Mo_rest_116 (by rfl) ?_
          refine rx_if_eq (tgt := 127) d_Mo_rest_118 (by rfl) (fun c118 => ?_) (fun c118 => ?_)
          · refine rx_iload_n d_Mo_rest_127 (by rfl) ?_
            refine rx_istore_n d_Mo_rest_128 (Nat.le_of_ble_eq_true rfl) ?_
            refine rx_iinc (v := nI (b + 1)) d_Mo_rest_129 (by rfl) (i_inc b) ?_
            refine rx_goto (tgt := 30) d_Mo_rest_132 (by rfl) ?_
            first | exact ih (b + 1) _ _ _ (by omega) | exact absurd c118 c75 | exact absurd c75 c118
          · refine rx_iload_n d_Mo_rest_121 (by rfl) ?_
            refine rx_iconst (v := 1) d_Mo_rest_122 (by decide) ?_
            refine rx_iadd d_Mo_rest_123 ?_
            refine rx_goto (tgt := 128) d_Mo_rest_124 (by rfl) ?_
            refine rx_istore_n d_Mo_rest_128 (Nat.le_of_ble_eq_true rfl) ?_
            refine rx_iinc (v := nI (b + 1)) d_Mo_rest_129 (by rfl) (i_inc b) ?_
            refine rx_goto (tgt := 30) d_Mo_rest_132 (by rfl) ?_
            first | exact ih (b + 1) _ _ _ (by omega) | exact absurd c118 c75 | exact absurd c75 c118
        · rw [if_pos c80]
          refine rx_iconst (v := 1) d_Mo_rest_83 (by decide) ?_
          refine rx_istore d_Mo_rest_84 (Nat.le_of_ble_eq_true rfl) ?_
          exact l_rest86 ha hN hv q hbl (n - (b + 1)) 1 (by omega) (by omega)
    have j0 : b ≠ 0 → jnB n (S.2.2 2) (S.2.2 4) (MS S) num p (b - 1) = ((rsB (MS S) num p) b && (goB n (S.2.2 2) (S.2.2 4) (MS S) num p) b) := by
      intro z
      unfold jnB
      rw [show b - 1 + 1 = b by omega, decide_eq_true hbl, Bool.true_and]
    have g0 : b = 0 → (goB n (S.2.2 2) (S.2.2 4) (MS S) num p) b = false := by
      intro z
      unfold goB
      rw [z]; rfl
    refine rx_iload d_Mo_rest_30 (by rfl) ?_
    refine rx_aload_nr d_Mo_rest_32 (by rfl) ?_
    refine rx_getfield d_Mo_rest_33 fl_Mo_59 (mr0 ha) (by rfl) ?_
    rw [show S.1 2 = nI n from hN.1]
    refine rx_icmp_ge (tgt := 135) d_Mo_rest_36 (by rfl) (fun z => absurd z (nI_ge (by omega) (by omega))) (fun c36 => ?_)
    refine rx_aload_nr d_Mo_rest_39 (by rfl) ?_
    refine rx_iload_n d_Mo_rest_40 (by rfl) ?_
    refine rx_iload d_Mo_rest_41 (by rfl) ?_
    refine rx_cV d_Mo_rest_43 (by rfl) ml_Mo_228 im_Mo_isRest se_Mo_isRest (by exact c9_Mo_isRest) (mr0 ha) (by rfl) (by exact Nat.le_of_ble_eq_true rfl) (k_isRest (d := d + 1) ha hN q p (b := b) (by omega)) ?_
    rw [decide_eq_true hbl, Bool.true_and]
    refine rx_if_eq (tgt := 70) d_Mo_rest_46 (by rfl) (fun c46 => ?_) (fun c46 => ?_)
    · refine rx_iconst (v := 0) d_Mo_rest_70 (by decide) ?_
      first
        | exact e71 0 ⟨fun z => absurd rfl z, fun z => by rw [bi_0.mp c46] at z; cases z⟩
        | exact e71 1 ⟨fun _ => by rw [bi_1.mp c46, g0 c51]; rfl, fun _ => by decide⟩
        | exact e71 0 ⟨fun z => absurd rfl z, fun z => by have y := Bool.and_eq_true_iff.mp (bi_1.mp c63); rw [y.1, y.2] at z; cases z⟩
        | exact e71 1 ⟨fun _ => by have y := bi_0.mp c63; rw [bi_1.mp c46] at y ⊢; rw [Bool.true_and] at y; rw [y]; rfl, fun _ => by decide⟩
    · refine rx_iload d_Mo_rest_49 (by rfl) ?_
      refine rx_if_eq (tgt := 66) d_Mo_rest_51 (by rfl) (fun c51 => ?_) (fun c51 => ?_)
      · have c51 : b = 0 := (nI_eq (b := 0) (by omega) (by omega)).mp c51
        refine rx_iconst (v := 1) d_Mo_rest_66 (by decide) ?_
        refine rx_goto (tgt := 71) d_Mo_rest_67 (by rfl) ?_
        first
          | exact e71 0 ⟨fun z => absurd rfl z, fun z => by rw [bi_0.mp c46] at z; cases z⟩
          | exact e71 1 ⟨fun _ => by rw [bi_1.mp c46, g0 c51]; rfl, fun _ => by decide⟩
          | exact e71 0 ⟨fun z => absurd rfl z, fun z => by have y := Bool.and_eq_true_iff.mp (bi_1.mp c63); rw [y.1, y.2] at z; cases z⟩
          | exact e71 1 ⟨fun _ => by have y := bi_0.mp c63; rw [bi_1.mp c46] at y ⊢; rw [Bool.true_and] at y; rw [y]; rfl, fun _ => by decide⟩
      · have c51 : b ≠ 0 := fun z => c51 (by rw [z]; rfl)
        refine rx_aload_nr d_Mo_rest_54 (by rfl) ?_
        refine rx_iload_n d_Mo_rest_55 (by rfl) ?_
        refine rx_iload d_Mo_rest_56 (by rfl) ?_
        refine rx_iconst (v := 1) d_Mo_rest_58 (by decide) ?_
        refine rx_isub d_Mo_rest_59 ?_
        rw [nI_p1 (by omega)]
        refine rx_cV d_Mo_rest_60 (by rfl) ml_Mo_231 im_Mo_joins se_Mo_joins (by exact c9_Mo_joins) (mr0 ha) (by rfl) (by exact Nat.le_of_ble_eq_true rfl) (k_joins ha hN hv q p (b := b - 1) (by omega)) ?_
        rw [j0 c51]
        refine rx_if_ne (tgt := 70) d_Mo_rest_63 (by rfl) (fun c63 => ?_) (fun c63 => ?_)
        · refine rx_iconst (v := 0) d_Mo_rest_70 (by decide) ?_
          first
            | exact e71 0 ⟨fun z => absurd rfl z, fun z => by rw [bi_0.mp c46] at z; cases z⟩
            | exact e71 1 ⟨fun _ => by rw [bi_1.mp c46, g0 c51]; rfl, fun _ => by decide⟩
            | exact e71 0 ⟨fun z => absurd rfl z, fun z => by have y := Bool.and_eq_true_iff.mp (bi_1.mp c63); rw [y.1, y.2] at z; cases z⟩
            | exact e71 1 ⟨fun _ => by have y := bi_0.mp c63; rw [bi_1.mp c46] at y ⊢; rw [Bool.true_and] at y; rw [y]; rfl, fun _ => by decide⟩
        · refine rx_iconst (v := 1) d_Mo_rest_66 (by decide) ?_
          refine rx_goto (tgt := 71) d_Mo_rest_67 (by rfl) ?_
          first
            | exact e71 0 ⟨fun z => absurd rfl z, fun z => by rw [bi_0.mp c46] at z; cases z⟩
            | exact e71 1 ⟨fun _ => by rw [bi_1.mp c46, g0 c51]; rfl, fun _ => by decide⟩
            | exact e71 0 ⟨fun z => absurd rfl z, fun z => by have y := Bool.and_eq_true_iff.mp (bi_1.mp c63); rw [y.1, y.2] at z; cases z⟩
            | exact e71 1 ⟨fun _ => by have y := bi_0.mp c63; rw [bi_1.mp c46] at y ⊢; rw [Bool.true_and] at y; rw [y]; rfl, fun _ => by decide⟩
theorem k_rest0 (ha : a = V.2.1 + h1.length) (hN : mN n S) (hv : vok n (S.2.2 4)) (q : mQ n num S) {p : Int32} (hp : ¬ iwn p 0 2 = 0) (i : Int32) : rx_C V (d + 8) kc ks m_Mo_rest [.ref a, .int p, .int i] (mw V h1 a S h2) (mPo V h1 a S h2 (.inl (some (.int (rsf n (rsB (MS S) num p) (goB n (S.2.2 2) (S.2.2 4) (MS S) num p) i 0 0 n)))) 0) := by
  refine rx_aload_nr d_Mo_rest_0 (by rfl) ?_
  refine rx_iload_n d_Mo_rest_1 (by rfl) ?_
  refine rx_cS d_Mo_rest_2 ml_Mo_81 st_Mo_isPart (by exact c9_Mo_isPart) (by rfl) (by exact Nat.le_of_ble_eq_true rfl) (k_isPart p) ?_
  refine rx_if_eq (tgt := 12) d_Mo_rest_5 (by rfl) (fun z => absurd z hp) (fun c5 => ?_)
  refine rx_iconst (v := 0) d_Mo_rest_8 (by decide) ?_
  refine rx_goto (tgt := 13) d_Mo_rest_9 (by rfl) ?_
  refine m_putI (k9 := 1) ha d_Mo_rest_13 (fw_Mo_63 rfl) (by rfl) (by rfl) (by rfl) ?_
  refine rx_aload_nr d_Mo_rest_16 (by rfl) ?_
  refine rx_getfield d_Mo_rest_17 fl_Mo_63 (mr0 ha) (by rfl) ?_
  rw [show (sS S 1 0).1 1 = 0 from rfl]
  refine rx_if_le (tgt := 25) d_Mo_rest_20 (by rfl) (fun c20 => ?_) (fun z => absurd (show (0 : Int32) ≤ 0 by decide) z)
  refine rx_iconst (v := 0) d_Mo_rest_25 (by decide) ?_
  refine rx_istore_n d_Mo_rest_26 (Nat.le_of_ble_eq_true rfl) ?_
  refine rx_iconst (v := 0) d_Mo_rest_27 (by decide) ?_
  refine rx_istore d_Mo_rest_28 (Nat.le_of_ble_eq_true rfl) ?_
  exact rx_exact (l_rest30 (S := sS S 1 0) (d := d + 4) ha hN hv q n 0 0 _ _ (by omega)) ⟨rfl, sS S 1 0, rfl, mE2.s1, rfl⟩
end MNT
