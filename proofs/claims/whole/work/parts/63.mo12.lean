/-! the reference's calls: bar, sign, signAt -/
def msF (i : Nat) : Int32 := match i with
  | 1 => 4
  | 2 => 15
  | 7 => 12
  | _ => 1
def lsF (i : Nat) : Int32 := if i = 1 then 2 else 1
theorem iwn_k {x : Int32} (h : ¬ iwn x 0 9 = 0) : ∃ k, k < 10 ∧ x = nI k := by
  obtain ⟨k, hk, e⟩ := vp_in_of (iwn_in h) (by omega)
  exact ⟨k, hk, e⟩
theorem pgh_b {n : Nat} {b : Int32} (hn : n ≤ 20) (h : ¬ pgh n b = 0) : ∃ k, k < n ∧ b = nI k := by
  obtain ⟨k, hk, e⟩ := vp_in_of (pgl_1 (Le := fun _ => 0) hn h).1 (by omega)
  exact ⟨k, hk, e⟩
theorem mE2.s1 {S : mT} {v : Int32} : mE2 S (sS S 1 v) := ⟨rfl, rfl, fun _ _ => rfl⟩
section MBS
variable {V : rx_V} {d kc ks : Nat} {h h1 h2 : List va_E} {a n num N : Nat} {S S0 : mT} {f : Nat → Int32} {Q : rx_R → List va_E → Prop}
theorem l_bar (ha : a = V.2.1 + h1.length) (q : mQ n num S) {b l t : Int32} (K : ∀ y, rx_W V (d + 2) kc ks m_Mo_bar 102 [some (.ref a), some (.int b), some (.int l), some (.int t), y] [] (mw V h1 a (sS S 1 (if (fix (fun k => decide (MS S k 1 = b ∧ l < MS S k 2 + MS S k 3)) 0 num).isSome = true then 2 else 0)) h2) Q) :
    ∀ (m i : Nat), i + m = num → fix (fun k => decide (MS S k 1 = b ∧ l < MS S k 2 + MS S k 3)) 0 num = fix (fun k => decide (MS S k 1 = b ∧ l < MS S k 2 + MS S k 3)) i m → rx_W V (d + 2) kc ks m_Mo_bar 41 [some (.ref a), some (.int b), some (.int l), some (.int t), some (.int (nI i))] [] (mw V h1 a (sS S 1 0) h2) Q := by
  have hq := q.2
  have e6 : ∀ v, (sS S 1 v).1 6 = nI num := fun _ => q.1
  intro m
  induction m with
  | zero =>
    intro i hi hf
    have e : i = num := by omega
    subst e
    rw [hf, show (fix (fun k => decide (MS S k 1 = b ∧ l < MS S k 2 + MS S k 3)) i 0).isSome = false from rfl, if_neg (by decide)] at K
    refine rx_iload d_Mo_bar_41 (by rfl) ?_
    refine rx_aload_nr d_Mo_bar_43 (by rfl) ?_
    refine rx_getfield d_Mo_bar_44 fl_Mo_78 (mr0 ha) (by rfl) ?_
    rw [e6]
    refine rx_icmp_ge (tgt := 102) d_Mo_bar_47 (by rfl) (fun c47 => ?_) (fun z => absurd (Int32.le_refl _) z)
    exact K _
  | succ m ih =>
    intro i hi hf
    have e41 : (fix (fun k => decide (MS S k 1 = b ∧ l < MS S k 2 + MS S k 3)) 0 num).isSome = true → rx_W V (d + 2) kc ks m_Mo_bar 41 [some (.ref a), some (.int b), some (.int l), some (.int t), some (.int (nI (i + 1)))] [] (mw V h1 a (sS S 1 2) h2) Q := by
      intro z
      rw [if_pos z] at K
      refine rx_iload d_Mo_bar_41 (by rfl) ?_
      refine rx_aload_nr d_Mo_bar_43 (by rfl) ?_
      refine rx_getfield d_Mo_bar_44 fl_Mo_78 (mr0 ha) (by rfl) ?_
      rw [e6]
      refine rx_icmp_ge (tgt := 102) d_Mo_bar_47 (by rfl) (fun c47 => ?_) (fun c47 => ?_)
      · exact K _
      · refine rx_aload_nr d_Mo_bar_50 (by rfl) ?_
        refine rx_getfield d_Mo_bar_51 fl_Mo_63 (mr0 ha) (by rfl) ?_
        rw [show (sS S 1 2).1 1 = 2 from rfl]
        refine rx_if_ne (tgt := 102) d_Mo_bar_54 (by rfl) (fun c54 => ?_) (fun z => absurd z (show ¬ (2 : Int32) = 0 by decide))
        exact K _
    refine rx_iload d_Mo_bar_41 (by rfl) ?_
    refine rx_aload_nr d_Mo_bar_43 (by rfl) ?_
    refine rx_getfield d_Mo_bar_44 fl_Mo_78 (mr0 ha) (by rfl) ?_
    rw [e6]
    refine rx_icmp_ge (tgt := 102) d_Mo_bar_47 (by rfl) (fun z => absurd z (nI_ge (by omega) (by omega))) (fun c47 => ?_)
    refine rx_aload_nr d_Mo_bar_50 (by rfl) ?_
    refine rx_getfield d_Mo_bar_51 fl_Mo_63 (mr0 ha) (by rfl) ?_
    rw [show (sS S 1 0).1 1 = 0 from rfl]
    refine rx_if_ne (tgt := 102) d_Mo_bar_54 (by rfl) (fun z => absurd (rfl : (0 : Int32) = 0) z) (fun c54 => ?_)
    refine rx_aload_nr d_Mo_bar_57 (by rfl) ?_
    refine rx_aload_nr d_Mo_bar_58 (by rfl) ?_
    refine rx_getfield d_Mo_bar_59 fl_Mo_25 (mr0 ha) (by rfl) ?_
    refine rx_iload d_Mo_bar_62 (by rfl) ?_
    refine m_ial (j := 6) ha d_Mo_bar_64 (by rfl) (by omega) (by decide) ?_
    refine rx_iload_n d_Mo_bar_65 (by rfl) ?_
    refine rx_icmp_ne (tgt := 92) d_Mo_bar_66 (by rfl) (fun c66 => ?_) (fun c66 => ?_)
    · refine rx_iconst (v := 0) d_Mo_bar_92 (by decide) ?_
      refine m_putI (k9 := 1) ha d_Mo_bar_93 (fw_Mo_63 rfl) (by rfl) (by rfl) (by rfl) ?_
      rw [sS_sS]
      refine rx_iinc (v := nI (i + 1)) d_Mo_bar_96 (by rfl) (i_inc i) ?_
      refine rx_goto (tgt := 41) d_Mo_bar_99 (by rfl) ?_
      first
        | exact ih (i + 1) (by omega) (hf.trans (fix_no (Pr := (fun k => decide (MS S k 1 = b ∧ l < MS S k 2 + MS S k 3))) (decide_eq_false (fun z => c66 z.1))))
        | exact ih (i + 1) (by omega) (hf.trans (fix_no (Pr := (fun k => decide (MS S k 1 = b ∧ l < MS S k 2 + MS S k 3))) (decide_eq_false (fun z => i_nlt c85 z.2))))
        | exact e41 (by rw [hf, fix_yes (Pr := (fun k => decide (MS S k 1 = b ∧ l < MS S k 2 + MS S k 3))) (decide_eq_true ⟨c66, i_nle c85⟩)]; rfl)
    · refine rx_aload_nr d_Mo_bar_69 (by rfl) ?_
      refine rx_getfield d_Mo_bar_70 fl_Mo_28 (mr0 ha) (by rfl) ?_
      refine rx_iload d_Mo_bar_73 (by rfl) ?_
      refine m_ial (j := 7) ha d_Mo_bar_75 (by rfl) (by omega) (by decide) ?_
      refine rx_aload_nr d_Mo_bar_76 (by rfl) ?_
      refine rx_getfield d_Mo_bar_77 fl_Mo_31 (mr0 ha) (by rfl) ?_
      refine rx_iload d_Mo_bar_80 (by rfl) ?_
      refine m_ial (j := 8) ha d_Mo_bar_82 (by rfl) (by omega) (by decide) ?_
      refine rx_iadd d_Mo_bar_83 ?_
      refine rx_iload_n d_Mo_bar_84 (by rfl) ?_
      refine rx_icmp_le (tgt := 92) d_Mo_bar_85 (by rfl) (fun c85 => ?_) (fun c85 => ?_)
      · refine rx_iconst (v := 0) d_Mo_bar_92 (by decide) ?_
        refine m_putI (k9 := 1) ha d_Mo_bar_93 (fw_Mo_63 rfl) (by rfl) (by rfl) (by rfl) ?_
        rw [sS_sS]
        refine rx_iinc (v := nI (i + 1)) d_Mo_bar_96 (by rfl) (i_inc i) ?_
        refine rx_goto (tgt := 41) d_Mo_bar_99 (by rfl) ?_
        first
          | exact ih (i + 1) (by omega) (hf.trans (fix_no (Pr := (fun k => decide (MS S k 1 = b ∧ l < MS S k 2 + MS S k 3))) (decide_eq_false (fun z => c66 z.1))))
          | exact ih (i + 1) (by omega) (hf.trans (fix_no (Pr := (fun k => decide (MS S k 1 = b ∧ l < MS S k 2 + MS S k 3))) (decide_eq_false (fun z => i_nlt c85 z.2))))
          | exact e41 (by rw [hf, fix_yes (Pr := (fun k => decide (MS S k 1 = b ∧ l < MS S k 2 + MS S k 3))) (decide_eq_true ⟨c66, i_nle c85⟩)]; rfl)
      · refine rx_iconst (v := 2) d_Mo_bar_88 (by decide) ?_
        refine rx_goto (tgt := 93) d_Mo_bar_89 (by rfl) ?_
        refine m_putI (k9 := 1) ha d_Mo_bar_93 (fw_Mo_63 rfl) (by rfl) (by rfl) (by rfl) ?_
        rw [sS_sS]
        refine rx_iinc (v := nI (i + 1)) d_Mo_bar_96 (by rfl) (i_inc i) ?_
        refine rx_goto (tgt := 41) d_Mo_bar_99 (by rfl) ?_
        first
          | exact ih (i + 1) (by omega) (hf.trans (fix_no (Pr := (fun k => decide (MS S k 1 = b ∧ l < MS S k 2 + MS S k 3))) (decide_eq_false (fun z => c66 z.1))))
          | exact ih (i + 1) (by omega) (hf.trans (fix_no (Pr := (fun k => decide (MS S k 1 = b ∧ l < MS S k 2 + MS S k 3))) (decide_eq_false (fun z => i_nlt c85 z.2))))
          | exact e41 (by rw [hf, fix_yes (Pr := (fun k => decide (MS S k 1 = b ∧ l < MS S k 2 + MS S k 3))) (decide_eq_true ⟨c66, i_nle c85⟩)]; rfl)
theorem k_bar1 (ha : a = V.2.1 + h1.length) (hN : mN n S) (q : mQ n num S) {b l t : Int32} (hx : (pgh n b = 0 ∨ iwn l 1 32 = 0 ∨ iwn t 1 1000 = 0)) : rx_C V (d + 8) kc ks m_Mo_bar [.ref a, .int b, .int l, .int t] (mw V h1 a S h2) (mPo V h1 a S h2 (.inl none) 1) := by
  have e41 : rx_W V (d + 8) kc ks m_Mo_bar 41 [some (.ref a), some (.int b), some (.int l), some (.int t), some (.int 0)] [] (mw V h1 a (sS S 1 1) h2) (mPo V h1 a S h2 (.inl none) 1) := by
    refine rx_iload d_Mo_bar_41 (by rfl) ?_
    refine rx_aload_nr d_Mo_bar_43 (by rfl) ?_
    refine rx_getfield d_Mo_bar_44 fl_Mo_78 (mr0 ha) (by rfl) ?_
    refine rx_icmp_ge (tgt := 102) d_Mo_bar_47 (by rfl) (fun c47 => ?_) (fun c47 => ?_)
    · refine rx_aload_nr d_Mo_bar_102 (by rfl) ?_
      refine rx_getfield d_Mo_bar_103 fl_Mo_63 (mr0 ha) (by rfl) ?_
      rw [show (sS S 1 1).1 1 = 1 from rfl]
      refine rx_if_ne (tgt := 123) d_Mo_bar_106 (by rfl) (fun c106 => ?_) (fun z => absurd z (show ¬ (1 : Int32) = 0 by decide))
      refine rx_vreturn d_Mo_bar_123 (by rfl) ?_
      exact ⟨rfl, sS S 1 1, rfl, mE2.s1, rfl⟩
    · refine rx_aload_nr d_Mo_bar_50 (by rfl) ?_
      refine rx_getfield d_Mo_bar_51 fl_Mo_63 (mr0 ha) (by rfl) ?_
      rw [show (sS S 1 1).1 1 = 1 from rfl]
      refine rx_if_ne (tgt := 102) d_Mo_bar_54 (by rfl) (fun c54 => ?_) (fun z => absurd z (show ¬ (1 : Int32) = 0 by decide))
      refine rx_aload_nr d_Mo_bar_102 (by rfl) ?_
      refine rx_getfield d_Mo_bar_103 fl_Mo_63 (mr0 ha) (by rfl) ?_
      rw [show (sS S 1 1).1 1 = 1 from rfl]
      refine rx_if_ne (tgt := 123) d_Mo_bar_106 (by rfl) (fun c106 => ?_) (fun z => absurd z (show ¬ (1 : Int32) = 0 by decide))
      refine rx_vreturn d_Mo_bar_123 (by rfl) ?_
      exact ⟨rfl, sS S 1 1, rfl, mE2.s1, rfl⟩
  refine rx_aload_nr d_Mo_bar_0 (by rfl) ?_
  refine rx_aload_nr d_Mo_bar_1 (by rfl) ?_
  refine rx_iload_n d_Mo_bar_2 (by rfl) ?_
  refine rx_cV d_Mo_bar_3 (by rfl) ml_Mo_74 im_Mo_isBar se_Mo_isBar (by exact c9_Mo_isBar) (mr0 ha) (by rfl) (by exact Nat.le_of_ble_eq_true rfl) (k_isBar (d := d + 6) ha hN b) ?_
  refine rx_if_eq (tgt := 34) d_Mo_bar_6 (by rfl) (fun c6 => ?_) (fun c6 => ?_)
  · refine rx_iconst (v := 1) d_Mo_bar_34 (by decide) ?_
    refine m_putI (k9 := 1) ha d_Mo_bar_35 (fw_Mo_63 rfl) (by rfl) (by rfl) (by rfl) ?_
    refine rx_iconst (v := 0) d_Mo_bar_38 (by decide) ?_
    refine rx_istore d_Mo_bar_39 (Nat.le_of_ble_eq_true rfl) ?_
    first | exact e41 | exact absurd hx (fun z => z.elim c6 (fun y => y.elim c16 c27))
  · refine rx_iload_n d_Mo_bar_9 (by rfl) ?_
    refine rx_iconst (v := 1) d_Mo_bar_10 (by decide) ?_
    refine rx_bipush (v := 32) d_Mo_bar_11 (by decide) ?_
    refine rx_cS d_Mo_bar_13 ml_Mo_66 st_Mo_within (by exact c9_Mo_within) (by rfl) (by exact Nat.le_of_ble_eq_true rfl) (k_within l 1 32) ?_
    refine rx_if_eq (tgt := 34) d_Mo_bar_16 (by rfl) (fun c16 => ?_) (fun c16 => ?_)
    · refine rx_iconst (v := 1) d_Mo_bar_34 (by decide) ?_
      refine m_putI (k9 := 1) ha d_Mo_bar_35 (fw_Mo_63 rfl) (by rfl) (by rfl) (by rfl) ?_
      refine rx_iconst (v := 0) d_Mo_bar_38 (by decide) ?_
      refine rx_istore d_Mo_bar_39 (Nat.le_of_ble_eq_true rfl) ?_
      first | exact e41 | exact absurd hx (fun z => z.elim c6 (fun y => y.elim c16 c27))
    · refine rx_iload_n d_Mo_bar_19 (by rfl) ?_
      refine rx_iconst (v := 1) d_Mo_bar_20 (by decide) ?_
      refine rx_sipush (v := 1000) d_Mo_bar_21 (by decide) ?_
      refine rx_cS d_Mo_bar_24 ml_Mo_66 st_Mo_within (by exact c9_Mo_within) (by rfl) (by exact Nat.le_of_ble_eq_true rfl) (k_within t 1 1000) ?_
      refine rx_if_eq (tgt := 34) d_Mo_bar_27 (by rfl) (fun c27 => ?_) (fun c27 => ?_)
      · refine rx_iconst (v := 1) d_Mo_bar_34 (by decide) ?_
        refine m_putI (k9 := 1) ha d_Mo_bar_35 (fw_Mo_63 rfl) (by rfl) (by rfl) (by rfl) ?_
        refine rx_iconst (v := 0) d_Mo_bar_38 (by decide) ?_
        refine rx_istore d_Mo_bar_39 (Nat.le_of_ble_eq_true rfl) ?_
        first | exact e41 | exact absurd hx (fun z => z.elim c6 (fun y => y.elim c16 c27))
      · refine rx_iconst (v := 0) d_Mo_bar_30 (by decide) ?_
        refine rx_goto (tgt := 35) d_Mo_bar_31 (by rfl) ?_
        refine m_putI (k9 := 1) ha d_Mo_bar_35 (fw_Mo_63 rfl) (by rfl) (by rfl) (by rfl) ?_
        refine rx_iconst (v := 0) d_Mo_bar_38 (by decide) ?_
        refine rx_istore d_Mo_bar_39 (Nat.le_of_ble_eq_true rfl) ?_
        first | exact e41 | exact absurd hx (fun z => z.elim c6 (fun y => y.elim c16 c27))
theorem k_barX (ha : a = V.2.1 + h1.length) (hN : mN n S) (q : mQ n num S) {b l t : Int32} (hx : ¬ (pgh n b = 0 ∨ iwn l 1 32 = 0 ∨ iwn t 1 1000 = 0)) (K : ∀ y, rx_W V (d + 8) kc ks m_Mo_bar 102 [some (.ref a), some (.int b), some (.int l), some (.int t), y] [] (mw V h1 a (sS S 1 (if (fix (fun k => decide (MS S k 1 = b ∧ l < MS S k 2 + MS S k 3)) 0 num).isSome = true then 2 else 0)) h2) Q) : rx_C V (d + 8) kc ks m_Mo_bar [.ref a, .int b, .int l, .int t] (mw V h1 a S h2) Q := by
  refine rx_aload_nr d_Mo_bar_0 (by rfl) ?_
  refine rx_aload_nr d_Mo_bar_1 (by rfl) ?_
  refine rx_iload_n d_Mo_bar_2 (by rfl) ?_
  refine rx_cV d_Mo_bar_3 (by rfl) ml_Mo_74 im_Mo_isBar se_Mo_isBar (by exact c9_Mo_isBar) (mr0 ha) (by rfl) (by exact Nat.le_of_ble_eq_true rfl) (k_isBar (d := d + 6) ha hN b) ?_
  refine rx_if_eq (tgt := 34) d_Mo_bar_6 (by rfl) (fun z => absurd z (fun z => hx (Or.inl z))) (fun c6 => ?_)
  refine rx_iload_n d_Mo_bar_9 (by rfl) ?_
  refine rx_iconst (v := 1) d_Mo_bar_10 (by decide) ?_
  refine rx_bipush (v := 32) d_Mo_bar_11 (by decide) ?_
  refine rx_cS d_Mo_bar_13 ml_Mo_66 st_Mo_within (by exact c9_Mo_within) (by rfl) (by exact Nat.le_of_ble_eq_true rfl) (k_within l 1 32) ?_
  refine rx_if_eq (tgt := 34) d_Mo_bar_16 (by rfl) (fun z => absurd z (fun z => hx (Or.inr (Or.inl z)))) (fun c16 => ?_)
  refine rx_iload_n d_Mo_bar_19 (by rfl) ?_
  refine rx_iconst (v := 1) d_Mo_bar_20 (by decide) ?_
  refine rx_sipush (v := 1000) d_Mo_bar_21 (by decide) ?_
  refine rx_cS d_Mo_bar_24 ml_Mo_66 st_Mo_within (by exact c9_Mo_within) (by rfl) (by exact Nat.le_of_ble_eq_true rfl) (k_within t 1 1000) ?_
  refine rx_if_eq (tgt := 34) d_Mo_bar_27 (by rfl) (fun z => absurd z (fun z => hx (Or.inr (Or.inr z)))) (fun c27 => ?_)
  refine rx_iconst (v := 0) d_Mo_bar_30 (by decide) ?_
  refine rx_goto (tgt := 35) d_Mo_bar_31 (by rfl) ?_
  refine m_putI (k9 := 1) ha d_Mo_bar_35 (fw_Mo_63 rfl) (by rfl) (by rfl) (by rfl) ?_
  refine rx_iconst (v := 0) d_Mo_bar_38 (by decide) ?_
  refine rx_istore d_Mo_bar_39 (Nat.le_of_ble_eq_true rfl) ?_
  exact l_bar (d := d + 6) ha q K num 0 (by omega) rfl
theorem k_bar2 (ha : a = V.2.1 + h1.length) (hN : mN n S) (q : mQ n num S) {b l t : Int32} (hx : ¬ (pgh n b = 0 ∨ iwn l 1 32 = 0 ∨ iwn t 1 1000 = 0)) (hy : (fix (fun k => decide (MS S k 1 = b ∧ l < MS S k 2 + MS S k 3)) 0 num).isSome = true) : rx_C V (d + 8) kc ks m_Mo_bar [.ref a, .int b, .int l, .int t] (mw V h1 a S h2) (mPo V h1 a S h2 (.inl none) 2) := by
  refine k_barX ha hN q hx (fun y => ?_)
  rw [if_pos hy]
  refine rx_aload_nr d_Mo_bar_102 (by rfl) ?_
  refine rx_getfield d_Mo_bar_103 fl_Mo_63 (mr0 ha) (by rfl) ?_
  rw [show (sS S 1 2).1 1 = 2 from rfl]
  refine rx_if_ne (tgt := 123) d_Mo_bar_106 (by rfl) (fun c106 => ?_) (fun z => absurd z (show ¬ (2 : Int32) = 0 by decide))
  refine rx_vreturn d_Mo_bar_123 (by rfl) ?_
  exact ⟨rfl, sS S 1 2, rfl, mE2.s1, rfl⟩
theorem k_bar0 (ha : a = V.2.1 + h1.length) (hN : mN n S) (q : mQ n num S) {b0 : Nat} (hb0 : b0 < n) {l t : Int32} (hx : ¬ (iwn l 1 32 = 0 ∨ iwn t 1 1000 = 0)) (hy : (fix (fun k => decide (MS S k 1 = nI b0 ∧ l < MS S k 2 + MS S k 3)) 0 num).isSome = false) : rx_C V (d + 8) kc ks m_Mo_bar [.ref a, .int (nI b0), .int l, .int t] (mw V h1 a S h2) (rx_X (.inl none) (mw V h1 a (sA (sA (sS S 1 0) 2 b0 l) 3 b0 t) h2)) := by
  have hn := hN.2
  refine k_barX (num := num) ha hN q (fun z => z.elim (fun y => by rw [pgh_bi (by omega), decide_eq_true hb0] at y; exact absurd y (by decide)) hx) (fun y => ?_)
  rw [if_neg (by rw [hy]; decide)]
  refine rx_aload_nr d_Mo_bar_102 (by rfl) ?_
  refine rx_getfield d_Mo_bar_103 fl_Mo_63 (mr0 ha) (by rfl) ?_
  rw [show (sS S 1 0).1 1 = 0 from rfl]
  refine rx_if_ne (tgt := 123) d_Mo_bar_106 (by rfl) (fun z => absurd (rfl : (0 : Int32) = 0) z) (fun c106 => ?_)
  refine rx_aload_nr d_Mo_bar_109 (by rfl) ?_
  refine rx_getfield d_Mo_bar_110 fl_Mo_13 (mr0 ha) (by rfl) ?_
  refine rx_iload_n d_Mo_bar_113 (by rfl) ?_
  refine rx_iload_n d_Mo_bar_114 (by rfl) ?_
  refine m_ias (j := 2) ha d_Mo_bar_115 (by rfl) (by omega) (by decide) (by rfl) (by decide) ?_
  refine rx_aload_nr d_Mo_bar_116 (by rfl) ?_
  refine rx_getfield d_Mo_bar_117 fl_Mo_16 (mr0 ha) (by rfl) ?_
  refine rx_iload_n d_Mo_bar_120 (by rfl) ?_
  refine rx_iload_n d_Mo_bar_121 (by rfl) ?_
  refine m_ias (j := 3) ha d_Mo_bar_122 (by rfl) (by omega) (by decide) (by rfl) (by decide) ?_
  refine rx_vreturn d_Mo_bar_123 (by rfl) ?_
  exact ⟨rfl, rfl⟩
theorem k_sign1 (ha : a = V.2.1 + h1.length) (hN : mN n S) {b k v : Int32} (hx : pgh n b = 0 ∨ iwn k 0 9 = 0) : rx_C V (d + 8) kc ks m_Mo_sign [.ref a, .int b, .int k, .int v] (mw V h1 a S h2) (mPo V h1 a S h2 (.inl (some (.int 0))) 1) := by
  have e27 : rx_W V (d + 8) kc ks m_Mo_sign 27 [some (.ref a), some (.int b), some (.int k), some (.int v), none, none] [] (mw V h1 a (sS S 1 1) h2) (mPo V h1 a S h2 (.inl (some (.int 0))) 1) := by
    refine rx_aload_nr d_Mo_sign_27 (by rfl) ?_
    refine rx_getfield d_Mo_sign_28 fl_Mo_63 (mr0 ha) (by rfl) ?_
    rw [show (sS S 1 1).1 1 = 1 from rfl]
    refine rx_if_le (tgt := 36) d_Mo_sign_31 (by rfl) (fun z => absurd z (show ¬ (1 : Int32) ≤ 0 by decide)) (fun c31 => ?_)
    refine rx_iconst (v := 0) d_Mo_sign_34 (by decide) ?_
    refine rx_zreturn d_Mo_sign_35 (by rfl) (by rfl) ?_
    exact ⟨rfl, sS S 1 1, rfl, mE2.s1, rfl⟩
  refine rx_aload_nr d_Mo_sign_0 (by rfl) ?_
  refine rx_aload_nr d_Mo_sign_1 (by rfl) ?_
  refine rx_iload_n d_Mo_sign_2 (by rfl) ?_
  refine rx_cV d_Mo_sign_3 (by rfl) ml_Mo_74 im_Mo_isBar se_Mo_isBar (by exact c9_Mo_isBar) (mr0 ha) (by rfl) (by exact Nat.le_of_ble_eq_true rfl) (k_isBar (d := d + 6) ha hN b) ?_
  refine rx_if_eq (tgt := 23) d_Mo_sign_6 (by rfl) (fun c6 => ?_) (fun c6 => ?_)
  · refine rx_iconst (v := 1) d_Mo_sign_23 (by decide) ?_
    refine m_putI (k9 := 1) ha d_Mo_sign_24 (fw_Mo_63 rfl) (by rfl) (by rfl) (by rfl) ?_
    first | exact e27 | exact absurd hx (fun z => z.elim c6 c16)
  · refine rx_iload_n d_Mo_sign_9 (by rfl) ?_
    refine rx_iconst (v := 0) d_Mo_sign_10 (by decide) ?_
    refine rx_bipush (v := 9) d_Mo_sign_11 (by decide) ?_
    refine rx_cS d_Mo_sign_13 ml_Mo_66 st_Mo_within (by exact c9_Mo_within) (by rfl) (by exact Nat.le_of_ble_eq_true rfl) (k_within k 0 9) ?_
    refine rx_if_eq (tgt := 23) d_Mo_sign_16 (by rfl) (fun c16 => ?_) (fun c16 => ?_)
    · refine rx_iconst (v := 1) d_Mo_sign_23 (by decide) ?_
      refine m_putI (k9 := 1) ha d_Mo_sign_24 (fw_Mo_63 rfl) (by rfl) (by rfl) (by rfl) ?_
      first | exact e27 | exact absurd hx (fun z => z.elim c6 c16)
    · refine rx_iconst (v := 0) d_Mo_sign_19 (by decide) ?_
      refine rx_goto (tgt := 24) d_Mo_sign_20 (by rfl) ?_
      refine m_putI (k9 := 1) ha d_Mo_sign_24 (fw_Mo_63 rfl) (by rfl) (by rfl) (by rfl) ?_
      first | exact e27 | exact absurd hx (fun z => z.elim c6 c16)
theorem k_signX (ha : a = V.2.1 + h1.length) (hN : mN n S) {b k : Nat} (hb9 : b < n) (hk : k < 10) {v : Int32} (K : rx_W V (d + 8) kc ks m_Mo_sign 48 [some (.ref a), some (.int (nI b)), some (.int (nI k)), some (.int v), some (.int (lsF k)), none] [] (mw V h1 a (sS S 1 0) h2) Q) : rx_C V (d + 8) kc ks m_Mo_sign [.ref a, .int (nI b), .int (nI k), .int v] (mw V h1 a S h2) Q := by
  have hn := hN.2
  have e27 : rx_W V (d + 8) kc ks m_Mo_sign 27 [some (.ref a), some (.int (nI b)), some (.int (nI k)), some (.int v), none, none] [] (mw V h1 a (sS S 1 0) h2) Q := by
    refine rx_aload_nr d_Mo_sign_27 (by rfl) ?_
    refine rx_getfield d_Mo_sign_28 fl_Mo_63 (mr0 ha) (by rfl) ?_
    rw [show (sS S 1 0).1 1 = 0 from rfl]
    refine rx_if_le (tgt := 36) d_Mo_sign_31 (by rfl) (fun c31 => ?_) (fun z => absurd (show (0 : Int32) ≤ 0 by decide) z)
    refine rx_iload_n d_Mo_sign_36 (by rfl) ?_
    refine rx_iconst (v := 1) d_Mo_sign_37 (by decide) ?_
    refine rx_icmp_ne (tgt := 45) d_Mo_sign_38 (by rfl) (fun c38 => ?_) (fun c38 => ?_)
    · rw [show lsF k = 1 from if_neg (fun z => c38 (by rw [z]; rfl))] at K
      refine rx_iconst (v := 1) d_Mo_sign_45 (by decide) ?_
      refine rx_istore d_Mo_sign_46 (Nat.le_of_ble_eq_true rfl) ?_
      exact K
    · rw [show lsF k = 2 from if_pos ((nI_eq (b := 1) (by omega) (by omega)).mp c38)] at K
      refine rx_iconst (v := 2) d_Mo_sign_41 (by decide) ?_
      refine rx_goto (tgt := 46) d_Mo_sign_42 (by rfl) ?_
      refine rx_istore d_Mo_sign_46 (Nat.le_of_ble_eq_true rfl) ?_
      exact K
  refine rx_aload_nr d_Mo_sign_0 (by rfl) ?_
  refine rx_aload_nr d_Mo_sign_1 (by rfl) ?_
  refine rx_iload_n d_Mo_sign_2 (by rfl) ?_
  refine rx_cV d_Mo_sign_3 (by rfl) ml_Mo_74 im_Mo_isBar se_Mo_isBar (by exact c9_Mo_isBar) (mr0 ha) (by rfl) (by exact Nat.le_of_ble_eq_true rfl) (k_isBar (d := d + 6) ha hN (nI b)) ?_
  rw [pgh_bi (by omega), decide_eq_true hb9]
  refine rx_if_eq (tgt := 23) d_Mo_sign_6 (by rfl) (fun z => absurd z (show ¬ bi true = 0 by decide)) (fun c6 => ?_)
  refine rx_iload_n d_Mo_sign_9 (by rfl) ?_
  refine rx_iconst (v := 0) d_Mo_sign_10 (by decide) ?_
  refine rx_bipush (v := 9) d_Mo_sign_11 (by decide) ?_
  refine rx_cS d_Mo_sign_13 ml_Mo_66 st_Mo_within (by exact c9_Mo_within) (by rfl) (by exact Nat.le_of_ble_eq_true rfl) (k_within (nI k) 0 9) ?_
  rw [show iwn (nI k) 0 9 = 1 from if_pos ⟨by rw [i_le, i_0, i_n (by omega)]; omega, by rw [i_le, i_n (by omega), show (9 : Int32).toInt = 9 from by decide]; omega⟩]
  refine rx_if_eq (tgt := 23) d_Mo_sign_16 (by rfl) (fun z => absurd z (show ¬ (1 : Int32) = 0 by decide)) (fun c16 => ?_)
  refine rx_iconst (v := 0) d_Mo_sign_19 (by decide) ?_
  refine rx_goto (tgt := 24) d_Mo_sign_20 (by rfl) ?_
  refine m_putI (k9 := 1) ha d_Mo_sign_24 (fw_Mo_63 rfl) (by rfl) (by rfl) (by rfl) ?_
  exact e27
theorem k_signV (ha : a = V.2.1 + h1.length) (hN : mN n S) (hm : ∀ i, i < 10 → S.2.2 1 i = msF i) {b k : Nat} (hb9 : b < n) (hk : k < 10) {v : Int32} (hx : ¬ (v = 0 ∨ ¬ iwn v (lsF k) (msF k) = 0)) : rx_C V (d + 8) kc ks m_Mo_sign [.ref a, .int (nI b), .int (nI k), .int v] (mw V h1 a S h2) (mPo V h1 a S h2 (.inl (some (.int 0))) 1) := by
  have hn := hN.2
  refine k_signX ha hN hb9 hk ?_
  refine rx_iload_n d_Mo_sign_48 (by rfl) ?_
  refine rx_if_eq (tgt := 74) d_Mo_sign_49 (by rfl) (fun z => absurd z (fun z => hx (Or.inl z))) (fun c49 => ?_)
  refine rx_iload_n d_Mo_sign_52 (by rfl) ?_
  refine rx_iload d_Mo_sign_53 (by rfl) ?_
  refine rx_aload_nr d_Mo_sign_55 (by rfl) ?_
  refine rx_getfield d_Mo_sign_56 fl_Mo_7 (mr0 ha) (by rfl) ?_
  refine rx_iload_n d_Mo_sign_59 (by rfl) ?_
  refine m_ial (j := 1) ha d_Mo_sign_60 (by rfl) (by omega) (by decide) ?_
  rw [show (sS S 1 0).2.2 1 k = msF k from hm k hk]
  refine rx_cS d_Mo_sign_61 ml_Mo_66 st_Mo_within (by exact c9_Mo_within) (by rfl) (by exact Nat.le_of_ble_eq_true rfl) (k_within v (lsF k) (msF k)) ?_
  refine rx_if_ne (tgt := 74) d_Mo_sign_64 (by rfl) (fun z => absurd (Decidable.not_not.mp (fun z => hx (Or.inr z))) z) (fun c64 => ?_)
  refine rx_aload_nr d_Mo_sign_67 (by rfl) ?_
  refine rx_iconst (v := 1) d_Mo_sign_68 (by decide) ?_
  refine m_putI (k9 := 1) ha d_Mo_sign_69 (fw_Mo_63 rfl) (by rfl) (by rfl) (by rfl) ?_
  rw [sS_sS]
  refine rx_iconst (v := 0) d_Mo_sign_72 (by decide) ?_
  refine rx_zreturn d_Mo_sign_73 (by rfl) (by rfl) ?_
  exact ⟨rfl, sS S 1 1, rfl, mE2.s1, rfl⟩
theorem k_signY (ha : a = V.2.1 + h1.length) (hN : mN n S) (hm : ∀ i, i < 10 → S.2.2 1 i = msF i) {b k : Nat} (hb9 : b < n) (hk : k < 10) {v : Int32} (hx : v = 0 ∨ ¬ iwn v (lsF k) (msF k) = 0) (K : rx_W V (d + 8) kc ks m_Mo_sign 87 [some (.ref a), some (.int (nI b)), some (.int (nI k)), some (.int v), some (.int (lsF k)), some (.int (S.2.2 4 (10 * b + k)))] [] (mw V h1 a (sS S 1 0) h2) Q) : rx_C V (d + 8) kc ks m_Mo_sign [.ref a, .int (nI b), .int (nI k), .int v] (mw V h1 a S h2) Q := by
  have hn := hN.2
  refine k_signX ha hN hb9 hk ?_
  have e74 : rx_W V (d + 8) kc ks m_Mo_sign 74 [some (.ref a), some (.int (nI b)), some (.int (nI k)), some (.int v), some (.int (lsF k)), none] [] (mw V h1 a (sS S 1 0) h2) Q := by
    refine rx_aload_nr d_Mo_sign_74 (by rfl) ?_
    refine rx_getfield d_Mo_sign_75 fl_Mo_19 (mr0 ha) (by rfl) ?_
    refine rx_bipush (v := 10) d_Mo_sign_78 (by decide) ?_
    refine rx_iload_n d_Mo_sign_80 (by rfl) ?_
    refine rx_imul d_Mo_sign_81 ?_
    refine rx_iload_n d_Mo_sign_82 (by rfl) ?_
    refine rx_iadd d_Mo_sign_83 ?_
    rw [show (10 : Int32) * nI b + nI k = nI (10 * b + k) by rw [show (10 : Int32) = nI 10 from rfl, pk_mul, nI_add]]
    refine m_ial (j := 4) ha d_Mo_sign_84 (by rfl) (by omega) (by decide) ?_
    refine rx_istore d_Mo_sign_85 (Nat.le_of_ble_eq_true rfl) ?_
    exact K
  refine rx_iload_n d_Mo_sign_48 (by rfl) ?_
  refine rx_if_eq (tgt := 74) d_Mo_sign_49 (by rfl) (fun c49 => ?_) (fun c49 => ?_)
  · exact e74
  · refine rx_iload_n d_Mo_sign_52 (by rfl) ?_
    refine rx_iload d_Mo_sign_53 (by rfl) ?_
    refine rx_aload_nr d_Mo_sign_55 (by rfl) ?_
    refine rx_getfield d_Mo_sign_56 fl_Mo_7 (mr0 ha) (by rfl) ?_
    refine rx_iload_n d_Mo_sign_59 (by rfl) ?_
    refine m_ial (j := 1) ha d_Mo_sign_60 (by rfl) (by omega) (by decide) ?_
    rw [show (sS S 1 0).2.2 1 k = msF k from hm k hk]
    refine rx_cS d_Mo_sign_61 ml_Mo_66 st_Mo_within (by exact c9_Mo_within) (by rfl) (by exact Nat.le_of_ble_eq_true rfl) (k_within v (lsF k) (msF k)) ?_
    refine rx_if_ne (tgt := 74) d_Mo_sign_64 (by rfl) (fun c64 => ?_) (fun z => absurd z (hx.elim (fun z => absurd z c49) id))
    exact e74
theorem k_signE (ha : a = V.2.1 + h1.length) (hN : mN n S) (hm : ∀ i, i < 10 → S.2.2 1 i = msF i) {b k : Nat} (hb9 : b < n) (hk : k < 10) {v : Int32} (hx : v = 0 ∨ ¬ iwn v (lsF k) (msF k) = 0) (he : v = S.2.2 4 (10 * b + k)) : rx_C V (d + 8) kc ks m_Mo_sign [.ref a, .int (nI b), .int (nI k), .int v] (mw V h1 a S h2) (mPo V h1 a S h2 (.inl (some (.int 0))) 0) := by
  refine k_signY ha hN hm hb9 hk hx ?_
  refine rx_iload d_Mo_sign_87 (by rfl) ?_
  refine rx_iload_n d_Mo_sign_89 (by rfl) ?_
  refine rx_icmp_ne (tgt := 95) d_Mo_sign_90 (by rfl) (fun z => absurd he.symm z) (fun c90 => ?_)
  refine rx_iconst (v := 0) d_Mo_sign_93 (by decide) ?_
  refine rx_zreturn d_Mo_sign_94 (by rfl) (by rfl) ?_
  exact ⟨rfl, sS S 1 0, rfl, mE2.s1, rfl⟩
theorem k_sign2 (ha : a = V.2.1 + h1.length) (hN : mN n S) (hm : ∀ i, i < 10 → S.2.2 1 i = msF i) {b k : Nat} (hb9 : b < n) (hk : k < 10) {v : Int32} (hx : v = 0 ∨ ¬ iwn v (lsF k) (msF k) = 0) (he : v ≠ S.2.2 4 (10 * b + k)) (h0 : 0 < S.2.2 4 (10 * b + k)) (h01 : 0 < v) : rx_C V (d + 8) kc ks m_Mo_sign [.ref a, .int (nI b), .int (nI k), .int v] (mw V h1 a S h2) (mPo V h1 a S h2 (.inl (some (.int 0))) 2) := by
  refine k_signY ha hN hm hb9 hk hx ?_
  refine rx_iload d_Mo_sign_87 (by rfl) ?_
  refine rx_iload_n d_Mo_sign_89 (by rfl) ?_
  refine rx_icmp_ne (tgt := 95) d_Mo_sign_90 (by rfl) (fun c90 => ?_) (fun z => absurd z (Ne.symm he))
  refine rx_iload d_Mo_sign_95 (by rfl) ?_
  refine rx_if_le (tgt := 111) d_Mo_sign_97 (by rfl) (fun z => absurd z (fun z => i_nlt z h0)) (fun c97 => ?_)
  refine rx_iload_n d_Mo_sign_100 (by rfl) ?_
  refine rx_if_le (tgt := 111) d_Mo_sign_101 (by rfl) (fun z => absurd z (fun z => i_nlt z h01)) (fun c101 => ?_)
  refine rx_aload_nr d_Mo_sign_104 (by rfl) ?_
  refine rx_iconst (v := 2) d_Mo_sign_105 (by decide) ?_
  refine m_putI (k9 := 1) ha d_Mo_sign_106 (fw_Mo_63 rfl) (by rfl) (by rfl) (by rfl) ?_
  rw [sS_sS]
  refine rx_iconst (v := 0) d_Mo_sign_109 (by decide) ?_
  refine rx_zreturn d_Mo_sign_110 (by rfl) (by rfl) ?_
  exact ⟨rfl, sS S 1 2, rfl, mE2.s1, rfl⟩
theorem k_sign0 (ha : a = V.2.1 + h1.length) (hN : mN n S) (hm : ∀ i, i < 10 → S.2.2 1 i = msF i) {b k : Nat} (hb9 : b < n) (hk : k < 10) {v : Int32} (hx : v = 0 ∨ ¬ iwn v (lsF k) (msF k) = 0) (he : v ≠ S.2.2 4 (10 * b + k)) (h0 : ¬ (0 < S.2.2 4 (10 * b + k) ∧ 0 < v)) : rx_C V (d + 8) kc ks m_Mo_sign [.ref a, .int (nI b), .int (nI k), .int v] (mw V h1 a S h2) (rx_X (.inl (some (.int 1))) (mw V h1 a (sA (sS S 1 0) 4 (10 * b + k) v) h2)) := by
  have hn := hN.2
  refine k_signY ha hN hm hb9 hk hx ?_
  have e111 : rx_W V (d + 8) kc ks m_Mo_sign 111 [some (.ref a), some (.int (nI b)), some (.int (nI k)), some (.int v), some (.int (lsF k)), some (.int (S.2.2 4 (10 * b + k)))] [] (mw V h1 a (sS S 1 0) h2) (rx_X (.inl (some (.int 1))) (mw V h1 a (sA (sS S 1 0) 4 (10 * b + k) v) h2)) := by
    refine rx_aload_nr d_Mo_sign_111 (by rfl) ?_
    refine rx_getfield d_Mo_sign_112 fl_Mo_19 (mr0 ha) (by rfl) ?_
    refine rx_bipush (v := 10) d_Mo_sign_115 (by decide) ?_
    refine rx_iload_n d_Mo_sign_117 (by rfl) ?_
    refine rx_imul d_Mo_sign_118 ?_
    refine rx_iload_n d_Mo_sign_119 (by rfl) ?_
    refine rx_iadd d_Mo_sign_120 ?_
    refine rx_iload_n d_Mo_sign_121 (by rfl) ?_
    rw [show (10 : Int32) * nI b + nI k = nI (10 * b + k) by rw [show (10 : Int32) = nI 10 from rfl, pk_mul, nI_add]]
    refine m_ias (j := 4) ha d_Mo_sign_122 (by rfl) (by omega) (by decide) (by rfl) (by decide) ?_
    refine rx_iconst (v := 1) d_Mo_sign_123 (by decide) ?_
    refine rx_zreturn d_Mo_sign_124 (by rfl) (by rfl) ?_
    exact ⟨rfl, rfl⟩
  refine rx_iload d_Mo_sign_87 (by rfl) ?_
  refine rx_iload_n d_Mo_sign_89 (by rfl) ?_
  refine rx_icmp_ne (tgt := 95) d_Mo_sign_90 (by rfl) (fun c90 => ?_) (fun z => absurd z (Ne.symm he))
  refine rx_iload d_Mo_sign_95 (by rfl) ?_
  refine rx_if_le (tgt := 111) d_Mo_sign_97 (by rfl) (fun c97 => ?_) (fun c97 => ?_)
  · exact e111
  · refine rx_iload_n d_Mo_sign_100 (by rfl) ?_
    refine rx_if_le (tgt := 111) d_Mo_sign_101 (by rfl) (fun c101 => ?_) (fun c101 => ?_)
    · exact e111
    · exact absurd ⟨i_nle c97, i_nle c101⟩ h0
theorem k_signAt (ha : a = V.2.1 + h1.length) (hN : mN n S) (b k : Int32) : rx_C V (d + 8) kc ks m_Mo_signAt [.ref a, .int b, .int k] (mw V h1 a S h2) (mPo V h1 a S h2 (.inl (some (.int (pgv n (S.2.2 4) b k)))) 0) := by
  have hn := hN.2
  by_cases hb9 : pgh n b = 0
  · have z : pgv n (S.2.2 4) b k = 0 := by
      unfold pgh at hb9
      unfold pgv
      refine if_neg (fun y => ?_)
      rw [if_pos ⟨y.1, y.2.1⟩] at hb9
      exact absurd hb9 (by decide)
    rw [z]
    refine rx_aload_nr d_Mo_signAt_0 (by rfl) ?_
    refine rx_iconst (v := 0) d_Mo_signAt_1 (by decide) ?_
    refine m_putI (k9 := 1) ha d_Mo_signAt_2 (fw_Mo_63 rfl) (by rfl) (by rfl) (by rfl) ?_
    refine rx_aload_nr d_Mo_signAt_5 (by rfl) ?_
    refine rx_iload_n d_Mo_signAt_6 (by rfl) ?_
    refine rx_cV d_Mo_signAt_7 (by rfl) ml_Mo_74 im_Mo_isBar se_Mo_isBar (by exact c9_Mo_isBar) (mr0 ha) (by rfl) (by exact Nat.le_of_ble_eq_true rfl) (k_isBar (S := sS S 1 0) (d := d + 6) ha hN b) ?_
    refine rx_if_eq (tgt := 37) d_Mo_signAt_10 (by rfl) (fun c10 => ?_) (fun z => absurd hb9 z)
    refine rx_iconst (v := 0) d_Mo_signAt_37 (by decide) ?_
    refine rx_ireturn d_Mo_signAt_38 (by rfl) ?_
    exact ⟨rfl, sS S 1 0, rfl, mE2.s1, rfl⟩
  · by_cases hk9 : iwn k 0 9 = 0
    · have z : pgv n (S.2.2 4) b k = 0 := by
        unfold pgv
        refine if_neg (fun y => ?_)
        exact absurd hk9 (by unfold iwn; rw [if_pos ⟨by rw [i_le, i_0]; exact y.2.2.1, by rw [i_le, show (9 : Int32).toInt = 9 from by decide]; omega⟩]; decide)
      rw [z]
      refine rx_aload_nr d_Mo_signAt_0 (by rfl) ?_
      refine rx_iconst (v := 0) d_Mo_signAt_1 (by decide) ?_
      refine m_putI (k9 := 1) ha d_Mo_signAt_2 (fw_Mo_63 rfl) (by rfl) (by rfl) (by rfl) ?_
      refine rx_aload_nr d_Mo_signAt_5 (by rfl) ?_
      refine rx_iload_n d_Mo_signAt_6 (by rfl) ?_
      refine rx_cV d_Mo_signAt_7 (by rfl) ml_Mo_74 im_Mo_isBar se_Mo_isBar (by exact c9_Mo_isBar) (mr0 ha) (by rfl) (by exact Nat.le_of_ble_eq_true rfl) (k_isBar (S := sS S 1 0) (d := d + 6) ha hN b) ?_
      refine rx_if_eq (tgt := 37) d_Mo_signAt_10 (by rfl) (fun z => absurd z hb9) (fun c10 => ?_)
      refine rx_iload_n d_Mo_signAt_13 (by rfl) ?_
      refine rx_iconst (v := 0) d_Mo_signAt_14 (by decide) ?_
      refine rx_bipush (v := 9) d_Mo_signAt_15 (by decide) ?_
      refine rx_cS d_Mo_signAt_17 ml_Mo_66 st_Mo_within (by exact c9_Mo_within) (by rfl) (by exact Nat.le_of_ble_eq_true rfl) (k_within k 0 9) ?_
      refine rx_if_eq (tgt := 37) d_Mo_signAt_20 (by rfl) (fun c20 => ?_) (fun z => absurd hk9 z)
      refine rx_iconst (v := 0) d_Mo_signAt_37 (by decide) ?_
      refine rx_ireturn d_Mo_signAt_38 (by rfl) ?_
      exact ⟨rfl, sS S 1 0, rfl, mE2.s1, rfl⟩
    · obtain ⟨b0, hb0, rfl⟩ := pgh_b hn.2 hb9
      obtain ⟨k0, hk0, rfl⟩ := iwn_k hk9
      rw [pgv_k hn.2 hb0 hk0 rfl]
      refine rx_aload_nr d_Mo_signAt_0 (by rfl) ?_
      refine rx_iconst (v := 0) d_Mo_signAt_1 (by decide) ?_
      refine m_putI (k9 := 1) ha d_Mo_signAt_2 (fw_Mo_63 rfl) (by rfl) (by rfl) (by rfl) ?_
      refine rx_aload_nr d_Mo_signAt_5 (by rfl) ?_
      refine rx_iload_n d_Mo_signAt_6 (by rfl) ?_
      refine rx_cV d_Mo_signAt_7 (by rfl) ml_Mo_74 im_Mo_isBar se_Mo_isBar (by exact c9_Mo_isBar) (mr0 ha) (by rfl) (by exact Nat.le_of_ble_eq_true rfl) (k_isBar (S := sS S 1 0) (d := d + 6) ha hN (nI b0)) ?_
      refine rx_if_eq (tgt := 37) d_Mo_signAt_10 (by rfl) (fun z => absurd z hb9) (fun c10 => ?_)
      refine rx_iload_n d_Mo_signAt_13 (by rfl) ?_
      refine rx_iconst (v := 0) d_Mo_signAt_14 (by decide) ?_
      refine rx_bipush (v := 9) d_Mo_signAt_15 (by decide) ?_
      refine rx_cS d_Mo_signAt_17 ml_Mo_66 st_Mo_within (by exact c9_Mo_within) (by rfl) (by exact Nat.le_of_ble_eq_true rfl) (k_within (nI k0) 0 9) ?_
      refine rx_if_eq (tgt := 37) d_Mo_signAt_20 (by rfl) (fun z => absurd z hk9) (fun c20 => ?_)
      refine rx_aload_nr d_Mo_signAt_23 (by rfl) ?_
      refine rx_getfield d_Mo_signAt_24 fl_Mo_19 (mr0 ha) (by rfl) ?_
      refine rx_bipush (v := 10) d_Mo_signAt_27 (by decide) ?_
      refine rx_iload_n d_Mo_signAt_29 (by rfl) ?_
      refine rx_imul d_Mo_signAt_30 ?_
      refine rx_iload_n d_Mo_signAt_31 (by rfl) ?_
      refine rx_iadd d_Mo_signAt_32 ?_
      rw [show (10 : Int32) * nI b0 + nI k0 = nI (10 * b0 + k0) by rw [show (10 : Int32) = nI 10 from rfl, pk_mul, nI_add]]
      refine m_ial (j := 4) ha d_Mo_signAt_33 (by rfl) (by omega) (by decide) ?_
      refine rx_goto (tgt := 38) d_Mo_signAt_34 (by rfl) ?_
      refine rx_ireturn d_Mo_signAt_38 (by rfl) ?_
      exact ⟨rfl, sS S 1 0, rfl, mE2.s1, rfl⟩
end MBS
