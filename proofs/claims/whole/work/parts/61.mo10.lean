/-! the reference's rests, and its next note -/
theorem pgh_bi {n b : Nat} (hb : b ≤ 1000) : pgh n (nI b) = bi (decide (b < n)) := by
  unfold pgh
  rw [i_n (by omega)]
  by_cases z : b < n
  · rw [if_pos (by omega), decide_eq_true z]; rfl
  · rw [if_neg (by omega), decide_eq_false z]; rfl
theorem pgv_hbn {n b k : Nat} {Va : Nat → Int32} {kk : Int32} (hn : n ≤ 20) (hb9 : b ≤ 1000) (hk : k < 10) (e : kk = nI k) : ¬ pgv n Va (nI b) kk = 0 ↔ hbn n Va k b = true := by
  by_cases z : b < n
  · rw [pgv_k hn z hk e, hbn_1 z, hb_t]
  · rw [hbn_0 z, pgv_b1 hn (by rw [i_le, i_n (by omega), i_n (by omega)]; omega)]
    exact ⟨fun w => absurd rfl w, fun w => nomatch w⟩
/-- the reference's joins -/
noncomputable def jnB (n : Nat) (Le Va : Nat → Int32) (NS : Nat → Nat → Int32) (num : Nat) (p : Int32) (b : Nat) : Bool := decide (b + 1 < n) && (rsB NS num p (b + 1) && goB n Le Va NS num p (b + 1))
section MRE
variable {V : rx_V} {d kc ks : Nat} {h h1 h2 : List va_E} {a n num : Nat} {S S0 : mT}
theorem l_misRest (ha : a = V.2.1 + h1.length) (q : mQ n num S) (p : Int32) (b : Nat) : ∀ (m i : Nat) (x : Bool), i + m = num → rx_W V (d + 2) kc ks m_Mo_isRest 9 [some (.ref a), some (.int p), some (.int (nI b)), some (.int (bi x)), some (.int (nI i))] [] (mw V h1 a S h2) (rx_X (.inl (some (.int (bi (x && !(fix (fun i => decide (MS S i 0 = p ∧ MS S i 1 = nI b)) i m).isSome))))) (mw V h1 a S h2)) := by
  have hq := q.2
  intro m
  induction m with
  | zero =>
    intro i x hi
    have e : i = num := by omega
    subst e
    refine rx_iload d_Mo_isRest_9 (by rfl) ?_
    refine rx_aload_nr d_Mo_isRest_11 (by rfl) ?_
    refine rx_getfield d_Mo_isRest_12 fl_Mo_78 (mr0 ha) (by rfl) ?_
    rw [show S.1 6 = nI i from q.1]
    refine rx_icmp_ge (tgt := 56) d_Mo_isRest_15 (by rfl) (fun c15 => ?_) (fun z => absurd (Int32.le_refl _) z)
    refine rx_iload_n d_Mo_isRest_56 (by rfl) ?_
    refine rx_zreturn d_Mo_isRest_57 (by rfl) bi_nar ?_
    exact ⟨by rw [show (fix (fun i => decide (MS S i 0 = p ∧ MS S i 1 = nI b)) i 0).isSome = false from rfl, Bool.not_false, Bool.and_true], rfl⟩
  | succ m ih =>
    intro i x hi
    refine rx_iload d_Mo_isRest_9 (by rfl) ?_
    refine rx_aload_nr d_Mo_isRest_11 (by rfl) ?_
    refine rx_getfield d_Mo_isRest_12 fl_Mo_78 (mr0 ha) (by rfl) ?_
    rw [show S.1 6 = nI num from q.1]
    refine rx_icmp_ge (tgt := 56) d_Mo_isRest_15 (by rfl) (fun z => absurd z (nI_ge (by omega) (by omega))) (fun c15 => ?_)
    refine rx_iload_n d_Mo_isRest_18 (by rfl) ?_
    refine rx_if_eq (tgt := 48) d_Mo_isRest_19 (by rfl) (fun c19 => ?_) (fun c19 => ?_)
    · rw [show (x && !(fix (fun i => decide (MS S i 0 = p ∧ MS S i 1 = nI b)) i (m + 1)).isSome) = (false && !(fix (fun i => decide (MS S i 0 = p ∧ MS S i 1 = nI b)) (i + 1) m).isSome) from by rw [bi_0.mp c19, Bool.false_and, Bool.false_and]]
      refine rx_iconst (v := 0) d_Mo_isRest_48 (by decide) ?_
      refine rx_istore_n d_Mo_isRest_49 (Nat.le_of_ble_eq_true rfl) ?_
      refine rx_iinc (v := nI (i + 1)) d_Mo_isRest_50 (by rfl) (i_inc i) ?_
      refine rx_goto (tgt := 9) d_Mo_isRest_53 (by rfl) ?_
      first | exact ih (i + 1) true (by omega) | exact ih (i + 1) false (by omega)
    · refine rx_aload_nr d_Mo_isRest_22 (by rfl) ?_
      refine rx_getfield d_Mo_isRest_23 fl_Mo_22 (mr0 ha) (by rfl) ?_
      refine rx_iload d_Mo_isRest_26 (by rfl) ?_
      refine m_ial (j := 5) ha d_Mo_isRest_28 (by rfl) (by omega) (by decide) ?_
      refine rx_iload_n d_Mo_isRest_29 (by rfl) ?_
      refine rx_icmp_ne (tgt := 44) d_Mo_isRest_30 (by rfl) (fun c30 => ?_) (fun c30 => ?_)
      · rw [show (x && !(fix (fun i => decide (MS S i 0 = p ∧ MS S i 1 = nI b)) i (m + 1)).isSome) = (true && !(fix (fun i => decide (MS S i 0 = p ∧ MS S i 1 = nI b)) (i + 1) m).isSome) from by rw [bi_1.mp c19, fix_no (Pr := (fun i => decide (MS S i 0 = p ∧ MS S i 1 = nI b))) (decide_eq_false (fun z => c30 z.1))]]
        refine rx_iconst (v := 1) d_Mo_isRest_44 (by decide) ?_
        refine rx_goto (tgt := 49) d_Mo_isRest_45 (by rfl) ?_
        refine rx_istore_n d_Mo_isRest_49 (Nat.le_of_ble_eq_true rfl) ?_
        refine rx_iinc (v := nI (i + 1)) d_Mo_isRest_50 (by rfl) (i_inc i) ?_
        refine rx_goto (tgt := 9) d_Mo_isRest_53 (by rfl) ?_
        first | exact ih (i + 1) true (by omega) | exact ih (i + 1) false (by omega)
      · refine rx_aload_nr d_Mo_isRest_33 (by rfl) ?_
        refine rx_getfield d_Mo_isRest_34 fl_Mo_25 (mr0 ha) (by rfl) ?_
        refine rx_iload d_Mo_isRest_37 (by rfl) ?_
        refine m_ial (j := 6) ha d_Mo_isRest_39 (by rfl) (by omega) (by decide) ?_
        refine rx_iload_n d_Mo_isRest_40 (by rfl) ?_
        refine rx_icmp_eq (tgt := 48) d_Mo_isRest_41 (by rfl) (fun c41 => ?_) (fun c41 => ?_)
        · rw [show (x && !(fix (fun i => decide (MS S i 0 = p ∧ MS S i 1 = nI b)) i (m + 1)).isSome) = (false && !(fix (fun i => decide (MS S i 0 = p ∧ MS S i 1 = nI b)) (i + 1) m).isSome) from by rw [fix_yes (Pr := (fun i => decide (MS S i 0 = p ∧ MS S i 1 = nI b))) (decide_eq_true ⟨c30, c41⟩), Option.isSome_some, Bool.not_true, Bool.and_false, Bool.false_and]]
          refine rx_iconst (v := 0) d_Mo_isRest_48 (by decide) ?_
          refine rx_istore_n d_Mo_isRest_49 (Nat.le_of_ble_eq_true rfl) ?_
          refine rx_iinc (v := nI (i + 1)) d_Mo_isRest_50 (by rfl) (i_inc i) ?_
          refine rx_goto (tgt := 9) d_Mo_isRest_53 (by rfl) ?_
          first | exact ih (i + 1) true (by omega) | exact ih (i + 1) false (by omega)
        · rw [show (x && !(fix (fun i => decide (MS S i 0 = p ∧ MS S i 1 = nI b)) i (m + 1)).isSome) = (true && !(fix (fun i => decide (MS S i 0 = p ∧ MS S i 1 = nI b)) (i + 1) m).isSome) from by rw [bi_1.mp c19, fix_no (Pr := (fun i => decide (MS S i 0 = p ∧ MS S i 1 = nI b))) (decide_eq_false (fun z => c41 z.2))]]
          refine rx_iconst (v := 1) d_Mo_isRest_44 (by decide) ?_
          refine rx_goto (tgt := 49) d_Mo_isRest_45 (by rfl) ?_
          refine rx_istore_n d_Mo_isRest_49 (Nat.le_of_ble_eq_true rfl) ?_
          refine rx_iinc (v := nI (i + 1)) d_Mo_isRest_50 (by rfl) (i_inc i) ?_
          refine rx_goto (tgt := 9) d_Mo_isRest_53 (by rfl) ?_
          first | exact ih (i + 1) true (by omega) | exact ih (i + 1) false (by omega)
theorem k_isRest (ha : a = V.2.1 + h1.length) (hN : mN n S) (q : mQ n num S) (p : Int32) {b : Nat} (hb9 : b ≤ 1000) : rx_C V (d + 2) kc ks m_Mo_isRest [.ref a, .int p, .int (nI b)] (mw V h1 a S h2) (rx_X (.inl (some (.int (bi (decide (b < n) && rsB (MS S) num p b))))) (mw V h1 a S h2)) := by
  refine rx_aload_nr d_Mo_isRest_0 (by rfl) ?_
  refine rx_iload_n d_Mo_isRest_1 (by rfl) ?_
  refine rx_cV d_Mo_isRest_2 (by rfl) ml_Mo_74 im_Mo_isBar se_Mo_isBar (by exact c9_Mo_isBar) (mr0 ha) (by rfl) (by exact Nat.le_of_ble_eq_true rfl) (k_isBar ha hN (nI b)) ?_
  rw [pgh_bi hb9]
  refine rx_istore_n d_Mo_isRest_5 (Nat.le_of_ble_eq_true rfl) ?_
  refine rx_iconst (v := 0) d_Mo_isRest_6 (by decide) ?_
  refine rx_istore d_Mo_isRest_7 (Nat.le_of_ble_eq_true rfl) ?_
  exact l_misRest ha q p b num 0 _ (by omega)
theorem k_joins (ha : a = V.2.1 + h1.length) (hN : mN n S) (hv : vok n (S.2.2 4)) (q : mQ n num S) (p : Int32) {b : Nat} (hbl : b < n) : rx_C V (d + 3) kc ks m_Mo_joins [.ref a, .int p, .int (nI b)] (mw V h1 a S h2) (rx_X (.inl (some (.int (bi (jnB n (S.2.2 2) (S.2.2 4) (MS S) num p b))))) (mw V h1 a S h2)) := by
  have hn := hN.2
  have P9 : ∀ {b k : Nat} {kk : Int32}, b ≤ 1000 → k < 10 → kk = nI k → (¬ pgv n (S.2.2 4) (nI b) kk = 0 ↔ hbn n (S.2.2 4) k b = true) := fun h1 h2 h3 => pgv_hbn hn.2 h1 h2 h3
  have ejn : jnB n (S.2.2 2) (S.2.2 4) (MS S) num p b = (decide (b + 1 < n) && (rsB (MS S) num p (b + 1) && (rsB (MS S) num p b && !(pB (copen n (S.2.2 4) (nI (b + 1)) ∨ cclos n (S.2.2 4) (nI b) ∨ ¬ pgl n (S.2.2 2) (nI (b + 1)) = pgl n (S.2.2 2) (nI b)))))) := by
    unfold jnB goB
    rw [show nI (b + 1) - 1 = nI b from nI_pred b, Nat.add_sub_cancel, decide_eq_true (show 0 < b + 1 by omega), Bool.true_and]
  have e119 : ∀ x y3, (¬ x = 0 ↔ (copen n (S.2.2 4) (nI (b + 1)) ∨ cclos n (S.2.2 4) (nI b))) → rx_W V (d + 3) kc ks m_Mo_joins 119 [some (.ref a), some (.int p), some (.int (nI b)), y3, some (.int (nI (b + 1)))] [.int x] (mw V h1 a S h2) (rx_X (.inl (some (.int (bi (jnB n (S.2.2 2) (S.2.2 4) (MS S) num p b))))) (mw V h1 a S h2)) := by
    intro x y3 hx
    rw [ejn]
    refine rx_istore_n d_Mo_joins_119 (Nat.le_of_ble_eq_true rfl) ?_
    refine rx_aload_nr d_Mo_joins_120 (by rfl) ?_
    refine rx_iload_n d_Mo_joins_121 (by rfl) ?_
    refine rx_iload_n d_Mo_joins_122 (by rfl) ?_
    refine rx_cV d_Mo_joins_123 (by rfl) ml_Mo_228 im_Mo_isRest se_Mo_isRest (by exact c9_Mo_isRest) (mr0 ha) (by rfl) (by exact Nat.le_of_ble_eq_true rfl) (k_isRest ha hN q p (b := b) (by omega)) ?_
    rw [decide_eq_true hbl, Bool.true_and]
    refine rx_if_eq (tgt := 163) d_Mo_joins_126 (by rfl) (fun c126 => ?_) (fun c126 => ?_)
    · rw [bi_0.mp c126, Bool.false_and, Bool.and_false, Bool.and_false]
      refine rx_iconst (v := 0) d_Mo_joins_163 (by decide) ?_
      refine rx_zreturn d_Mo_joins_164 (by rfl) (by rfl) ?_
      exact ⟨rfl, rfl⟩
    · refine rx_aload_nr d_Mo_joins_129 (by rfl) ?_
      refine rx_iload_n d_Mo_joins_130 (by rfl) ?_
      refine rx_iload d_Mo_joins_131 (by rfl) ?_
      refine rx_cV d_Mo_joins_133 (by rfl) ml_Mo_228 im_Mo_isRest se_Mo_isRest (by exact c9_Mo_isRest) (mr0 ha) (by rfl) (by exact Nat.le_of_ble_eq_true rfl) (k_isRest ha hN q p (b := b + 1) (by omega)) ?_
      refine rx_if_eq (tgt := 163) d_Mo_joins_136 (by rfl) (fun c136 => ?_) (fun c136 => ?_)
      · rw [← Bool.and_assoc, bi_0.mp c136, Bool.false_and]
        refine rx_iconst (v := 0) d_Mo_joins_163 (by decide) ?_
        refine rx_zreturn d_Mo_joins_164 (by rfl) (by rfl) ?_
        exact ⟨rfl, rfl⟩
      · have c136 := Bool.and_eq_true_iff.mp (bi_1.mp c136)
        have hb1 : b + 1 < n := of_decide_eq_true c136.1
        rw [decide_eq_true hb1, c136.2, bi_1.mp c126, Bool.true_and, Bool.true_and, Bool.true_and, pgl_nI hn.2 hb1, pgl_nI hn.2 hbl]
        refine rx_iload_n d_Mo_joins_139 (by rfl) ?_
        refine rx_if_ne (tgt := 163) d_Mo_joins_140 (by rfl) (fun c140 => ?_) (fun c140 => ?_)
        · rw [pB_t.mpr ((hx.mp c140).elim Or.inl (fun z => Or.inr (Or.inl z)))]
          refine rx_iconst (v := 0) d_Mo_joins_163 (by decide) ?_
          refine rx_zreturn d_Mo_joins_164 (by rfl) (by rfl) ?_
          exact ⟨rfl, rfl⟩
        · have n9 : ¬ (copen n (S.2.2 4) (nI (b + 1)) ∨ cclos n (S.2.2 4) (nI b)) := fun z => hx.mpr z c140
          refine rx_aload_nr d_Mo_joins_143 (by rfl) ?_
          refine rx_getfield d_Mo_joins_144 fl_Mo_13 (mr0 ha) (by rfl) ?_
          refine rx_iload_n d_Mo_joins_147 (by rfl) ?_
          refine m_ial (j := 2) ha d_Mo_joins_148 (by rfl) (by omega) (by decide) ?_
          refine rx_aload_nr d_Mo_joins_149 (by rfl) ?_
          refine rx_getfield d_Mo_joins_150 fl_Mo_13 (mr0 ha) (by rfl) ?_
          refine rx_iload d_Mo_joins_153 (by rfl) ?_
          refine m_ial (j := 2) ha d_Mo_joins_155 (by rfl) (by omega) (by decide) ?_
          refine rx_icmp_ne (tgt := 163) d_Mo_joins_156 (by rfl) (fun c156 => ?_) (fun c156 => ?_)
          · rw [pB_t.mpr (Or.inr (Or.inr (fun z => c156 z.symm)))]
            refine rx_iconst (v := 0) d_Mo_joins_163 (by decide) ?_
            refine rx_zreturn d_Mo_joins_164 (by rfl) (by rfl) ?_
            exact ⟨rfl, rfl⟩
          · rw [pB_f.mpr (fun z => z.elim (fun y => n9 (Or.inl y)) (fun y => y.elim (fun w => n9 (Or.inr w)) (fun w => w c156.symm)))]
            refine rx_iconst (v := 1) d_Mo_joins_159 (by decide) ?_
            refine rx_goto (tgt := 164) d_Mo_joins_160 (by rfl) ?_
            refine rx_zreturn d_Mo_joins_164 (by rfl) (by rfl) ?_
            exact ⟨rfl, rfl⟩
  have e53 : ∀ x, (¬ x = 0 ↔ cclos n (S.2.2 4) (nI b)) → rx_W V (d + 3) kc ks m_Mo_joins 53 [some (.ref a), some (.int p), some (.int (nI b)), none, none] [.int x] (mw V h1 a S h2) (rx_X (.inl (some (.int (bi (jnB n (S.2.2 2) (S.2.2 4) (MS S) num p b))))) (mw V h1 a S h2)) := by
    intro x hx
    refine rx_istore_n d_Mo_joins_53 (Nat.le_of_ble_eq_true rfl) ?_
    refine rx_iload_n d_Mo_joins_54 (by rfl) ?_
    refine rx_iconst (v := 1) d_Mo_joins_55 (by decide) ?_
    refine rx_iadd d_Mo_joins_56 ?_
    rw [nI_1]
    refine rx_istore d_Mo_joins_57 (Nat.le_of_ble_eq_true rfl) ?_
    refine rx_iload_n d_Mo_joins_59 (by rfl) ?_
    refine rx_if_ne (tgt := 114) d_Mo_joins_60 (by rfl) (fun c60 => ?_) (fun c60 => ?_)
    · refine rx_iconst (v := 1) d_Mo_joins_114 (by decide) ?_
      refine rx_goto (tgt := 119) d_Mo_joins_115 (by rfl) ?_
      first
        | exact e119 1 _ ⟨fun _ => Or.inr (hx.mp c60), fun _ => by decide⟩
        | exact e119 1 _ ⟨fun _ => Or.inl (Or.inl ((P9 (by omega) (by omega) (k := 0) rfl).mpr (bi_1.mp c70))), fun _ => by decide⟩
        | exact e119 1 _ ⟨fun _ => Or.inl (Or.inr (Or.inl ((P9 (by omega) (by omega) (k := 2) rfl).mpr (bi_1.mp c80)))), fun _ => by decide⟩
        | exact e119 1 _ ⟨fun _ => Or.inl (Or.inr (Or.inr (Or.inl ((P9 (by omega) (by omega) (k := 3) rfl).mpr (bi_1.mp c90))))), fun _ => by decide⟩
        | exact e119 1 _ ⟨fun _ => Or.inl (Or.inr (Or.inr (Or.inr (Or.inl ((P9 (by omega) (by omega) (k := 4) rfl).mpr (bi_1.mp c100)))))), fun _ => by decide⟩
        | exact e119 1 _ ⟨fun _ => Or.inl (Or.inr (Or.inr (Or.inr (Or.inr ((P9 (by omega) (by omega) (k := 8) rfl).mpr (bi_1.mp c111)))))), fun _ => by decide⟩
        | exact e119 0 _ ⟨fun z => absurd rfl z, fun z => absurd z (fun z => z.elim (fun y => y.elim (fun y => absurd ((P9 (by omega) (by omega) (k := 0) rfl).mp y) (by rw [bi_0.mp c70]; decide)) (fun y => y.elim (fun y => absurd ((P9 (by omega) (by omega) (k := 2) rfl).mp y) (by rw [bi_0.mp c80]; decide)) (fun y => y.elim (fun y => absurd ((P9 (by omega) (by omega) (k := 3) rfl).mp y) (by rw [bi_0.mp c90]; decide)) (fun y => y.elim (fun y => absurd ((P9 (by omega) (by omega) (k := 4) rfl).mp y) (by rw [bi_0.mp c100]; decide)) (fun y => absurd ((P9 (by omega) (by omega) (k := 8) rfl).mp y) (by rw [bi_0.mp c111]; decide)))))) (fun y => hx.mpr y c60))⟩
    · refine rx_aload_nr d_Mo_joins_63 (by rfl) ?_
      refine rx_iload d_Mo_joins_64 (by rfl) ?_
      refine rx_iconst (v := 0) d_Mo_joins_66 (by decide) ?_
      refine rx_cV d_Mo_joins_67 (by rfl) ml_Mo_90 im_Mo_has se_Mo_has (by exact c9_Mo_has) (mr0 ha) (by rfl) (by exact Nat.le_of_ble_eq_true rfl) (k_has ha hN hv (b := b + 1) (k := 0) (by omega) (by omega)) ?_
      refine rx_if_ne (tgt := 114) d_Mo_joins_70 (by rfl) (fun c70 => ?_) (fun c70 => ?_)
      · refine rx_iconst (v := 1) d_Mo_joins_114 (by decide) ?_
        refine rx_goto (tgt := 119) d_Mo_joins_115 (by rfl) ?_
        first
          | exact e119 1 _ ⟨fun _ => Or.inr (hx.mp c60), fun _ => by decide⟩
          | exact e119 1 _ ⟨fun _ => Or.inl (Or.inl ((P9 (by omega) (by omega) (k := 0) rfl).mpr (bi_1.mp c70))), fun _ => by decide⟩
          | exact e119 1 _ ⟨fun _ => Or.inl (Or.inr (Or.inl ((P9 (by omega) (by omega) (k := 2) rfl).mpr (bi_1.mp c80)))), fun _ => by decide⟩
          | exact e119 1 _ ⟨fun _ => Or.inl (Or.inr (Or.inr (Or.inl ((P9 (by omega) (by omega) (k := 3) rfl).mpr (bi_1.mp c90))))), fun _ => by decide⟩
          | exact e119 1 _ ⟨fun _ => Or.inl (Or.inr (Or.inr (Or.inr (Or.inl ((P9 (by omega) (by omega) (k := 4) rfl).mpr (bi_1.mp c100)))))), fun _ => by decide⟩
          | exact e119 1 _ ⟨fun _ => Or.inl (Or.inr (Or.inr (Or.inr (Or.inr ((P9 (by omega) (by omega) (k := 8) rfl).mpr (bi_1.mp c111)))))), fun _ => by decide⟩
          | exact e119 0 _ ⟨fun z => absurd rfl z, fun z => absurd z (fun z => z.elim (fun y => y.elim (fun y => absurd ((P9 (by omega) (by omega) (k := 0) rfl).mp y) (by rw [bi_0.mp c70]; decide)) (fun y => y.elim (fun y => absurd ((P9 (by omega) (by omega) (k := 2) rfl).mp y) (by rw [bi_0.mp c80]; decide)) (fun y => y.elim (fun y => absurd ((P9 (by omega) (by omega) (k := 3) rfl).mp y) (by rw [bi_0.mp c90]; decide)) (fun y => y.elim (fun y => absurd ((P9 (by omega) (by omega) (k := 4) rfl).mp y) (by rw [bi_0.mp c100]; decide)) (fun y => absurd ((P9 (by omega) (by omega) (k := 8) rfl).mp y) (by rw [bi_0.mp c111]; decide)))))) (fun y => hx.mpr y c60))⟩
      · refine rx_aload_nr d_Mo_joins_73 (by rfl) ?_
        refine rx_iload d_Mo_joins_74 (by rfl) ?_
        refine rx_iconst (v := 2) d_Mo_joins_76 (by decide) ?_
        refine rx_cV d_Mo_joins_77 (by rfl) ml_Mo_90 im_Mo_has se_Mo_has (by exact c9_Mo_has) (mr0 ha) (by rfl) (by exact Nat.le_of_ble_eq_true rfl) (k_has ha hN hv (b := b + 1) (k := 2) (by omega) (by omega)) ?_
        refine rx_if_ne (tgt := 114) d_Mo_joins_80 (by rfl) (fun c80 => ?_) (fun c80 => ?_)
        · refine rx_iconst (v := 1) d_Mo_joins_114 (by decide) ?_
          refine rx_goto (tgt := 119) d_Mo_joins_115 (by rfl) ?_
          first
            | exact e119 1 _ ⟨fun _ => Or.inr (hx.mp c60), fun _ => by decide⟩
            | exact e119 1 _ ⟨fun _ => Or.inl (Or.inl ((P9 (by omega) (by omega) (k := 0) rfl).mpr (bi_1.mp c70))), fun _ => by decide⟩
            | exact e119 1 _ ⟨fun _ => Or.inl (Or.inr (Or.inl ((P9 (by omega) (by omega) (k := 2) rfl).mpr (bi_1.mp c80)))), fun _ => by decide⟩
            | exact e119 1 _ ⟨fun _ => Or.inl (Or.inr (Or.inr (Or.inl ((P9 (by omega) (by omega) (k := 3) rfl).mpr (bi_1.mp c90))))), fun _ => by decide⟩
            | exact e119 1 _ ⟨fun _ => Or.inl (Or.inr (Or.inr (Or.inr (Or.inl ((P9 (by omega) (by omega) (k := 4) rfl).mpr (bi_1.mp c100)))))), fun _ => by decide⟩
            | exact e119 1 _ ⟨fun _ => Or.inl (Or.inr (Or.inr (Or.inr (Or.inr ((P9 (by omega) (by omega) (k := 8) rfl).mpr (bi_1.mp c111)))))), fun _ => by decide⟩
            | exact e119 0 _ ⟨fun z => absurd rfl z, fun z => absurd z (fun z => z.elim (fun y => y.elim (fun y => absurd ((P9 (by omega) (by omega) (k := 0) rfl).mp y) (by rw [bi_0.mp c70]; decide)) (fun y => y.elim (fun y => absurd ((P9 (by omega) (by omega) (k := 2) rfl).mp y) (by rw [bi_0.mp c80]; decide)) (fun y => y.elim (fun y => absurd ((P9 (by omega) (by omega) (k := 3) rfl).mp y) (by rw [bi_0.mp c90]; decide)) (fun y => y.elim (fun y => absurd ((P9 (by omega) (by omega) (k := 4) rfl).mp y) (by rw [bi_0.mp c100]; decide)) (fun y => absurd ((P9 (by omega) (by omega) (k := 8) rfl).mp y) (by rw [bi_0.mp c111]; decide)))))) (fun y => hx.mpr y c60))⟩
        · refine rx_aload_nr d_Mo_joins_83 (by rfl) ?_
          refine rx_iload d_Mo_joins_84 (by rfl) ?_
          refine rx_iconst (v := 3) d_Mo_joins_86 (by decide) ?_
          refine rx_cV d_Mo_joins_87 (by rfl) ml_Mo_90 im_Mo_has se_Mo_has (by exact c9_Mo_has) (mr0 ha) (by rfl) (by exact Nat.le_of_ble_eq_true rfl) (k_has ha hN hv (b := b + 1) (k := 3) (by omega) (by omega)) ?_
          refine rx_if_ne (tgt := 114) d_Mo_joins_90 (by rfl) (fun c90 => ?_) (fun c90 => ?_)
          · refine rx_iconst (v := 1) d_Mo_joins_114 (by decide) ?_
            refine rx_goto (tgt := 119) d_Mo_joins_115 (by rfl) ?_
            first
              | exact e119 1 _ ⟨fun _ => Or.inr (hx.mp c60), fun _ => by decide⟩
              | exact e119 1 _ ⟨fun _ => Or.inl (Or.inl ((P9 (by omega) (by omega) (k := 0) rfl).mpr (bi_1.mp c70))), fun _ => by decide⟩
              | exact e119 1 _ ⟨fun _ => Or.inl (Or.inr (Or.inl ((P9 (by omega) (by omega) (k := 2) rfl).mpr (bi_1.mp c80)))), fun _ => by decide⟩
              | exact e119 1 _ ⟨fun _ => Or.inl (Or.inr (Or.inr (Or.inl ((P9 (by omega) (by omega) (k := 3) rfl).mpr (bi_1.mp c90))))), fun _ => by decide⟩
              | exact e119 1 _ ⟨fun _ => Or.inl (Or.inr (Or.inr (Or.inr (Or.inl ((P9 (by omega) (by omega) (k := 4) rfl).mpr (bi_1.mp c100)))))), fun _ => by decide⟩
              | exact e119 1 _ ⟨fun _ => Or.inl (Or.inr (Or.inr (Or.inr (Or.inr ((P9 (by omega) (by omega) (k := 8) rfl).mpr (bi_1.mp c111)))))), fun _ => by decide⟩
              | exact e119 0 _ ⟨fun z => absurd rfl z, fun z => absurd z (fun z => z.elim (fun y => y.elim (fun y => absurd ((P9 (by omega) (by omega) (k := 0) rfl).mp y) (by rw [bi_0.mp c70]; decide)) (fun y => y.elim (fun y => absurd ((P9 (by omega) (by omega) (k := 2) rfl).mp y) (by rw [bi_0.mp c80]; decide)) (fun y => y.elim (fun y => absurd ((P9 (by omega) (by omega) (k := 3) rfl).mp y) (by rw [bi_0.mp c90]; decide)) (fun y => y.elim (fun y => absurd ((P9 (by omega) (by omega) (k := 4) rfl).mp y) (by rw [bi_0.mp c100]; decide)) (fun y => absurd ((P9 (by omega) (by omega) (k := 8) rfl).mp y) (by rw [bi_0.mp c111]; decide)))))) (fun y => hx.mpr y c60))⟩
          · refine rx_aload_nr d_Mo_joins_93 (by rfl) ?_
            refine rx_iload d_Mo_joins_94 (by rfl) ?_
            refine rx_iconst (v := 4) d_Mo_joins_96 (by decide) ?_
            refine rx_cV d_Mo_joins_97 (by rfl) ml_Mo_90 im_Mo_has se_Mo_has (by exact c9_Mo_has) (mr0 ha) (by rfl) (by exact Nat.le_of_ble_eq_true rfl) (k_has ha hN hv (b := b + 1) (k := 4) (by omega) (by omega)) ?_
            refine rx_if_ne (tgt := 114) d_Mo_joins_100 (by rfl) (fun c100 => ?_) (fun c100 => ?_)
            · refine rx_iconst (v := 1) d_Mo_joins_114 (by decide) ?_
              refine rx_goto (tgt := 119) d_Mo_joins_115 (by rfl) ?_
              first
                | exact e119 1 _ ⟨fun _ => Or.inr (hx.mp c60), fun _ => by decide⟩
                | exact e119 1 _ ⟨fun _ => Or.inl (Or.inl ((P9 (by omega) (by omega) (k := 0) rfl).mpr (bi_1.mp c70))), fun _ => by decide⟩
                | exact e119 1 _ ⟨fun _ => Or.inl (Or.inr (Or.inl ((P9 (by omega) (by omega) (k := 2) rfl).mpr (bi_1.mp c80)))), fun _ => by decide⟩
                | exact e119 1 _ ⟨fun _ => Or.inl (Or.inr (Or.inr (Or.inl ((P9 (by omega) (by omega) (k := 3) rfl).mpr (bi_1.mp c90))))), fun _ => by decide⟩
                | exact e119 1 _ ⟨fun _ => Or.inl (Or.inr (Or.inr (Or.inr (Or.inl ((P9 (by omega) (by omega) (k := 4) rfl).mpr (bi_1.mp c100)))))), fun _ => by decide⟩
                | exact e119 1 _ ⟨fun _ => Or.inl (Or.inr (Or.inr (Or.inr (Or.inr ((P9 (by omega) (by omega) (k := 8) rfl).mpr (bi_1.mp c111)))))), fun _ => by decide⟩
                | exact e119 0 _ ⟨fun z => absurd rfl z, fun z => absurd z (fun z => z.elim (fun y => y.elim (fun y => absurd ((P9 (by omega) (by omega) (k := 0) rfl).mp y) (by rw [bi_0.mp c70]; decide)) (fun y => y.elim (fun y => absurd ((P9 (by omega) (by omega) (k := 2) rfl).mp y) (by rw [bi_0.mp c80]; decide)) (fun y => y.elim (fun y => absurd ((P9 (by omega) (by omega) (k := 3) rfl).mp y) (by rw [bi_0.mp c90]; decide)) (fun y => y.elim (fun y => absurd ((P9 (by omega) (by omega) (k := 4) rfl).mp y) (by rw [bi_0.mp c100]; decide)) (fun y => absurd ((P9 (by omega) (by omega) (k := 8) rfl).mp y) (by rw [bi_0.mp c111]; decide)))))) (fun y => hx.mpr y c60))⟩
            · refine rx_aload_nr d_Mo_joins_103 (by rfl) ?_
              refine rx_iload d_Mo_joins_104 (by rfl) ?_
              refine rx_bipush (v := 8) d_Mo_joins_106 (by decide) ?_
              refine rx_cV d_Mo_joins_108 (by rfl) ml_Mo_90 im_Mo_has se_Mo_has (by exact c9_Mo_has) (mr0 ha) (by rfl) (by exact Nat.le_of_ble_eq_true rfl) (k_has ha hN hv (b := b + 1) (k := 8) (by omega) (by omega)) ?_
              refine rx_if_eq (tgt := 118) d_Mo_joins_111 (by rfl) (fun c111 => ?_) (fun c111 => ?_)
              · refine rx_iconst (v := 0) d_Mo_joins_118 (by decide) ?_
                first
                  | exact e119 1 _ ⟨fun _ => Or.inr (hx.mp c60), fun _ => by decide⟩
                  | exact e119 1 _ ⟨fun _ => Or.inl (Or.inl ((P9 (by omega) (by omega) (k := 0) rfl).mpr (bi_1.mp c70))), fun _ => by decide⟩
                  | exact e119 1 _ ⟨fun _ => Or.inl (Or.inr (Or.inl ((P9 (by omega) (by omega) (k := 2) rfl).mpr (bi_1.mp c80)))), fun _ => by decide⟩
                  | exact e119 1 _ ⟨fun _ => Or.inl (Or.inr (Or.inr (Or.inl ((P9 (by omega) (by omega) (k := 3) rfl).mpr (bi_1.mp c90))))), fun _ => by decide⟩
                  | exact e119 1 _ ⟨fun _ => Or.inl (Or.inr (Or.inr (Or.inr (Or.inl ((P9 (by omega) (by omega) (k := 4) rfl).mpr (bi_1.mp c100)))))), fun _ => by decide⟩
                  | exact e119 1 _ ⟨fun _ => Or.inl (Or.inr (Or.inr (Or.inr (Or.inr ((P9 (by omega) (by omega) (k := 8) rfl).mpr (bi_1.mp c111)))))), fun _ => by decide⟩
                  | exact e119 0 _ ⟨fun z => absurd rfl z, fun z => absurd z (fun z => z.elim (fun y => y.elim (fun y => absurd ((P9 (by omega) (by omega) (k := 0) rfl).mp y) (by rw [bi_0.mp c70]; decide)) (fun y => y.elim (fun y => absurd ((P9 (by omega) (by omega) (k := 2) rfl).mp y) (by rw [bi_0.mp c80]; decide)) (fun y => y.elim (fun y => absurd ((P9 (by omega) (by omega) (k := 3) rfl).mp y) (by rw [bi_0.mp c90]; decide)) (fun y => y.elim (fun y => absurd ((P9 (by omega) (by omega) (k := 4) rfl).mp y) (by rw [bi_0.mp c100]; decide)) (fun y => absurd ((P9 (by omega) (by omega) (k := 8) rfl).mp y) (by rw [bi_0.mp c111]; decide)))))) (fun y => hx.mpr y c60))⟩
              · refine rx_iconst (v := 1) d_Mo_joins_114 (by decide) ?_
                refine rx_goto (tgt := 119) d_Mo_joins_115 (by rfl) ?_
                first
                  | exact e119 1 _ ⟨fun _ => Or.inr (hx.mp c60), fun _ => by decide⟩
                  | exact e119 1 _ ⟨fun _ => Or.inl (Or.inl ((P9 (by omega) (by omega) (k := 0) rfl).mpr (bi_1.mp c70))), fun _ => by decide⟩
                  | exact e119 1 _ ⟨fun _ => Or.inl (Or.inr (Or.inl ((P9 (by omega) (by omega) (k := 2) rfl).mpr (bi_1.mp c80)))), fun _ => by decide⟩
                  | exact e119 1 _ ⟨fun _ => Or.inl (Or.inr (Or.inr (Or.inl ((P9 (by omega) (by omega) (k := 3) rfl).mpr (bi_1.mp c90))))), fun _ => by decide⟩
                  | exact e119 1 _ ⟨fun _ => Or.inl (Or.inr (Or.inr (Or.inr (Or.inl ((P9 (by omega) (by omega) (k := 4) rfl).mpr (bi_1.mp c100)))))), fun _ => by decide⟩
                  | exact e119 1 _ ⟨fun _ => Or.inl (Or.inr (Or.inr (Or.inr (Or.inr ((P9 (by omega) (by omega) (k := 8) rfl).mpr (bi_1.mp c111)))))), fun _ => by decide⟩
                  | exact e119 0 _ ⟨fun z => absurd rfl z, fun z => absurd z (fun z => z.elim (fun y => y.elim (fun y => absurd ((P9 (by omega) (by omega) (k := 0) rfl).mp y) (by rw [bi_0.mp c70]; decide)) (fun y => y.elim (fun y => absurd ((P9 (by omega) (by omega) (k := 2) rfl).mp y) (by rw [bi_0.mp c80]; decide)) (fun y => y.elim (fun y => absurd ((P9 (by omega) (by omega) (k := 3) rfl).mp y) (by rw [bi_0.mp c90]; decide)) (fun y => y.elim (fun y => absurd ((P9 (by omega) (by omega) (k := 4) rfl).mp y) (by rw [bi_0.mp c100]; decide)) (fun y => absurd ((P9 (by omega) (by omega) (k := 8) rfl).mp y) (by rw [bi_0.mp c111]; decide)))))) (fun y => hx.mpr y c60))⟩
  refine rx_aload_nr d_Mo_joins_0 (by rfl) ?_
  refine rx_iload_n d_Mo_joins_1 (by rfl) ?_
  refine rx_iconst (v := 1) d_Mo_joins_2 (by decide) ?_
  refine rx_cV d_Mo_joins_3 (by rfl) ml_Mo_90 im_Mo_has se_Mo_has (by exact c9_Mo_has) (mr0 ha) (by rfl) (by exact Nat.le_of_ble_eq_true rfl) (k_has ha hN hv (b := b) (k := 1) (by omega) (by omega)) ?_
  refine rx_if_ne (tgt := 48) d_Mo_joins_6 (by rfl) (fun c6 => ?_) (fun c6 => ?_)
  · refine rx_iconst (v := 1) d_Mo_joins_48 (by decide) ?_
    refine rx_goto (tgt := 53) d_Mo_joins_49 (by rfl) ?_
    first
      | exact e53 1 ⟨fun _ => Or.inl ((P9 (by omega) (by omega) (k := 1) rfl).mpr (bi_1.mp c6)), fun _ => by decide⟩
      | exact e53 1 ⟨fun _ => Or.inr (Or.inl ((P9 (by omega) (by omega) (k := 5) rfl).mpr (bi_1.mp c15))), fun _ => by decide⟩
      | exact e53 1 ⟨fun _ => Or.inr (Or.inr (Or.inl ((P9 (by omega) (by omega) (k := 6) rfl).mpr (bi_1.mp c25)))), fun _ => by decide⟩
      | exact e53 1 ⟨fun _ => Or.inr (Or.inr (Or.inr (Or.inl ((P9 (by omega) (by omega) (k := 7) rfl).mpr (bi_1.mp c35))))), fun _ => by decide⟩
      | exact e53 1 ⟨fun _ => Or.inr (Or.inr (Or.inr (Or.inr ((P9 (by omega) (by omega) (k := 9) rfl).mpr (bi_1.mp c45))))), fun _ => by decide⟩
      | exact e53 0 ⟨fun z => absurd rfl z, fun z => absurd z (fun y => y.elim (fun y => absurd ((P9 (by omega) (by omega) (k := 1) rfl).mp y) (by rw [bi_0.mp c6]; decide)) (fun y => y.elim (fun y => absurd ((P9 (by omega) (by omega) (k := 5) rfl).mp y) (by rw [bi_0.mp c15]; decide)) (fun y => y.elim (fun y => absurd ((P9 (by omega) (by omega) (k := 6) rfl).mp y) (by rw [bi_0.mp c25]; decide)) (fun y => y.elim (fun y => absurd ((P9 (by omega) (by omega) (k := 7) rfl).mp y) (by rw [bi_0.mp c35]; decide)) (fun y => absurd ((P9 (by omega) (by omega) (k := 9) rfl).mp y) (by rw [bi_0.mp c45]; decide))))))⟩
  · refine rx_aload_nr d_Mo_joins_9 (by rfl) ?_
    refine rx_iload_n d_Mo_joins_10 (by rfl) ?_
    refine rx_iconst (v := 5) d_Mo_joins_11 (by decide) ?_
    refine rx_cV d_Mo_joins_12 (by rfl) ml_Mo_90 im_Mo_has se_Mo_has (by exact c9_Mo_has) (mr0 ha) (by rfl) (by exact Nat.le_of_ble_eq_true rfl) (k_has ha hN hv (b := b) (k := 5) (by omega) (by omega)) ?_
    refine rx_if_ne (tgt := 48) d_Mo_joins_15 (by rfl) (fun c15 => ?_) (fun c15 => ?_)
    · refine rx_iconst (v := 1) d_Mo_joins_48 (by decide) ?_
      refine rx_goto (tgt := 53) d_Mo_joins_49 (by rfl) ?_
      first
        | exact e53 1 ⟨fun _ => Or.inl ((P9 (by omega) (by omega) (k := 1) rfl).mpr (bi_1.mp c6)), fun _ => by decide⟩
        | exact e53 1 ⟨fun _ => Or.inr (Or.inl ((P9 (by omega) (by omega) (k := 5) rfl).mpr (bi_1.mp c15))), fun _ => by decide⟩
        | exact e53 1 ⟨fun _ => Or.inr (Or.inr (Or.inl ((P9 (by omega) (by omega) (k := 6) rfl).mpr (bi_1.mp c25)))), fun _ => by decide⟩
        | exact e53 1 ⟨fun _ => Or.inr (Or.inr (Or.inr (Or.inl ((P9 (by omega) (by omega) (k := 7) rfl).mpr (bi_1.mp c35))))), fun _ => by decide⟩
        | exact e53 1 ⟨fun _ => Or.inr (Or.inr (Or.inr (Or.inr ((P9 (by omega) (by omega) (k := 9) rfl).mpr (bi_1.mp c45))))), fun _ => by decide⟩
        | exact e53 0 ⟨fun z => absurd rfl z, fun z => absurd z (fun y => y.elim (fun y => absurd ((P9 (by omega) (by omega) (k := 1) rfl).mp y) (by rw [bi_0.mp c6]; decide)) (fun y => y.elim (fun y => absurd ((P9 (by omega) (by omega) (k := 5) rfl).mp y) (by rw [bi_0.mp c15]; decide)) (fun y => y.elim (fun y => absurd ((P9 (by omega) (by omega) (k := 6) rfl).mp y) (by rw [bi_0.mp c25]; decide)) (fun y => y.elim (fun y => absurd ((P9 (by omega) (by omega) (k := 7) rfl).mp y) (by rw [bi_0.mp c35]; decide)) (fun y => absurd ((P9 (by omega) (by omega) (k := 9) rfl).mp y) (by rw [bi_0.mp c45]; decide))))))⟩
    · refine rx_aload_nr d_Mo_joins_18 (by rfl) ?_
      refine rx_iload_n d_Mo_joins_19 (by rfl) ?_
      refine rx_bipush (v := 6) d_Mo_joins_20 (by decide) ?_
      refine rx_cV d_Mo_joins_22 (by rfl) ml_Mo_90 im_Mo_has se_Mo_has (by exact c9_Mo_has) (mr0 ha) (by rfl) (by exact Nat.le_of_ble_eq_true rfl) (k_has ha hN hv (b := b) (k := 6) (by omega) (by omega)) ?_
      refine rx_if_ne (tgt := 48) d_Mo_joins_25 (by rfl) (fun c25 => ?_) (fun c25 => ?_)
      · refine rx_iconst (v := 1) d_Mo_joins_48 (by decide) ?_
        refine rx_goto (tgt := 53) d_Mo_joins_49 (by rfl) ?_
        first
          | exact e53 1 ⟨fun _ => Or.inl ((P9 (by omega) (by omega) (k := 1) rfl).mpr (bi_1.mp c6)), fun _ => by decide⟩
          | exact e53 1 ⟨fun _ => Or.inr (Or.inl ((P9 (by omega) (by omega) (k := 5) rfl).mpr (bi_1.mp c15))), fun _ => by decide⟩
          | exact e53 1 ⟨fun _ => Or.inr (Or.inr (Or.inl ((P9 (by omega) (by omega) (k := 6) rfl).mpr (bi_1.mp c25)))), fun _ => by decide⟩
          | exact e53 1 ⟨fun _ => Or.inr (Or.inr (Or.inr (Or.inl ((P9 (by omega) (by omega) (k := 7) rfl).mpr (bi_1.mp c35))))), fun _ => by decide⟩
          | exact e53 1 ⟨fun _ => Or.inr (Or.inr (Or.inr (Or.inr ((P9 (by omega) (by omega) (k := 9) rfl).mpr (bi_1.mp c45))))), fun _ => by decide⟩
          | exact e53 0 ⟨fun z => absurd rfl z, fun z => absurd z (fun y => y.elim (fun y => absurd ((P9 (by omega) (by omega) (k := 1) rfl).mp y) (by rw [bi_0.mp c6]; decide)) (fun y => y.elim (fun y => absurd ((P9 (by omega) (by omega) (k := 5) rfl).mp y) (by rw [bi_0.mp c15]; decide)) (fun y => y.elim (fun y => absurd ((P9 (by omega) (by omega) (k := 6) rfl).mp y) (by rw [bi_0.mp c25]; decide)) (fun y => y.elim (fun y => absurd ((P9 (by omega) (by omega) (k := 7) rfl).mp y) (by rw [bi_0.mp c35]; decide)) (fun y => absurd ((P9 (by omega) (by omega) (k := 9) rfl).mp y) (by rw [bi_0.mp c45]; decide))))))⟩
      · refine rx_aload_nr d_Mo_joins_28 (by rfl) ?_
        refine rx_iload_n d_Mo_joins_29 (by rfl) ?_
        refine rx_bipush (v := 7) d_Mo_joins_30 (by decide) ?_
        refine rx_cV d_Mo_joins_32 (by rfl) ml_Mo_90 im_Mo_has se_Mo_has (by exact c9_Mo_has) (mr0 ha) (by rfl) (by exact Nat.le_of_ble_eq_true rfl) (k_has ha hN hv (b := b) (k := 7) (by omega) (by omega)) ?_
        refine rx_if_ne (tgt := 48) d_Mo_joins_35 (by rfl) (fun c35 => ?_) (fun c35 => ?_)
        · refine rx_iconst (v := 1) d_Mo_joins_48 (by decide) ?_
          refine rx_goto (tgt := 53) d_Mo_joins_49 (by rfl) ?_
          first
            | exact e53 1 ⟨fun _ => Or.inl ((P9 (by omega) (by omega) (k := 1) rfl).mpr (bi_1.mp c6)), fun _ => by decide⟩
            | exact e53 1 ⟨fun _ => Or.inr (Or.inl ((P9 (by omega) (by omega) (k := 5) rfl).mpr (bi_1.mp c15))), fun _ => by decide⟩
            | exact e53 1 ⟨fun _ => Or.inr (Or.inr (Or.inl ((P9 (by omega) (by omega) (k := 6) rfl).mpr (bi_1.mp c25)))), fun _ => by decide⟩
            | exact e53 1 ⟨fun _ => Or.inr (Or.inr (Or.inr (Or.inl ((P9 (by omega) (by omega) (k := 7) rfl).mpr (bi_1.mp c35))))), fun _ => by decide⟩
            | exact e53 1 ⟨fun _ => Or.inr (Or.inr (Or.inr (Or.inr ((P9 (by omega) (by omega) (k := 9) rfl).mpr (bi_1.mp c45))))), fun _ => by decide⟩
            | exact e53 0 ⟨fun z => absurd rfl z, fun z => absurd z (fun y => y.elim (fun y => absurd ((P9 (by omega) (by omega) (k := 1) rfl).mp y) (by rw [bi_0.mp c6]; decide)) (fun y => y.elim (fun y => absurd ((P9 (by omega) (by omega) (k := 5) rfl).mp y) (by rw [bi_0.mp c15]; decide)) (fun y => y.elim (fun y => absurd ((P9 (by omega) (by omega) (k := 6) rfl).mp y) (by rw [bi_0.mp c25]; decide)) (fun y => y.elim (fun y => absurd ((P9 (by omega) (by omega) (k := 7) rfl).mp y) (by rw [bi_0.mp c35]; decide)) (fun y => absurd ((P9 (by omega) (by omega) (k := 9) rfl).mp y) (by rw [bi_0.mp c45]; decide))))))⟩
        · refine rx_aload_nr d_Mo_joins_38 (by rfl) ?_
          refine rx_iload_n d_Mo_joins_39 (by rfl) ?_
          refine rx_bipush (v := 9) d_Mo_joins_40 (by decide) ?_
          refine rx_cV d_Mo_joins_42 (by rfl) ml_Mo_90 im_Mo_has se_Mo_has (by exact c9_Mo_has) (mr0 ha) (by rfl) (by exact Nat.le_of_ble_eq_true rfl) (k_has ha hN hv (b := b) (k := 9) (by omega) (by omega)) ?_
          refine rx_if_eq (tgt := 52) d_Mo_joins_45 (by rfl) (fun c45 => ?_) (fun c45 => ?_)
          · refine rx_iconst (v := 0) d_Mo_joins_52 (by decide) ?_
            first
              | exact e53 1 ⟨fun _ => Or.inl ((P9 (by omega) (by omega) (k := 1) rfl).mpr (bi_1.mp c6)), fun _ => by decide⟩
              | exact e53 1 ⟨fun _ => Or.inr (Or.inl ((P9 (by omega) (by omega) (k := 5) rfl).mpr (bi_1.mp c15))), fun _ => by decide⟩
              | exact e53 1 ⟨fun _ => Or.inr (Or.inr (Or.inl ((P9 (by omega) (by omega) (k := 6) rfl).mpr (bi_1.mp c25)))), fun _ => by decide⟩
              | exact e53 1 ⟨fun _ => Or.inr (Or.inr (Or.inr (Or.inl ((P9 (by omega) (by omega) (k := 7) rfl).mpr (bi_1.mp c35))))), fun _ => by decide⟩
              | exact e53 1 ⟨fun _ => Or.inr (Or.inr (Or.inr (Or.inr ((P9 (by omega) (by omega) (k := 9) rfl).mpr (bi_1.mp c45))))), fun _ => by decide⟩
              | exact e53 0 ⟨fun z => absurd rfl z, fun z => absurd z (fun y => y.elim (fun y => absurd ((P9 (by omega) (by omega) (k := 1) rfl).mp y) (by rw [bi_0.mp c6]; decide)) (fun y => y.elim (fun y => absurd ((P9 (by omega) (by omega) (k := 5) rfl).mp y) (by rw [bi_0.mp c15]; decide)) (fun y => y.elim (fun y => absurd ((P9 (by omega) (by omega) (k := 6) rfl).mp y) (by rw [bi_0.mp c25]; decide)) (fun y => y.elim (fun y => absurd ((P9 (by omega) (by omega) (k := 7) rfl).mp y) (by rw [bi_0.mp c35]; decide)) (fun y => absurd ((P9 (by omega) (by omega) (k := 9) rfl).mp y) (by rw [bi_0.mp c45]; decide))))))⟩
          · refine rx_iconst (v := 1) d_Mo_joins_48 (by decide) ?_
            refine rx_goto (tgt := 53) d_Mo_joins_49 (by rfl) ?_
            first
              | exact e53 1 ⟨fun _ => Or.inl ((P9 (by omega) (by omega) (k := 1) rfl).mpr (bi_1.mp c6)), fun _ => by decide⟩
              | exact e53 1 ⟨fun _ => Or.inr (Or.inl ((P9 (by omega) (by omega) (k := 5) rfl).mpr (bi_1.mp c15))), fun _ => by decide⟩
              | exact e53 1 ⟨fun _ => Or.inr (Or.inr (Or.inl ((P9 (by omega) (by omega) (k := 6) rfl).mpr (bi_1.mp c25)))), fun _ => by decide⟩
              | exact e53 1 ⟨fun _ => Or.inr (Or.inr (Or.inr (Or.inl ((P9 (by omega) (by omega) (k := 7) rfl).mpr (bi_1.mp c35))))), fun _ => by decide⟩
              | exact e53 1 ⟨fun _ => Or.inr (Or.inr (Or.inr (Or.inr ((P9 (by omega) (by omega) (k := 9) rfl).mpr (bi_1.mp c45))))), fun _ => by decide⟩
              | exact e53 0 ⟨fun z => absurd rfl z, fun z => absurd z (fun y => y.elim (fun y => absurd ((P9 (by omega) (by omega) (k := 1) rfl).mp y) (by rw [bi_0.mp c6]; decide)) (fun y => y.elim (fun y => absurd ((P9 (by omega) (by omega) (k := 5) rfl).mp y) (by rw [bi_0.mp c15]; decide)) (fun y => y.elim (fun y => absurd ((P9 (by omega) (by omega) (k := 6) rfl).mp y) (by rw [bi_0.mp c25]; decide)) (fun y => y.elim (fun y => absurd ((P9 (by omega) (by omega) (k := 7) rfl).mp y) (by rw [bi_0.mp c35]; decide)) (fun y => absurd ((P9 (by omega) (by omega) (k := 9) rfl).mp y) (by rw [bi_0.mp c45]; decide))))))⟩
theorem ffo_s {α : Type} {f : α → Nat → α} {x : α} {i : Nat} : ffo f x 0 (i + 1) = f (ffo f x 0 i) i := by
  rw [ffo_add i 0 1, Nat.zero_add]; rfl
theorem l_nextNote (ha : a = V.2.1 + h1.length) (q : mQ n num S) (p b be : Int32) : ∀ (m i : Nat) (x : Int32) (y6 y7 : Option Value), i + m = num → x = ffo (nns S p b be) (-1) 0 i → (x = -1 ∨ ∃ j, j < num ∧ x = nI j) → rx_W V d kc ks m_Mo_nextNote 6 [some (.ref a), some (.int p), some (.int b), some (.int be), some (.int x), some (.int (nI i)), y6, y7] [] (mw V h1 a S h2) (rx_X (.inl (some (.int (ffo (nns S p b be) (-1) 0 num)))) (mw V h1 a S h2)) := by
  have hq := q.2
  intro m
  induction m with
  | zero =>
    intro i x y6 y7 hi hx hr
    have e : i = num := by omega
    subst e
    refine rx_iload d_Mo_nextNote_6 (by rfl) ?_
    refine rx_aload_nr d_Mo_nextNote_8 (by rfl) ?_
    refine rx_getfield d_Mo_nextNote_9 fl_Mo_78 (mr0 ha) (by rfl) ?_
    rw [show S.1 6 = nI i from q.1]
    refine rx_icmp_ge (tgt := 120) d_Mo_nextNote_12 (by rfl) (fun c12 => ?_) (fun z => absurd (Int32.le_refl _) z)
    refine rx_iload d_Mo_nextNote_120 (by rfl) ?_
    refine rx_ireturn d_Mo_nextNote_122 (by rfl) ?_
    exact ⟨by rw [hx], rfl⟩
  | succ m ih =>
    intro i x y6 y7 hi hx hr
    have no : ∀ y6 y7, ¬ ((MS S i 0 = p ∧ MS S i 1 = b ∧ be < nky (MS S i)) ∧ (x < 0 ∨ nky (MS S i) < nky (MS S x.toNatClampNeg))) → rx_W V d kc ks m_Mo_nextNote 6 [some (.ref a), some (.int p), some (.int b), some (.int be), some (.int x), some (.int (nI (i + 1))), y6, y7] [] (mw V h1 a S h2) (rx_X (.inl (some (.int (ffo (nns S p b be) (-1) 0 num)))) (mw V h1 a S h2)) := fun y6 y7 z => ih (i + 1) x y6 y7 (by omega) (by rw [ffo_s, ← hx]; exact (if_neg z).symm) hr
    have yes : ∀ y6 y7, ((MS S i 0 = p ∧ MS S i 1 = b ∧ be < nky (MS S i)) ∧ (x < 0 ∨ nky (MS S i) < nky (MS S x.toNatClampNeg))) → rx_W V d kc ks m_Mo_nextNote 6 [some (.ref a), some (.int p), some (.int b), some (.int be), some (.int (nI i)), some (.int (nI (i + 1))), y6, y7] [] (mw V h1 a S h2) (rx_X (.inl (some (.int (ffo (nns S p b be) (-1) 0 num)))) (mw V h1 a S h2)) := fun y6 y7 z => ih (i + 1) (nI i) y6 y7 (by omega) (by rw [ffo_s, ← hx]; exact (if_pos z).symm) (Or.inr ⟨i, by omega, rfl⟩)
    refine rx_iload d_Mo_nextNote_6 (by rfl) ?_
    refine rx_aload_nr d_Mo_nextNote_8 (by rfl) ?_
    refine rx_getfield d_Mo_nextNote_9 fl_Mo_78 (mr0 ha) (by rfl) ?_
    rw [show S.1 6 = nI num from q.1]
    refine rx_icmp_ge (tgt := 120) d_Mo_nextNote_12 (by rfl) (fun z => absurd z (nI_ge (by omega) (by omega))) (fun c12 => ?_)
    refine rx_sipush (v := 128) d_Mo_nextNote_15 (by decide) ?_
    refine rx_aload_nr d_Mo_nextNote_18 (by rfl) ?_
    refine rx_getfield d_Mo_nextNote_19 fl_Mo_28 (mr0 ha) (by rfl) ?_
    refine rx_iload d_Mo_nextNote_22 (by rfl) ?_
    refine m_ial (j := 7) ha d_Mo_nextNote_24 (by rfl) (by omega) (by decide) ?_
    refine rx_imul d_Mo_nextNote_25 ?_
    refine rx_aload_nr d_Mo_nextNote_26 (by rfl) ?_
    refine rx_getfield d_Mo_nextNote_27 fl_Mo_34 (mr0 ha) (by rfl) ?_
    refine rx_iload d_Mo_nextNote_30 (by rfl) ?_
    refine m_ial (j := 9) ha d_Mo_nextNote_32 (by rfl) (by omega) (by decide) ?_
    refine rx_iadd d_Mo_nextNote_33 ?_
    rw [show (128 : Int32) * S.2.2 7 i + S.2.2 9 i = nky (MS S i) from rfl]
    refine rx_istore d_Mo_nextNote_34 (Nat.le_of_ble_eq_true rfl) ?_
    refine rx_aload_nr d_Mo_nextNote_36 (by rfl) ?_
    refine rx_getfield d_Mo_nextNote_37 fl_Mo_22 (mr0 ha) (by rfl) ?_
    refine rx_iload d_Mo_nextNote_40 (by rfl) ?_
    refine m_ial (j := 5) ha d_Mo_nextNote_42 (by rfl) (by omega) (by decide) ?_
    refine rx_iload_n d_Mo_nextNote_43 (by rfl) ?_
    refine rx_icmp_ne (tgt := 68) d_Mo_nextNote_44 (by rfl) (fun c44 => ?_) (fun c44 => ?_)
    · refine rx_iconst (v := 0) d_Mo_nextNote_68 (by decide) ?_
      refine rx_istore d_Mo_nextNote_69 (Nat.le_of_ble_eq_true rfl) ?_
      refine rx_iload d_Mo_nextNote_71 (by rfl) ?_
      refine rx_if_eq (tgt := 110) d_Mo_nextNote_73 (by rfl) (fun _ => ?_) (fun z => absurd z (by decide))
      refine rx_iload d_Mo_nextNote_110 (by rfl) ?_
      refine rx_istore d_Mo_nextNote_112 (Nat.le_of_ble_eq_true rfl) ?_
      refine rx_iinc (v := nI (i + 1)) d_Mo_nextNote_114 (by rfl) (i_inc i) ?_
      refine rx_goto (tgt := 6) d_Mo_nextNote_117 (by rfl) ?_
      first
        | exact no _ _ (fun z => c44 z.1.1)
        | exact no _ _ (fun z => c55 z.1.2.1)
        | exact no _ _ (fun z => c61 z.1.2.2)
        | exact yes _ _ ⟨⟨c44, c55, c61⟩, Or.inl c78⟩
        | exact no _ _ (fun z => z.2.elim c78 (fun y => by rw [i_cl (by omega)] at y; exact i_nlt c102 y))
        | exact yes _ _ ⟨⟨c44, c55, c61⟩, Or.inr (by rw [i_cl (by omega)]; exact Decidable.not_not.mp (fun y => c102 (i_nle' y)))⟩
    · refine rx_aload_nr d_Mo_nextNote_47 (by rfl) ?_
      refine rx_getfield d_Mo_nextNote_48 fl_Mo_25 (mr0 ha) (by rfl) ?_
      refine rx_iload d_Mo_nextNote_51 (by rfl) ?_
      refine m_ial (j := 6) ha d_Mo_nextNote_53 (by rfl) (by omega) (by decide) ?_
      refine rx_iload_n d_Mo_nextNote_54 (by rfl) ?_
      refine rx_icmp_ne (tgt := 68) d_Mo_nextNote_55 (by rfl) (fun c55 => ?_) (fun c55 => ?_)
      · refine rx_iconst (v := 0) d_Mo_nextNote_68 (by decide) ?_
        refine rx_istore d_Mo_nextNote_69 (Nat.le_of_ble_eq_true rfl) ?_
        refine rx_iload d_Mo_nextNote_71 (by rfl) ?_
        refine rx_if_eq (tgt := 110) d_Mo_nextNote_73 (by rfl) (fun _ => ?_) (fun z => absurd z (by decide))
        refine rx_iload d_Mo_nextNote_110 (by rfl) ?_
        refine rx_istore d_Mo_nextNote_112 (Nat.le_of_ble_eq_true rfl) ?_
        refine rx_iinc (v := nI (i + 1)) d_Mo_nextNote_114 (by rfl) (i_inc i) ?_
        refine rx_goto (tgt := 6) d_Mo_nextNote_117 (by rfl) ?_
        first
          | exact no _ _ (fun z => c44 z.1.1)
          | exact no _ _ (fun z => c55 z.1.2.1)
          | exact no _ _ (fun z => c61 z.1.2.2)
          | exact yes _ _ ⟨⟨c44, c55, c61⟩, Or.inl c78⟩
          | exact no _ _ (fun z => z.2.elim c78 (fun y => by rw [i_cl (by omega)] at y; exact i_nlt c102 y))
          | exact yes _ _ ⟨⟨c44, c55, c61⟩, Or.inr (by rw [i_cl (by omega)]; exact Decidable.not_not.mp (fun y => c102 (i_nle' y)))⟩
      · refine rx_iload d_Mo_nextNote_58 (by rfl) ?_
        refine rx_iload_n d_Mo_nextNote_60 (by rfl) ?_
        refine rx_icmp_le (tgt := 68) d_Mo_nextNote_61 (by rfl) (fun c61 => ?_) (fun c61 => ?_)
        · have c61 := i_nlt c61
          refine rx_iconst (v := 0) d_Mo_nextNote_68 (by decide) ?_
          refine rx_istore d_Mo_nextNote_69 (Nat.le_of_ble_eq_true rfl) ?_
          refine rx_iload d_Mo_nextNote_71 (by rfl) ?_
          refine rx_if_eq (tgt := 110) d_Mo_nextNote_73 (by rfl) (fun _ => ?_) (fun z => absurd z (by decide))
          refine rx_iload d_Mo_nextNote_110 (by rfl) ?_
          refine rx_istore d_Mo_nextNote_112 (Nat.le_of_ble_eq_true rfl) ?_
          refine rx_iinc (v := nI (i + 1)) d_Mo_nextNote_114 (by rfl) (i_inc i) ?_
          refine rx_goto (tgt := 6) d_Mo_nextNote_117 (by rfl) ?_
          first
            | exact no _ _ (fun z => c44 z.1.1)
            | exact no _ _ (fun z => c55 z.1.2.1)
            | exact no _ _ (fun z => c61 z.1.2.2)
            | exact yes _ _ ⟨⟨c44, c55, c61⟩, Or.inl c78⟩
            | exact no _ _ (fun z => z.2.elim c78 (fun y => by rw [i_cl (by omega)] at y; exact i_nlt c102 y))
            | exact yes _ _ ⟨⟨c44, c55, c61⟩, Or.inr (by rw [i_cl (by omega)]; exact Decidable.not_not.mp (fun y => c102 (i_nle' y)))⟩
        · have c61 := i_nle c61
          refine rx_iconst (v := 1) d_Mo_nextNote_64 (by decide) ?_
          refine rx_goto (tgt := 69) d_Mo_nextNote_65 (by rfl) ?_
          refine rx_istore d_Mo_nextNote_69 (Nat.le_of_ble_eq_true rfl) ?_
          refine rx_iload d_Mo_nextNote_71 (by rfl) ?_
          refine rx_if_eq (tgt := 110) d_Mo_nextNote_73 (by rfl) (fun z => absurd z (by decide)) (fun _ => ?_)
          refine rx_iload d_Mo_nextNote_76 (by rfl) ?_
          refine rx_if_lt (tgt := 105) d_Mo_nextNote_78 (by rfl) (fun c78 => ?_) (fun c78 => ?_)
          · refine rx_iload d_Mo_nextNote_105 (by rfl) ?_
            refine rx_goto (tgt := 112) d_Mo_nextNote_107 (by rfl) ?_
            refine rx_istore d_Mo_nextNote_112 (Nat.le_of_ble_eq_true rfl) ?_
            refine rx_iinc (v := nI (i + 1)) d_Mo_nextNote_114 (by rfl) (i_inc i) ?_
            refine rx_goto (tgt := 6) d_Mo_nextNote_117 (by rfl) ?_
            first
              | exact no _ _ (fun z => c44 z.1.1)
              | exact no _ _ (fun z => c55 z.1.2.1)
              | exact no _ _ (fun z => c61 z.1.2.2)
              | exact yes _ _ ⟨⟨c44, c55, c61⟩, Or.inl c78⟩
              | exact no _ _ (fun z => z.2.elim c78 (fun y => by rw [i_cl (by omega)] at y; exact i_nlt c102 y))
              | exact yes _ _ ⟨⟨c44, c55, c61⟩, Or.inr (by rw [i_cl (by omega)]; exact Decidable.not_not.mp (fun y => c102 (i_nle' y)))⟩
          · obtain ⟨j, hj, ej⟩ : ∃ j, j < num ∧ x = nI j := hr.elim (fun z => absurd (by rw [z]; decide) c78) id
            subst ej
            refine rx_iload d_Mo_nextNote_81 (by rfl) ?_
            refine rx_sipush (v := 128) d_Mo_nextNote_83 (by decide) ?_
            refine rx_aload_nr d_Mo_nextNote_86 (by rfl) ?_
            refine rx_getfield d_Mo_nextNote_87 fl_Mo_28 (mr0 ha) (by rfl) ?_
            refine rx_iload d_Mo_nextNote_90 (by rfl) ?_
            refine m_ial (j := 7) ha d_Mo_nextNote_92 (by rfl) (by omega) (by decide) ?_
            refine rx_imul d_Mo_nextNote_93 ?_
            refine rx_aload_nr d_Mo_nextNote_94 (by rfl) ?_
            refine rx_getfield d_Mo_nextNote_95 fl_Mo_34 (mr0 ha) (by rfl) ?_
            refine rx_iload d_Mo_nextNote_98 (by rfl) ?_
            refine m_ial (j := 9) ha d_Mo_nextNote_100 (by rfl) (by omega) (by decide) ?_
            refine rx_iadd d_Mo_nextNote_101 ?_
            rw [show (128 : Int32) * S.2.2 7 j + S.2.2 9 j = nky (MS S j) from rfl]
            refine rx_icmp_ge (tgt := 110) d_Mo_nextNote_102 (by rfl) (fun c102 => ?_) (fun c102 => ?_)
            · refine rx_iload d_Mo_nextNote_110 (by rfl) ?_
              refine rx_istore d_Mo_nextNote_112 (Nat.le_of_ble_eq_true rfl) ?_
              refine rx_iinc (v := nI (i + 1)) d_Mo_nextNote_114 (by rfl) (i_inc i) ?_
              refine rx_goto (tgt := 6) d_Mo_nextNote_117 (by rfl) ?_
              first
                | exact no _ _ (fun z => c44 z.1.1)
                | exact no _ _ (fun z => c55 z.1.2.1)
                | exact no _ _ (fun z => c61 z.1.2.2)
                | exact yes _ _ ⟨⟨c44, c55, c61⟩, Or.inl c78⟩
                | exact no _ _ (fun z => z.2.elim c78 (fun y => by rw [i_cl (by omega)] at y; exact i_nlt c102 y))
                | exact yes _ _ ⟨⟨c44, c55, c61⟩, Or.inr (by rw [i_cl (by omega)]; exact Decidable.not_not.mp (fun y => c102 (i_nle' y)))⟩
            · refine rx_iload d_Mo_nextNote_105 (by rfl) ?_
              refine rx_goto (tgt := 112) d_Mo_nextNote_107 (by rfl) ?_
              refine rx_istore d_Mo_nextNote_112 (Nat.le_of_ble_eq_true rfl) ?_
              refine rx_iinc (v := nI (i + 1)) d_Mo_nextNote_114 (by rfl) (i_inc i) ?_
              refine rx_goto (tgt := 6) d_Mo_nextNote_117 (by rfl) ?_
              first
                | exact no _ _ (fun z => c44 z.1.1)
                | exact no _ _ (fun z => c55 z.1.2.1)
                | exact no _ _ (fun z => c61 z.1.2.2)
                | exact yes _ _ ⟨⟨c44, c55, c61⟩, Or.inl c78⟩
                | exact no _ _ (fun z => z.2.elim c78 (fun y => by rw [i_cl (by omega)] at y; exact i_nlt c102 y))
                | exact yes _ _ ⟨⟨c44, c55, c61⟩, Or.inr (by rw [i_cl (by omega)]; exact Decidable.not_not.mp (fun y => c102 (i_nle' y)))⟩
theorem k_nextNote (ha : a = V.2.1 + h1.length) (q : mQ n num S) (p b be : Int32) : rx_C V d kc ks m_Mo_nextNote [.ref a, .int p, .int b, .int be] (mw V h1 a S h2) (rx_X (.inl (some (.int (ffo (nns S p b be) (-1) 0 num)))) (mw V h1 a S h2)) := by
  refine rx_iconst (v := -1) d_Mo_nextNote_0 (by decide) ?_
  refine rx_istore d_Mo_nextNote_1 (Nat.le_of_ble_eq_true rfl) ?_
  refine rx_iconst (v := 0) d_Mo_nextNote_3 (by decide) ?_
  refine rx_istore d_Mo_nextNote_4 (Nat.le_of_ble_eq_true rfl) ?_
  exact l_nextNote ha q p b be num 0 (-1) _ _ (by omega) rfl (Or.inl rfl)
end MRE
