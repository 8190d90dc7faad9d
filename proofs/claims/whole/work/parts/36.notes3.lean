/-! Notes.add, Notes.shift; Page.shape, put, the cuts -/
def ins {α : Type} (f : Nat → α) (p : Nat) (v : α) : Nat → α := fun i => if i < p then f i else if i = p then v else f (i - 1)
theorem ins_l {α : Type} {f : Nat → α} {p i : Nat} {v : α} (h : i < p) : ins f p v i = f i := if_pos h
theorem ins_e {α : Type} {f : Nat → α} {p : Nat} {v : α} : ins f p v p = v := (if_neg (Nat.lt_irrefl _)).trans (if_pos rfl)
theorem ins_g {α : Type} {f : Nat → α} {p i : Nat} {v : α} (h : p < i) : ins f p v i = f (i - 1) := (if_neg (by omega)).trans (if_neg (by omega))
/-- where a note goes -/
noncomputable def plc (NS : Nat → Nat → Int32) (X : Nat → Int32) : Nat → Nat
  | 0 => 0
  | j + 1 => @ite _ (nbh (NS j) X) (Classical.propDecidable _) (plc NS X j) (j + 1)
theorem plc_le {NS : Nat → Nat → Int32} {X : Nat → Int32} (k : Nat) : plc NS X k ≤ k := by
  induction k with
  | zero => exact Nat.le_refl _
  | succ k ih =>
    by_cases c : nbh (NS k) X
    · rw [show plc NS X (k + 1) = plc NS X k from if_pos c]; omega
    · rw [show plc NS X (k + 1) = k + 1 from if_neg c]; exact Nat.le_refl _
section N3
variable {V : rx_V} {d kc ks a n al at_ av aN ar num q q2 : Nat} {h : List va_E} {Le Te Va N N2 X : Nat → Int32} {f : Nat → Option Nat} {na : Nat → Nat} {NS : Nat → Nat → Int32}
theorem c_isBh (hr : rx_rd V h q = some (ncl N)) (hr2 : rx_rd V h q2 = some (ncl N2)) : rx_C V d kc ks m_Note_isBehind [.ref q, .ref q2] h (rx_X (.inl (some (.int (bP (nbh N N2))))) h) :=
  rx_cons (c_isBehind hr hr2) (fun r h' z => by
    obtain ⟨z1, ⟨z2, z3⟩ | ⟨z2, z3⟩⟩ := z
    · exact ⟨by rw [bP_t z2]; exact z3, z1⟩
    · exact ⟨by rw [bP_f z2]; exact z3, z1⟩)
theorem l_add52 (hN : is_nt V h aN ar num f na NS) (h40 : num < 40) (hq : rx_rd V h q = some (ncl X)) {k : Nat} (hk : k ≤ num) {h1 : List va_E} {f1 : Nat → Option Nat} (hf1 : ∀ j, f1 j = if k < j ∧ j ≤ num then f (j - 1) else f j) (ha : rx_rd V h1 ar = some (.inl (V.2.2.2.1 4, 40, .inr (.inr (.inr (.inr f1)))))) (hf : rx_fr V h h1 (fun x => x = ar)) : rx_W V (d + 1) kc ks m_Notes_add 52 [some (.ref aN), some (.ref q), some (.int (nI k))] [] h1 (fun r9 h' => r9 = .inl none ∧ ∃ f', is_nt V h' aN ar (num + 1) f' (ins na k q) (ins NS k X) ∧ rx_fr V h h' (fun x => x = aN ∨ x = ar)) := by
  have hNr : aN ≠ ar := rx_ne hN.1 hN.2.1 (fun z => by cases z)
  have hqr : q ≠ ar := rx_ne hq hN.2.1 (fun z => by cases z)
  have hqN : q ≠ aN := rx_ne hq hN.1 (fun z => by cases z)
  have hN1 := (hf.2 aN hNr).trans hN.1
  have hq1 := (hf.2 q hqr).trans hq
  have hir : ∀ i, i < num → na i ≠ ar := fun i hi => rx_ne (hN.2.2.2.1 i hi) hN.2.1 (fun z => by cases z)
  have hiN : ∀ i, i < num → na i ≠ aN := fun i hi => rx_ne (hN.2.2.2.1 i hi) hN.1 (fun z => by cases z)
  refine rx_aload_nr d_Notes_add_52 (by rfl) ?_
  refine rx_getfield d_Notes_add_53 fl_Notes_11 hN1 (by rfl) ?_
  refine rx_iload_n d_Notes_add_56 (by rfl) ?_
  refine rx_aload_nr d_Notes_add_57 (by rfl) ?_
  refine rx_aastore (r := ("ScoreRoads$Note", F_Note, 6)) d_Notes_add_58 (by rfl) ha hq1 (by rfl) (vp_in_nI (by omega) (by omega)) ?_
  rw [i_cl (by omega)]
  have f2 := hf.tr (rx_fr.wr (e := .inl (V.2.2.2.1 4, 40, .inr (.inr (.inr (.inr (va_up f1 k (some q))))))) ha rfl)
  have hN2 := (f2.2 aN hNr).trans hN.1
  refine rx_aload_nr d_Notes_add_59 (by rfl) ?_
  refine rx_dup d_Notes_add_60 (by rfl) ?_
  refine rx_getfield d_Notes_add_61 fl_Notes_17 hN2 (by rfl) ?_
  refine rx_iconst (v := 1) d_Notes_add_64 (by decide) ?_
  refine rx_iadd d_Notes_add_65 ?_
  rw [nI_1]
  refine rx_putfield d_Notes_add_66 (fw_Notes_17 rfl) hN2 (Nat.le_of_ble_eq_true rfl) (by rfl) (by rfl) ?_
  refine rx_vreturn d_Notes_add_69 (by rfl) ?_
  have f3 := (f2.mo (fun x z => Or.inr z)).tr (rx_fr.wr (FP := fun x => x = aN ∨ x = ar) (e := .inr (2, [.ref ar, .int (nI (num + 1))])) hN2 (Or.inl rfl))
  have ha2 : rx_rd V (rx_wr V h1 ar (.inl (V.2.2.2.1 4, 40, .inr (.inr (.inr (.inr (va_up f1 k (some q)))))))) ar = some (.inl (V.2.2.2.1 4, 40, .inr (.inr (.inr (.inr (va_up f1 k (some q))))))) := rx_rd_wr ha
  refine ⟨rfl, va_up f1 k (some q), ⟨rx_rd_wr hN2, (rx_rd_wn hN2 (Ne.symm hNr)).trans ha2, fun i hi => ?_, fun i hi => ?_, by omega⟩, f3⟩
  · rw [up_va]
    by_cases e : i = k
    · rw [e, up_s, ins_e]
    · rw [up_o e, hf1 i]
      by_cases c : i < k
      · rw [if_neg (by omega), ins_l c]; exact hN.2.2.1 i (by omega)
      · rw [if_pos (by omega), ins_g (by omega)]; exact hN.2.2.1 (i - 1) (by omega)
  · by_cases e : i = k
    · rw [e, ins_e, ins_e]
      exact (f3.2 q (fun z => z.elim hqN hqr)).trans hq
    · by_cases c : i < k
      · rw [ins_l c, ins_l c]
        exact (f3.2 _ (fun z => z.elim (hiN i (by omega)) (hir i (by omega)))).trans (hN.2.2.2.1 i (by omega))
      · rw [ins_g (by omega), ins_g (by omega)]
        exact (f3.2 _ (fun z => z.elim (hiN (i - 1) (by omega)) (hir (i - 1) (by omega)))).trans (hN.2.2.2.1 (i - 1) (by omega))
theorem l_add13 (hN : is_nt V h aN ar num f na NS) (h40 : num < 40) (hq : rx_rd V h q = some (ncl X)) : ∀ (k : Nat) (h1 : List va_E) (f1 : Nat → Option Nat), k ≤ num → (∀ j, f1 j = if k < j ∧ j ≤ num then f (j - 1) else f j) → rx_rd V h1 ar = some (.inl (V.2.2.2.1 4, 40, .inr (.inr (.inr (.inr f1))))) → rx_fr V h h1 (fun x => x = ar) → rx_W V (d + 1) kc ks m_Notes_add 13 [some (.ref aN), some (.ref q), some (.int (nI k))] [] h1 (fun r9 h' => r9 = .inl none ∧ ∃ f', is_nt V h' aN ar (num + 1) f' (ins na (plc NS X k) q) (ins NS (plc NS X k) X) ∧ rx_fr V h h' (fun x => x = aN ∨ x = ar)) := by
  have hNr : aN ≠ ar := rx_ne hN.1 hN.2.1 (fun z => by cases z)
  have hqr : q ≠ ar := rx_ne hq hN.2.1 (fun z => by cases z)
  have hir : ∀ i, i < num → na i ≠ ar := fun i hi => rx_ne (hN.2.2.2.1 i hi) hN.2.1 (fun z => by cases z)
  intro k
  induction k with
  | zero =>
    intro h1 f1 hk hf1 ha hf
    refine rx_iload_n d_Notes_add_13 (by rfl) ?_
    refine rx_if_le (tgt := 52) d_Notes_add_14 (by rfl) (fun c14 => ?_) (fun z => absurd (by decide) z)
    exact l_add52 hN h40 hq hk hf1 ha hf
  | succ k ih =>
    intro h1 f1 hk hf1 ha hf
    have hN1 := (hf.2 aN hNr).trans hN.1
    have hq1 := (hf.2 q hqr).trans hq
    have hi1 := (hf.2 (na k) (hir k (by omega))).trans (hN.2.2.2.1 k (by omega))
    have e1 : f1 k = some (na k) := by rw [hf1 k, if_neg (by omega)]; exact hN.2.2.1 k (by omega)
    refine rx_iload_n d_Notes_add_13 (by rfl) ?_
    refine rx_if_le (tgt := 52) d_Notes_add_14 (by rfl) (fun z => absurd z (nI_nle (by omega) (by omega))) (fun c14 => ?_)
    refine rx_aload_nr d_Notes_add_17 (by rfl) ?_
    refine rx_getfield d_Notes_add_18 fl_Notes_11 hN1 (by rfl) ?_
    refine rx_iload_n d_Notes_add_21 (by rfl) ?_
    refine rx_iconst (v := 1) d_Notes_add_22 (by decide) ?_
    refine rx_isub d_Notes_add_23 ?_
    rw [nI_pred]
    refine rx_aaload d_Notes_add_24 (by rfl) ha (vp_in_nI (by omega) (by omega)) ?_
    rw [i_cl (by omega), e1]
    show rx_W V (d + 1) kc ks m_Notes_add 25 _ [.ref (na k)] h1 _
    refine rx_aload_nr d_Notes_add_25 (by rfl) ?_
    refine rx_cV d_Notes_add_26 (by rfl) ml_Notes_25 im_Note_isBehind se_Note_isBehind (by exact c9_Note_isBehind) hi1 (by rfl) (by exact Nat.le_of_ble_eq_true rfl) (c_isBh hi1 hq1) ?_
    refine rx_if_eq (tgt := 52) d_Notes_add_29 (by rfl) (fun c29 => ?_) (fun c29 => ?_)
    · rw [show plc NS X (k + 1) = k + 1 from if_neg (bP_0.mp c29)]
      exact l_add52 hN h40 hq hk hf1 ha hf
    · rw [show plc NS X (k + 1) = plc NS X k from if_pos (bP_1.mp c29)]
      refine rx_aload_nr d_Notes_add_32 (by rfl) ?_
      refine rx_getfield d_Notes_add_33 fl_Notes_11 hN1 (by rfl) ?_
      refine rx_iload_n d_Notes_add_36 (by rfl) ?_
      refine rx_aload_nr d_Notes_add_37 (by rfl) ?_
      refine rx_getfield d_Notes_add_38 fl_Notes_11 hN1 (by rfl) ?_
      refine rx_iload_n d_Notes_add_41 (by rfl) ?_
      refine rx_iconst (v := 1) d_Notes_add_42 (by decide) ?_
      refine rx_isub d_Notes_add_43 ?_
      rw [nI_pred]
      refine rx_aaload d_Notes_add_44 (by rfl) ha (vp_in_nI (by omega) (by omega)) ?_
      rw [i_cl (by omega), e1]
      show rx_W V (d + 1) kc ks m_Notes_add 45 _ [.ref (na k), .int (nI (k + 1)), .ref ar] h1 _
      refine rx_aastore (r := ("ScoreRoads$Note", F_Note, 6)) d_Notes_add_45 (by rfl) ha hi1 (by rfl) (vp_in_nI (by omega) (by omega)) ?_
      rw [i_cl (by omega)]
      refine rx_iinc (v := nI k) d_Notes_add_46 (by rfl) (pk_m1 k) ?_
      refine rx_goto (tgt := 13) d_Notes_add_49 (by rfl) ?_
      refine ih _ _ (by omega) (fun j => ?_) (rx_rd_wr ha) (hf.tr (rx_fr.wr ha rfl))
      rw [up_va]
      by_cases e : j = k + 1
      · rw [e, up_s, if_pos (by omega)]
        exact (hN.2.2.1 k (by omega)).symm
      · rw [up_o e, hf1 j]
        by_cases c : k + 1 < j ∧ j ≤ num
        · rw [if_pos c, if_pos (by omega)]
        · rw [if_neg c, if_neg (by omega)]
theorem c_add (hN : is_nt V h aN ar num f na NS) (h40 : num < 40) (hq : rx_rd V h q = some (ncl X)) : rx_C V (d + 1) kc ks m_Notes_add [.ref aN, .ref q] h (fun r9 h' => r9 = .inl none ∧ ∃ f', is_nt V h' aN ar (num + 1) f' (ins na (plc NS X num) q) (ins NS (plc NS X num) X) ∧ rx_fr V h h' (fun x => x = aN ∨ x = ar)) := by
  refine rx_aload_nr d_Notes_add_0 (by rfl) ?_
  refine rx_cV d_Notes_add_1 (by rfl) ml_Notes_21 im_Notes_isFull se_Notes_isFull (by exact c9_Notes_isFull) hN.1 (by rfl) (by exact Nat.le_of_ble_eq_true rfl) (c_isFull hN) ?_
  rw [if_neg (by omega)]
  refine rx_if_eq (tgt := 8) d_Notes_add_4 (by rfl) (fun c4 => ?_) (fun z => absurd rfl z)
  refine rx_aload_nr d_Notes_add_8 (by rfl) ?_
  refine rx_getfield d_Notes_add_9 fl_Notes_17 hN.1 (by rfl) ?_
  refine rx_istore_n d_Notes_add_12 (Nat.le_of_ble_eq_true rfl) ?_
  exact l_add13 hN h40 hq num h f (Nat.le_refl _) (fun j => by rw [if_neg (by omega)]) hN.2.1 rx_fr.rf
theorem is_nt.set (hN : is_nt V h aN ar num f na NS) (hna : ∀ i j, i < num → j < num → na i = na j → i = j) {i : Nat} (hi : i < num) {Y : Nat → Int32} {NS' : Nat → Nat → Int32} (h1 : ∀ k, k < 6 → NS' i k = Y k) (h2 : ∀ j, j ≠ i → NS' j = NS j) : is_nt V (rx_wr V h (na i) (ncl Y)) aN ar num f na NS' := by
  obtain ⟨n1, n2, n3, n4, n5⟩ := hN
  have hc := n4 i hi
  refine ⟨(rx_rd_wn hc (rx_ne n1 hc (fun z => by cases z))).trans n1, (rx_rd_wn hc (rx_ne n2 hc (fun z => by cases z))).trans n2, n3, fun j hj => ?_, n5⟩
  by_cases e : j = i
  · subst e
    rw [rx_rd_wr hc]
    unfold ncl
    rw [h1 0 (by omega), h1 1 (by omega), h1 2 (by omega), h1 3 (by omega), h1 4 (by omega), h1 5 (by omega)]
  · rw [rx_rd_wn hc (fun z => e (hna j i hj hi z)), n4 j hj, h2 j e]
def shf (NS : Nat → Nat → Int32) (p st : Int32) (m : Nat) : Nat → Nat → Int32 := fun j k => if j < m ∧ k = 4 ∧ NS j 0 = p then NS j 4 + st else NS j k
def ctp (NS : Nat → Nat → Int32) (p : Int32) (c : Int32) (i : Nat) : Int32 := if NS i 0 = p then c + 1 else c
def fp_na (num : Nat) (na : Nat → Nat) : Nat → Prop := fun x => ∃ i, i < num ∧ x = na i
theorem l_shift (hna : ∀ i j, i < num → j < num → na i = na j → i = j) (p st : Int32) : ∀ (m i : Nat) (c : Int32) (h1 : List va_E), i + m = num → is_nt V h1 aN ar num f na (shf NS p st i) → rx_fr V h h1 (fp_na num na) → rx_W V d kc ks m_Notes_shift 5 [some (.ref aN), some (.int p), some (.int st), some (.int c), some (.int (nI i))] [] h1 (fun r9 h' => r9 = .inl (some (.int (ffo (ctp NS p) c i m))) ∧ is_nt V h' aN ar num f na (shf NS p st num) ∧ rx_fr V h h' (fp_na num na)) := by
  intro m
  induction m with
  | zero =>
    intro i c h1 hi hN hf
    have e : i = num := by omega
    subst e
    refine rx_iload d_Notes_shift_5 (by rfl) ?_
    refine rx_aload_nr d_Notes_shift_7 (by rfl) ?_
    refine rx_getfield d_Notes_shift_8 fl_Notes_17 hN.1 (by rfl) ?_
    refine rx_icmp_ge (tgt := 53) d_Notes_shift_11 (by rfl) (fun c11 => ?_) (fun z => absurd (Int32.le_refl _) z)
    refine rx_iload_n d_Notes_shift_53 (by rfl) ?_
    refine rx_ireturn d_Notes_shift_54 (by rfl) ?_
    exact ⟨rfl, hN, hf⟩
  | succ m ih =>
    intro i c h1 hi hN hf
    have h40 : num ≤ 40 := hN.2.2.2.2
    have hlt : i < num := by omega
    have hc := hN.2.2.2.1 i hlt
    have z0 : shf NS p st i i 0 = NS i 0 := if_neg (fun z => by omega)
    have z4 : shf NS p st i i 4 = NS i 4 := if_neg (fun z => by omega)
    have zo : ∀ j, j ≠ i → shf NS p st (i + 1) j = shf NS p st i j := by
      intro j hj
      funext k
      unfold shf
      by_cases c : j < i ∧ k = 4 ∧ NS j 0 = p
      · rw [if_pos c, if_pos ⟨by omega, c.2⟩]
      · rw [if_neg c, if_neg (fun z => c ⟨by omega, z.2⟩)]
    refine rx_iload d_Notes_shift_5 (by rfl) ?_
    refine rx_aload_nr d_Notes_shift_7 (by rfl) ?_
    refine rx_getfield d_Notes_shift_8 fl_Notes_17 hN.1 (by rfl) ?_
    refine rx_icmp_ge (tgt := 53) d_Notes_shift_11 (by rfl) (fun z => absurd z (nI_ge hlt (by omega))) (fun c11 => ?_)
    refine rx_aload_nr d_Notes_shift_14 (by rfl) ?_
    refine rx_getfield d_Notes_shift_15 fl_Notes_11 hN.1 (by rfl) ?_
    refine rx_iload d_Notes_shift_18 (by rfl) ?_
    refine rx_aaload d_Notes_shift_20 (by rfl) hN.2.1 (vp_in_nI (by omega) (by omega)) ?_
    rw [i_cl (by omega), hN.2.2.1 i hlt]
    refine rx_getfield d_Notes_shift_21 fl_Notes_56 hc (by rfl) ?_
    rw [z0]
    refine rx_iload_n d_Notes_shift_24 (by rfl) ?_
    refine rx_icmp_ne (tgt := 47) d_Notes_shift_25 (by rfl) (fun c25 => ?_) (fun c25 => ?_)
    · have hs : ctp NS p c i = c := if_neg c25
      have hN2 : is_nt V h1 aN ar num f na (shf NS p st (i + 1)) := by
        have e : shf NS p st (i + 1) = shf NS p st i := by
          funext j
          by_cases w : j = i
          · subst w
            funext k
            unfold shf
            rw [if_neg (fun z => c25 z.2.2), if_neg (fun z => c25 z.2.2)]
          · exact zo j w
        rw [e]; exact hN
      have hf2 := hf
      refine rx_iinc (v := nI (i + 1)) d_Notes_shift_47 (by rfl) (i_inc i) ?_
      refine rx_goto (tgt := 5) d_Notes_shift_50 (by rfl) ?_
      have z := ih (i + 1) (ctp NS p c i) _ (by omega) hN2 hf2
      rw [hs] at z
      show rx_W V d kc ks m_Notes_shift 5 _ [] _ (fun r9 h' => r9 = .inl (some (.int (ffo (ctp NS p) (ctp NS p c i) (i + 1) m))) ∧ is_nt V h' aN ar num f na (shf NS p st num) ∧ rx_fr V h h' (fp_na num na))
      rw [hs]
      exact z
    · have hs : ctp NS p c i = c + 1 := if_pos c25
      refine rx_aload_nr d_Notes_shift_28 (by rfl) ?_
      refine rx_getfield d_Notes_shift_29 fl_Notes_11 hN.1 (by rfl) ?_
      refine rx_iload d_Notes_shift_32 (by rfl) ?_
      refine rx_aaload d_Notes_shift_34 (by rfl) hN.2.1 (vp_in_nI (by omega) (by omega)) ?_
      rw [i_cl (by omega), hN.2.2.1 i hlt]
      refine rx_dup d_Notes_shift_35 (by rfl) ?_
      refine rx_getfield d_Notes_shift_36 fl_Notes_40 hc (by rfl) ?_
      rw [z4]
      refine rx_iload_n d_Notes_shift_39 (by rfl) ?_
      refine rx_iadd d_Notes_shift_40 ?_
      refine rx_putfield d_Notes_shift_41 (fw_Notes_40 rfl) hc (Nat.le_of_ble_eq_true rfl) (by rfl) (by rfl) ?_
      have hN2 := hN.set hna hlt (Y := upd (shf NS p st i i) 4 (NS i 4 + st)) (NS' := shf NS p st (i + 1)) (fun k hk => by
        rw [up_upd]
        by_cases w : k = 4
        · rw [w, up_s]; exact if_pos ⟨by omega, rfl, c25⟩
        · rw [up_o w]
          unfold shf
          rw [if_neg (fun z => w z.2.1), if_neg (fun z => w z.2.1)]) zo
      have hf2 := hf.tr (rx_fr.wr (e := ncl (upd (shf NS p st i i) 4 (NS i 4 + st))) hc ⟨i, hlt, rfl⟩)
      refine rx_iinc d_Notes_shift_44 (by rfl) (by rfl) ?_
      refine rx_iinc (v := nI (i + 1)) d_Notes_shift_47 (by rfl) (i_inc i) ?_
      refine rx_goto (tgt := 5) d_Notes_shift_50 (by rfl) ?_
      have z := ih (i + 1) (ctp NS p c i) _ (by omega) hN2 hf2
      rw [hs] at z
      show rx_W V d kc ks m_Notes_shift 5 _ [] _ (fun r9 h' => r9 = .inl (some (.int (ffo (ctp NS p) (ctp NS p c i) (i + 1) m))) ∧ is_nt V h' aN ar num f na (shf NS p st num) ∧ rx_fr V h h' (fp_na num na))
      rw [hs]
      exact z
theorem c_shift (hN : is_nt V h aN ar num f na NS) (hna : ∀ i j, i < num → j < num → na i = na j → i = j) (p st : Int32) : rx_C V d kc ks m_Notes_shift [.ref aN, .int p, .int st] h (fun r9 h' => r9 = .inl (some (.int (ffo (ctp NS p) 0 0 num))) ∧ is_nt V h' aN ar num f na (shf NS p st num) ∧ rx_fr V h h' (fp_na num na)) := by
  refine rx_iconst (v := 0) d_Notes_shift_0 (by decide) ?_
  refine rx_istore_n d_Notes_shift_1 (Nat.le_of_ble_eq_true rfl) ?_
  refine rx_iconst (v := 0) d_Notes_shift_2 (by decide) ?_
  refine rx_istore d_Notes_shift_3 (Nat.le_of_ble_eq_true rfl) ?_
  exact l_shift hna p st num 0 0 h (by omega) (by rw [show shf NS p st 0 = NS from by funext j k; exact if_neg (fun z => by omega)]; exact hN) rx_fr.rf
theorem is_pg.le (hp : is_pg V h a n al at_ av Le Te Va) (hd : al ≠ at_ ∧ al ≠ av ∧ at_ ≠ av) {f' : Nat → Int32} : is_pg V (rx_wr V h al (.inl (V.2.2.2.1 0, n, .inl f'))) a n al at_ av f' Te Va :=
  ⟨(rx_rd_wn hp.2.1 (rx_ne hp.1 hp.2.1 (fun z => by cases z))).trans hp.1, rx_rd_wr hp.2.1, (rx_rd_wn hp.2.1 (Ne.symm hd.1)).trans hp.2.2.1, (rx_rd_wn hp.2.1 (Ne.symm hd.2.1)).trans hp.2.2.2.1, hp.2.2.2.2⟩
theorem is_pg.te (hp : is_pg V h a n al at_ av Le Te Va) (hd : al ≠ at_ ∧ al ≠ av ∧ at_ ≠ av) {f' : Nat → Int32} : is_pg V (rx_wr V h at_ (.inl (V.2.2.2.1 0, n, .inl f'))) a n al at_ av Le f' Va :=
  ⟨(rx_rd_wn hp.2.2.1 (rx_ne hp.1 hp.2.2.1 (fun z => by cases z))).trans hp.1, (rx_rd_wn hp.2.2.1 hd.1).trans hp.2.1, rx_rd_wr hp.2.2.1, (rx_rd_wn hp.2.2.1 (Ne.symm hd.2.2)).trans hp.2.2.2.1, hp.2.2.2.2⟩
theorem is_pg.va (hp : is_pg V h a n al at_ av Le Te Va) (hd : al ≠ at_ ∧ al ≠ av ∧ at_ ≠ av) {f' : Nat → Int32} : is_pg V (rx_wr V h av (.inl (V.2.2.2.1 0, 10 * n, .inl f'))) a n al at_ av Le Te f' :=
  ⟨(rx_rd_wn hp.2.2.2.1 (rx_ne hp.1 hp.2.2.2.1 (fun z => by cases z))).trans hp.1, (rx_rd_wn hp.2.2.2.1 hd.2.1).trans hp.2.1, (rx_rd_wn hp.2.2.2.1 hd.2.2).trans hp.2.2.1, rx_rd_wr hp.2.2.2.1, hp.2.2.2.2⟩
theorem c_shape (hp : is_pg V h a n al at_ av Le Te Va) (hd : al ≠ at_ ∧ al ≠ av ∧ at_ ≠ av) {b : Nat} (hb9 : b < n) (l t : Int32) : rx_C V (d + 1) kc ks m_Page_shape [.ref a, .int (nI b), .int l, .int t] h (fun r9 h' => r9 = .inl none ∧ is_pg V h' a n al at_ av (up Le b l) (up Te b t) Va ∧ rx_fr V h h' (fun x => x = al ∨ x = at_ ∨ x = av)) := by
  have hn : n ≤ 20 := hp.2.2.2.2
  refine rx_aload_nr d_Page_shape_0 (by rfl) ?_
  refine rx_iload_n d_Page_shape_1 (by rfl) ?_
  refine rx_cV d_Page_shape_2 (by rfl) ml_Page_31 im_Page_hasBar se_Page_hasBar (by exact c9_Page_hasBar) hp.1 (by rfl) (by exact Nat.le_of_ble_eq_true rfl) (c_hasBar hp (nI b)) ?_
  rw [pgh_nn hn hb9]
  refine rx_if_eq (tgt := 22) d_Page_shape_5 (by rfl) (fun z => absurd z (by decide)) (fun c5 => ?_)
  refine rx_aload_nr d_Page_shape_8 (by rfl) ?_
  refine rx_getfield d_Page_shape_9 fl_Page_15 hp.1 (by rfl) ?_
  refine rx_iload_n d_Page_shape_12 (by rfl) ?_
  refine rx_iload_n d_Page_shape_13 (by rfl) ?_
  refine rx_iastore d_Page_shape_14 (by rfl) hp.2.1 (vp_in_nI hb9 (by omega)) ?_
  rw [i_cl (by omega)]
  have hp1 := hp.le hd (f' := upd Le b l)
  refine rx_aload_nr d_Page_shape_15 (by rfl) ?_
  refine rx_getfield d_Page_shape_16 fl_Page_19 hp1.1 (by rfl) ?_
  refine rx_iload_n d_Page_shape_19 (by rfl) ?_
  refine rx_iload_n d_Page_shape_20 (by rfl) ?_
  refine rx_iastore d_Page_shape_21 (by rfl) hp1.2.2.1 (vp_in_nI hb9 (by omega)) ?_
  rw [i_cl (by omega)]
  refine rx_vreturn d_Page_shape_22 (by rfl) ?_
  exact ⟨rfl, hp1.te hd, (rx_fr.wr hp.2.1 (Or.inl rfl)).tr (rx_fr.wr hp1.2.2.1 (Or.inr (Or.inl rfl)))⟩
theorem c_put (hp : is_pg V h a n al at_ av Le Te Va) (hd : al ≠ at_ ∧ al ≠ av ∧ at_ ≠ av) {b k : Nat} (hb9 : b < n) (hk : k < 10) (v : Int32) : rx_C V (d + 2) kc ks m_Page_put [.ref a, .int (nI b), .int (nI k), .int v] h (fun r9 h' => r9 = .inl none ∧ is_pg V h' a n al at_ av Le Te (up Va (10 * b + k) v) ∧ rx_fr V h h' (fun x => x = al ∨ x = at_ ∨ x = av)) := by
  have hn : n ≤ 20 := hp.2.2.2.2
  have hw : ¬ iwn (nI k) 0 9 = 0 := by
    unfold iwn
    rw [if_pos ⟨nI_pos' (by omega), show nI k ≤ nI 9 from nI_le (by omega) (by omega)⟩]; decide
  have e : nI b * 10 + nI k = nI (10 * b + k) := by rw [show (10 : Int32) = nI 10 from rfl, pk_mul, nI_add, Nat.mul_comm]
  refine rx_aload_nr d_Page_put_0 (by rfl) ?_
  refine rx_iload_n d_Page_put_1 (by rfl) ?_
  refine rx_cV d_Page_put_2 (by rfl) ml_Page_31 im_Page_hasBar se_Page_hasBar (by exact c9_Page_hasBar) hp.1 (by rfl) (by exact Nat.le_of_ble_eq_true rfl) (c_hasBar hp (nI b)) ?_
  rw [pgh_nn hn hb9]
  refine rx_if_eq (tgt := 27) d_Page_put_5 (by rfl) (fun z => absurd z (by decide)) (fun c5 => ?_)
  refine rx_iload_n d_Page_put_8 (by rfl) ?_
  refine rx_cSN d_Page_put_9 ml_Page_35 st_SR_isKind (by exact c9_SR_isKind) (by rfl) (by exact Nat.le_of_ble_eq_true rfl) (c_isKind (nI k)) ?_
  refine rx_if_eq (tgt := 27) d_Page_put_12 (by rfl) (fun z => absurd z hw) (fun c12 => ?_)
  refine rx_aload_nr d_Page_put_15 (by rfl) ?_
  refine rx_getfield d_Page_put_16 fl_Page_22 hp.1 (by rfl) ?_
  refine rx_iload_n d_Page_put_19 (by rfl) ?_
  refine rx_bipush (v := 10) d_Page_put_20 (by decide) ?_
  refine rx_imul d_Page_put_22 ?_
  refine rx_iload_n d_Page_put_23 (by rfl) ?_
  refine rx_iadd d_Page_put_24 ?_
  rw [e]
  refine rx_iload_n d_Page_put_25 (by rfl) ?_
  refine rx_iastore d_Page_put_26 (by rfl) hp.2.2.2.1 (vp_in_nI (by omega) (by omega)) ?_
  rw [i_cl (by omega)]
  refine rx_vreturn d_Page_put_27 (by rfl) ?_
  exact ⟨rfl, hp.va hd, rx_fr.wr hp.2.2.2.1 (Or.inr (Or.inr rfl))⟩
def copen (n : Nat) (Va : Nat → Int32) (b : Int32) : Prop := (¬ pgv n Va b 0 = 0 ∨ ¬ pgv n Va b 2 = 0 ∨ ¬ pgv n Va b 3 = 0 ∨ ¬ pgv n Va b 4 = 0 ∨ ¬ pgv n Va b 8 = 0)
theorem c_opensCut (hp : is_pg V h a n al at_ av Le Te Va) (b : Int32) : rx_C V (d + 2) kc ks m_Page_opensCut [.ref a, .int b] h (rx_X (.inl (some (.int (bP (copen n Va b))))) h) := by
  refine rx_aload_nr d_Page_opensCut_0 (by rfl) ?_
  refine rx_iload_n d_Page_opensCut_1 (by rfl) ?_
  refine rx_iconst (v := 0) d_Page_opensCut_2 (by decide) ?_
  refine rx_cV d_Page_opensCut_3 (by rfl) ml_Page_63 im_Page_has se_Page_has (by exact c9_Page_has) hp.1 (by rfl) (by exact Nat.le_of_ble_eq_true rfl) (c_has hp b 0) ?_
  refine rx_if_ne (tgt := 46) d_Page_opensCut_6 (by rfl) (fun c6 => ?_) (fun c6 => ?_)
  · have z : copen n Va b := Or.inl (fun w => c6 (if_pos w))
    refine rx_iconst (v := 1) d_Page_opensCut_46 (by decide) ?_
    refine rx_goto (tgt := 51) d_Page_opensCut_47 (by rfl) ?_
    refine rx_zreturn d_Page_opensCut_51 (by rfl) (by rfl) ?_
    exact ⟨by first | (rw [bP_t z]; done) | (rw [bP_f z]; done), rfl⟩
  · refine rx_aload_nr d_Page_opensCut_9 (by rfl) ?_
    refine rx_iload_n d_Page_opensCut_10 (by rfl) ?_
    refine rx_iconst (v := 2) d_Page_opensCut_11 (by decide) ?_
    refine rx_cV d_Page_opensCut_12 (by rfl) ml_Page_63 im_Page_has se_Page_has (by exact c9_Page_has) hp.1 (by rfl) (by exact Nat.le_of_ble_eq_true rfl) (c_has hp b 2) ?_
    refine rx_if_ne (tgt := 46) d_Page_opensCut_15 (by rfl) (fun c15 => ?_) (fun c15 => ?_)
    · have z : copen n Va b := Or.inr (Or.inl (fun w => c15 (if_pos w)))
      refine rx_iconst (v := 1) d_Page_opensCut_46 (by decide) ?_
      refine rx_goto (tgt := 51) d_Page_opensCut_47 (by rfl) ?_
      refine rx_zreturn d_Page_opensCut_51 (by rfl) (by rfl) ?_
      exact ⟨by first | (rw [bP_t z]; done) | (rw [bP_f z]; done), rfl⟩
    · refine rx_aload_nr d_Page_opensCut_18 (by rfl) ?_
      refine rx_iload_n d_Page_opensCut_19 (by rfl) ?_
      refine rx_iconst (v := 3) d_Page_opensCut_20 (by decide) ?_
      refine rx_cV d_Page_opensCut_21 (by rfl) ml_Page_63 im_Page_has se_Page_has (by exact c9_Page_has) hp.1 (by rfl) (by exact Nat.le_of_ble_eq_true rfl) (c_has hp b 3) ?_
      refine rx_if_ne (tgt := 46) d_Page_opensCut_24 (by rfl) (fun c24 => ?_) (fun c24 => ?_)
      · have z : copen n Va b := Or.inr (Or.inr (Or.inl (fun w => c24 (if_pos w))))
        refine rx_iconst (v := 1) d_Page_opensCut_46 (by decide) ?_
        refine rx_goto (tgt := 51) d_Page_opensCut_47 (by rfl) ?_
        refine rx_zreturn d_Page_opensCut_51 (by rfl) (by rfl) ?_
        exact ⟨by first | (rw [bP_t z]; done) | (rw [bP_f z]; done), rfl⟩
      · refine rx_aload_nr d_Page_opensCut_27 (by rfl) ?_
        refine rx_iload_n d_Page_opensCut_28 (by rfl) ?_
        refine rx_iconst (v := 4) d_Page_opensCut_29 (by decide) ?_
        refine rx_cV d_Page_opensCut_30 (by rfl) ml_Page_63 im_Page_has se_Page_has (by exact c9_Page_has) hp.1 (by rfl) (by exact Nat.le_of_ble_eq_true rfl) (c_has hp b 4) ?_
        refine rx_if_ne (tgt := 46) d_Page_opensCut_33 (by rfl) (fun c33 => ?_) (fun c33 => ?_)
        · have z : copen n Va b := Or.inr (Or.inr (Or.inr (Or.inl (fun w => c33 (if_pos w)))))
          refine rx_iconst (v := 1) d_Page_opensCut_46 (by decide) ?_
          refine rx_goto (tgt := 51) d_Page_opensCut_47 (by rfl) ?_
          refine rx_zreturn d_Page_opensCut_51 (by rfl) (by rfl) ?_
          exact ⟨by first | (rw [bP_t z]; done) | (rw [bP_f z]; done), rfl⟩
        · refine rx_aload_nr d_Page_opensCut_36 (by rfl) ?_
          refine rx_iload_n d_Page_opensCut_37 (by rfl) ?_
          refine rx_bipush (v := 8) d_Page_opensCut_38 (by decide) ?_
          refine rx_cV d_Page_opensCut_40 (by rfl) ml_Page_63 im_Page_has se_Page_has (by exact c9_Page_has) hp.1 (by rfl) (by exact Nat.le_of_ble_eq_true rfl) (c_has hp b 8) ?_
          refine rx_if_eq (tgt := 50) d_Page_opensCut_43 (by rfl) (fun c43 => ?_) (fun c43 => ?_)
          · have z : ¬ copen n Va b := by
              rintro (w | w | w | w | w)
              · exact w (ite01.mp c6)
              · exact w (ite01.mp c15)
              · exact w (ite01.mp c24)
              · exact w (ite01.mp c33)
              · exact w (ite01.mp c43)
            refine rx_iconst (v := 0) d_Page_opensCut_50 (by decide) ?_
            refine rx_zreturn d_Page_opensCut_51 (by rfl) (by rfl) ?_
            exact ⟨by first | (rw [bP_t z]; done) | (rw [bP_f z]; done), rfl⟩
          · have z : copen n Va b := Or.inr (Or.inr (Or.inr (Or.inr ((fun w => c43 (if_pos w))))))
            refine rx_iconst (v := 1) d_Page_opensCut_46 (by decide) ?_
            refine rx_goto (tgt := 51) d_Page_opensCut_47 (by rfl) ?_
            refine rx_zreturn d_Page_opensCut_51 (by rfl) (by rfl) ?_
            exact ⟨by first | (rw [bP_t z]; done) | (rw [bP_f z]; done), rfl⟩
def cclos (n : Nat) (Va : Nat → Int32) (b : Int32) : Prop := (¬ pgv n Va b 1 = 0 ∨ ¬ pgv n Va b 5 = 0 ∨ ¬ pgv n Va b 6 = 0 ∨ ¬ pgv n Va b 7 = 0 ∨ ¬ pgv n Va b 9 = 0)
theorem c_closesCut (hp : is_pg V h a n al at_ av Le Te Va) (b : Int32) : rx_C V (d + 2) kc ks m_Page_closesCut [.ref a, .int b] h (rx_X (.inl (some (.int (bP (cclos n Va b))))) h) := by
  refine rx_aload_nr d_Page_closesCut_0 (by rfl) ?_
  refine rx_iload_n d_Page_closesCut_1 (by rfl) ?_
  refine rx_iconst (v := 1) d_Page_closesCut_2 (by decide) ?_
  refine rx_cV d_Page_closesCut_3 (by rfl) ml_Page_63 im_Page_has se_Page_has (by exact c9_Page_has) hp.1 (by rfl) (by exact Nat.le_of_ble_eq_true rfl) (c_has hp b 1) ?_
  refine rx_if_ne (tgt := 48) d_Page_closesCut_6 (by rfl) (fun c6 => ?_) (fun c6 => ?_)
  · have z : cclos n Va b := Or.inl (fun w => c6 (if_pos w))
    refine rx_iconst (v := 1) d_Page_closesCut_48 (by decide) ?_
    refine rx_goto (tgt := 53) d_Page_closesCut_49 (by rfl) ?_
    refine rx_zreturn d_Page_closesCut_53 (by rfl) (by rfl) ?_
    exact ⟨by first | (rw [bP_t z]; done) | (rw [bP_f z]; done), rfl⟩
  · refine rx_aload_nr d_Page_closesCut_9 (by rfl) ?_
    refine rx_iload_n d_Page_closesCut_10 (by rfl) ?_
    refine rx_iconst (v := 5) d_Page_closesCut_11 (by decide) ?_
    refine rx_cV d_Page_closesCut_12 (by rfl) ml_Page_63 im_Page_has se_Page_has (by exact c9_Page_has) hp.1 (by rfl) (by exact Nat.le_of_ble_eq_true rfl) (c_has hp b 5) ?_
    refine rx_if_ne (tgt := 48) d_Page_closesCut_15 (by rfl) (fun c15 => ?_) (fun c15 => ?_)
    · have z : cclos n Va b := Or.inr (Or.inl (fun w => c15 (if_pos w)))
      refine rx_iconst (v := 1) d_Page_closesCut_48 (by decide) ?_
      refine rx_goto (tgt := 53) d_Page_closesCut_49 (by rfl) ?_
      refine rx_zreturn d_Page_closesCut_53 (by rfl) (by rfl) ?_
      exact ⟨by first | (rw [bP_t z]; done) | (rw [bP_f z]; done), rfl⟩
    · refine rx_aload_nr d_Page_closesCut_18 (by rfl) ?_
      refine rx_iload_n d_Page_closesCut_19 (by rfl) ?_
      refine rx_bipush (v := 6) d_Page_closesCut_20 (by decide) ?_
      refine rx_cV d_Page_closesCut_22 (by rfl) ml_Page_63 im_Page_has se_Page_has (by exact c9_Page_has) hp.1 (by rfl) (by exact Nat.le_of_ble_eq_true rfl) (c_has hp b 6) ?_
      refine rx_if_ne (tgt := 48) d_Page_closesCut_25 (by rfl) (fun c25 => ?_) (fun c25 => ?_)
      · have z : cclos n Va b := Or.inr (Or.inr (Or.inl (fun w => c25 (if_pos w))))
        refine rx_iconst (v := 1) d_Page_closesCut_48 (by decide) ?_
        refine rx_goto (tgt := 53) d_Page_closesCut_49 (by rfl) ?_
        refine rx_zreturn d_Page_closesCut_53 (by rfl) (by rfl) ?_
        exact ⟨by first | (rw [bP_t z]; done) | (rw [bP_f z]; done), rfl⟩
      · refine rx_aload_nr d_Page_closesCut_28 (by rfl) ?_
        refine rx_iload_n d_Page_closesCut_29 (by rfl) ?_
        refine rx_bipush (v := 7) d_Page_closesCut_30 (by decide) ?_
        refine rx_cV d_Page_closesCut_32 (by rfl) ml_Page_63 im_Page_has se_Page_has (by exact c9_Page_has) hp.1 (by rfl) (by exact Nat.le_of_ble_eq_true rfl) (c_has hp b 7) ?_
        refine rx_if_ne (tgt := 48) d_Page_closesCut_35 (by rfl) (fun c35 => ?_) (fun c35 => ?_)
        · have z : cclos n Va b := Or.inr (Or.inr (Or.inr (Or.inl (fun w => c35 (if_pos w)))))
          refine rx_iconst (v := 1) d_Page_closesCut_48 (by decide) ?_
          refine rx_goto (tgt := 53) d_Page_closesCut_49 (by rfl) ?_
          refine rx_zreturn d_Page_closesCut_53 (by rfl) (by rfl) ?_
          exact ⟨by first | (rw [bP_t z]; done) | (rw [bP_f z]; done), rfl⟩
        · refine rx_aload_nr d_Page_closesCut_38 (by rfl) ?_
          refine rx_iload_n d_Page_closesCut_39 (by rfl) ?_
          refine rx_bipush (v := 9) d_Page_closesCut_40 (by decide) ?_
          refine rx_cV d_Page_closesCut_42 (by rfl) ml_Page_63 im_Page_has se_Page_has (by exact c9_Page_has) hp.1 (by rfl) (by exact Nat.le_of_ble_eq_true rfl) (c_has hp b 9) ?_
          refine rx_if_eq (tgt := 52) d_Page_closesCut_45 (by rfl) (fun c45 => ?_) (fun c45 => ?_)
          · have z : ¬ cclos n Va b := by
              rintro (w | w | w | w | w)
              · exact w (ite01.mp c6)
              · exact w (ite01.mp c15)
              · exact w (ite01.mp c25)
              · exact w (ite01.mp c35)
              · exact w (ite01.mp c45)
            refine rx_iconst (v := 0) d_Page_closesCut_52 (by decide) ?_
            refine rx_zreturn d_Page_closesCut_53 (by rfl) (by rfl) ?_
            exact ⟨by first | (rw [bP_t z]; done) | (rw [bP_f z]; done), rfl⟩
          · have z : cclos n Va b := Or.inr (Or.inr (Or.inr (Or.inr ((fun w => c45 (if_pos w))))))
            refine rx_iconst (v := 1) d_Page_closesCut_48 (by decide) ?_
            refine rx_goto (tgt := 53) d_Page_closesCut_49 (by rfl) ?_
            refine rx_zreturn d_Page_closesCut_53 (by rfl) (by rfl) ?_
            exact ⟨by first | (rw [bP_t z]; done) | (rw [bP_f z]; done), rfl⟩
theorem c_isCutBefore (hp : is_pg V h a n al at_ av Le Te Va) (b : Int32) : rx_C V (d + 3) kc ks m_Page_isCutBefore [.ref a, .int b] h (rx_X (.inl (some (.int (bP (copen n Va b ∨ cclos n Va (b - 1) ∨ ¬ pgl n Le b = pgl n Le (b - 1)))))) h) := by
  refine rx_aload_nr d_Page_isCutBefore_0 (by rfl) ?_
  refine rx_iload_n d_Page_isCutBefore_1 (by rfl) ?_
  refine rx_cV d_Page_isCutBefore_2 (by rfl) ml_Page_54 im_Page_opensCut se_Page_opensCut (by exact c9_Page_opensCut) hp.1 (by rfl) (by exact Nat.le_of_ble_eq_true rfl) (c_opensCut hp b) ?_
  refine rx_if_ne (tgt := 33) d_Page_isCutBefore_5 (by rfl) (fun c5 => ?_) (fun c5 => ?_)
  · have z : (copen n Va b ∨ cclos n Va (b - 1) ∨ ¬ pgl n Le b = pgl n Le (b - 1)) := Or.inl (bP_1.mp c5)
    refine rx_iconst (v := 1) d_Page_isCutBefore_33 (by decide) ?_
    refine rx_goto (tgt := 38) d_Page_isCutBefore_34 (by rfl) ?_
    refine rx_zreturn d_Page_isCutBefore_38 (by rfl) (by rfl) ?_
    exact ⟨by first | (rw [bP_t z]; done) | (rw [bP_f z]; done), rfl⟩
  · refine rx_aload_nr d_Page_isCutBefore_8 (by rfl) ?_
    refine rx_iload_n d_Page_isCutBefore_9 (by rfl) ?_
    refine rx_iconst (v := 1) d_Page_isCutBefore_10 (by decide) ?_
    refine rx_isub d_Page_isCutBefore_11 ?_
    refine rx_cV d_Page_isCutBefore_12 (by rfl) ml_Page_57 im_Page_closesCut se_Page_closesCut (by exact c9_Page_closesCut) hp.1 (by rfl) (by exact Nat.le_of_ble_eq_true rfl) (c_closesCut hp (b - 1)) ?_
    refine rx_if_ne (tgt := 33) d_Page_isCutBefore_15 (by rfl) (fun c15 => ?_) (fun c15 => ?_)
    · have z : (copen n Va b ∨ cclos n Va (b - 1) ∨ ¬ pgl n Le b = pgl n Le (b - 1)) := Or.inr (Or.inl (bP_1.mp c15))
      refine rx_iconst (v := 1) d_Page_isCutBefore_33 (by decide) ?_
      refine rx_goto (tgt := 38) d_Page_isCutBefore_34 (by rfl) ?_
      refine rx_zreturn d_Page_isCutBefore_38 (by rfl) (by rfl) ?_
      exact ⟨by first | (rw [bP_t z]; done) | (rw [bP_f z]; done), rfl⟩
    · refine rx_aload_nr d_Page_isCutBefore_18 (by rfl) ?_
      refine rx_iload_n d_Page_isCutBefore_19 (by rfl) ?_
      refine rx_cV d_Page_isCutBefore_20 (by rfl) ml_Page_60 im_Page_lengthOf se_Page_lengthOf (by exact c9_Page_lengthOf) hp.1 (by rfl) (by exact Nat.le_of_ble_eq_true rfl) (c_lengthOf hp b) ?_
      refine rx_aload_nr d_Page_isCutBefore_23 (by rfl) ?_
      refine rx_iload_n d_Page_isCutBefore_24 (by rfl) ?_
      refine rx_iconst (v := 1) d_Page_isCutBefore_25 (by decide) ?_
      refine rx_isub d_Page_isCutBefore_26 ?_
      refine rx_cV d_Page_isCutBefore_27 (by rfl) ml_Page_60 im_Page_lengthOf se_Page_lengthOf (by exact c9_Page_lengthOf) hp.1 (by rfl) (by exact Nat.le_of_ble_eq_true rfl) (c_lengthOf hp (b - 1)) ?_
      refine rx_icmp_eq (tgt := 37) d_Page_isCutBefore_30 (by rfl) (fun c30 => ?_) (fun c30 => ?_)
      · have z : ¬ (copen n Va b ∨ cclos n Va (b - 1) ∨ ¬ pgl n Le b = pgl n Le (b - 1)) := fun w => w.elim (bP_0.mp c5) (fun w => w.elim (bP_0.mp c15) (fun w => w c30))
        refine rx_iconst (v := 0) d_Page_isCutBefore_37 (by decide) ?_
        refine rx_zreturn d_Page_isCutBefore_38 (by rfl) (by rfl) ?_
        exact ⟨by first | (rw [bP_t z]; done) | (rw [bP_f z]; done), rfl⟩
      · have z : (copen n Va b ∨ cclos n Va (b - 1) ∨ ¬ pgl n Le b = pgl n Le (b - 1)) := Or.inr (Or.inr c30)
        refine rx_iconst (v := 1) d_Page_isCutBefore_33 (by decide) ?_
        refine rx_goto (tgt := 38) d_Page_isCutBefore_34 (by rfl) ?_
        refine rx_zreturn d_Page_isCutBefore_38 (by rfl) (by rfl) ?_
        exact ⟨by first | (rw [bP_t z]; done) | (rw [bP_f z]; done), rfl⟩
end N3
