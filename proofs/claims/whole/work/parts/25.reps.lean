/-! Repeats: reads, passes -/
theorem rx_ne {V : rx_V} {h : List va_E} {a b : Nat} {e1 e2 : va_E} (h1 : rx_rd V h a = some e1) (h2 : rx_rd V h b = some e2) (hne : e1 ≠ e2) : a ≠ b := by
  intro e
  subst e
  exact hne (Option.some.inj (h1.symm.trans h2))
/-- nothing has changed but at the places FP; no cell is new -/
def rx_fr (V : rx_V) (h h' : List va_E) (FP : Nat → Prop) : Prop := h'.length = h.length ∧ ∀ q, ¬ FP q → rx_rd V h' q = rx_rd V h q
theorem rx_fr.rf {V : rx_V} {h : List va_E} {FP : Nat → Prop} : rx_fr V h h FP := ⟨rfl, fun _ _ => rfl⟩
theorem rx_fr.tr {V : rx_V} {h h1 h2 : List va_E} {FP : Nat → Prop} (a : rx_fr V h h1 FP) (b : rx_fr V h1 h2 FP) : rx_fr V h h2 FP := ⟨b.1.trans a.1, fun q hq => (b.2 q hq).trans (a.2 q hq)⟩
theorem rx_fr.mo {V : rx_V} {h h1 : List va_E} {FP FP' : Nat → Prop} (a : rx_fr V h h1 FP) (hs : ∀ q, FP q → FP' q) : rx_fr V h h1 FP' := ⟨a.1, fun q hq => a.2 q (fun z => hq (hs q z))⟩
theorem rx_fr.wr {V : rx_V} {h : List va_E} {a : Nat} {e0 e : va_E} {FP : Nat → Prop} (he : rx_rd V h a = some e0) (ha : FP a) : rx_fr V h (rx_wr V h a e) FP := ⟨rx_wr_len, fun q hq => rx_rd_wn he (fun z => hq (z ▸ ha))⟩
def ogt (n : Nat) (f : Nat → Option Nat) (b : Int32) : Option Nat := if 0 ≤ b.toInt ∧ b.toInt < n then f b.toInt.toNat else none
theorem ogt_0 {n : Nat} {f : Nat → Option Nat} {b : Int32} (h : b < 0) : ogt n f b = none := by
  rw [i_lt, i_0] at h
  exact if_neg (by omega)
theorem ogt_n {n : Nat} {f : Nat → Option Nat} {b : Int32} (hn : n ≤ 1000000) (h : nI n ≤ b) : ogt n f b = none := by
  rw [i_le, i_n hn] at h
  exact if_neg (by omega)
theorem ogt_1 {n : Nat} {f : Nat → Option Nat} {b : Int32} (hn : n ≤ 1000000) (h1 : ¬ b < 0) (h2 : ¬ nI n ≤ b) : vp_in b n ∧ f b.toNatClampNeg = ogt n f b := by
  obtain ⟨j, hj, rfl⟩ := i_ix hn h1 h2
  refine ⟨vp_in_nI hj (by omega), ?_⟩
  unfold ogt
  rw [i_n (by omega), i_cl (by omega), if_pos (by omega)]
  rfl
theorem ogt_nn {n j : Nat} {f : Nat → Option Nat} (hn : n ≤ 1000000) (hj : j < n) : ogt n f (nI j) = f j := by
  unfold ogt
  rw [i_n (by omega), if_pos (by omega)]
  rfl
/-- the cells of the repeats: the object, its three arrays, the Repeat objects -/
def is_rp (V : rx_V) (h : List va_E) (a n aA aE aG num : Nat) (fA fE fG : Nat → Option Nat) (ra : Nat → Nat) (R : Nat → Nat → Int32) : Prop :=
  rx_rd V h a = some (.inr (3, [.ref aA, .ref aE, .ref aG, .int (nI num)])) ∧ rx_rd V h aA = some (.inl (V.2.2.2.1 3, n, .inr (.inr (.inr (.inr fA))))) ∧ rx_rd V h aE = some (.inl (V.2.2.2.1 3, n, .inr (.inr (.inr (.inr fE))))) ∧ rx_rd V h aG = some (.inl (V.2.2.2.1 3, n, .inr (.inr (.inr (.inr fG))))) ∧
  (∀ r, r < n → fA r = some (ra r)) ∧ (∀ r, r < n → rx_rd V h (ra r) = some (rcl (R r))) ∧ (∀ r r', r < n → r' < n → ra r = ra r' → r = r') ∧ num ≤ n ∧ n ≤ 20
/-- one Repeat is written -/
def rup (R : Nat → Nat → Int32) (r k : Nat) (v : Int32) : Nat → Nat → Int32 := fun r' k' => if r' = r ∧ k' = k then v else R r' k'
theorem rup_o {R : Nat → Nat → Int32} {r k : Nat} {v : Int32} {r' : Nat} (h : r' ≠ r) : rup R r k v r' = R r' := by
  funext k'
  exact if_neg (fun z => h z.1)
theorem rup_s {R : Nat → Nat → Int32} {r k : Nat} {v : Int32} : rup R r k v r k = v := if_pos ⟨rfl, rfl⟩
theorem rup_k {R : Nat → Nat → Int32} {r k k' : Nat} {v : Int32} (h : k' ≠ k) : rup R r k v r k' = R r k' := if_neg (fun z => h z.2)
theorem rup_u {R : Nat → Nat → Int32} {r k : Nat} {v : Int32} : rup R r k v r = upd (R r) k v := by
  funext j
  unfold rup upd
  by_cases h : j = k
  · rw [if_pos ⟨rfl, h⟩, if_pos h]
  · rw [if_neg (fun z => h z.2), if_neg h]
theorem is_rp.set {V : rx_V} {h : List va_E} {a n aA aE aG num : Nat} {fA fE fG : Nat → Option Nat} {ra : Nat → Nat} {R : Nat → Nat → Int32} (H : is_rp V h a n aA aE aG num fA fE fG ra R) {r : Nat} (hr : r < n) {X : Nat → Int32} {R' : Nat → Nat → Int32} (hs : ∀ k, k < 7 → R' r k = X k) (ho : ∀ r', r' ≠ r → R' r' = R r') : is_rp V (rx_wr V h (ra r) (rcl X)) a n aA aE aG num fA fE fG ra R' := by
  obtain ⟨h1, h2, h3, h4, h5, h6, h7, h8, h9⟩ := H
  have hc := h6 r hr
  refine ⟨(rx_rd_wn hc (rx_ne h1 hc (fun z => by cases z))).trans h1, (rx_rd_wn hc (rx_ne h2 hc (fun z => by cases z))).trans h2, (rx_rd_wn hc (rx_ne h3 hc (fun z => by cases z))).trans h3, (rx_rd_wn hc (rx_ne h4 hc (fun z => by cases z))).trans h4, h5, fun r' hr' => ?_, h7, h8, h9⟩
  by_cases e : r' = r
  · subst e
    rw [rx_rd_wr hc]
    unfold rcl
    rw [hs 0 (by omega), hs 1 (by omega), hs 2 (by omega), hs 3 (by omega), hs 4 (by omega), hs 5 (by omega), hs 6 (by omega)]
  · rw [rx_rd_wn hc (fun z => e (h7 r' r hr' hr z)), h6 r' hr', ho r' e]
section RP
variable {V : rx_V} {d kc ks a n aA aE aG num q : Nat} {h : List va_E} {fA fE fG : Nat → Option Nat} {ra : Nat → Nat} {R : Nat → Nat → Int32}
theorem c_ofEnd (H : is_rp V h a n aA aE aG num fA fE fG ra R) (b : Int32) : rx_C V d kc ks m_Repeats_ofEnd [.ref a, .int b] h (rx_X (.inl (some (va_rf (ogt n fE b)))) h) := by
  have hn : n ≤ 20 := H.2.2.2.2.2.2.2.2
  refine rx_iload_n d_Repeats_ofEnd_0 (by rfl) ?_
  refine rx_if_lt (tgt := 22) d_Repeats_ofEnd_1 (by rfl) (fun c1 => ?_) (fun c1 => ?_)
  · rw [ogt_0 c1]
    refine rx_null d_Repeats_ofEnd_22 ?_
    refine rx_areturn_N d_Repeats_ofEnd_23 (by rfl) ?_
    exact ⟨rfl, rfl⟩
  · refine rx_iload_n d_Repeats_ofEnd_4 (by rfl) ?_
    refine rx_aload_nr d_Repeats_ofEnd_5 (by rfl) ?_
    refine rx_getfield d_Repeats_ofEnd_6 fl_Repeats_17 H.1 (by rfl) ?_
    refine rx_alen d_Repeats_ofEnd_9 (by rfl) H.2.2.1 ?_
    refine rx_icmp_ge (tgt := 22) d_Repeats_ofEnd_10 (by rfl) (fun c10 => ?_) (fun c10 => ?_)
    · have c10 : nI n ≤ b := c10
      rw [ogt_n (by omega) c10]
      refine rx_null d_Repeats_ofEnd_22 ?_
      refine rx_areturn_N d_Repeats_ofEnd_23 (by rfl) ?_
      exact ⟨rfl, rfl⟩
    · have c10 : ¬ nI n ≤ b := c10
      refine rx_aload_nr d_Repeats_ofEnd_13 (by rfl) ?_
      refine rx_getfield d_Repeats_ofEnd_14 fl_Repeats_17 H.1 (by rfl) ?_
      refine rx_iload_n d_Repeats_ofEnd_17 (by rfl) ?_
      refine rx_aaload d_Repeats_ofEnd_18 (by rfl) H.2.2.1 (ogt_1 (f := fE) (by omega) c1 c10).1 ?_
      rw [(ogt_1 (f := fE) (by omega) c1 c10).2]
      refine rx_goto (tgt := 23) d_Repeats_ofEnd_19 (by rfl) ?_
      refine rx_areturn d_Repeats_ofEnd_23 (by rfl) ?_
      exact ⟨rfl, rfl⟩
theorem c_ofEnding (H : is_rp V h a n aA aE aG num fA fE fG ra R) (b : Int32) : rx_C V d kc ks m_Repeats_ofEnding [.ref a, .int b] h (rx_X (.inl (some (va_rf (ogt n fG b)))) h) := by
  have hn : n ≤ 20 := H.2.2.2.2.2.2.2.2
  refine rx_iload_n d_Repeats_ofEnding_0 (by rfl) ?_
  refine rx_if_lt (tgt := 22) d_Repeats_ofEnding_1 (by rfl) (fun c1 => ?_) (fun c1 => ?_)
  · rw [ogt_0 c1]
    refine rx_null d_Repeats_ofEnding_22 ?_
    refine rx_areturn_N d_Repeats_ofEnding_23 (by rfl) ?_
    exact ⟨rfl, rfl⟩
  · refine rx_iload_n d_Repeats_ofEnding_4 (by rfl) ?_
    refine rx_aload_nr d_Repeats_ofEnding_5 (by rfl) ?_
    refine rx_getfield d_Repeats_ofEnding_6 fl_Repeats_20 H.1 (by rfl) ?_
    refine rx_alen d_Repeats_ofEnding_9 (by rfl) H.2.2.2.1 ?_
    refine rx_icmp_ge (tgt := 22) d_Repeats_ofEnding_10 (by rfl) (fun c10 => ?_) (fun c10 => ?_)
    · have c10 : nI n ≤ b := c10
      rw [ogt_n (by omega) c10]
      refine rx_null d_Repeats_ofEnding_22 ?_
      refine rx_areturn_N d_Repeats_ofEnding_23 (by rfl) ?_
      exact ⟨rfl, rfl⟩
    · have c10 : ¬ nI n ≤ b := c10
      refine rx_aload_nr d_Repeats_ofEnding_13 (by rfl) ?_
      refine rx_getfield d_Repeats_ofEnding_14 fl_Repeats_20 H.1 (by rfl) ?_
      refine rx_iload_n d_Repeats_ofEnding_17 (by rfl) ?_
      refine rx_aaload d_Repeats_ofEnding_18 (by rfl) H.2.2.2.1 (ogt_1 (f := fG) (by omega) c1 c10).1 ?_
      rw [(ogt_1 (f := fG) (by omega) c1 c10).2]
      refine rx_goto (tgt := 23) d_Repeats_ofEnding_19 (by rfl) ?_
      refine rx_areturn d_Repeats_ofEnding_23 (by rfl) ?_
      exact ⟨rfl, rfl⟩
theorem l_around (H : is_rp V h a n aA aE aG num fA fE fG ra R) (b : Int32) : ∀ (m i : Nat), i + m = num → rx_W V (d + 1) kc ks m_Repeats_around 2 [some (.ref a), some (.int b), some (.int (nI i))] [] h (rx_X (.inl (some (va_rf ((fix (fun r => decide (¬ (b < R r 0 ∨ R r 2 < b))) i m).map ra)))) h) := by
  intro m
  induction m with
  | zero =>
    intro i hi
    have hi9 : i = num := by omega
    have hn : n ≤ 20 := H.2.2.2.2.2.2.2.2
    have hm : num ≤ n := H.2.2.2.2.2.2.2.1
    refine rx_iload_n d_Repeats_around_2 (by rfl) ?_
    refine rx_aload_nr d_Repeats_around_3 (by rfl) ?_
    refine rx_getfield d_Repeats_around_4 fl_Repeats_24 H.1 (by rfl) ?_
    refine rx_icmp_ge (tgt := 36) d_Repeats_around_7 (by rfl) (fun c7 => ?_) (fun z => absurd (show nI num ≤ nI i by rw [hi9]; exact Int32.le_refl _) z)
    refine rx_null d_Repeats_around_36 ?_
    refine rx_areturn_N d_Repeats_around_37 (by rfl) ?_
    exact ⟨rfl, rfl⟩
  | succ m ih =>
    intro i hi
    have hlt : i < num := by omega
    have hn : n ≤ 20 := H.2.2.2.2.2.2.2.2
    have hm : num ≤ n := H.2.2.2.2.2.2.2.1
    have hcl : (nI i).toNatClampNeg = i := i_cl (by omega)
    refine rx_iload_n d_Repeats_around_2 (by rfl) ?_
    refine rx_aload_nr d_Repeats_around_3 (by rfl) ?_
    refine rx_getfield d_Repeats_around_4 fl_Repeats_24 H.1 (by rfl) ?_
    refine rx_icmp_ge (tgt := 36) d_Repeats_around_7 (by rfl) (fun z => absurd z (nI_ge hlt (by omega))) (fun c7 => ?_)
    refine rx_aload_nr d_Repeats_around_10 (by rfl) ?_
    refine rx_getfield d_Repeats_around_11 fl_Repeats_11 H.1 (by rfl) ?_
    refine rx_iload_n d_Repeats_around_14 (by rfl) ?_
    refine rx_aaload d_Repeats_around_15 (by rfl) H.2.1 (vp_in_nI (by omega) (by omega)) ?_
    rw [hcl, H.2.2.2.2.1 i (by omega)]
    refine rx_iload_n d_Repeats_around_16 (by rfl) ?_
    refine rx_cV d_Repeats_around_17 (by rfl) ml_Repeats_88 im_Repeat_spans se_Repeat_spans (by exact c9_Repeat_spans) (H.2.2.2.2.2.1 i (by omega)) (by rfl) (by exact Nat.le_of_ble_eq_true rfl) (c_spans (H.2.2.2.2.2.1 i (by omega)) b) ?_
    refine rx_if_eq (tgt := 30) d_Repeats_around_20 (by rfl) (fun c20 => ?_) (fun c20 => ?_)
    · have hf : (fun r => decide (¬ (b < R r 0 ∨ R r 2 < b))) i = false := decide_eq_false (fun z => z (ite01.mp c20))
      refine rx_iinc (v := nI (i + 1)) d_Repeats_around_30 (by rfl) (i_inc i) ?_
      refine rx_goto (tgt := 2) d_Repeats_around_33 (by rfl) ?_
      rw [fix_no hf]
      exact ih (i + 1) (by omega)
    · have ht : (fun r => decide (¬ (b < R r 0 ∨ R r 2 < b))) i = true := decide_eq_true (fun z => c20 (ite01.mpr z))
      refine rx_aload_nr d_Repeats_around_23 (by rfl) ?_
      refine rx_getfield d_Repeats_around_24 fl_Repeats_11 H.1 (by rfl) ?_
      refine rx_iload_n d_Repeats_around_27 (by rfl) ?_
      refine rx_aaload d_Repeats_around_28 (by rfl) H.2.1 (vp_in_nI (by omega) (by omega)) ?_
      rw [hcl, H.2.2.2.2.1 i (by omega)]
      refine rx_areturn_r d_Repeats_around_29 (by rfl) ?_
      exact ⟨by rw [fix_yes ht]; rfl, rfl⟩
theorem c_around (H : is_rp V h a n aA aE aG num fA fE fG ra R) (b : Int32) : rx_C V (d + 1) kc ks m_Repeats_around [.ref a, .int b] h (rx_X (.inl (some (va_rf ((fix (fun r => decide (¬ (b < R r 0 ∨ R r 2 < b))) 0 num).map ra)))) h) := by
  refine rx_iconst (v := 0) d_Repeats_around_0 (by decide) ?_
  refine rx_istore_n d_Repeats_around_1 (Nat.le_of_ble_eq_true rfl) ?_
  exact l_around H b num 0 (by omega)
/-- the places of the Repeat objects -/
def fp_ra (n : Nat) (ra : Nat → Nat) : Nat → Prop := fun q => ∃ r, r < n ∧ q = ra r
theorem l_resetPasses : ∀ (m i : Nat) (h1 : List va_E) (R1 : Nat → Nat → Int32), i + m = num → is_rp V h1 a n aA aE aG num fA fE fG ra R1 → rx_fr V h h1 (fp_ra n ra) → (∀ r k, R1 r k = if r < i ∧ k = 6 then 1 else R r k) →
    rx_W V d kc ks m_Repeats_resetPasses 2 [some (.ref a), some (.int (nI i))] [] h1 (fun r h' => r = .inl none ∧ is_rp V h' a n aA aE aG num fA fE fG ra (fun r k => if r < num ∧ k = 6 then 1 else R r k) ∧ rx_fr V h h' (fp_ra n ra)) := by
  intro m
  induction m with
  | zero =>
    intro i h1 R1 hi H hf hR
    have hi9 : i = num := by omega
    refine rx_iload_n d_Repeats_resetPasses_2 (by rfl) ?_
    refine rx_aload_nr d_Repeats_resetPasses_3 (by rfl) ?_
    refine rx_getfield d_Repeats_resetPasses_4 fl_Repeats_24 H.1 (by rfl) ?_
    refine rx_icmp_ge (tgt := 26) d_Repeats_resetPasses_7 (by rfl) (fun c7 => ?_) (fun z => absurd (show nI num ≤ nI i by rw [hi9]; exact Int32.le_refl _) z)
    refine rx_vreturn d_Repeats_resetPasses_26 (by rfl) ?_
    exact ⟨rfl, by rw [← hi9, show (fun r k => if r < i ∧ k = 6 then 1 else R r k) = R1 from by funext r k; exact (hR r k).symm, hi9]; exact H, hf⟩
  | succ m ih =>
    intro i h1 R1 hi H hf hR
    have hlt : i < num := by omega
    have hn : n ≤ 20 := H.2.2.2.2.2.2.2.2
    have hm : num ≤ n := H.2.2.2.2.2.2.2.1
    have hcl : (nI i).toNatClampNeg = i := i_cl (by omega)
    have hc := H.2.2.2.2.2.1 i (by omega)
    refine rx_iload_n d_Repeats_resetPasses_2 (by rfl) ?_
    refine rx_aload_nr d_Repeats_resetPasses_3 (by rfl) ?_
    refine rx_getfield d_Repeats_resetPasses_4 fl_Repeats_24 H.1 (by rfl) ?_
    refine rx_icmp_ge (tgt := 26) d_Repeats_resetPasses_7 (by rfl) (fun z => absurd z (nI_ge hlt (by omega))) (fun c7 => ?_)
    refine rx_aload_nr d_Repeats_resetPasses_10 (by rfl) ?_
    refine rx_getfield d_Repeats_resetPasses_11 fl_Repeats_11 H.1 (by rfl) ?_
    refine rx_iload_n d_Repeats_resetPasses_14 (by rfl) ?_
    refine rx_aaload d_Repeats_resetPasses_15 (by rfl) H.2.1 (vp_in_nI (by omega) (by omega)) ?_
    rw [hcl, H.2.2.2.2.1 i (by omega)]
    refine rx_iconst (v := 1) d_Repeats_resetPasses_16 (by decide) ?_
    refine rx_putfield d_Repeats_resetPasses_17 (fw_Repeats_92 rfl) hc (Nat.le_of_ble_eq_true rfl) (by rfl) (by rfl) ?_
    refine rx_iinc (v := nI (i + 1)) d_Repeats_resetPasses_20 (by rfl) (i_inc i) ?_
    refine rx_goto (tgt := 2) d_Repeats_resetPasses_23 (by rfl) ?_
    refine ih (i + 1) _ (rup R1 i 6 1) (by omega) (H.set (X := upd (R1 i) 6 1) (by omega) (fun k _ => by rw [rup_u]) (fun r' e => rup_o e)) (hf.tr (rx_fr.wr hc ⟨i, by omega, rfl⟩)) (fun r k => ?_)
    unfold rup
    by_cases e : r = i ∧ k = 6
    · rw [if_pos e, if_pos ⟨by omega, e.2⟩]
    · rw [if_neg e, hR r k]
      by_cases e2 : r < i ∧ k = 6
      · rw [if_pos e2, if_pos ⟨by omega, e2.2⟩]
      · rw [if_neg e2, if_neg (by omega)]
theorem c_resetPasses (H : is_rp V h a n aA aE aG num fA fE fG ra R) : rx_C V d kc ks m_Repeats_resetPasses [.ref a] h (fun r h' => r = .inl none ∧ is_rp V h' a n aA aE aG num fA fE fG ra (fun r k => if r < num ∧ k = 6 then 1 else R r k) ∧ rx_fr V h h' (fp_ra n ra)) := by
  refine rx_iconst (v := 0) d_Repeats_resetPasses_0 (by decide) ?_
  refine rx_istore_n d_Repeats_resetPasses_1 (Nat.le_of_ble_eq_true rfl) ?_
  exact l_resetPasses num 0 h R (by omega) H rx_fr.rf (fun r k => by rw [if_neg (by omega)])
end RP
