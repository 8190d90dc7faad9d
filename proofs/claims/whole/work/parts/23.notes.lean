/-! Notes: reads -/
theorem i_inc (i : Nat) : nI i + Int32.ofInt 1 = nI (i + 1) := (nI_succ i).symm
/-- the first place from i on, of m places, with Pr -/
def fix (Pr : Nat → Bool) : Nat → Nat → Option Nat
  | _, 0 => none
  | i, m + 1 => if Pr i then some i else fix Pr (i + 1) m
theorem fix_no {Pr : Nat → Bool} {i m : Nat} (h : Pr i = false) : fix Pr i (m + 1) = fix Pr (i + 1) m := by
  show (if Pr i then some i else fix Pr (i + 1) m) = _
  rw [h]; rfl
theorem fix_yes {Pr : Nat → Bool} {i m : Nat} (h : Pr i = true) : fix Pr i (m + 1) = some i := by
  show (if Pr i then some i else fix Pr (i + 1) m) = _
  rw [h]; rfl
/-- a fold over m places from i on -/
def ffo {α : Type} (f : α → Nat → α) : α → Nat → Nat → α
  | a, _, 0 => a
  | a, i, m + 1 => ffo f (f a i) (i + 1) m
theorem lg_lt0 (x y : Int64) : lg_cmp x y < 0 ↔ x < y := by
  unfold lg_cmp
  by_cases h1 : x > y
  · rw [if_pos h1]
    exact ⟨fun z => absurd z (by decide), fun z => (Int64.lt_irrefl (Int64.lt_trans h1 z)).elim⟩
  · rw [if_neg h1]
    by_cases h2 : x = y
    · rw [if_pos h2]
      exact ⟨fun z => absurd z (by decide), fun z => (Int64.lt_irrefl (h2 ▸ z)).elim⟩
    · rw [if_neg h2]
      refine ⟨fun _ => ?_, fun _ => by decide⟩
      have e1 : ¬ y.toInt < x.toInt := fun z => h1 (Int64.lt_iff_toInt_lt.mpr z)
      have e2 : ¬ x.toInt = y.toInt := fun z => h2 (Int64.toInt_inj.mp z)
      exact Int64.lt_iff_toInt_lt.mpr (by omega)
theorem lg_le0 (x y : Int64) : lg_cmp x y ≤ 0 ↔ ¬ y < x := by
  unfold lg_cmp
  by_cases h1 : x > y
  · rw [if_pos h1]
    exact ⟨fun z => absurd z (by decide), fun z => absurd h1 z⟩
  · rw [if_neg h1]
    by_cases h2 : x = y
    · rw [if_pos h2]
      exact ⟨fun _ => h1, fun _ => by decide⟩
    · rw [if_neg h2]
      exact ⟨fun _ => h1, fun _ => by decide⟩
/-- the notes' cells -/
def is_nt (V : rx_V) (h : List va_E) (a ar num : Nat) (f : Nat → Option Nat) (na : Nat → Nat) (NS : Nat → Nat → Int32) : Prop :=
  rx_rd V h a = some (.inr (2, [.ref ar, .int (nI num)])) ∧ rx_rd V h ar = some (.inl (V.2.2.2.1 4, 40, .inr (.inr (.inr (.inr f))))) ∧ (∀ i, i < num → f i = some (na i)) ∧ (∀ i, i < num → rx_rd V h (na i) = some (ncl (NS i))) ∧ num ≤ 40
section NT
variable {V : rx_V} {d kc ks a n al at_ av aN ar num q : Nat} {h : List va_E} {Le Te Va N : Nat → Int32} {f : Nat → Option Nat} {na : Nat → Nat} {NS : Nat → Nat → Int32}
theorem c_isFull (hN : is_nt V h aN ar num f na NS) : rx_C V d kc ks m_Notes_isFull [.ref aN] h (rx_X (.inl (some (.int (if num = 40 then 1 else 0)))) h) := by
  have h40 : num ≤ 40 := hN.2.2.2.2
  refine rx_aload_nr d_Notes_isFull_0 (by rfl) ?_
  refine rx_getfield d_Notes_isFull_1 fl_Notes_17 hN.1 (by rfl) ?_
  refine rx_aload_nr d_Notes_isFull_4 (by rfl) ?_
  refine rx_getfield d_Notes_isFull_5 fl_Notes_11 hN.1 (by rfl) ?_
  refine rx_alen d_Notes_isFull_8 (by rfl) hN.2.1 ?_
  refine rx_icmp_lt (tgt := 16) d_Notes_isFull_9 (by rfl) (fun c9 => ?_) (fun c9 => ?_)
  · have z : num < 40 := by rw [i_lt, i_n (by omega), show Int32.ofNat 40 = nI 40 from rfl, i_n (by omega)] at c9; omega
    refine rx_iconst (v := 0) d_Notes_isFull_16 (by decide) ?_
    refine rx_zreturn d_Notes_isFull_17 (by rfl) (by rfl) ?_
    exact ⟨by first | (rw [if_neg (by omega)]; done) | (rw [if_pos (by omega)]; done), rfl⟩
  · have z : ¬ num < 40 := by rw [i_lt, i_n (by omega), show Int32.ofNat 40 = nI 40 from rfl, i_n (by omega)] at c9; omega
    refine rx_iconst (v := 1) d_Notes_isFull_12 (by decide) ?_
    refine rx_goto (tgt := 17) d_Notes_isFull_13 (by rfl) ?_
    refine rx_zreturn d_Notes_isFull_17 (by rfl) (by rfl) ?_
    exact ⟨by first | (rw [if_neg (by omega)]; done) | (rw [if_pos (by omega)]; done), rfl⟩
theorem l_isRest (hN : is_nt V h aN ar num f na NS) (p b : Int32) : ∀ (m i : Nat), i + m = num → rx_W V (d + 1) kc ks m_Notes_isRest 2 [some (.ref aN), some (.int p), some (.int b), some (.int (nI i))] [] h (rx_X (.inl (some (.int (if (fix (fun i => decide (NS i 0 = p ∧ NS i 1 = b)) i m).isSome then 0 else 1)))) h) := by
  intro m
  induction m with
  | zero =>
    intro i hi
    have hi9 : i = num := by omega
    have h40 : num ≤ 40 := hN.2.2.2.2
    refine rx_iload_n d_Notes_isRest_2 (by rfl) ?_
    refine rx_aload_nr d_Notes_isRest_3 (by rfl) ?_
    refine rx_getfield d_Notes_isRest_4 fl_Notes_17 hN.1 (by rfl) ?_
    refine rx_icmp_ge (tgt := 32) d_Notes_isRest_7 (by rfl) (fun c7 => ?_) (fun z => absurd (show nI num ≤ nI i by rw [hi9]; exact Int32.le_refl _) z)
    refine rx_iconst (v := 1) d_Notes_isRest_32 (by decide) ?_
    refine rx_zreturn d_Notes_isRest_33 (by rfl) (by rfl) ?_
    exact ⟨rfl, rfl⟩
  | succ m ih =>
    intro i hi
    have hlt : i < num := by omega
    have h40 : num ≤ 40 := hN.2.2.2.2
    have hcl : (nI i).toNatClampNeg = i := i_cl (by omega)
    refine rx_iload_n d_Notes_isRest_2 (by rfl) ?_
    refine rx_aload_nr d_Notes_isRest_3 (by rfl) ?_
    refine rx_getfield d_Notes_isRest_4 fl_Notes_17 hN.1 (by rfl) ?_
    refine rx_icmp_ge (tgt := 32) d_Notes_isRest_7 (by rfl) (fun z => absurd z (nI_ge hlt (by omega))) (fun c7 => ?_)
    refine rx_aload_nr d_Notes_isRest_10 (by rfl) ?_
    refine rx_getfield d_Notes_isRest_11 fl_Notes_11 hN.1 (by rfl) ?_
    refine rx_iload_n d_Notes_isRest_14 (by rfl) ?_
    refine rx_aaload d_Notes_isRest_15 (by rfl) hN.2.1 (vp_in_nI (by omega) (by omega)) ?_
    rw [hcl, hN.2.2.1 i hlt]
    refine rx_iload_n d_Notes_isRest_16 (by rfl) ?_
    refine rx_iload_n d_Notes_isRest_17 (by rfl) ?_
    refine rx_cV d_Notes_isRest_18 (by rfl) ml_Notes_33 im_Note_isIn se_Note_isIn (by exact c9_Note_isIn) (hN.2.2.2.1 i hlt) (by rfl) (by exact Nat.le_of_ble_eq_true rfl) (c_isIn (hN.2.2.2.1 i hlt) p b) ?_
    refine rx_if_eq (tgt := 26) d_Notes_isRest_21 (by rfl) (fun c21 => ?_) (fun c21 => ?_)
    · have hf : (fun i => decide (NS i 0 = p ∧ NS i 1 = b)) i = false := decide_eq_false (ite10.mp c21)
      refine rx_iinc (v := nI (i + 1)) d_Notes_isRest_26 (by rfl) (i_inc i) ?_
      refine rx_goto (tgt := 2) d_Notes_isRest_29 (by rfl) ?_
      rw [fix_no hf]
      exact ih (i + 1) (by omega)
    · have ht : (fun i => decide (NS i 0 = p ∧ NS i 1 = b)) i = true := decide_eq_true (ite11.mp c21)
      refine rx_iconst (v := 0) d_Notes_isRest_24 (by decide) ?_
      refine rx_zreturn d_Notes_isRest_25 (by rfl) (by rfl) ?_
      exact ⟨by rw [fix_yes ht]; rfl, rfl⟩
theorem c_isRest (hN : is_nt V h aN ar num f na NS) (p b : Int32) : rx_C V (d + 1) kc ks m_Notes_isRest [.ref aN, .int p, .int b] h (rx_X (.inl (some (.int (if (fix (fun i => decide (NS i 0 = p ∧ NS i 1 = b)) 0 num).isSome then 0 else 1)))) h) := by
  refine rx_iconst (v := 0) d_Notes_isRest_0 (by decide) ?_
  refine rx_istore_n d_Notes_isRest_1 (Nat.le_of_ble_eq_true rfl) ?_
  exact l_isRest hN p b num 0 (by omega)
theorem l_seek (hN : is_nt V h aN ar num f na NS) (p b s t : Int32) : ∀ (m i : Nat) (x : Option Value), i + m = num → rx_W V (d + 1) kc ks m_Notes_seek 3 [some (.ref aN), some (.int p), some (.int b), some (.int s), some (.int t), some (.int (nI i)), x] [] h (rx_X (.inl (some (va_rf ((fix (fun i => decide (NS i 0 = p ∧ NS i 1 = b ∧ NS i 2 = s ∧ NS i 4 = t)) i m).map na)))) h) := by
  intro m
  induction m with
  | zero =>
    intro i x hi
    have hi9 : i = num := by omega
    have h40 : num ≤ 40 := hN.2.2.2.2
    refine rx_iload d_Notes_seek_3 (by rfl) ?_
    refine rx_aload_nr d_Notes_seek_5 (by rfl) ?_
    refine rx_getfield d_Notes_seek_6 fl_Notes_17 hN.1 (by rfl) ?_
    refine rx_icmp_ge (tgt := 59) d_Notes_seek_9 (by rfl) (fun c9 => ?_) (fun z => absurd (show nI num ≤ nI i by rw [hi9]; exact Int32.le_refl _) z)
    refine rx_null d_Notes_seek_59 ?_
    refine rx_areturn_N d_Notes_seek_60 (by rfl) ?_
    exact ⟨rfl, rfl⟩
  | succ m ih =>
    intro i x hi
    have hlt : i < num := by omega
    have h40 : num ≤ 40 := hN.2.2.2.2
    have hcl : (nI i).toNatClampNeg = i := i_cl (by omega)
    refine rx_iload d_Notes_seek_3 (by rfl) ?_
    refine rx_aload_nr d_Notes_seek_5 (by rfl) ?_
    refine rx_getfield d_Notes_seek_6 fl_Notes_17 hN.1 (by rfl) ?_
    refine rx_icmp_ge (tgt := 59) d_Notes_seek_9 (by rfl) (fun z => absurd z (nI_ge hlt (by omega))) (fun c9 => ?_)
    refine rx_aload_nr d_Notes_seek_12 (by rfl) ?_
    refine rx_getfield d_Notes_seek_13 fl_Notes_11 hN.1 (by rfl) ?_
    refine rx_iload d_Notes_seek_16 (by rfl) ?_
    refine rx_aaload d_Notes_seek_18 (by rfl) hN.2.1 (vp_in_nI (by omega) (by omega)) ?_
    rw [hcl, hN.2.2.1 i hlt]
    refine rx_astore_r d_Notes_seek_19 (Nat.le_of_ble_eq_true rfl) ?_
    refine rx_aload_r d_Notes_seek_21 (by rfl) ?_
    refine rx_iload_n d_Notes_seek_23 (by rfl) ?_
    refine rx_iload_n d_Notes_seek_24 (by rfl) ?_
    refine rx_cV d_Notes_seek_25 (by rfl) ml_Notes_33 im_Note_isIn se_Note_isIn (by exact c9_Note_isIn) (hN.2.2.2.1 i hlt) (by rfl) (by exact Nat.le_of_ble_eq_true rfl) (c_isIn (hN.2.2.2.1 i hlt) p b) ?_
    refine rx_if_eq (tgt := 53) d_Notes_seek_28 (by rfl) (fun c28 => ?_) (fun c28 => ?_)
    · have hf : (fun i => decide (NS i 0 = p ∧ NS i 1 = b ∧ NS i 2 = s ∧ NS i 4 = t)) i = false := decide_eq_false (fun z => ite10.mp c28 ⟨z.1, z.2.1⟩)
      refine rx_iinc (v := nI (i + 1)) d_Notes_seek_53 (by rfl) (i_inc i) ?_
      refine rx_goto (tgt := 3) d_Notes_seek_56 (by rfl) ?_
      rw [fix_no hf]
      exact ih (i + 1) (some (.ref (na i))) (by omega)
    · refine rx_aload_r d_Notes_seek_31 (by rfl) ?_
      refine rx_getfield d_Notes_seek_33 fl_Notes_37 (hN.2.2.2.1 i hlt) (by rfl) ?_
      refine rx_iload_n d_Notes_seek_36 (by rfl) ?_
      refine rx_icmp_ne (tgt := 53) d_Notes_seek_37 (by rfl) (fun c37 => ?_) (fun c37 => ?_)
      · have hf : (fun i => decide (NS i 0 = p ∧ NS i 1 = b ∧ NS i 2 = s ∧ NS i 4 = t)) i = false := decide_eq_false (fun z => c37 z.2.2.1)
        refine rx_iinc (v := nI (i + 1)) d_Notes_seek_53 (by rfl) (i_inc i) ?_
        refine rx_goto (tgt := 3) d_Notes_seek_56 (by rfl) ?_
        rw [fix_no hf]
        exact ih (i + 1) (some (.ref (na i))) (by omega)
      · refine rx_aload_r d_Notes_seek_40 (by rfl) ?_
        refine rx_getfield d_Notes_seek_42 fl_Notes_40 (hN.2.2.2.1 i hlt) (by rfl) ?_
        refine rx_iload d_Notes_seek_45 (by rfl) ?_
        refine rx_icmp_ne (tgt := 53) d_Notes_seek_47 (by rfl) (fun c47 => ?_) (fun c47 => ?_)
        · have hf : (fun i => decide (NS i 0 = p ∧ NS i 1 = b ∧ NS i 2 = s ∧ NS i 4 = t)) i = false := decide_eq_false (fun z => c47 z.2.2.2)
          refine rx_iinc (v := nI (i + 1)) d_Notes_seek_53 (by rfl) (i_inc i) ?_
          refine rx_goto (tgt := 3) d_Notes_seek_56 (by rfl) ?_
          rw [fix_no hf]
          exact ih (i + 1) (some (.ref (na i))) (by omega)
        · have ht : (fun i => decide (NS i 0 = p ∧ NS i 1 = b ∧ NS i 2 = s ∧ NS i 4 = t)) i = true := decide_eq_true ⟨(ite11.mp c28).1, (ite11.mp c28).2, c37, c47⟩
          refine rx_aload_r d_Notes_seek_50 (by rfl) ?_
          refine rx_areturn_r d_Notes_seek_52 (by rfl) ?_
          exact ⟨by rw [fix_yes ht]; rfl, rfl⟩
end NT
