/-! ScoreRoads' small statics; Notes: more reads -/
theorem i_nle' {x y : Int32} (h : ¬ x < y) : y ≤ x := by rw [i_lt] at h; rw [i_le]; omega
def iwn (x lo hi : Int32) : Int32 := if lo ≤ x ∧ x ≤ hi then 1 else 0
section N2
variable {V : rx_V} {d kc ks a n al at_ av aN ar num q l1 l2 : Nat} {h : List va_E} {Le Te Va N fl fm : Nat → Int32} {f : Nat → Option Nat} {na : Nat → Nat} {NS : Nat → Nat → Int32}
theorem c_isWithin (x lo hi : Int32) : rx_C V d kc ks m_SR_isWithin [.int x, .int lo, .int hi] h (rx_X (.inl (some (.int (iwn x lo hi)))) h) := by
  refine rx_iload_n d_SR_isWithin_0 (by rfl) ?_
  refine rx_iload_n d_SR_isWithin_1 (by rfl) ?_
  refine rx_icmp_lt (tgt := 14) d_SR_isWithin_2 (by rfl) (fun c2 => ?_) (fun c2 => ?_)
  · have z : iwn x lo hi = 0 := if_neg (fun w => i_nlt w.1 c2)
    refine rx_iconst (v := 0) d_SR_isWithin_14 (by decide) ?_
    refine rx_zreturn d_SR_isWithin_15 (by rfl) (by rfl) ?_
    exact ⟨by rw [z], rfl⟩
  · refine rx_iload_n d_SR_isWithin_5 (by rfl) ?_
    refine rx_iload_n d_SR_isWithin_6 (by rfl) ?_
    refine rx_icmp_gt (tgt := 14) d_SR_isWithin_7 (by rfl) (fun c7 => ?_) (fun c7 => ?_)
    · have z : iwn x lo hi = 0 := if_neg (fun w => i_nlt w.2 c7)
      refine rx_iconst (v := 0) d_SR_isWithin_14 (by decide) ?_
      refine rx_zreturn d_SR_isWithin_15 (by rfl) (by rfl) ?_
      exact ⟨by rw [z], rfl⟩
    · have z : iwn x lo hi = 1 := if_pos ⟨i_nle' c2, i_nle' c7⟩
      refine rx_iconst (v := 1) d_SR_isWithin_10 (by decide) ?_
      refine rx_goto (tgt := 15) d_SR_isWithin_11 (by rfl) ?_
      refine rx_zreturn d_SR_isWithin_15 (by rfl) (by rfl) ?_
      exact ⟨by rw [z], rfl⟩
theorem c_isKind (x : Int32) : rx_C V (d + 1) kc ks m_SR_isKind [.int x] h (rx_X (.inl (some (.int (iwn x 0 9)))) h) := by
  have hz : narrow .boolean (.int (iwn x 0 9)) = .int (iwn x 0 9) := by
    unfold iwn
    by_cases z : (0 : Int32) ≤ x ∧ x ≤ 9
    · rw [if_pos z]; rfl
    · rw [if_neg z]; rfl
  refine rx_iload_n d_SR_isKind_0 (by rfl) ?_
  refine rx_iconst (v := 0) d_SR_isKind_1 (by decide) ?_
  refine rx_bipush (v := 9) d_SR_isKind_2 (by decide) ?_
  refine rx_cS d_SR_isKind_4 ml_SR_50 st_SR_isWithin (by exact c9_SR_isWithin) (by rfl) (by exact Nat.le_of_ble_eq_true rfl) (c_isWithin x 0 9) ?_
  refine rx_zreturn d_SR_isKind_7 (by rfl) hz ?_
  exact ⟨rfl, rfl⟩
theorem iwn_in {x : Int32} (h : ¬ iwn x 0 9 = 0) : vp_in x 10 := by
  unfold iwn at h
  by_cases z : (0 : Int32) ≤ x ∧ x ≤ 9
  · rw [i_le, i_0, i_le, show (9 : Int32).toInt = 9 from by decide] at z
    exact vp_in_iff.mpr ⟨by omega, by omega⟩
  · rw [if_neg z] at h; exact absurd rfl h
theorem c_isValue (h1 : V.2.2.2.2[1]? = some (l1, 10, fl)) (h2 : V.2.2.2.2[2]? = some (l2, 10, fm)) (k v : Int32) : rx_C V (d + 2) kc ks m_SR_isValue [.int k, .int v] h (rx_X (.inl (some (.int (if v = 0 ∨ (¬ iwn k 0 9 = 0 ∧ ¬ iwn v (fl k.toNatClampNeg) (fm k.toNatClampNeg) = 0) then 1 else 0)))) h) := by
  refine rx_iload_n d_SR_isValue_0 (by rfl) ?_
  refine rx_if_eq (tgt := 28) d_SR_isValue_1 (by rfl) (fun c1 => ?_) (fun c1 => ?_)
  · refine rx_iconst (v := 1) d_SR_isValue_28 (by decide) ?_
    refine rx_goto (tgt := 33) d_SR_isValue_29 (by rfl) ?_
    refine rx_zreturn d_SR_isValue_33 (by rfl) (by rfl) ?_
    exact ⟨by simp_all, rfl⟩
  · refine rx_iload_n d_SR_isValue_4 (by rfl) ?_
    refine rx_cS d_SR_isValue_5 ml_SR_77 st_SR_isKind (by exact c9_SR_isKind) (by rfl) (by exact Nat.le_of_ble_eq_true rfl) (c_isKind k) ?_
    refine rx_if_eq (tgt := 32) d_SR_isValue_8 (by rfl) (fun c8 => ?_) (fun c8 => ?_)
    · refine rx_iconst (v := 0) d_SR_isValue_32 (by decide) ?_
      refine rx_zreturn d_SR_isValue_33 (by rfl) (by rfl) ?_
      exact ⟨by simp_all, rfl⟩
    · refine rx_iload_n d_SR_isValue_11 (by rfl) ?_
      refine rx_least d_SR_isValue_12 h1 (rx_in 501 (by decide +kernel) (by decide +kernel)) ?_
      refine rx_iload_n d_SR_isValue_15 (by rfl) ?_
      refine rx_ialoadX d_SR_isValue_16 (List.mem_of_getElem? h1) (iwn_in c8) ?_
      refine rx_most d_SR_isValue_17 h2 (rx_in 503 (by decide +kernel) (by decide +kernel)) ?_
      refine rx_iload_n d_SR_isValue_20 (by rfl) ?_
      refine rx_ialoadX d_SR_isValue_21 (List.mem_of_getElem? h2) (iwn_in c8) ?_
      refine rx_cS d_SR_isValue_22 ml_SR_50 st_SR_isWithin (by exact c9_SR_isWithin) (by rfl) (by exact Nat.le_of_ble_eq_true rfl) (c_isWithin v (fl k.toNatClampNeg) (fm k.toNatClampNeg)) ?_
      refine rx_if_eq (tgt := 32) d_SR_isValue_25 (by rfl) (fun c25 => ?_) (fun c25 => ?_)
      · refine rx_iconst (v := 0) d_SR_isValue_32 (by decide) ?_
        refine rx_zreturn d_SR_isValue_33 (by rfl) (by rfl) ?_
        exact ⟨by simp_all, rfl⟩
      · refine rx_iconst (v := 1) d_SR_isValue_28 (by decide) ?_
        refine rx_goto (tgt := 33) d_SR_isValue_29 (by rfl) ?_
        refine rx_zreturn d_SR_isValue_33 (by rfl) (by rfl) ?_
        exact ⟨by simp_all, rfl⟩
theorem c_needPart {p : Int32} (hp : ¬ iwn p 0 2 = 0) : rx_C V (d + 1) kc ks m_SR_needPart [.int p] h (rx_X (.inl none) h) := by
  refine rx_iload_n d_SR_needPart_0 (by rfl) ?_
  refine rx_iconst (v := 0) d_SR_needPart_1 (by decide) ?_
  refine rx_iconst (v := 2) d_SR_needPart_2 (by decide) ?_
  refine rx_cS d_SR_needPart_3 ml_SR_50 st_SR_isWithin (by exact c9_SR_isWithin) (by rfl) (by exact Nat.le_of_ble_eq_true rfl) (c_isWithin p 0 2) ?_
  refine rx_if_ne (tgt := 19) d_SR_needPart_6 (by rfl) (fun c6 => ?_) (fun z => absurd z hp)
  refine rx_vreturn d_SR_needPart_19 (by rfl) ?_
  exact ⟨rfl, rfl⟩
theorem x_needPart (htr : V.1.stackTraces = false) {p : Int32} (hp : iwn p 0 2 = 0) : rx_C V (d + 6) 1 6 m_SR_needPart [.int p] h (rx_X (.inr 0) (h ++ [.inr (9 + 0, [])])) := by
  refine rx_iload_n d_SR_needPart_0 (by rfl) ?_
  refine rx_iconst (v := 0) d_SR_needPart_1 (by decide) ?_
  refine rx_iconst (v := 2) d_SR_needPart_2 (by decide) ?_
  refine rx_cS d_SR_needPart_3 ml_SR_50 st_SR_isWithin (by exact c9_SR_isWithin) (by rfl) (by exact Nat.le_of_ble_eq_true rfl) (c_isWithin p 0 2) ?_
  refine rx_if_ne (tgt := 19) d_SR_needPart_6 (by rfl) (fun z => absurd hp z) (fun c6 => ?_)
  exact rx_throw (E := 0) htr (by rfl) (by rfl) (by decide) d_SR_needPart_9 d_SR_needPart_12 d_SR_needPart_13 d_SR_needPart_15 d_SR_needPart_18 ck_SR_54 (text := "no such part") (by decide +kernel) (Nat.le_of_ble_eq_true rfl) ⟨rfl, rfl⟩
theorem c_needPlayed {i m : Int32} (hp : ¬ iwn i 0 m = 0) : rx_C V (d + 1) kc ks m_SR_needPlayed [.int i, .int m] h (rx_X (.inl none) h) := by
  refine rx_iload_n d_SR_needPlayed_0 (by rfl) ?_
  refine rx_iconst (v := 0) d_SR_needPlayed_1 (by decide) ?_
  refine rx_iload_n d_SR_needPlayed_2 (by rfl) ?_
  refine rx_cS d_SR_needPlayed_3 ml_SR_50 st_SR_isWithin (by exact c9_SR_isWithin) (by rfl) (by exact Nat.le_of_ble_eq_true rfl) (c_isWithin i 0 m) ?_
  refine rx_if_ne (tgt := 19) d_SR_needPlayed_6 (by rfl) (fun c6 => ?_) (fun z => absurd z hp)
  refine rx_vreturn d_SR_needPlayed_19 (by rfl) ?_
  exact ⟨rfl, rfl⟩
theorem x_needPlayed (htr : V.1.stackTraces = false) {i m : Int32} (hp : iwn i 0 m = 0) : rx_C V (d + 6) 1 6 m_SR_needPlayed [.int i, .int m] h (rx_X (.inr 2) (h ++ [.inr (9 + 2, [])])) := by
  refine rx_iload_n d_SR_needPlayed_0 (by rfl) ?_
  refine rx_iconst (v := 0) d_SR_needPlayed_1 (by decide) ?_
  refine rx_iload_n d_SR_needPlayed_2 (by rfl) ?_
  refine rx_cS d_SR_needPlayed_3 ml_SR_50 st_SR_isWithin (by exact c9_SR_isWithin) (by rfl) (by exact Nat.le_of_ble_eq_true rfl) (c_isWithin i 0 m) ?_
  refine rx_if_ne (tgt := 19) d_SR_needPlayed_6 (by rfl) (fun z => absurd hp z) (fun c6 => ?_)
  exact rx_throw (E := 2) htr (by rfl) (by rfl) (by decide) d_SR_needPlayed_9 d_SR_needPlayed_12 d_SR_needPlayed_13 d_SR_needPlayed_15 d_SR_needPlayed_18 ck_SR_221 (text := "not so many bars are played") (by decide +kernel) (Nat.le_of_ble_eq_true rfl) ⟨rfl, rfl⟩
theorem c_seek (hN : is_nt V h aN ar num f na NS) (p b s t : Int32) : rx_C V (d + 1) kc ks m_Notes_seek [.ref aN, .int p, .int b, .int s, .int t] h (rx_X (.inl (some (va_rf ((fix (fun i => decide (NS i 0 = p ∧ NS i 1 = b ∧ NS i 2 = s ∧ NS i 4 = t)) 0 num).map na)))) h) := by
  refine rx_iconst (v := 0) d_Notes_seek_0 (by decide) ?_
  refine rx_istore d_Notes_seek_1 (Nat.le_of_ble_eq_true rfl) ?_
  exact l_seek hN p b s t num 0 none (by omega)
theorem c_get (hN : is_nt V h aN ar num f na NS) {i : Nat} (hi : i < num) : rx_C V (d + 1) kc ks m_Notes_get [.ref aN, .int (nI i)] h (rx_X (.inl (some (.ref (na i)))) h) := by
  have h40 : num ≤ 40 := hN.2.2.2.2
  have hm : nI num - 1 = nI (num - 1) := by
    cases num with
    | zero => omega
    | succ j => exact nI_pred j
  have hw : ¬ iwn (nI i) 0 (nI num - 1) = 0 := by
    rw [hm]; unfold iwn
    rw [if_pos ⟨nI_pos' (by omega), nI_le (by omega) (by omega)⟩]; decide
  refine rx_iload_n d_Notes_get_0 (by rfl) ?_
  refine rx_iconst (v := 0) d_Notes_get_1 (by decide) ?_
  refine rx_aload_nr d_Notes_get_2 (by rfl) ?_
  refine rx_getfield d_Notes_get_3 fl_Notes_17 hN.1 (by rfl) ?_
  refine rx_iconst (v := 1) d_Notes_get_6 (by decide) ?_
  refine rx_isub d_Notes_get_7 ?_
  refine rx_cSN d_Notes_get_8 ml_Notes_29 st_SR_isWithin (by exact c9_SR_isWithin) (by rfl) (by exact Nat.le_of_ble_eq_true rfl) (c_isWithin (nI i) 0 (nI num - 1)) ?_
  refine rx_if_eq (tgt := 23) d_Notes_get_11 (by rfl) (fun z => absurd z (fun z => hw z)) (fun c11 => ?_)
  refine rx_aload_nr d_Notes_get_14 (by rfl) ?_
  refine rx_getfield d_Notes_get_15 fl_Notes_11 hN.1 (by rfl) ?_
  refine rx_iload_n d_Notes_get_18 (by rfl) ?_
  refine rx_aaload d_Notes_get_19 (by rfl) hN.2.1 (vp_in_nI (by omega) (by omega)) ?_
  rw [i_cl (by omega), hN.2.2.1 i hi]
  refine rx_goto (tgt := 24) d_Notes_get_20 (by rfl) ?_
  refine rx_areturn_r d_Notes_get_24 (by rfl) ?_
  exact ⟨rfl, rfl⟩
theorem l_endIn (hN : is_nt V h aN ar num f na NS) (b : Int32) : ∀ (m i : Nat) (e : Int32), i + m = num → rx_W V (d + 1) kc ks m_Notes_endIn 4 [some (.ref aN), some (.int b), some (.int e), some (.int (nI i))] [] h (rx_X (.inl (some (.int (ffo (fun (e : Int32) i => if NS i 1 = b then (if e < NS i 2 + NS i 3 then NS i 2 + NS i 3 else e) else e) e i m)))) h) := by
  intro m
  induction m with
  | zero =>
    intro i e hi
    have hi9 : i = num := by omega
    have h40 : num ≤ 40 := hN.2.2.2.2
    refine rx_iload_n d_Notes_endIn_4 (by rfl) ?_
    refine rx_aload_nr d_Notes_endIn_5 (by rfl) ?_
    refine rx_getfield d_Notes_endIn_6 fl_Notes_17 hN.1 (by rfl) ?_
    refine rx_icmp_ge (tgt := 45) d_Notes_endIn_9 (by rfl) (fun c9 => ?_) (fun z => absurd (show nI num ≤ nI i by rw [hi9]; exact Int32.le_refl _) z)
    refine rx_iload_n d_Notes_endIn_45 (by rfl) ?_
    refine rx_ireturn d_Notes_endIn_46 (by rfl) ?_
    exact ⟨rfl, rfl⟩
  | succ m ih =>
    intro i e hi
    have hlt : i < num := by omega
    have h40 : num ≤ 40 := hN.2.2.2.2
    have hcl : (nI i).toNatClampNeg = i := i_cl (by omega)
    refine rx_iload_n d_Notes_endIn_4 (by rfl) ?_
    refine rx_aload_nr d_Notes_endIn_5 (by rfl) ?_
    refine rx_getfield d_Notes_endIn_6 fl_Notes_17 hN.1 (by rfl) ?_
    refine rx_icmp_ge (tgt := 45) d_Notes_endIn_9 (by rfl) (fun z => absurd z (nI_ge hlt (by omega))) (fun c9 => ?_)
    refine rx_aload_nr d_Notes_endIn_12 (by rfl) ?_
    refine rx_getfield d_Notes_endIn_13 fl_Notes_11 hN.1 (by rfl) ?_
    refine rx_iload_n d_Notes_endIn_16 (by rfl) ?_
    refine rx_aaload d_Notes_endIn_17 (by rfl) hN.2.1 (vp_in_nI (by omega) (by omega)) ?_
    rw [hcl, hN.2.2.1 i hlt]
    refine rx_getfield d_Notes_endIn_18 fl_Notes_43 (hN.2.2.2.1 i hlt) (by rfl) ?_
    refine rx_iload_n d_Notes_endIn_21 (by rfl) ?_
    refine rx_icmp_ne (tgt := 39) d_Notes_endIn_22 (by rfl) (fun c22 => ?_) (fun c22 => ?_)
    · have hst : (fun (e : Int32) i => if NS i 1 = b then (if e < NS i 2 + NS i 3 then NS i 2 + NS i 3 else e) else e) e i = e := if_neg c22
      refine rx_iinc (v := nI (i + 1)) d_Notes_endIn_39 (by rfl) (i_inc i) ?_
      refine rx_goto (tgt := 4) d_Notes_endIn_42 (by rfl) ?_
      have z := ih (i + 1) ((fun (e : Int32) i => if NS i 1 = b then (if e < NS i 2 + NS i 3 then NS i 2 + NS i 3 else e) else e) e i) (by omega)
      rw [hst] at z
      show rx_W V (d + 1) kc ks m_Notes_endIn 4 _ [] h (rx_X (.inl (some (.int (ffo (fun (e : Int32) i => if NS i 1 = b then (if e < NS i 2 + NS i 3 then NS i 2 + NS i 3 else e) else e) ((fun (e : Int32) i => if NS i 1 = b then (if e < NS i 2 + NS i 3 then NS i 2 + NS i 3 else e) else e) e i) (i + 1) m)))) h)
      rw [hst]
      exact z
    · have hst : (fun (e : Int32) i => if NS i 1 = b then (if e < NS i 2 + NS i 3 then NS i 2 + NS i 3 else e) else e) e i = (if e < NS i 2 + NS i 3 then NS i 2 + NS i 3 else e) := if_pos c22
      refine rx_iload_n d_Notes_endIn_25 (by rfl) ?_
      refine rx_aload_nr d_Notes_endIn_26 (by rfl) ?_
      refine rx_getfield d_Notes_endIn_27 fl_Notes_11 hN.1 (by rfl) ?_
      refine rx_iload_n d_Notes_endIn_30 (by rfl) ?_
      refine rx_aaload d_Notes_endIn_31 (by rfl) hN.2.1 (vp_in_nI (by omega) (by omega)) ?_
      rw [hcl, hN.2.2.1 i hlt]
      refine rx_cV d_Notes_endIn_32 (by rfl) ml_Notes_46 im_Note_end se_Note_end (by exact c9_Note_end) (hN.2.2.2.1 i hlt) (by rfl) (by exact Nat.le_of_ble_eq_true rfl) (c_end (hN.2.2.2.1 i hlt)) ?_
      refine rx_max d_Notes_endIn_35 ml_Notes_50 (Nat.le_of_ble_eq_true rfl) ?_
      refine rx_istore_n d_Notes_endIn_38 (Nat.le_of_ble_eq_true rfl) ?_
      refine rx_iinc (v := nI (i + 1)) d_Notes_endIn_39 (by rfl) (i_inc i) ?_
      refine rx_goto (tgt := 4) d_Notes_endIn_42 (by rfl) ?_
      have z := ih (i + 1) ((fun (e : Int32) i => if NS i 1 = b then (if e < NS i 2 + NS i 3 then NS i 2 + NS i 3 else e) else e) e i) (by omega)
      rw [hst] at z
      show rx_W V (d + 1) kc ks m_Notes_endIn 4 _ [] h (rx_X (.inl (some (.int (ffo (fun (e : Int32) i => if NS i 1 = b then (if e < NS i 2 + NS i 3 then NS i 2 + NS i 3 else e) else e) ((fun (e : Int32) i => if NS i 1 = b then (if e < NS i 2 + NS i 3 then NS i 2 + NS i 3 else e) else e) e i) (i + 1) m)))) h)
      rw [hst]
      exact z
theorem c_endIn (hN : is_nt V h aN ar num f na NS) (b : Int32) : rx_C V (d + 1) kc ks m_Notes_endIn [.ref aN, .int b] h (rx_X (.inl (some (.int (ffo (fun (e : Int32) i => if NS i 1 = b then (if e < NS i 2 + NS i 3 then NS i 2 + NS i 3 else e) else e) 0 0 num)))) h) := by
  refine rx_iconst (v := 0) d_Notes_endIn_0 (by decide) ?_
  refine rx_istore_n d_Notes_endIn_1 (Nat.le_of_ble_eq_true rfl) ?_
  refine rx_iconst (v := 0) d_Notes_endIn_2 (by decide) ?_
  refine rx_istore_n d_Notes_endIn_3 (Nat.le_of_ble_eq_true rfl) ?_
  exact l_endIn hN b num 0 0 (by omega)
theorem l_canShift (hN : is_nt V h aN ar num f na NS) (p st : Int32) : ∀ (m i : Nat) (x : Option Value) (y : Option Value), i + m = num → rx_W V (d + 1) kc ks m_Notes_canShift 2 [some (.ref aN), some (.int p), some (.int st), some (.int (nI i)), x, y] [] h (rx_X (.inl (some (.int (if (fix (fun i => decide (NS i 0 = p ∧ (((NS i 4).toInt64 + st.toInt64) < 0 ∨ 127 < ((NS i 4).toInt64 + st.toInt64)))) i m).isSome then 0 else 1)))) h) := by
  intro m
  induction m with
  | zero =>
    intro i x y hi
    have hi9 : i = num := by omega
    have h40 : num ≤ 40 := hN.2.2.2.2
    refine rx_iload_n d_Notes_canShift_2 (by rfl) ?_
    refine rx_aload_nr d_Notes_canShift_3 (by rfl) ?_
    refine rx_getfield d_Notes_canShift_4 fl_Notes_17 hN.1 (by rfl) ?_
    refine rx_icmp_ge (tgt := 62) d_Notes_canShift_7 (by rfl) (fun c7 => ?_) (fun z => absurd (show nI num ≤ nI i by rw [hi9]; exact Int32.le_refl _) z)
    refine rx_iconst (v := 1) d_Notes_canShift_62 (by decide) ?_
    refine rx_zreturn d_Notes_canShift_63 (by rfl) (by rfl) ?_
    exact ⟨rfl, rfl⟩
  | succ m ih =>
    intro i x y hi
    have hlt : i < num := by omega
    have h40 : num ≤ 40 := hN.2.2.2.2
    have hcl : (nI i).toNatClampNeg = i := i_cl (by omega)
    refine rx_iload_n d_Notes_canShift_2 (by rfl) ?_
    refine rx_aload_nr d_Notes_canShift_3 (by rfl) ?_
    refine rx_getfield d_Notes_canShift_4 fl_Notes_17 hN.1 (by rfl) ?_
    refine rx_icmp_ge (tgt := 62) d_Notes_canShift_7 (by rfl) (fun z => absurd z (nI_ge hlt (by omega))) (fun c7 => ?_)
    refine rx_aload_nr d_Notes_canShift_10 (by rfl) ?_
    refine rx_getfield d_Notes_canShift_11 fl_Notes_11 hN.1 (by rfl) ?_
    refine rx_iload_n d_Notes_canShift_14 (by rfl) ?_
    refine rx_aaload d_Notes_canShift_15 (by rfl) hN.2.1 (vp_in_nI (by omega) (by omega)) ?_
    rw [hcl, hN.2.2.1 i hlt]
    refine rx_getfield d_Notes_canShift_16 fl_Notes_56 (hN.2.2.2.1 i hlt) (by rfl) ?_
    refine rx_iload_n d_Notes_canShift_19 (by rfl) ?_
    refine rx_icmp_ne (tgt := 56) d_Notes_canShift_20 (by rfl) (fun c20 => ?_) (fun c20 => ?_)
    · have hf : (fun i => decide (NS i 0 = p ∧ (((NS i 4).toInt64 + st.toInt64) < 0 ∨ 127 < ((NS i 4).toInt64 + st.toInt64)))) i = false := decide_eq_false (fun z => c20 z.1)
      refine rx_iinc (v := nI (i + 1)) d_Notes_canShift_56 (by rfl) (i_inc i) ?_
      refine rx_goto (tgt := 2) d_Notes_canShift_59 (by rfl) ?_
      rw [fix_no hf]
      exact ih (i + 1) _ _ (by omega)
    · refine rx_aload_nr d_Notes_canShift_23 (by rfl) ?_
      refine rx_getfield d_Notes_canShift_24 fl_Notes_11 hN.1 (by rfl) ?_
      refine rx_iload_n d_Notes_canShift_27 (by rfl) ?_
      refine rx_aaload d_Notes_canShift_28 (by rfl) hN.2.1 (vp_in_nI (by omega) (by omega)) ?_
      rw [hcl, hN.2.2.1 i hlt]
      refine rx_getfield d_Notes_canShift_29 fl_Notes_40 (hN.2.2.2.1 i hlt) (by rfl) ?_
      refine rx_i2l d_Notes_canShift_32 ?_
      refine rx_iload_n d_Notes_canShift_33 (by rfl) ?_
      refine rx_i2l d_Notes_canShift_34 ?_
      refine rx_ladd d_Notes_canShift_35 ?_
      refine rx_lstore d_Notes_canShift_36 (Nat.le_of_ble_eq_true rfl) ?_
      refine rx_lload d_Notes_canShift_38 (by rfl) ?_
      refine rx_lconst (v := 0) d_Notes_canShift_40 (by decide) ?_
      refine rx_lcmp d_Notes_canShift_41 ?_
      refine rx_if_lt (tgt := 54) d_Notes_canShift_42 (by rfl) (fun c42 => ?_) (fun c42 => ?_)
      · have ht : (fun i => decide (NS i 0 = p ∧ (((NS i 4).toInt64 + st.toInt64) < 0 ∨ 127 < ((NS i 4).toInt64 + st.toInt64)))) i = true := decide_eq_true ⟨c20, Or.inl ((lg_lt0 _ _).mp c42)⟩
        refine rx_iconst (v := 0) d_Notes_canShift_54 (by decide) ?_
        refine rx_zreturn d_Notes_canShift_55 (by rfl) (by rfl) ?_
        exact ⟨by rw [fix_yes ht]; rfl, rfl⟩
      · refine rx_lload d_Notes_canShift_45 (by rfl) ?_
        refine rx_ldc2 d_Notes_canShift_47 kl_Notes_59 ?_
        refine rx_lcmp d_Notes_canShift_50 ?_
        refine rx_if_le (tgt := 56) d_Notes_canShift_51 (by rfl) (fun c51 => ?_) (fun c51 => ?_)
        · have hf : (fun i => decide (NS i 0 = p ∧ (((NS i 4).toInt64 + st.toInt64) < 0 ∨ 127 < ((NS i 4).toInt64 + st.toInt64)))) i = false := decide_eq_false (fun z => z.2.elim (fun w => c42 ((lg_lt0 _ _).mpr w)) (fun w => (lg_le0 _ _).mp c51 w))
          refine rx_iinc (v := nI (i + 1)) d_Notes_canShift_56 (by rfl) (i_inc i) ?_
          refine rx_goto (tgt := 2) d_Notes_canShift_59 (by rfl) ?_
          rw [fix_no hf]
          exact ih (i + 1) _ _ (by omega)
        · have ht : (fun i => decide (NS i 0 = p ∧ (((NS i 4).toInt64 + st.toInt64) < 0 ∨ 127 < ((NS i 4).toInt64 + st.toInt64)))) i = true := decide_eq_true ⟨c20, Or.inr (Decidable.not_not.mp (fun w => c51 ((lg_le0 _ _).mpr w)))⟩
          refine rx_iconst (v := 0) d_Notes_canShift_54 (by decide) ?_
          refine rx_zreturn d_Notes_canShift_55 (by rfl) (by rfl) ?_
          exact ⟨by rw [fix_yes ht]; rfl, rfl⟩
theorem c_canShift (hN : is_nt V h aN ar num f na NS) (p st : Int32) : rx_C V (d + 1) kc ks m_Notes_canShift [.ref aN, .int p, .int st] h (rx_X (.inl (some (.int (if (fix (fun i => decide (NS i 0 = p ∧ (((NS i 4).toInt64 + st.toInt64) < 0 ∨ 127 < ((NS i 4).toInt64 + st.toInt64)))) 0 num).isSome then 0 else 1)))) h) := by
  refine rx_iconst (v := 0) d_Notes_canShift_0 (by decide) ?_
  refine rx_istore_n d_Notes_canShift_1 (Nat.le_of_ble_eq_true rfl) ?_
  exact l_canShift hN p st num 0 _ _ (by omega)
theorem l_isGoingOn (hp : is_pg V h a n al at_ av Le Te Va) (hN : is_nt V h aN ar num f na NS) (hr : rx_rd V h q = some (ncl N)) (b : Int32) : ∀ (m i : Nat) (x : Option Value), i + m = num → rx_W V (d + 3) kc ks m_Notes_isGoingOn 12 [some (.ref aN), some (.ref q), some (.ref a), some (.int b), some (.int (nI i)), x] [] h (rx_X (.inl (some (.int (if (fix (fun i => decide (NS i 0 = N 0 ∧ NS i 1 = b ∧ NS i 4 = N 4 ∧ NS i 5 ≠ 0 ∧ NS i 2 + NS i 3 = pgl n Le (NS i 1))) i m).isSome then 1 else 0)))) h) := by
  intro m
  induction m with
  | zero =>
    intro i x hi
    have hi9 : i = num := by omega
    have h40 : num ≤ 40 := hN.2.2.2.2
    refine rx_iload d_Notes_isGoingOn_12 (by rfl) ?_
    refine rx_aload_nr d_Notes_isGoingOn_14 (by rfl) ?_
    refine rx_getfield d_Notes_isGoingOn_15 fl_Notes_17 hN.1 (by rfl) ?_
    refine rx_icmp_ge (tgt := 72) d_Notes_isGoingOn_18 (by rfl) (fun c18 => ?_) (fun z => absurd (show nI num ≤ nI i by rw [hi9]; exact Int32.le_refl _) z)
    refine rx_iconst (v := 0) d_Notes_isGoingOn_72 (by decide) ?_
    refine rx_zreturn d_Notes_isGoingOn_73 (by rfl) (by rfl) ?_
    exact ⟨rfl, rfl⟩
  | succ m ih =>
    intro i x hi
    have hlt : i < num := by omega
    have h40 : num ≤ 40 := hN.2.2.2.2
    have hcl : (nI i).toNatClampNeg = i := i_cl (by omega)
    refine rx_iload d_Notes_isGoingOn_12 (by rfl) ?_
    refine rx_aload_nr d_Notes_isGoingOn_14 (by rfl) ?_
    refine rx_getfield d_Notes_isGoingOn_15 fl_Notes_17 hN.1 (by rfl) ?_
    refine rx_icmp_ge (tgt := 72) d_Notes_isGoingOn_18 (by rfl) (fun z => absurd z (nI_ge hlt (by omega))) (fun c18 => ?_)
    refine rx_aload_nr d_Notes_isGoingOn_21 (by rfl) ?_
    refine rx_getfield d_Notes_isGoingOn_22 fl_Notes_11 hN.1 (by rfl) ?_
    refine rx_iload d_Notes_isGoingOn_25 (by rfl) ?_
    refine rx_aaload d_Notes_isGoingOn_27 (by rfl) hN.2.1 (vp_in_nI (by omega) (by omega)) ?_
    rw [hcl, hN.2.2.1 i hlt]
    refine rx_astore_r d_Notes_isGoingOn_28 (Nat.le_of_ble_eq_true rfl) ?_
    refine rx_aload_r d_Notes_isGoingOn_30 (by rfl) ?_
    refine rx_aload_nr d_Notes_isGoingOn_32 (by rfl) ?_
    refine rx_getfield d_Notes_isGoingOn_33 fl_Notes_56 hr (by rfl) ?_
    refine rx_iload_n d_Notes_isGoingOn_36 (by rfl) ?_
    refine rx_cV d_Notes_isGoingOn_37 (by rfl) ml_Notes_33 im_Note_isIn se_Note_isIn (by exact c9_Note_isIn) (hN.2.2.2.1 i hlt) (by rfl) (by exact Nat.le_of_ble_eq_true rfl) (c_isIn (hN.2.2.2.1 i hlt) (N 0) b) ?_
    refine rx_if_eq (tgt := 66) d_Notes_isGoingOn_40 (by rfl) (fun c40 => ?_) (fun c40 => ?_)
    · have hf : (fun i => decide (NS i 0 = N 0 ∧ NS i 1 = b ∧ NS i 4 = N 4 ∧ NS i 5 ≠ 0 ∧ NS i 2 + NS i 3 = pgl n Le (NS i 1))) i = false := decide_eq_false (fun z => ite10.mp c40 ⟨z.1, z.2.1⟩)
      refine rx_iinc (v := nI (i + 1)) d_Notes_isGoingOn_66 (by rfl) (i_inc i) ?_
      refine rx_goto (tgt := 12) d_Notes_isGoingOn_69 (by rfl) ?_
      rw [fix_no hf]
      exact ih (i + 1) _ (by omega)
    · refine rx_aload_r d_Notes_isGoingOn_43 (by rfl) ?_
      refine rx_getfield d_Notes_isGoingOn_45 fl_Notes_40 (hN.2.2.2.1 i hlt) (by rfl) ?_
      refine rx_aload_nr d_Notes_isGoingOn_48 (by rfl) ?_
      refine rx_getfield d_Notes_isGoingOn_49 fl_Notes_40 hr (by rfl) ?_
      refine rx_icmp_ne (tgt := 66) d_Notes_isGoingOn_52 (by rfl) (fun c52 => ?_) (fun c52 => ?_)
      · have hf : (fun i => decide (NS i 0 = N 0 ∧ NS i 1 = b ∧ NS i 4 = N 4 ∧ NS i 5 ≠ 0 ∧ NS i 2 + NS i 3 = pgl n Le (NS i 1))) i = false := decide_eq_false (fun z => c52 z.2.2.1)
        refine rx_iinc (v := nI (i + 1)) d_Notes_isGoingOn_66 (by rfl) (i_inc i) ?_
        refine rx_goto (tgt := 12) d_Notes_isGoingOn_69 (by rfl) ?_
        rw [fix_no hf]
        exact ih (i + 1) _ (by omega)
      · refine rx_aload_r d_Notes_isGoingOn_55 (by rfl) ?_
        refine rx_aload_nr d_Notes_isGoingOn_57 (by rfl) ?_
        refine rx_cV d_Notes_isGoingOn_58 (by rfl) ml_Notes_61 im_Note_reachesOver se_Note_reachesOver (by exact c9_Note_reachesOver) (hN.2.2.2.1 i hlt) (by rfl) (by exact Nat.le_of_ble_eq_true rfl) (c_reachesOver hp (hN.2.2.2.1 i hlt)) ?_
        refine rx_if_eq (tgt := 66) d_Notes_isGoingOn_61 (by rfl) (fun c61 => ?_) (fun c61 => ?_)
        · have hf : (fun i => decide (NS i 0 = N 0 ∧ NS i 1 = b ∧ NS i 4 = N 4 ∧ NS i 5 ≠ 0 ∧ NS i 2 + NS i 3 = pgl n Le (NS i 1))) i = false := decide_eq_false (fun z => ite10.mp c61 ⟨z.2.2.2.1, z.2.2.2.2⟩)
          refine rx_iinc (v := nI (i + 1)) d_Notes_isGoingOn_66 (by rfl) (i_inc i) ?_
          refine rx_goto (tgt := 12) d_Notes_isGoingOn_69 (by rfl) ?_
          rw [fix_no hf]
          exact ih (i + 1) _ (by omega)
        · have ht : (fun i => decide (NS i 0 = N 0 ∧ NS i 1 = b ∧ NS i 4 = N 4 ∧ NS i 5 ≠ 0 ∧ NS i 2 + NS i 3 = pgl n Le (NS i 1))) i = true := decide_eq_true ⟨(ite11.mp c40).1, (ite11.mp c40).2, c52, (ite11.mp c61).1, (ite11.mp c61).2⟩
          refine rx_iconst (v := 1) d_Notes_isGoingOn_64 (by decide) ?_
          refine rx_zreturn d_Notes_isGoingOn_65 (by rfl) (by rfl) ?_
          exact ⟨by rw [fix_yes ht]; rfl, rfl⟩
theorem c_isGoingOn (hp : is_pg V h a n al at_ av Le Te Va) (hN : is_nt V h aN ar num f na NS) (hr : rx_rd V h q = some (ncl N)) (b : Int32) : rx_C V (d + 3) kc ks m_Notes_isGoingOn [.ref aN, .ref q, .ref a, .int b] h (rx_X (.inl (some (.int (if N 2 = 0 ∧ (fix (fun i => decide (NS i 0 = N 0 ∧ NS i 1 = b ∧ NS i 4 = N 4 ∧ NS i 5 ≠ 0 ∧ NS i 2 + NS i 3 = pgl n Le (NS i 1))) 0 num).isSome then 1 else 0)))) h) := by
  refine rx_aload_nr d_Notes_isGoingOn_0 (by rfl) ?_
  refine rx_getfield d_Notes_isGoingOn_1 fl_Notes_37 hr (by rfl) ?_
  refine rx_if_eq (tgt := 9) d_Notes_isGoingOn_4 (by rfl) (fun c4 => ?_) (fun c4 => ?_)
  · refine rx_iconst (v := 0) d_Notes_isGoingOn_9 (by decide) ?_
    refine rx_istore d_Notes_isGoingOn_10 (Nat.le_of_ble_eq_true rfl) ?_
    exact rx_cons (l_isGoingOn hp hN hr b num 0 _ (by omega)) (fun r h9 z => ⟨z.1.trans (by simp [c4]), z.2⟩)
  · refine rx_iconst (v := 0) d_Notes_isGoingOn_7 (by decide) ?_
    refine rx_zreturn d_Notes_isGoingOn_8 (by rfl) (by rfl) ?_
    exact ⟨by simp [c4], rfl⟩
theorem c_goingOn (hp : is_pg V h a n al at_ av Le Te Va) (hN : is_nt V h aN ar num f na NS) (hr : rx_rd V h q = some (ncl N)) (b : Int32) : rx_C V (d + 3) kc ks m_Notes_goingOn [.ref aN, .ref q, .ref a, .int b] h (rx_X (.inl (some (va_rf (if N 5 ≠ 0 ∧ N 2 + N 3 = pgl n Le (N 1) then (fix (fun i => decide (NS i 0 = N 0 ∧ NS i 1 = b ∧ NS i 2 = 0 ∧ NS i 4 = N 4)) 0 num).map na else none)))) h) := by
  refine rx_aload_nr d_Notes_goingOn_0 (by rfl) ?_
  refine rx_aload_nr d_Notes_goingOn_1 (by rfl) ?_
  refine rx_cV d_Notes_goingOn_2 (by rfl) ml_Notes_61 im_Note_reachesOver se_Note_reachesOver (by exact c9_Note_reachesOver) hr (by rfl) (by exact Nat.le_of_ble_eq_true rfl) (c_reachesOver hp hr) ?_
  refine rx_if_eq (tgt := 25) d_Notes_goingOn_5 (by rfl) (fun c5 => ?_) (fun c5 => ?_)
  · rw [if_neg (ite10.mp c5)]
    refine rx_null d_Notes_goingOn_25 ?_
    refine rx_areturn_N d_Notes_goingOn_26 (by rfl) ?_
    exact ⟨rfl, rfl⟩
  · rw [if_pos (ite11.mp c5)]
    refine rx_aload_nr d_Notes_goingOn_8 (by rfl) ?_
    refine rx_aload_nr d_Notes_goingOn_9 (by rfl) ?_
    refine rx_getfield d_Notes_goingOn_10 fl_Notes_56 hr (by rfl) ?_
    refine rx_iload_n d_Notes_goingOn_13 (by rfl) ?_
    refine rx_iconst (v := 0) d_Notes_goingOn_14 (by decide) ?_
    refine rx_aload_nr d_Notes_goingOn_15 (by rfl) ?_
    refine rx_getfield d_Notes_goingOn_16 fl_Notes_40 hr (by rfl) ?_
    refine rx_cV d_Notes_goingOn_19 (by rfl) ml_Notes_65 im_Notes_seek se_Notes_seek (by exact c9_Notes_seek) hN.1 (by rfl) (by exact Nat.le_of_ble_eq_true rfl) (c_seek hN (N 0) b 0 (N 4)) ?_
    refine rx_goto (tgt := 26) d_Notes_goingOn_22 (by rfl) ?_
    refine rx_areturn d_Notes_goingOn_26 (by rfl) ?_
    exact ⟨rfl, rfl⟩
end N2
