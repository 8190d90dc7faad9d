/-! Faults -/
noncomputable def bP (p : Prop) : Int32 := @ite _ p (Classical.propDecidable p) 1 0
noncomputable def pB (p : Prop) : Bool := @decide p (Classical.propDecidable p)
theorem bP_t {p : Prop} (h : p) : bP p = 1 := if_pos h
theorem bP_f {p : Prop} (h : ¬ p) : bP p = 0 := if_neg h
theorem bP_0 {p : Prop} : bP p = 0 ↔ ¬ p := ⟨fun z w => absurd ((bP_t w).symm.trans z) (by decide), bP_f⟩
theorem bP_1 {p : Prop} : ¬ bP p = 0 ↔ p := by rw [bP_0]; exact Classical.not_not
theorem bP_z {p : Prop} : narrow .boolean (.int (bP p)) = .int (bP p) := by
  by_cases h : p
  · rw [bP_t h]; rfl
  · rw [bP_f h]; rfl
theorem bP_c {p q : Prop} (h : p ↔ q) : bP p = bP q := by rw [propext h]
theorem pB_t {p : Prop} : pB p = true ↔ p := by exact @decide_eq_true_iff p (Classical.propDecidable p)
theorem pB_f {p : Prop} : pB p = false ↔ ¬ p := by exact @decide_eq_false_iff_not p (Classical.propDecidable p)
/-- a START at b0 is never ended -/
def nvr (Va : Nat → Int32) (b0 : Nat) : Nat → Nat → Bool
  | _, 0 => true
  | i, m + 1 => if b0 < i ∧ hb Va 0 i = true then true else if hb Va 1 i = true then false else nvr Va b0 (i + 1) m
def jsg (v : Int32) : Prop := (v - 1) - (v - 1) / 2 * 2 = 1
def jwy (v : Int32) : Int32 := (v - 1) / 2 - (v - 1) / 2 / 3 * 3
def jta (n : Nat) (Va : Nat → Int32) (b : Nat) : Int32 := if (Va (10 * b + 7) - 1) - (Va (10 * b + 7) - 1) / 2 * 2 = 1 then lwi n Va 3 0 (nI b) else 0
/-- the passes that r's endings among the places have, or a clash -/
def pwf (Va : Nat → Int32) (g : Nat → Option Nat) (r : Nat) : Int32 → Nat → Nat → Option Int32
  | x, _, 0 => some x
  | x, i, m + 1 => if g i = some r then (if x &&& Va (10 * i + 2) = 0 then pwf Va g r (x ||| Va (10 * i + 2)) (i + 1) m else none) else pwf Va g r x (i + 1) m
/-- whether the passes of r's endings, whose last is l, are wrong -/
def pww (Va : Nat → Int32) (s : gT) (g : Nat → Option Nat) (r l : Nat) : Prop := ∀ x, pwf Va g r 0 (gF s r) (l + 1 - gF s r) = some x → x ≠ (1 <<< (gC s r &&& 31)) - 1 ∨ Va (10 * l + 2) &&& (1 <<< ((gC s r - 1) &&& 31)) = 0
def FT (n : Nat) (Va : Nat → Int32) (s : gT) (g : Nat → Option Nat) (k b : Nat) : Prop := match k with
  | 1 => hb Va 0 b = true ∧ nvr Va b b (n - b) = true
  | 2 => hb Va 2 b = true ∧ ∀ r, g b = some r → b ≤ gE s r ∧ ∃ y, y < b ∧ g y = some r
  | 3 => hb Va 1 b = true ∧ ∃ r, gO s b = some r ∧ (∃ x, g x = some r) ∧ (Va (10 * b + 1) ≠ gC s r ∨ g (b + 1) ≠ some r)
  | 4 => ∃ r l, r < s.1 ∧ gF s r = b ∧ g l = some r ∧ (∀ y, g y = some r → y ≤ l) ∧ pww Va s g r l
  | 5 => ∃ k, (k = 3 ∨ k = 4 ∨ k = 7) ∧ hb Va k b = true ∧ ∃ y, y < b ∧ hb Va k y = true
  | 6 => hb Va 7 b = true ∧ jta n Va b = -1
  | _ => hb Va 7 b = true ∧ ((jwy (Va (10 * b + 7)) = 1 ∧ lwi n Va 5 (jta n Va b) (nI b) = -1) ∨ (jwy (Va (10 * b + 7)) = 2 ∧ (lwi n Va 6 (jta n Va b) (nI b) = -1 ∨ lwi n Va 4 (nI (b + 1)) (nI n - 1) = -1)))
theorem lwf_m1 {Pr : Nat → Bool} {lo : Int} {m : Nat} : lwf Pr lo m = -1 ↔ ∀ j : Nat, lo ≤ j → j < m → Pr j = false := by
  induction m with
  | zero => exact ⟨fun _ j _ h => absurd h (Nat.not_lt_zero _), fun _ => rfl⟩
  | succ m ih =>
    by_cases h1 : (m : Int) < lo
    · rw [lwf_out h1]
      exact ⟨fun _ j h2 h3 => by omega, fun _ => rfl⟩
    · cases h2 : Pr m with
      | true =>
        rw [lwf_yes h1 h2]
        exact ⟨fun z => by omega, fun z => absurd ((z m (by omega) (by omega)).symm.trans h2) (by decide)⟩
      | false =>
        rw [lwf_no h1 h2, ih]
        constructor
        · intro z j h3 h4
          by_cases e : j = m
          · rw [e]; exact h2
          · exact z j h3 (by omega)
        · exact fun z j h3 h4 => z j h3 (by omega)
section FA
variable {V : rx_V} {d kc ks a n aA aE aG num q aP al at_ av b : Nat} {h : List va_E} {fA : Nat → Option Nat} {ra : Nat → Nat} {R : Nat → Nat → Int32} {Le Te Va : Nat → Int32} {s : gT} {g : Nat → Option Nat}
theorem c_target (hp : is_pg V h aP n al at_ av Le Te Va) (hbn : b < n) : rx_C V (d + 2) kc ks m_Jump_target [.ref aP, .int (nI b)] h (rx_X (.inl (some (.int (jta n Va b)))) h) := by
  have hn : n ≤ 20 := hp.2.2.2.2
  have hv : pgv n Va (nI b) 7 = Va (10 * b + 7) := pgv_k hn hbn (by omega) rfl
  refine rx_aload_nr d_Jump_target_0 (by rfl) ?_
  refine rx_iload_n d_Jump_target_1 (by rfl) ?_
  refine rx_bipush (v := 7) d_Jump_target_2 (by decide) ?_
  refine rx_cV d_Jump_target_4 (by rfl) ml_Jump_9 im_Page_value se_Page_value (by exact c9_Page_value) hp.1 (by rfl) (by exact Nat.le_of_ble_eq_true rfl) (c_value hp (nI b) 7) ?_
  rw [hv]
  refine rx_cS d_Jump_target_7 ml_Jump_15 st_Jump_isToSegno (by exact c9_Jump_isToSegno) (by rfl) (by exact Nat.le_of_ble_eq_true rfl) (c_isToSegno _) ?_
  refine rx_if_eq (tgt := 23) d_Jump_target_10 (by rfl) (fun c10 => ?_) (fun c10 => ?_)
  · have z := ite10.mp c10
    refine rx_iconst (v := 0) d_Jump_target_23 (by decide) ?_
    refine rx_ireturn d_Jump_target_24 (by rfl) ?_
    exact ⟨by unfold jta; first | (rw [if_pos z]; done) | (rw [if_neg z]; done), rfl⟩
  · have z := ite11.mp c10
    refine rx_aload_nr d_Jump_target_13 (by rfl) ?_
    refine rx_iconst (v := 3) d_Jump_target_14 (by decide) ?_
    refine rx_iconst (v := 0) d_Jump_target_15 (by decide) ?_
    refine rx_iload_n d_Jump_target_16 (by rfl) ?_
    refine rx_cV d_Jump_target_17 (by rfl) ml_Jump_21 im_Page_lastWith se_Page_lastWith (by exact c9_Page_lastWith) hp.1 (by rfl) (by exact Nat.le_of_ble_eq_true rfl) (c_lw hp (k := 3) (by omega) 0 (nI b)) ?_
    refine rx_goto (tgt := 24) d_Jump_target_20 (by rfl) ?_
    refine rx_ireturn d_Jump_target_24 (by rfl) ?_
    exact ⟨by unfold jta; first | (rw [if_pos z]; done) | (rw [if_neg z]; done), rfl⟩
theorem nvr_1 {b0 i m : Nat} (h1 : b0 < i) (h2 : hb Va 0 i = true) : nvr Va b0 i (m + 1) = true := if_pos ⟨h1, h2⟩
theorem nvr_2 {b0 i m : Nat} (h1 : ¬ (b0 < i ∧ hb Va 0 i = true)) (h2 : hb Va 1 i = true) : nvr Va b0 i (m + 1) = false := (if_neg h1).trans (if_pos h2)
theorem nvr_3 {b0 i m : Nat} (h1 : ¬ (b0 < i ∧ hb Va 0 i = true)) (h2 : hb Va 1 i = false) : nvr Va b0 i (m + 1) = nvr Va b0 (i + 1) m := (if_neg h1).trans (if_neg (by rw [h2]; decide))
theorem l_isNeverEnded (hp : is_pg V h aP n al at_ av Le Te Va) (hbn : b < n) : ∀ (m i : Nat), i + m = n → rx_W V (d + 2) kc ks m_Faults_isNeverEnded 2 [some (.ref aP), some (.int (nI b)), some (.int (nI i))] [] h (rx_X (.inl (some (.int (if nvr Va b i m = true then 1 else 0)))) h) := by
  have hn : n ≤ 20 := hp.2.2.2.2
  intro m
  induction m with
  | zero =>
    intro i hi
    have hi9 : i = n := by omega
    subst hi9
    refine rx_iload_n d_Faults_isNeverEnded_2 (by rfl) ?_
    refine rx_aload_nr d_Faults_isNeverEnded_3 (by rfl) ?_
    refine rx_getfield d_Faults_isNeverEnded_4 fl_Faults_11 hp.1 (by rfl) ?_
    refine rx_icmp_ge (tgt := 43) d_Faults_isNeverEnded_7 (by rfl) (fun c7 => ?_) (fun z => absurd (Int32.le_refl _) z)
    refine rx_iconst (v := 1) d_Faults_isNeverEnded_43 (by decide) ?_
    refine rx_zreturn d_Faults_isNeverEnded_44 (by rfl) (by rfl) ?_
    exact ⟨rfl, rfl⟩
  | succ m ih =>
    intro i hi
    have hin : i < n := by omega
    have v0 : pgv n Va (nI i) 0 = Va (10 * i + 0) := pgv_k hn hin (by omega) rfl
    have v1 : pgv n Va (nI i) 1 = Va (10 * i + 1) := pgv_k hn hin (by omega) rfl
    refine rx_iload_n d_Faults_isNeverEnded_2 (by rfl) ?_
    refine rx_aload_nr d_Faults_isNeverEnded_3 (by rfl) ?_
    refine rx_getfield d_Faults_isNeverEnded_4 fl_Faults_11 hp.1 (by rfl) ?_
    refine rx_icmp_ge (tgt := 43) d_Faults_isNeverEnded_7 (by rfl) (fun z => absurd z (nI_ge hin (by omega))) (fun c7 => ?_)
    refine rx_iload_n d_Faults_isNeverEnded_10 (by rfl) ?_
    refine rx_iload_n d_Faults_isNeverEnded_11 (by rfl) ?_
    refine rx_icmp_le (tgt := 26) d_Faults_isNeverEnded_12 (by rfl) (fun c12 => ?_) (fun c12 => ?_)
    · have w : ¬ (b < i ∧ hb Va 0 i = true) := fun z => nI_ge z.1 (by omega) c12
      refine rx_aload_nr d_Faults_isNeverEnded_26 (by rfl) ?_
      refine rx_iload_n d_Faults_isNeverEnded_27 (by rfl) ?_
      refine rx_iconst (v := 1) d_Faults_isNeverEnded_28 (by decide) ?_
      refine rx_cV d_Faults_isNeverEnded_29 (by rfl) ml_Faults_21 im_Page_has se_Page_has (by exact c9_Page_has) hp.1 (by rfl) (by exact Nat.le_of_ble_eq_true rfl) (c_has hp (nI i) 1) ?_
      rw [v1]
      refine rx_if_eq (tgt := 37) d_Faults_isNeverEnded_32 (by rfl) (fun c32 => ?_) (fun c32 => ?_)
      · refine rx_iinc (v := nI (i + 1)) d_Faults_isNeverEnded_37 (by rfl) (i_inc i) ?_
        refine rx_goto (tgt := 2) d_Faults_isNeverEnded_40 (by rfl) ?_
        rw [nvr_3 w (hb_f.mpr (ite01.mp c32))]
        exact ih (i + 1) (by omega)
      · refine rx_iconst (v := 0) d_Faults_isNeverEnded_35 (by decide) ?_
        refine rx_zreturn d_Faults_isNeverEnded_36 (by rfl) (by rfl) ?_
        exact ⟨by rw [nvr_2 w (hb_t.mpr (fun z => c32 (ite01.mpr z)))]; rfl, rfl⟩
    · have w0 : b < i := by rw [nI_leI (by omega) (by omega)] at c12; omega
      refine rx_aload_nr d_Faults_isNeverEnded_15 (by rfl) ?_
      refine rx_iload_n d_Faults_isNeverEnded_16 (by rfl) ?_
      refine rx_iconst (v := 0) d_Faults_isNeverEnded_17 (by decide) ?_
      refine rx_cV d_Faults_isNeverEnded_18 (by rfl) ml_Faults_21 im_Page_has se_Page_has (by exact c9_Page_has) hp.1 (by rfl) (by exact Nat.le_of_ble_eq_true rfl) (c_has hp (nI i) 0) ?_
      rw [v0]
      refine rx_if_eq (tgt := 26) d_Faults_isNeverEnded_21 (by rfl) (fun c21 => ?_) (fun c21 => ?_)
      · have w : ¬ (b < i ∧ hb Va 0 i = true) := fun z => hb_t.mp z.2 (ite01.mp c21)
        refine rx_aload_nr d_Faults_isNeverEnded_26 (by rfl) ?_
        refine rx_iload_n d_Faults_isNeverEnded_27 (by rfl) ?_
        refine rx_iconst (v := 1) d_Faults_isNeverEnded_28 (by decide) ?_
        refine rx_cV d_Faults_isNeverEnded_29 (by rfl) ml_Faults_21 im_Page_has se_Page_has (by exact c9_Page_has) hp.1 (by rfl) (by exact Nat.le_of_ble_eq_true rfl) (c_has hp (nI i) 1) ?_
        rw [v1]
        refine rx_if_eq (tgt := 37) d_Faults_isNeverEnded_32 (by rfl) (fun c32 => ?_) (fun c32 => ?_)
        · refine rx_iinc (v := nI (i + 1)) d_Faults_isNeverEnded_37 (by rfl) (i_inc i) ?_
          refine rx_goto (tgt := 2) d_Faults_isNeverEnded_40 (by rfl) ?_
          rw [nvr_3 w (hb_f.mpr (ite01.mp c32))]
          exact ih (i + 1) (by omega)
        · refine rx_iconst (v := 0) d_Faults_isNeverEnded_35 (by decide) ?_
          refine rx_zreturn d_Faults_isNeverEnded_36 (by rfl) (by rfl) ?_
          exact ⟨by rw [nvr_2 w (hb_t.mpr (fun z => c32 (ite01.mpr z)))]; rfl, rfl⟩
      · refine rx_iconst (v := 1) d_Faults_isNeverEnded_24 (by decide) ?_
        refine rx_zreturn d_Faults_isNeverEnded_25 (by rfl) (by rfl) ?_
        exact ⟨by rw [nvr_1 w0 (hb_t.mpr (fun z => c21 (ite01.mpr z)))]; rfl, rfl⟩
theorem c_isNeverEnded (hp : is_pg V h aP n al at_ av Le Te Va) (hbn : b < n) : rx_C V (d + 2) kc ks m_Faults_isNeverEnded [.ref aP, .int (nI b)] h (rx_X (.inl (some (.int (if nvr Va b b (n - b) = true then 1 else 0)))) h) := by
  refine rx_iload_n d_Faults_isNeverEnded_0 (by rfl) ?_
  refine rx_istore_n d_Faults_isNeverEnded_1 (Nat.le_of_ble_eq_true rfl) ?_
  exact l_isNeverEnded hp hbn (n - b) b (by omega)
theorem c_isStrayEnding (H : is_rp V h a n aA aE aG s.1 fA (fun x => (gO s x).map ra) (fun x => (g x).map ra) ra R) (hr : roG s g R) (I : gI Va n s) (hg : ∀ x r, g x = some r → r < s.1 ∧ x < n ∧ gF s r ≤ x) (hbn : b < n) : rx_C V (d + 1) kc ks m_Faults_isStrayEnding [.ref a, .int (nI b)] h (rx_X (.inl (some (.int (bP (∀ r, g b = some r → b ≤ gE s r ∧ ∃ y, y < b ∧ g y = some r))))) h) := by
  have hn := H.n20
  cases hgb : g b with
  | none =>
    have z : ∀ r, (none : Option Nat) = some r → b ≤ gE s r ∧ ∃ y, y < b ∧ g y = some r := fun r w => (nomatch w)
    refine rx_aload_nr d_Faults_isStrayEnding_0 (by rfl) ?_
    refine rx_iload_n d_Faults_isStrayEnding_1 (by rfl) ?_
    refine rx_cV d_Faults_isStrayEnding_2 (by rfl) ml_Faults_53 im_Repeats_ofEnding se_Repeats_ofEnding (by exact c9_Repeats_ofEnding) H.1 (by rfl) (by exact Nat.le_of_ble_eq_true rfl) (c_ofEnding H (nI b)) ?_
    rw [ogt_nn (by omega) hbn, hgb]
    refine rx_astore_nN d_Faults_isStrayEnding_5 (Nat.le_of_ble_eq_true rfl) ?_
    refine rx_aload_nN d_Faults_isStrayEnding_6 (by rfl) ?_
    refine rx_ifnull_N (tgt := 26) d_Faults_isStrayEnding_7 (by rfl) ?_
    refine rx_iconst (v := 1) d_Faults_isStrayEnding_26 (by decide) ?_
    refine rx_goto (tgt := 31) d_Faults_isStrayEnding_27 (by rfl) ?_
    refine rx_zreturn d_Faults_isStrayEnding_31 (by rfl) (by rfl) ?_
    exact ⟨by first | (rw [bP_t z]; done) | (rw [bP_f z]; done), rfl⟩
  | some r =>
    have hrn : r < s.1 := (hg b r hgb).1
    have hrN : r < n := Nat.lt_of_lt_of_le hrn I.1
    have hEn : gE s r < n := by have := I.2.2.2.2.1 r hrn; have := I.2.1; omega
    obtain ⟨f9, F1, F2, F3, F4⟩ : ∃ f9, R r 3 = nI f9 ∧ f9 < 20 ∧ g f9 = some r ∧ ∀ y, g y = some r → f9 ≤ y := by
      obtain ⟨-, w⟩ | w := (hr r hrn).2.2.2.2.1
      · exact absurd hgb (w b)
      · exact w
    refine rx_aload_nr d_Faults_isStrayEnding_0 (by rfl) ?_
    refine rx_iload_n d_Faults_isStrayEnding_1 (by rfl) ?_
    refine rx_cV d_Faults_isStrayEnding_2 (by rfl) ml_Faults_53 im_Repeats_ofEnding se_Repeats_ofEnding (by exact c9_Repeats_ofEnding) H.1 (by rfl) (by exact Nat.le_of_ble_eq_true rfl) (c_ofEnding H (nI b)) ?_
    rw [ogt_nn (by omega) hbn, hgb]
    show rx_W V (d + 1) kc ks m_Faults_isStrayEnding 5 _ [.ref (ra r)] h _
    refine rx_astore_nr d_Faults_isStrayEnding_5 (Nat.le_of_ble_eq_true rfl) ?_
    refine rx_aload_nr d_Faults_isStrayEnding_6 (by rfl) ?_
    refine rx_ifnull_r (tgt := 26) d_Faults_isStrayEnding_7 (by rfl) ?_
    refine rx_iload_n d_Faults_isStrayEnding_10 (by rfl) ?_
    refine rx_aload_nr d_Faults_isStrayEnding_11 (by rfl) ?_
    refine rx_getfield d_Faults_isStrayEnding_12 fl_Faults_59 (H.cell hrN) (by rfl) ?_
    rw [(hr r hrn).2.1]
    refine rx_icmp_gt (tgt := 30) d_Faults_isStrayEnding_15 (by rfl) (fun c15 => ?_) (fun c15 => ?_)
    · have z : ¬ (∀ r', (some r : Option Nat) = some r' → b ≤ gE s r' ∧ ∃ y, y < b ∧ g y = some r') := fun w => by have := (w r rfl).1; exact nI_nlt this (by omega) c15
      refine rx_iconst (v := 0) d_Faults_isStrayEnding_30 (by decide) ?_
      refine rx_zreturn d_Faults_isStrayEnding_31 (by rfl) (by rfl) ?_
      exact ⟨by first | (rw [bP_t z]; done) | (rw [bP_f z]; done), rfl⟩
    · have z1 : b ≤ gE s r := by rw [nI_ltI (by omega) (by omega)] at c15; omega
      refine rx_iload_n d_Faults_isStrayEnding_18 (by rfl) ?_
      refine rx_aload_nr d_Faults_isStrayEnding_19 (by rfl) ?_
      refine rx_getfield d_Faults_isStrayEnding_20 fl_Faults_64 (H.cell hrN) (by rfl) ?_
      rw [F1]
      refine rx_icmp_eq (tgt := 30) d_Faults_isStrayEnding_23 (by rfl) (fun c23 => ?_) (fun c23 => ?_)
      · have z2 : b = f9 := (nI_eq (by omega) (by omega)).mp c23
        have z : ¬ (∀ r', (some r : Option Nat) = some r' → b ≤ gE s r' ∧ ∃ y, y < b ∧ g y = some r') := fun w => by obtain ⟨y, y1, y2⟩ := (w r rfl).2; have := F4 y y2; omega
        refine rx_iconst (v := 0) d_Faults_isStrayEnding_30 (by decide) ?_
        refine rx_zreturn d_Faults_isStrayEnding_31 (by rfl) (by rfl) ?_
        exact ⟨by first | (rw [bP_t z]; done) | (rw [bP_f z]; done), rfl⟩
      · have z2 : b ≠ f9 := fun w => c23 (by rw [w])
        have z : (∀ r', (some r : Option Nat) = some r' → b ≤ gE s r' ∧ ∃ y, y < b ∧ g y = some r') := fun r9 e => by cases e; exact ⟨z1, f9, by have := F4 b hgb; omega, F3⟩
        refine rx_iconst (v := 1) d_Faults_isStrayEnding_26 (by decide) ?_
        refine rx_goto (tgt := 31) d_Faults_isStrayEnding_27 (by rfl) ?_
        refine rx_zreturn d_Faults_isStrayEnding_31 (by rfl) (by rfl) ?_
        exact ⟨by first | (rw [bP_t z]; done) | (rw [bP_f z]; done), rfl⟩
theorem ogt_g (H : is_rp V h a n aA aE aG s.1 fA (fun x => (gO s x).map ra) (fun x => (g x).map ra) ra R) (hr : roG s g R) (I : gI Va n s) (hg : ∀ x r, g x = some r → r < s.1 ∧ x < n ∧ gF s r ≤ x) (x : Nat) (hx : x ≤ 1000) : ogt n (fun x => (g x).map ra) (nI x) = (g x).map ra := by
  have hn := H.n20
  by_cases c : x < n
  · rw [ogt_nn (by omega) c]
  · rw [ogt_n (by omega) (nI_le (by omega) (by omega))]
    cases z : g x with
    | none => rfl
    | some r => exact absurd (hg x r z).2.1 c
theorem c_isUnlike (hp : is_pg V h aP n al at_ av Le Te Va) (H : is_rp V h a n aA aE aG s.1 fA (fun x => (gO s x).map ra) (fun x => (g x).map ra) ra R) (hr : roG s g R) (I : gI Va n s) (hg : ∀ x r, g x = some r → r < s.1 ∧ x < n ∧ gF s r ≤ x) (hbn : b < n) : rx_C V (d + 1) kc ks m_Faults_isUnlikeItsRepeat [.ref aP, .ref a, .int (nI b)] h (rx_X (.inl (some (.int (bP (∃ r, gO s b = some r ∧ (∃ x, g x = some r) ∧ (Va (10 * b + 1) ≠ gC s r ∨ g (b + 1) ≠ some r)))))) h) := by
  have hn := H.n20
  have hv : pgv n Va (nI b) 1 = Va (10 * b + 1) := pgv_k hn hbn (by omega) rfl
  cases hgb : gO s b with
  | none =>
    have z : ¬ (∃ r, (none : Option Nat) = some r ∧ (∃ x, g x = some r) ∧ (Va (10 * b + 1) ≠ gC s r ∨ g (b + 1) ≠ some r)) := fun ⟨r, w, _⟩ => by cases w
    refine rx_aload_nr d_Faults_isUnlikeItsRepeat_0 (by rfl) ?_
    refine rx_iload_n d_Faults_isUnlikeItsRepeat_1 (by rfl) ?_
    refine rx_cV d_Faults_isUnlikeItsRepeat_2 (by rfl) ml_Faults_67 im_Repeats_ofEnd se_Repeats_ofEnd (by exact c9_Repeats_ofEnd) H.1 (by rfl) (by exact Nat.le_of_ble_eq_true rfl) (c_ofEnd H (nI b)) ?_
    rw [ogt_nn (by omega) hbn, hgb]
    refine rx_astore_nN d_Faults_isUnlikeItsRepeat_5 (Nat.le_of_ble_eq_true rfl) ?_
    refine rx_aload_nN d_Faults_isUnlikeItsRepeat_6 (by rfl) ?_
    refine rx_ifnull_N (tgt := 17) d_Faults_isUnlikeItsRepeat_7 (by rfl) ?_
    refine rx_iconst (v := 0) d_Faults_isUnlikeItsRepeat_17 (by decide) ?_
    refine rx_zreturn d_Faults_isUnlikeItsRepeat_18 (by rfl) (by rfl) ?_
    exact ⟨by first | (rw [bP_t z]; done) | (rw [bP_f z]; done), rfl⟩
  | some r =>
    have hrn : r < s.1 := (I.2.2.2.2.2.2.1 b r hgb).1
    have hrN : r < n := Nat.lt_of_lt_of_le hrn I.1
    refine rx_aload_nr d_Faults_isUnlikeItsRepeat_0 (by rfl) ?_
    refine rx_iload_n d_Faults_isUnlikeItsRepeat_1 (by rfl) ?_
    refine rx_cV d_Faults_isUnlikeItsRepeat_2 (by rfl) ml_Faults_67 im_Repeats_ofEnd se_Repeats_ofEnd (by exact c9_Repeats_ofEnd) H.1 (by rfl) (by exact Nat.le_of_ble_eq_true rfl) (c_ofEnd H (nI b)) ?_
    rw [ogt_nn (by omega) hbn, hgb]
    show rx_W V (d + 1) kc ks m_Faults_isUnlikeItsRepeat 5 _ [.ref (ra r)] h _
    refine rx_astore_nr d_Faults_isUnlikeItsRepeat_5 (Nat.le_of_ble_eq_true rfl) ?_
    refine rx_aload_nr d_Faults_isUnlikeItsRepeat_6 (by rfl) ?_
    refine rx_ifnull_r (tgt := 17) d_Faults_isUnlikeItsRepeat_7 (by rfl) ?_
    refine rx_aload_nr d_Faults_isUnlikeItsRepeat_10 (by rfl) ?_
    refine rx_cV d_Faults_isUnlikeItsRepeat_11 (by rfl) ml_Faults_70 im_Repeat_hasEndings se_Repeat_hasEndings (by exact c9_Repeat_hasEndings) (H.cell hrN) (by rfl) (by exact Nat.le_of_ble_eq_true rfl) (c_hasEndings (H.cell hrN)) ?_
    refine rx_if_ne (tgt := 19) d_Faults_isUnlikeItsRepeat_14 (by rfl) (fun c14 => ?_) (fun c14 => ?_)
    · have hx : ∃ x, g x = some r := by
        obtain ⟨w, -⟩ | ⟨x, -, -, w, -⟩ := (hr r hrn).2.2.2.2.1
        · exact absurd w (fun y => c14 (if_pos y))
        · exact ⟨x, w⟩
      refine rx_aload_nr d_Faults_isUnlikeItsRepeat_19 (by rfl) ?_
      refine rx_iload_n d_Faults_isUnlikeItsRepeat_20 (by rfl) ?_
      refine rx_iconst (v := 1) d_Faults_isUnlikeItsRepeat_21 (by decide) ?_
      refine rx_cV d_Faults_isUnlikeItsRepeat_22 (by rfl) ml_Faults_74 im_Page_value se_Page_value (by exact c9_Page_value) hp.1 (by rfl) (by exact Nat.le_of_ble_eq_true rfl) (c_value hp (nI b) 1) ?_
      rw [hv]
      refine rx_aload_nr d_Faults_isUnlikeItsRepeat_25 (by rfl) ?_
      refine rx_getfield d_Faults_isUnlikeItsRepeat_26 fl_Faults_78 (H.cell hrN) (by rfl) ?_
      rw [(hr r hrn).2.2.2.1]
      refine rx_icmp_ne (tgt := 43) d_Faults_isUnlikeItsRepeat_29 (by rfl) (fun c29 => ?_) (fun c29 => ?_)
      · have z : (∃ r9, (some r : Option Nat) = some r9 ∧ (∃ x, g x = some r9) ∧ (Va (10 * b + 1) ≠ gC s r9 ∨ g (b + 1) ≠ some r9)) := ⟨r, rfl, hx, Or.inl c29⟩
        refine rx_iconst (v := 1) d_Faults_isUnlikeItsRepeat_43 (by decide) ?_
        refine rx_goto (tgt := 48) d_Faults_isUnlikeItsRepeat_44 (by rfl) ?_
        refine rx_zreturn d_Faults_isUnlikeItsRepeat_48 (by rfl) (by rfl) ?_
        exact ⟨by first | (rw [bP_t z]; done) | (rw [bP_f z]; done), rfl⟩
      · refine rx_aload_nr d_Faults_isUnlikeItsRepeat_32 (by rfl) ?_
        refine rx_iload_n d_Faults_isUnlikeItsRepeat_33 (by rfl) ?_
        refine rx_iconst (v := 1) d_Faults_isUnlikeItsRepeat_34 (by decide) ?_
        refine rx_iadd d_Faults_isUnlikeItsRepeat_35 ?_
        rw [nI_1]
        refine rx_cV d_Faults_isUnlikeItsRepeat_36 (by rfl) ml_Faults_53 im_Repeats_ofEnding se_Repeats_ofEnding (by exact c9_Repeats_ofEnding) H.1 (by rfl) (by exact Nat.le_of_ble_eq_true rfl) (c_ofEnding H (nI (b + 1))) ?_
        rw [ogt_g H hr I hg (b + 1) (by omega)]
        refine rx_aload_nr d_Faults_isUnlikeItsRepeat_39 (by rfl) ?_
        refine rx_acmp_eq_r (tgt := 47) d_Faults_isUnlikeItsRepeat_40 (by rfl) (fun c40 => ?_) (fun c40 => ?_)
        · have w := (H.inj hrN (fun x e => Nat.lt_of_lt_of_le (hg _ x e).1 I.1)).mp c40
          have z : ¬ (∃ r9, (some r : Option Nat) = some r9 ∧ (∃ x, g x = some r9) ∧ (Va (10 * b + 1) ≠ gC s r9 ∨ g (b + 1) ≠ some r9)) := fun ⟨r9, e, _, w2⟩ => by cases e; exact w2.elim (fun y => y c29) (fun y => y w)
          refine rx_iconst (v := 0) d_Faults_isUnlikeItsRepeat_47 (by decide) ?_
          refine rx_zreturn d_Faults_isUnlikeItsRepeat_48 (by rfl) (by rfl) ?_
          exact ⟨by first | (rw [bP_t z]; done) | (rw [bP_f z]; done), rfl⟩
        · have z : (∃ r9, (some r : Option Nat) = some r9 ∧ (∃ x, g x = some r9) ∧ (Va (10 * b + 1) ≠ gC s r9 ∨ g (b + 1) ≠ some r9)) := ⟨r, rfl, hx, Or.inr (fun w => c40 ((H.inj hrN (fun x e => Nat.lt_of_lt_of_le (hg _ x e).1 I.1)).mpr w))⟩
          refine rx_iconst (v := 1) d_Faults_isUnlikeItsRepeat_43 (by decide) ?_
          refine rx_goto (tgt := 48) d_Faults_isUnlikeItsRepeat_44 (by rfl) ?_
          refine rx_zreturn d_Faults_isUnlikeItsRepeat_48 (by rfl) (by rfl) ?_
          exact ⟨by first | (rw [bP_t z]; done) | (rw [bP_f z]; done), rfl⟩
    · have z : ¬ (∃ r9, (some r : Option Nat) = some r9 ∧ (∃ x, g x = some r9) ∧ (Va (10 * b + 1) ≠ gC s r9 ∨ g (b + 1) ≠ some r9)) := by
        rintro ⟨r9, e, ⟨x, hx⟩, -⟩
        cases e
        obtain ⟨-, w⟩ | ⟨y, w, y2, -, -⟩ := (hr r hrn).2.2.2.2.1
        · exact w x hx
        · rw [if_neg (by rw [w]; exact nI_m1 (by omega))] at c14
          exact absurd c14 (by decide)
      refine rx_iconst (v := 0) d_Faults_isUnlikeItsRepeat_17 (by decide) ?_
      refine rx_zreturn d_Faults_isUnlikeItsRepeat_18 (by rfl) (by rfl) ?_
      exact ⟨by first | (rw [bP_t z]; done) | (rw [bP_f z]; done), rfl⟩
theorem lwi_sec (hn : n ≤ 20) {k : Nat} (hbn : b < n) : lwi n Va k 0 (nI b - 1) = -1 ↔ ¬ ∃ y, y < b ∧ hb Va k y = true := by
  have key : (∀ j : Nat, (0 : Int) ≤ j → j < b → hb Va k j = false) ↔ ¬ ∃ y, y < b ∧ hb Va k y = true := by
    constructor
    · rintro w ⟨y, y1, y2⟩
      rw [w y (by omega) y1] at y2; cases y2
    · intro w j h1 h2
      cases e : hb Va k j with
      | false => rfl
      | true => exact absurd ⟨j, h2, e⟩ w
  cases b with
  | zero => exact ⟨fun _ ⟨y, w, _⟩ => by omega, fun _ => by unfold lwi; rw [show (nI 0 - 1 : Int32).toInt = -1 from by decide, show ((min (-1) ((n : Int) - 1)) + 1).toNat = 0 from by omega]; rfl⟩
  | succ j =>
    rw [show nI (j + 1) - 1 = nI j from nI_pred j, show (0 : Int32) = nI 0 from rfl, lwi_m1 (f := 0) hn (by omega) (by omega), lwf_m1, ← key]
    exact Iff.rfl
theorem c_isSecond (hp : is_pg V h aP n al at_ av Le Te Va) {k : Nat} (hk : k < 10) (hbn : b < n) : rx_C V (d + 2) kc ks m_Faults_isSecond [.ref aP, .int (nI k), .int (nI b)] h (rx_X (.inl (some (.int (bP (hb Va k b = true ∧ ∃ y, y < b ∧ hb Va k y = true))))) h) := by
  have hn : n ≤ 20 := hp.2.2.2.2
  have hv : pgv n Va (nI b) (nI k) = Va (10 * b + k) := pgv_n hn hbn hk
  refine rx_aload_nr d_Faults_isSecond_0 (by rfl) ?_
  refine rx_iload_n d_Faults_isSecond_1 (by rfl) ?_
  refine rx_iload_n d_Faults_isSecond_2 (by rfl) ?_
  refine rx_cV d_Faults_isSecond_3 (by rfl) ml_Faults_21 im_Page_has se_Page_has (by exact c9_Page_has) hp.1 (by rfl) (by exact Nat.le_of_ble_eq_true rfl) (c_has hp (nI b) (nI k)) ?_
  rw [hv]
  refine rx_if_eq (tgt := 26) d_Faults_isSecond_6 (by rfl) (fun c6 => ?_) (fun c6 => ?_)
  · have z : ¬ (hb Va k b = true ∧ ∃ y, y < b ∧ hb Va k y = true) := fun w => hb_t.mp w.1 (ite01.mp c6)
    refine rx_iconst (v := 0) d_Faults_isSecond_26 (by decide) ?_
    refine rx_zreturn d_Faults_isSecond_27 (by rfl) (by rfl) ?_
    exact ⟨by first | (rw [bP_t z]; done) | (rw [bP_f z]; done), rfl⟩
  · refine rx_aload_nr d_Faults_isSecond_9 (by rfl) ?_
    refine rx_iload_n d_Faults_isSecond_10 (by rfl) ?_
    refine rx_iconst (v := 0) d_Faults_isSecond_11 (by decide) ?_
    refine rx_iload_n d_Faults_isSecond_12 (by rfl) ?_
    refine rx_iconst (v := 1) d_Faults_isSecond_13 (by decide) ?_
    refine rx_isub d_Faults_isSecond_14 ?_
    refine rx_cV d_Faults_isSecond_15 (by rfl) ml_Faults_93 im_Page_lastWith se_Page_lastWith (by exact c9_Page_lastWith) hp.1 (by rfl) (by exact Nat.le_of_ble_eq_true rfl) (c_lw hp (k := k) hk 0 (nI b - 1)) ?_
    refine rx_iconst (v := -1) d_Faults_isSecond_18 (by decide) ?_
    refine rx_icmp_eq (tgt := 26) d_Faults_isSecond_19 (by rfl) (fun c19 => ?_) (fun c19 => ?_)
    · have z : ¬ (hb Va k b = true ∧ ∃ y, y < b ∧ hb Va k y = true) := fun w => (lwi_sec hn hbn).mp c19 w.2
      refine rx_iconst (v := 0) d_Faults_isSecond_26 (by decide) ?_
      refine rx_zreturn d_Faults_isSecond_27 (by rfl) (by rfl) ?_
      exact ⟨by first | (rw [bP_t z]; done) | (rw [bP_f z]; done), rfl⟩
    · have z : hb Va k b = true ∧ ∃ y, y < b ∧ hb Va k y = true := ⟨hb_t.mpr (fun w => c6 (ite01.mpr w)), Classical.not_not.mp (fun w => c19 ((lwi_sec hn hbn).mpr w))⟩
      refine rx_iconst (v := 1) d_Faults_isSecond_22 (by decide) ?_
      refine rx_goto (tgt := 27) d_Faults_isSecond_23 (by rfl) ?_
      refine rx_zreturn d_Faults_isSecond_27 (by rfl) (by rfl) ?_
      exact ⟨by first | (rw [bP_t z]; done) | (rw [bP_f z]; done), rfl⟩
theorem c_lacksItsWay (hp : is_pg V h aP n al at_ av Le Te Va) (hbn : b < n) : rx_C V (d + 3) kc ks m_Faults_lacksItsWay [.ref aP, .int (nI b)] h (rx_X (.inl (some (.int (bP ((jwy (Va (10 * b + 7)) = 1 ∧ lwi n Va 5 (jta n Va b) (nI b) = -1) ∨ (jwy (Va (10 * b + 7)) = 2 ∧ (lwi n Va 6 (jta n Va b) (nI b) = -1 ∨ lwi n Va 4 (nI (b + 1)) (nI n - 1) = -1))))))) h) := by
  have hn : n ≤ 20 := hp.2.2.2.2
  have hv : pgv n Va (nI b) 7 = Va (10 * b + 7) := pgv_k hn hbn (by omega) rfl
  refine rx_aload_nr d_Faults_lacksItsWay_0 (by rfl) ?_
  refine rx_iload_n d_Faults_lacksItsWay_1 (by rfl) ?_
  refine rx_cS d_Faults_lacksItsWay_2 ml_Faults_44 st_Jump_target (by exact c9_Jump_target) (by rfl) (by exact Nat.le_of_ble_eq_true rfl) (c_target hp hbn) ?_
  refine rx_istore_n d_Faults_lacksItsWay_5 (Nat.le_of_ble_eq_true rfl) ?_
  refine rx_aload_nr d_Faults_lacksItsWay_6 (by rfl) ?_
  refine rx_iload_n d_Faults_lacksItsWay_7 (by rfl) ?_
  refine rx_bipush (v := 7) d_Faults_lacksItsWay_8 (by decide) ?_
  refine rx_cV d_Faults_lacksItsWay_10 (by rfl) ml_Faults_74 im_Page_value se_Page_value (by exact c9_Page_value) hp.1 (by rfl) (by exact Nat.le_of_ble_eq_true rfl) (c_value hp (nI b) 7) ?_
  rw [hv]
  refine rx_cS d_Faults_lacksItsWay_13 ml_Faults_97 st_Jump_way (by exact c9_Jump_way) (by rfl) (by exact Nat.le_of_ble_eq_true rfl) (c_way _) ?_
  rw [show (Va (10 * b + 7) - 1) / 2 - (Va (10 * b + 7) - 1) / 2 / 3 * 3 = jwy (Va (10 * b + 7)) from rfl]
  refine rx_istore_n d_Faults_lacksItsWay_16 (Nat.le_of_ble_eq_true rfl) ?_
  refine rx_iload_n d_Faults_lacksItsWay_17 (by rfl) ?_
  refine rx_iconst (v := 1) d_Faults_lacksItsWay_18 (by decide) ?_
  refine rx_icmp_ne (tgt := 39) d_Faults_lacksItsWay_19 (by rfl) (fun c19 => ?_) (fun c19 => ?_)
  · refine rx_iload_n d_Faults_lacksItsWay_39 (by rfl) ?_
    refine rx_iconst (v := 2) d_Faults_lacksItsWay_40 (by decide) ?_
    refine rx_icmp_ne (tgt := 80) d_Faults_lacksItsWay_41 (by rfl) (fun c41 => ?_) (fun c41 => ?_)
    · refine rx_iconst (v := 0) d_Faults_lacksItsWay_80 (by decide) ?_
      have z : ¬ ((jwy (Va (10 * b + 7)) = 1 ∧ lwi n Va 5 (jta n Va b) (nI b) = -1) ∨ (jwy (Va (10 * b + 7)) = 2 ∧ (lwi n Va 6 (jta n Va b) (nI b) = -1 ∨ lwi n Va 4 (nI (b + 1)) (nI n - 1) = -1))) := fun w => w.elim (fun y => c19 y.1) (fun y => c41 y.1)
      refine rx_zreturn d_Faults_lacksItsWay_81 (by rfl) (by rfl) ?_
      exact ⟨by first | (rw [bP_t z]; done) | (rw [bP_f z]; done), rfl⟩
    · refine rx_aload_nr d_Faults_lacksItsWay_44 (by rfl) ?_
      refine rx_bipush (v := 6) d_Faults_lacksItsWay_45 (by decide) ?_
      refine rx_iload_n d_Faults_lacksItsWay_47 (by rfl) ?_
      refine rx_iload_n d_Faults_lacksItsWay_48 (by rfl) ?_
      refine rx_cV d_Faults_lacksItsWay_49 (by rfl) ml_Faults_93 im_Page_lastWith se_Page_lastWith (by exact c9_Page_lastWith) hp.1 (by rfl) (by exact Nat.le_of_ble_eq_true rfl) (c_lw hp (k := 6) (by omega) (jta n Va b) (nI b)) ?_
      refine rx_iconst (v := -1) d_Faults_lacksItsWay_52 (by decide) ?_
      refine rx_icmp_eq (tgt := 74) d_Faults_lacksItsWay_53 (by rfl) (fun c53 => ?_) (fun c53 => ?_)
      · have z : ((jwy (Va (10 * b + 7)) = 1 ∧ lwi n Va 5 (jta n Va b) (nI b) = -1) ∨ (jwy (Va (10 * b + 7)) = 2 ∧ (lwi n Va 6 (jta n Va b) (nI b) = -1 ∨ lwi n Va 4 (nI (b + 1)) (nI n - 1) = -1))) := Or.inr ⟨c41, Or.inl c53⟩
        refine rx_iconst (v := 1) d_Faults_lacksItsWay_74 (by decide) ?_
        refine rx_goto (tgt := 79) d_Faults_lacksItsWay_75 (by rfl) ?_
        refine rx_zreturn d_Faults_lacksItsWay_79 (by rfl) (by rfl) ?_
        exact ⟨by first | (rw [bP_t z]; done) | (rw [bP_f z]; done), rfl⟩
      · refine rx_aload_nr d_Faults_lacksItsWay_56 (by rfl) ?_
        refine rx_iconst (v := 4) d_Faults_lacksItsWay_57 (by decide) ?_
        refine rx_iload_n d_Faults_lacksItsWay_58 (by rfl) ?_
        refine rx_iconst (v := 1) d_Faults_lacksItsWay_59 (by decide) ?_
        refine rx_iadd d_Faults_lacksItsWay_60 ?_
        rw [nI_1]
        refine rx_aload_nr d_Faults_lacksItsWay_61 (by rfl) ?_
        refine rx_getfield d_Faults_lacksItsWay_62 fl_Faults_11 hp.1 (by rfl) ?_
        refine rx_iconst (v := 1) d_Faults_lacksItsWay_65 (by decide) ?_
        refine rx_isub d_Faults_lacksItsWay_66 ?_
        refine rx_cV d_Faults_lacksItsWay_67 (by rfl) ml_Faults_93 im_Page_lastWith se_Page_lastWith (by exact c9_Page_lastWith) hp.1 (by rfl) (by exact Nat.le_of_ble_eq_true rfl) (c_lw hp (k := 4) (by omega) (nI (b + 1)) (nI n - 1)) ?_
        refine rx_iconst (v := -1) d_Faults_lacksItsWay_70 (by decide) ?_
        refine rx_icmp_ne (tgt := 78) d_Faults_lacksItsWay_71 (by rfl) (fun c71 => ?_) (fun c71 => ?_)
        · have z : ¬ ((jwy (Va (10 * b + 7)) = 1 ∧ lwi n Va 5 (jta n Va b) (nI b) = -1) ∨ (jwy (Va (10 * b + 7)) = 2 ∧ (lwi n Va 6 (jta n Va b) (nI b) = -1 ∨ lwi n Va 4 (nI (b + 1)) (nI n - 1) = -1))) := fun w => w.elim (fun y => c19 y.1) (fun y => y.2.elim c53 c71)
          refine rx_iconst (v := 0) d_Faults_lacksItsWay_78 (by decide) ?_
          refine rx_zreturn d_Faults_lacksItsWay_79 (by rfl) (by rfl) ?_
          exact ⟨by first | (rw [bP_t z]; done) | (rw [bP_f z]; done), rfl⟩
        · have z : ((jwy (Va (10 * b + 7)) = 1 ∧ lwi n Va 5 (jta n Va b) (nI b) = -1) ∨ (jwy (Va (10 * b + 7)) = 2 ∧ (lwi n Va 6 (jta n Va b) (nI b) = -1 ∨ lwi n Va 4 (nI (b + 1)) (nI n - 1) = -1))) := Or.inr ⟨c41, Or.inr c71⟩
          refine rx_iconst (v := 1) d_Faults_lacksItsWay_74 (by decide) ?_
          refine rx_goto (tgt := 79) d_Faults_lacksItsWay_75 (by rfl) ?_
          refine rx_zreturn d_Faults_lacksItsWay_79 (by rfl) (by rfl) ?_
          exact ⟨by first | (rw [bP_t z]; done) | (rw [bP_f z]; done), rfl⟩
  · refine rx_aload_nr d_Faults_lacksItsWay_22 (by rfl) ?_
    refine rx_iconst (v := 5) d_Faults_lacksItsWay_23 (by decide) ?_
    refine rx_iload_n d_Faults_lacksItsWay_24 (by rfl) ?_
    refine rx_iload_n d_Faults_lacksItsWay_25 (by rfl) ?_
    refine rx_cV d_Faults_lacksItsWay_26 (by rfl) ml_Faults_93 im_Page_lastWith se_Page_lastWith (by exact c9_Page_lastWith) hp.1 (by rfl) (by exact Nat.le_of_ble_eq_true rfl) (c_lw hp (k := 5) (by omega) (jta n Va b) (nI b)) ?_
    refine rx_iconst (v := -1) d_Faults_lacksItsWay_29 (by decide) ?_
    refine rx_icmp_ne (tgt := 37) d_Faults_lacksItsWay_30 (by rfl) (fun c30 => ?_) (fun c30 => ?_)
    · have z : ¬ ((jwy (Va (10 * b + 7)) = 1 ∧ lwi n Va 5 (jta n Va b) (nI b) = -1) ∨ (jwy (Va (10 * b + 7)) = 2 ∧ (lwi n Va 6 (jta n Va b) (nI b) = -1 ∨ lwi n Va 4 (nI (b + 1)) (nI n - 1) = -1))) := fun w => w.elim (fun y => c30 y.2) (fun y => absurd (c19.symm.trans y.1) (by decide))
      refine rx_iconst (v := 0) d_Faults_lacksItsWay_37 (by decide) ?_
      refine rx_zreturn d_Faults_lacksItsWay_38 (by rfl) (by rfl) ?_
      exact ⟨by first | (rw [bP_t z]; done) | (rw [bP_f z]; done), rfl⟩
    · have z : ((jwy (Va (10 * b + 7)) = 1 ∧ lwi n Va 5 (jta n Va b) (nI b) = -1) ∨ (jwy (Va (10 * b + 7)) = 2 ∧ (lwi n Va 6 (jta n Va b) (nI b) = -1 ∨ lwi n Va 4 (nI (b + 1)) (nI n - 1) = -1))) := Or.inl ⟨c19, c30⟩
      refine rx_iconst (v := 1) d_Faults_lacksItsWay_33 (by decide) ?_
      refine rx_goto (tgt := 38) d_Faults_lacksItsWay_34 (by rfl) ?_
      refine rx_zreturn d_Faults_lacksItsWay_38 (by rfl) (by rfl) ?_
      exact ⟨by first | (rw [bP_t z]; done) | (rw [bP_f z]; done), rfl⟩
theorem fix_n {Pr : Nat → Bool} : ∀ {m i : Nat}, fix Pr i m = none → ∀ x, i ≤ x → x < i + m → Pr x = false := by
  intro m i h x h1 h2
  cases e : Pr x with
  | false => rfl
  | true =>
    have w := (fix_iff (Pr := Pr) (m := m) (i := i)).mpr ⟨x, h1, h2, e⟩
    rw [h] at w; cases w
theorem fix_s {Pr : Nat → Bool} : ∀ {m i x : Nat}, fix Pr i m = some x → i ≤ x ∧ x < i + m ∧ Pr x = true ∧ ∀ y, i ≤ y → y < x → Pr y = false := by
  intro m
  induction m with
  | zero => intro i x h; cases h
  | succ m ih =>
    intro i x h
    cases e : Pr i with
    | true =>
      rw [fix_yes e] at h
      cases h
      exact ⟨Nat.le_refl _, by omega, e, fun y h1 h2 => by omega⟩
    | false =>
      rw [fix_no e] at h
      obtain ⟨j1, j2, j3, j4⟩ := ih h
      refine ⟨by omega, by omega, j3, fun y h1 h2 => ?_⟩
      by_cases c : y = i
      · rw [c]; exact e
      · exact j4 y (by omega) h2
theorem gI.dis (I : gI Va n s) {r r' x : Nat} (h1 : r < s.1) (h2 : r' < s.1) (a1 : gF s r ≤ x) (a2 : x ≤ gL s r) (b1 : gF s r' ≤ x) (b2 : x ≤ gL s r') : r = r' := by
  have i6 := I.2.2.2.2.2.1
  by_cases c : r < r'
  · have := i6 r r' c h2; omega
  · by_cases c2 : r' < r
    · have := i6 r' r c2 h1; omega
    · omega
theorem pwf_m {r : Nat} {x : Int32} {i m : Nat} (h1 : g i = some r) (h2 : x &&& Va (10 * i + 2) = 0) : pwf Va g r x i (m + 1) = pwf Va g r (x ||| Va (10 * i + 2)) (i + 1) m := (if_pos h1).trans (if_pos h2)
theorem pwf_c {r : Nat} {x : Int32} {i m : Nat} (h1 : g i = some r) (h2 : ¬ x &&& Va (10 * i + 2) = 0) : pwf Va g r x i (m + 1) = none := (if_pos h1).trans (if_neg h2)
theorem pwf_o {r : Nat} {x : Int32} {i m : Nat} (h1 : ¬ g i = some r) : pwf Va g r x i (m + 1) = pwf Va g r x (i + 1) m := if_neg h1
theorem l_wrongP (hp : is_pg V h aP n al at_ av Le Te Va) (H : is_rp V h a n aA aE aG s.1 fA (fun x => (gO s x).map ra) (fun x => (g x).map ra) ra R) (hr : roG s g R) (I : gI Va n s) (hg : ∀ x r, g x = some r → r < s.1 ∧ x < n ∧ gF s r ≤ x) (hbn : b < n) {r l : Nat} (hrn : r < s.1) (hl : R r 4 = nI l) (hln : l < n) : ∀ (m e : Nat) (x : Int32) (y : Option Value), e + m = l + 1 → rx_W V (d + 2) kc ks m_Faults_isFirstOfWrongPasses 33 [some (.ref aP), some (.ref a), some (.int (nI b)), some (.ref (ra r)), some (.int x), some (.int (nI e)), y] [] h (rx_X (.inl (some (.int (bP (∀ x2, pwf Va g r x e m = some x2 → x2 ≠ (1 <<< (gC s r &&& 31)) - 1 ∨ Va (10 * l + 2) &&& (1 <<< ((gC s r - 1) &&& 31)) = 0))))) h) := by
  have hn := H.n20
  have hrN : r < n := Nat.lt_of_lt_of_le hrn I.1
  have hv2 : pgv n Va (nI l) 2 = Va (10 * l + 2) := pgv_k hn hln (by omega) rfl
  intro m
  induction m with
  | zero =>
    intro e x y he9
    have he : e = l + 1 := by omega
    subst he
    refine rx_iload d_Faults_isFirstOfWrongPasses_33 (by rfl) ?_
    refine rx_aload_nr d_Faults_isFirstOfWrongPasses_35 (by rfl) ?_
    refine rx_getfield d_Faults_isFirstOfWrongPasses_36 fl_Faults_87 (H.cell hrN) (by rfl) ?_
    rw [hl]
    refine rx_icmp_gt (tgt := 84) d_Faults_isFirstOfWrongPasses_39 (by rfl) (fun c39 => ?_) (fun z => absurd (nI_lt (by omega) (by omega)) z)
    refine rx_iconst (v := 1) d_Faults_isFirstOfWrongPasses_84 (by decide) ?_
    refine rx_aload_nr d_Faults_isFirstOfWrongPasses_85 (by rfl) ?_
    refine rx_getfield d_Faults_isFirstOfWrongPasses_86 fl_Faults_78 (H.cell hrN) (by rfl) ?_
    rw [(hr r hrn).2.2.2.1]
    refine rx_ishl d_Faults_isFirstOfWrongPasses_89 ?_
    refine rx_iconst (v := 1) d_Faults_isFirstOfWrongPasses_90 (by decide) ?_
    refine rx_isub d_Faults_isFirstOfWrongPasses_91 ?_
    refine rx_istore d_Faults_isFirstOfWrongPasses_92 (Nat.le_of_ble_eq_true rfl) ?_
    refine rx_iload d_Faults_isFirstOfWrongPasses_94 (by rfl) ?_
    refine rx_iload d_Faults_isFirstOfWrongPasses_96 (by rfl) ?_
    refine rx_icmp_ne (tgt := 116) d_Faults_isFirstOfWrongPasses_98 (by rfl) (fun c98 => ?_) (fun c98 => ?_)
    · have z : (∀ x2, pwf Va g r x (l + 1) 0 = some x2 → x2 ≠ (1 <<< (gC s r &&& 31)) - 1 ∨ Va (10 * l + 2) &&& (1 <<< ((gC s r - 1) &&& 31)) = 0) := fun x2 w => Or.inl (by cases w; exact c98)
      refine rx_iconst (v := 1) d_Faults_isFirstOfWrongPasses_116 (by decide) ?_
      refine rx_goto (tgt := 121) d_Faults_isFirstOfWrongPasses_117 (by rfl) ?_
      refine rx_zreturn d_Faults_isFirstOfWrongPasses_121 (by rfl) (by rfl) ?_
      exact ⟨by first | (rw [bP_t z]; done) | (rw [bP_f z]; done), rfl⟩
    · refine rx_aload_nr d_Faults_isFirstOfWrongPasses_101 (by rfl) ?_
      refine rx_aload_nr d_Faults_isFirstOfWrongPasses_102 (by rfl) ?_
      refine rx_getfield d_Faults_isFirstOfWrongPasses_103 fl_Faults_87 (H.cell hrN) (by rfl) ?_
      rw [hl]
      refine rx_aload_nr d_Faults_isFirstOfWrongPasses_106 (by rfl) ?_
      refine rx_getfield d_Faults_isFirstOfWrongPasses_107 fl_Faults_78 (H.cell hrN) (by rfl) ?_
      rw [(hr r hrn).2.2.2.1]
      refine rx_cV d_Faults_isFirstOfWrongPasses_110 (by rfl) ml_Faults_90 im_Page_hasPass se_Page_hasPass (by exact c9_Page_hasPass) hp.1 (by rfl) (by exact Nat.le_of_ble_eq_true rfl) (c_hasPass hp (nI l) (gC s r)) ?_
      rw [hv2]
      refine rx_if_ne (tgt := 120) d_Faults_isFirstOfWrongPasses_113 (by rfl) (fun c113 => ?_) (fun c113 => ?_)
      · have z : ¬ (∀ x2, pwf Va g r x (l + 1) 0 = some x2 → x2 ≠ (1 <<< (gC s r &&& 31)) - 1 ∨ Va (10 * l + 2) &&& (1 <<< ((gC s r - 1) &&& 31)) = 0) := fun w => (w x rfl).elim (fun y => y c98) (fun y => c113 (if_pos y))
        refine rx_iconst (v := 0) d_Faults_isFirstOfWrongPasses_120 (by decide) ?_
        refine rx_zreturn d_Faults_isFirstOfWrongPasses_121 (by rfl) (by rfl) ?_
        exact ⟨by first | (rw [bP_t z]; done) | (rw [bP_f z]; done), rfl⟩
      · have z : (∀ x2, pwf Va g r x (l + 1) 0 = some x2 → x2 ≠ (1 <<< (gC s r &&& 31)) - 1 ∨ Va (10 * l + 2) &&& (1 <<< ((gC s r - 1) &&& 31)) = 0) := fun x2 w => Or.inr (ite01.mp c113)
        refine rx_iconst (v := 1) d_Faults_isFirstOfWrongPasses_116 (by decide) ?_
        refine rx_goto (tgt := 121) d_Faults_isFirstOfWrongPasses_117 (by rfl) ?_
        refine rx_zreturn d_Faults_isFirstOfWrongPasses_121 (by rfl) (by rfl) ?_
        exact ⟨by first | (rw [bP_t z]; done) | (rw [bP_f z]; done), rfl⟩
  | succ m ih =>
    intro e x y he9
    have hel : e ≤ l := by omega
    have hin : e < n := by omega
    have hv : pgv n Va (nI e) 2 = Va (10 * e + 2) := pgv_k hn hin (by omega) rfl
    refine rx_iload d_Faults_isFirstOfWrongPasses_33 (by rfl) ?_
    refine rx_aload_nr d_Faults_isFirstOfWrongPasses_35 (by rfl) ?_
    refine rx_getfield d_Faults_isFirstOfWrongPasses_36 fl_Faults_87 (H.cell hrN) (by rfl) ?_
    rw [hl]
    refine rx_icmp_gt (tgt := 84) d_Faults_isFirstOfWrongPasses_39 (by rfl) (fun z => absurd z (nI_nlt hel (by omega))) (fun c39 => ?_)
    refine rx_aload_nr d_Faults_isFirstOfWrongPasses_42 (by rfl) ?_
    refine rx_iload d_Faults_isFirstOfWrongPasses_43 (by rfl) ?_
    refine rx_cV d_Faults_isFirstOfWrongPasses_45 (by rfl) ml_Faults_53 im_Repeats_ofEnding se_Repeats_ofEnding (by exact c9_Repeats_ofEnding) H.1 (by rfl) (by exact Nat.le_of_ble_eq_true rfl) (c_ofEnding H (nI e)) ?_
    rw [ogt_nn (by omega) hin]
    refine rx_aload_nr d_Faults_isFirstOfWrongPasses_48 (by rfl) ?_
    refine rx_acmp_ne_r (tgt := 78) d_Faults_isFirstOfWrongPasses_49 (by rfl) (fun c49 => ?_) (fun c49 => ?_)
    · have w : ¬ g e = some r := fun z => c49 ((H.inj hrN (fun x e => Nat.lt_of_lt_of_le (hg _ x e).1 I.1)).mpr z)
      rw [pwf_o w]
      refine rx_iinc (v := nI (e + 1)) d_Faults_isFirstOfWrongPasses_78 (by rfl) (i_inc e) ?_
      refine rx_goto (tgt := 33) d_Faults_isFirstOfWrongPasses_81 (by rfl) ?_
      exact ih (e + 1) _ _ (by omega)
    · have w := (H.inj hrN (fun x e => Nat.lt_of_lt_of_le (hg _ x e).1 I.1)).mp c49
      refine rx_aload_nr d_Faults_isFirstOfWrongPasses_52 (by rfl) ?_
      refine rx_iload d_Faults_isFirstOfWrongPasses_53 (by rfl) ?_
      refine rx_iconst (v := 2) d_Faults_isFirstOfWrongPasses_55 (by decide) ?_
      refine rx_cV d_Faults_isFirstOfWrongPasses_56 (by rfl) ml_Faults_74 im_Page_value se_Page_value (by exact c9_Page_value) hp.1 (by rfl) (by exact Nat.le_of_ble_eq_true rfl) (c_value hp (nI e) 2) ?_
      rw [hv]
      refine rx_istore d_Faults_isFirstOfWrongPasses_59 (Nat.le_of_ble_eq_true rfl) ?_
      refine rx_iload d_Faults_isFirstOfWrongPasses_61 (by rfl) ?_
      refine rx_iload d_Faults_isFirstOfWrongPasses_63 (by rfl) ?_
      refine rx_iand d_Faults_isFirstOfWrongPasses_65 ?_
      refine rx_if_eq (tgt := 71) d_Faults_isFirstOfWrongPasses_66 (by rfl) (fun c66 => ?_) (fun c66 => ?_)
      · rw [pwf_m w c66]
        refine rx_iload d_Faults_isFirstOfWrongPasses_71 (by rfl) ?_
        refine rx_iload d_Faults_isFirstOfWrongPasses_73 (by rfl) ?_
        refine rx_ior d_Faults_isFirstOfWrongPasses_75 ?_
        refine rx_istore d_Faults_isFirstOfWrongPasses_76 (Nat.le_of_ble_eq_true rfl) ?_
        refine rx_iinc (v := nI (e + 1)) d_Faults_isFirstOfWrongPasses_78 (by rfl) (i_inc e) ?_
        refine rx_goto (tgt := 33) d_Faults_isFirstOfWrongPasses_81 (by rfl) ?_
        exact ih (e + 1) _ _ (by omega)
      · rw [pwf_c w c66]
        refine rx_iconst (v := 1) d_Faults_isFirstOfWrongPasses_69 (by decide) ?_
        refine rx_zreturn d_Faults_isFirstOfWrongPasses_70 (by rfl) (by rfl) ?_
        exact ⟨by rw [bP_t (fun x2 w => (nomatch w))], rfl⟩
theorem c_isFirst (hp : is_pg V h aP n al at_ av Le Te Va) (H : is_rp V h a n aA aE aG s.1 fA (fun x => (gO s x).map ra) (fun x => (g x).map ra) ra R) (hr : roG s g R) (I : gI Va n s) (hg : ∀ x r, g x = some r → r < s.1 ∧ x < n ∧ gF s r ≤ x) (hbn : b < n) : rx_C V (d + 2) kc ks m_Faults_isFirstOfWrongPasses [.ref aP, .ref a, .int (nI b)] h (rx_X (.inl (some (.int (bP (∃ r l, r < s.1 ∧ gF s r = b ∧ g l = some r ∧ (∀ y, g y = some r → y ≤ l) ∧ pww Va s g r l))))) h) := by
  have hn := H.n20
  have lo : ∀ r, r < s.1 → gL s r < n := fun r w => Nat.lt_of_lt_of_le (I.2.2.2.2.1 r w).2.2.1 I.2.1
  cases hfx : fix (fun r => decide (¬ (nI b < R r 0 ∨ R r 2 < nI b))) 0 s.1 with
  | none =>
    have z : ¬ (∃ r l, r < s.1 ∧ gF s r = b ∧ g l = some r ∧ (∀ y, g y = some r → y ≤ l) ∧ pww Va s g r l) := by
      rintro ⟨r, l, h1, h2, -⟩
      have w := of_decide_eq_false (fix_n hfx r (Nat.zero_le _) (by omega))
      have j := I.2.2.2.2.1 r h1
      have := lo r h1
      rw [(hr r h1).1, (hr r h1).2.2.1, nI_ltI (by omega) (by omega), nI_ltI (by omega) (by omega)] at w
      omega
    refine rx_aload_nr d_Faults_isFirstOfWrongPasses_0 (by rfl) ?_
    refine rx_iload_n d_Faults_isFirstOfWrongPasses_1 (by rfl) ?_
    refine rx_cV d_Faults_isFirstOfWrongPasses_2 (by rfl) ml_Faults_81 im_Repeats_around se_Repeats_around (by exact c9_Repeats_around) H.1 (by rfl) (by exact Nat.le_of_ble_eq_true rfl) (c_around H (nI b)) ?_
    rw [hfx]
    refine rx_astore_nN d_Faults_isFirstOfWrongPasses_5 (Nat.le_of_ble_eq_true rfl) ?_
    refine rx_aload_nN d_Faults_isFirstOfWrongPasses_6 (by rfl) ?_
    refine rx_ifnull_N (tgt := 25) d_Faults_isFirstOfWrongPasses_7 (by rfl) ?_
    refine rx_iconst (v := 0) d_Faults_isFirstOfWrongPasses_25 (by decide) ?_
    refine rx_zreturn d_Faults_isFirstOfWrongPasses_26 (by rfl) (by rfl) ?_
    exact ⟨by first | (rw [bP_t z]; done) | (rw [bP_f z]; done), rfl⟩
  | some r =>
    obtain ⟨-, hrn, w, -⟩ := fix_s hfx
    rw [Nat.zero_add] at hrn
    have w := of_decide_eq_true w
    have hrN : r < n := Nat.lt_of_lt_of_le hrn I.1
    have j := I.2.2.2.2.1 r hrn
    have hlo := lo r hrn
    rw [(hr r hrn).1, (hr r hrn).2.2.1, nI_ltI (by omega) (by omega), nI_ltI (by omega) (by omega)] at w
    have only : ∀ r', r' < s.1 → gF s r' = b → r' = r := fun r' h1 h2 => by
      have := I.2.2.2.2.1 r' h1
      exact I.dis (x := b) h1 hrn (by omega) (by omega) (by omega) (by omega)
    refine rx_aload_nr d_Faults_isFirstOfWrongPasses_0 (by rfl) ?_
    refine rx_iload_n d_Faults_isFirstOfWrongPasses_1 (by rfl) ?_
    refine rx_cV d_Faults_isFirstOfWrongPasses_2 (by rfl) ml_Faults_81 im_Repeats_around se_Repeats_around (by exact c9_Repeats_around) H.1 (by rfl) (by exact Nat.le_of_ble_eq_true rfl) (c_around H (nI b)) ?_
    rw [hfx]
    show rx_W V (d + 2) kc ks m_Faults_isFirstOfWrongPasses 5 _ [.ref (ra r)] h _
    refine rx_astore_nr d_Faults_isFirstOfWrongPasses_5 (Nat.le_of_ble_eq_true rfl) ?_
    refine rx_aload_nr d_Faults_isFirstOfWrongPasses_6 (by rfl) ?_
    refine rx_ifnull_r (tgt := 25) d_Faults_isFirstOfWrongPasses_7 (by rfl) ?_
    refine rx_aload_nr d_Faults_isFirstOfWrongPasses_10 (by rfl) ?_
    refine rx_getfield d_Faults_isFirstOfWrongPasses_11 fl_Faults_84 (H.cell hrN) (by rfl) ?_
    rw [(hr r hrn).1]
    refine rx_iload_n d_Faults_isFirstOfWrongPasses_14 (by rfl) ?_
    refine rx_icmp_ne (tgt := 25) d_Faults_isFirstOfWrongPasses_15 (by rfl) (fun c15 => ?_) (fun c15 => ?_)
    · have z : ¬ (∃ r l, r < s.1 ∧ gF s r = b ∧ g l = some r ∧ (∀ y, g y = some r → y ≤ l) ∧ pww Va s g r l) := by
        rintro ⟨r1, l, h1, h2, -⟩
        rw [only r1 h1 h2] at h2
        exact c15 (by rw [h2])
      refine rx_iconst (v := 0) d_Faults_isFirstOfWrongPasses_25 (by decide) ?_
      refine rx_zreturn d_Faults_isFirstOfWrongPasses_26 (by rfl) (by rfl) ?_
      exact ⟨by first | (rw [bP_t z]; done) | (rw [bP_f z]; done), rfl⟩
    · have e1 : gF s r = b := (nI_eq (by omega) (by omega)).mp c15
      refine rx_aload_nr d_Faults_isFirstOfWrongPasses_18 (by rfl) ?_
      refine rx_cV d_Faults_isFirstOfWrongPasses_19 (by rfl) ml_Faults_70 im_Repeat_hasEndings se_Repeat_hasEndings (by exact c9_Repeat_hasEndings) (H.cell hrN) (by rfl) (by exact Nat.le_of_ble_eq_true rfl) (c_hasEndings (H.cell hrN)) ?_
      refine rx_if_ne (tgt := 27) d_Faults_isFirstOfWrongPasses_22 (by rfl) (fun c22 => ?_) (fun c22 => ?_)
      · obtain ⟨l, l1, l2, l3, l4⟩ : ∃ l, R r 4 = nI l ∧ l < 20 ∧ g l = some r ∧ ∀ y, g y = some r → y ≤ l := by
          obtain ⟨-, w⟩ | w := (hr r hrn).2.2.2.2.2
          · obtain ⟨w3, -⟩ | ⟨x, -, -, w2, -⟩ := (hr r hrn).2.2.2.2.1
            · exact absurd w3 (fun y => c22 (if_pos y))
            · exact absurd w2 (w x)
          · exact w
        refine rx_iconst (v := 0) d_Faults_isFirstOfWrongPasses_27 (by decide) ?_
        refine rx_istore d_Faults_isFirstOfWrongPasses_28 (Nat.le_of_ble_eq_true rfl) ?_
        refine rx_iload_n d_Faults_isFirstOfWrongPasses_30 (by rfl) ?_
        refine rx_istore d_Faults_isFirstOfWrongPasses_31 (Nat.le_of_ble_eq_true rfl) ?_
        have bl : b ≤ l := by have := (hg l r l3).2.2; omega
        refine rx_cons (l_wrongP hp H hr I hg hbn hrn l1 (hg l r l3).2.1 (l + 1 - b) b 0 _ (by omega)) (fun r9 h9 w => ⟨w.1.trans ?_, w.2⟩)
        rw [bP_c]
        constructor
        · intro z
          exact ⟨r, l, hrn, e1, l3, l4, by unfold pww; rw [e1]; exact z⟩
        · rintro ⟨r1, l9, h1, h2, h3, h4, h5⟩
          have e2 := only r1 h1 h2
          subst e2
          have e3 : l9 = l := Nat.le_antisymm (l4 l9 h3) (h4 l l3)
          subst e3
          unfold pww at h5
          rw [e1] at h5
          exact h5
      · have z : ¬ (∃ r l, r < s.1 ∧ gF s r = b ∧ g l = some r ∧ (∀ y, g y = some r → y ≤ l) ∧ pww Va s g r l) := by
          rintro ⟨r1, l, h1, h2, h3, -⟩
          rw [only r1 h1 h2] at h3
          obtain ⟨-, w⟩ | ⟨y, w, y2, -, -⟩ := (hr r hrn).2.2.2.2.1
          · exact w l h3
          · rw [if_neg (by rw [w]; exact nI_m1 (by omega))] at c22
            exact absurd c22 (by decide)
        refine rx_iconst (v := 0) d_Faults_isFirstOfWrongPasses_25 (by decide) ?_
        refine rx_zreturn d_Faults_isFirstOfWrongPasses_26 (by rfl) (by rfl) ?_
        exact ⟨by first | (rw [bP_t z]; done) | (rw [bP_f z]; done), rfl⟩
theorem c_isThere1 (hp : is_pg V h aP n al at_ av Le Te Va) (H : is_rp V h a n aA aE aG s.1 fA (fun x => (gO s x).map ra) (fun x => (g x).map ra) ra R) (hr : roG s g R) (I : gI Va n s) (hg : ∀ x r, g x = some r → r < s.1 ∧ x < n ∧ gF s r ≤ x) (hbn : b < n) : rx_C V (d + 4) kc ks m_Faults_isThere [.int (nI 1), .ref aP, .ref a, .int (nI b)] h (rx_X (.inl (some (.int (bP (FT n Va s g 1 b))))) h) := by
  have hn := H.n20
  have v0 : pgv n Va (nI b) 0 = Va (10 * b + 0) := pgv_k hn hbn (by omega) rfl
  have v1 : pgv n Va (nI b) 1 = Va (10 * b + 1) := pgv_k hn hbn (by omega) rfl
  have v2 : pgv n Va (nI b) 2 = Va (10 * b + 2) := pgv_k hn hbn (by omega) rfl
  have v7 : pgv n Va (nI b) 7 = Va (10 * b + 7) := pgv_k hn hbn (by omega) rfl
  refine rx_iload_n d_Faults_isThere_0 (by rfl) ?_
  refine rx_tableIn (x := nI 1) (off := 39) (tgt := 40) d_Faults_isThere_1 (by decide) (by decide) (by decide) (by decide) ?_
  refine rx_aload_nr d_Faults_isThere_40 (by rfl) ?_
  refine rx_iload_n d_Faults_isThere_41 (by rfl) ?_
  refine rx_iconst (v := 0) d_Faults_isThere_42 (by decide) ?_
  refine rx_cV d_Faults_isThere_43 (by rfl) ml_Faults_21 im_Page_has se_Page_has (by exact c9_Page_has) hp.1 (by rfl) (by exact Nat.le_of_ble_eq_true rfl) (c_has hp (nI b) 0) ?_
  rw [v0]
  refine rx_if_eq (tgt := 61) d_Faults_isThere_46 (by rfl) (fun c46 => ?_) (fun c46 => ?_)
  · have z : ¬ FT n Va s g 1 b := fun w => hb_t.mp w.1 (ite01.mp c46)
    refine rx_iconst (v := 0) d_Faults_isThere_61 (by decide) ?_
    refine rx_zreturn d_Faults_isThere_62 (by rfl) (by rfl) ?_
    exact ⟨by first | (rw [bP_t z]; done) | (rw [bP_f z]; done), rfl⟩
  · refine rx_aload_nr d_Faults_isThere_49 (by rfl) ?_
    refine rx_iload_n d_Faults_isThere_50 (by rfl) ?_
    refine rx_cS d_Faults_isThere_51 ml_Faults_25 st_Faults_isNeverEnded (by exact c9_Faults_isNeverEnded) (by rfl) (by exact Nat.le_of_ble_eq_true rfl) (c_isNeverEnded hp hbn) ?_
    refine rx_if_eq (tgt := 61) d_Faults_isThere_54 (by rfl) (fun c54 => ?_) (fun c54 => ?_)
    · have z : ¬ FT n Va s g 1 b := fun w => ite10.mp c54 w.2
      refine rx_iconst (v := 0) d_Faults_isThere_61 (by decide) ?_
      refine rx_zreturn d_Faults_isThere_62 (by rfl) (by rfl) ?_
      exact ⟨by first | (rw [bP_t z]; done) | (rw [bP_f z]; done), rfl⟩
    · have z : FT n Va s g 1 b := ⟨hb_t.mpr (fun w => c46 (ite01.mpr w)), ite11.mp c54⟩
      refine rx_iconst (v := 1) d_Faults_isThere_57 (by decide) ?_
      refine rx_goto (tgt := 62) d_Faults_isThere_58 (by rfl) ?_
      refine rx_zreturn d_Faults_isThere_62 (by rfl) (by rfl) ?_
      exact ⟨by first | (rw [bP_t z]; done) | (rw [bP_f z]; done), rfl⟩
theorem c_isThere2 (hp : is_pg V h aP n al at_ av Le Te Va) (H : is_rp V h a n aA aE aG s.1 fA (fun x => (gO s x).map ra) (fun x => (g x).map ra) ra R) (hr : roG s g R) (I : gI Va n s) (hg : ∀ x r, g x = some r → r < s.1 ∧ x < n ∧ gF s r ≤ x) (hbn : b < n) : rx_C V (d + 4) kc ks m_Faults_isThere [.int (nI 2), .ref aP, .ref a, .int (nI b)] h (rx_X (.inl (some (.int (bP (FT n Va s g 2 b))))) h) := by
  have hn := H.n20
  have v0 : pgv n Va (nI b) 0 = Va (10 * b + 0) := pgv_k hn hbn (by omega) rfl
  have v1 : pgv n Va (nI b) 1 = Va (10 * b + 1) := pgv_k hn hbn (by omega) rfl
  have v2 : pgv n Va (nI b) 2 = Va (10 * b + 2) := pgv_k hn hbn (by omega) rfl
  have v7 : pgv n Va (nI b) 7 = Va (10 * b + 7) := pgv_k hn hbn (by omega) rfl
  refine rx_iload_n d_Faults_isThere_0 (by rfl) ?_
  refine rx_tableIn (x := nI 2) (off := 62) (tgt := 63) d_Faults_isThere_1 (by decide) (by decide) (by decide) (by decide) ?_
  refine rx_aload_nr d_Faults_isThere_63 (by rfl) ?_
  refine rx_iload_n d_Faults_isThere_64 (by rfl) ?_
  refine rx_iconst (v := 2) d_Faults_isThere_65 (by decide) ?_
  refine rx_cV d_Faults_isThere_66 (by rfl) ml_Faults_21 im_Page_has se_Page_has (by exact c9_Page_has) hp.1 (by rfl) (by exact Nat.le_of_ble_eq_true rfl) (c_has hp (nI b) 2) ?_
  rw [v2]
  refine rx_if_eq (tgt := 84) d_Faults_isThere_69 (by rfl) (fun c69 => ?_) (fun c69 => ?_)
  · have z : ¬ FT n Va s g 2 b := fun w => hb_t.mp w.1 (ite01.mp c69)
    refine rx_iconst (v := 0) d_Faults_isThere_84 (by decide) ?_
    refine rx_zreturn d_Faults_isThere_85 (by rfl) (by rfl) ?_
    exact ⟨by first | (rw [bP_t z]; done) | (rw [bP_f z]; done), rfl⟩
  · refine rx_aload_nr d_Faults_isThere_72 (by rfl) ?_
    refine rx_iload_n d_Faults_isThere_73 (by rfl) ?_
    refine rx_cS d_Faults_isThere_74 ml_Faults_29 st_Faults_isStrayEnding (by exact c9_Faults_isStrayEnding) (by rfl) (by exact Nat.le_of_ble_eq_true rfl) (c_isStrayEnding H hr I hg hbn) ?_
    refine rx_if_eq (tgt := 84) d_Faults_isThere_77 (by rfl) (fun c77 => ?_) (fun c77 => ?_)
    · have z : ¬ FT n Va s g 2 b := fun w => bP_0.mp c77 w.2
      refine rx_iconst (v := 0) d_Faults_isThere_84 (by decide) ?_
      refine rx_zreturn d_Faults_isThere_85 (by rfl) (by rfl) ?_
      exact ⟨by first | (rw [bP_t z]; done) | (rw [bP_f z]; done), rfl⟩
    · have z : FT n Va s g 2 b := ⟨hb_t.mpr (fun w => c69 (ite01.mpr w)), bP_1.mp c77⟩
      refine rx_iconst (v := 1) d_Faults_isThere_80 (by decide) ?_
      refine rx_goto (tgt := 85) d_Faults_isThere_81 (by rfl) ?_
      refine rx_zreturn d_Faults_isThere_85 (by rfl) (by rfl) ?_
      exact ⟨by first | (rw [bP_t z]; done) | (rw [bP_f z]; done), rfl⟩
theorem c_isThere3 (hp : is_pg V h aP n al at_ av Le Te Va) (H : is_rp V h a n aA aE aG s.1 fA (fun x => (gO s x).map ra) (fun x => (g x).map ra) ra R) (hr : roG s g R) (I : gI Va n s) (hg : ∀ x r, g x = some r → r < s.1 ∧ x < n ∧ gF s r ≤ x) (hbn : b < n) : rx_C V (d + 4) kc ks m_Faults_isThere [.int (nI 3), .ref aP, .ref a, .int (nI b)] h (rx_X (.inl (some (.int (bP (FT n Va s g 3 b))))) h) := by
  have hn := H.n20
  have v0 : pgv n Va (nI b) 0 = Va (10 * b + 0) := pgv_k hn hbn (by omega) rfl
  have v1 : pgv n Va (nI b) 1 = Va (10 * b + 1) := pgv_k hn hbn (by omega) rfl
  have v2 : pgv n Va (nI b) 2 = Va (10 * b + 2) := pgv_k hn hbn (by omega) rfl
  have v7 : pgv n Va (nI b) 7 = Va (10 * b + 7) := pgv_k hn hbn (by omega) rfl
  refine rx_iload_n d_Faults_isThere_0 (by rfl) ?_
  refine rx_tableIn (x := nI 3) (off := 85) (tgt := 86) d_Faults_isThere_1 (by decide) (by decide) (by decide) (by decide) ?_
  refine rx_aload_nr d_Faults_isThere_86 (by rfl) ?_
  refine rx_iload_n d_Faults_isThere_87 (by rfl) ?_
  refine rx_iconst (v := 1) d_Faults_isThere_88 (by decide) ?_
  refine rx_cV d_Faults_isThere_89 (by rfl) ml_Faults_21 im_Page_has se_Page_has (by exact c9_Page_has) hp.1 (by rfl) (by exact Nat.le_of_ble_eq_true rfl) (c_has hp (nI b) 1) ?_
  rw [v1]
  refine rx_if_eq (tgt := 108) d_Faults_isThere_92 (by rfl) (fun c92 => ?_) (fun c92 => ?_)
  · have z : ¬ FT n Va s g 3 b := fun w => hb_t.mp w.1 (ite01.mp c92)
    refine rx_iconst (v := 0) d_Faults_isThere_108 (by decide) ?_
    refine rx_zreturn d_Faults_isThere_109 (by rfl) (by rfl) ?_
    exact ⟨by first | (rw [bP_t z]; done) | (rw [bP_f z]; done), rfl⟩
  · refine rx_aload_nr d_Faults_isThere_95 (by rfl) ?_
    refine rx_aload_nr d_Faults_isThere_96 (by rfl) ?_
    refine rx_iload_n d_Faults_isThere_97 (by rfl) ?_
    refine rx_cS d_Faults_isThere_98 ml_Faults_33 st_Faults_isUnlikeItsRepeat (by exact c9_Faults_isUnlikeItsRepeat) (by rfl) (by exact Nat.le_of_ble_eq_true rfl) (c_isUnlike hp H hr I hg hbn) ?_
    refine rx_if_eq (tgt := 108) d_Faults_isThere_101 (by rfl) (fun c101 => ?_) (fun c101 => ?_)
    · have z : ¬ FT n Va s g 3 b := fun w => bP_0.mp c101 w.2
      refine rx_iconst (v := 0) d_Faults_isThere_108 (by decide) ?_
      refine rx_zreturn d_Faults_isThere_109 (by rfl) (by rfl) ?_
      exact ⟨by first | (rw [bP_t z]; done) | (rw [bP_f z]; done), rfl⟩
    · have z : FT n Va s g 3 b := ⟨hb_t.mpr (fun w => c92 (ite01.mpr w)), bP_1.mp c101⟩
      refine rx_iconst (v := 1) d_Faults_isThere_104 (by decide) ?_
      refine rx_goto (tgt := 109) d_Faults_isThere_105 (by rfl) ?_
      refine rx_zreturn d_Faults_isThere_109 (by rfl) (by rfl) ?_
      exact ⟨by first | (rw [bP_t z]; done) | (rw [bP_f z]; done), rfl⟩
theorem c_isThere4 (hp : is_pg V h aP n al at_ av Le Te Va) (H : is_rp V h a n aA aE aG s.1 fA (fun x => (gO s x).map ra) (fun x => (g x).map ra) ra R) (hr : roG s g R) (I : gI Va n s) (hg : ∀ x r, g x = some r → r < s.1 ∧ x < n ∧ gF s r ≤ x) (hbn : b < n) : rx_C V (d + 4) kc ks m_Faults_isThere [.int (nI 4), .ref aP, .ref a, .int (nI b)] h (rx_X (.inl (some (.int (bP (FT n Va s g 4 b))))) h) := by
  have hn := H.n20
  have v0 : pgv n Va (nI b) 0 = Va (10 * b + 0) := pgv_k hn hbn (by omega) rfl
  have v1 : pgv n Va (nI b) 1 = Va (10 * b + 1) := pgv_k hn hbn (by omega) rfl
  have v2 : pgv n Va (nI b) 2 = Va (10 * b + 2) := pgv_k hn hbn (by omega) rfl
  have v7 : pgv n Va (nI b) 7 = Va (10 * b + 7) := pgv_k hn hbn (by omega) rfl
  refine rx_iload_n d_Faults_isThere_0 (by rfl) ?_
  refine rx_tableIn (x := nI 4) (off := 109) (tgt := 110) d_Faults_isThere_1 (by decide) (by decide) (by decide) (by decide) ?_
  refine rx_aload_nr d_Faults_isThere_110 (by rfl) ?_
  refine rx_aload_nr d_Faults_isThere_111 (by rfl) ?_
  refine rx_iload_n d_Faults_isThere_112 (by rfl) ?_
  refine rx_cS d_Faults_isThere_113 ml_Faults_37 st_Faults_isFirstOfWrongPasses (by exact c9_Faults_isFirstOfWrongPasses) (by rfl) (by exact Nat.le_of_ble_eq_true rfl) (c_isFirst hp H hr I hg hbn) ?_
  refine rx_zreturn d_Faults_isThere_116 (by rfl) bP_z ?_
  exact ⟨rfl, rfl⟩
theorem c_isThere5 (hp : is_pg V h aP n al at_ av Le Te Va) (H : is_rp V h a n aA aE aG s.1 fA (fun x => (gO s x).map ra) (fun x => (g x).map ra) ra R) (hr : roG s g R) (I : gI Va n s) (hg : ∀ x r, g x = some r → r < s.1 ∧ x < n ∧ gF s r ≤ x) (hbn : b < n) : rx_C V (d + 4) kc ks m_Faults_isThere [.int (nI 5), .ref aP, .ref a, .int (nI b)] h (rx_X (.inl (some (.int (bP (FT n Va s g 5 b))))) h) := by
  have hn := H.n20
  have v0 : pgv n Va (nI b) 0 = Va (10 * b + 0) := pgv_k hn hbn (by omega) rfl
  have v1 : pgv n Va (nI b) 1 = Va (10 * b + 1) := pgv_k hn hbn (by omega) rfl
  have v2 : pgv n Va (nI b) 2 = Va (10 * b + 2) := pgv_k hn hbn (by omega) rfl
  have v7 : pgv n Va (nI b) 7 = Va (10 * b + 7) := pgv_k hn hbn (by omega) rfl
  refine rx_iload_n d_Faults_isThere_0 (by rfl) ?_
  refine rx_tableIn (x := nI 5) (off := 116) (tgt := 117) d_Faults_isThere_1 (by decide) (by decide) (by decide) (by decide) ?_
  refine rx_aload_nr d_Faults_isThere_117 (by rfl) ?_
  refine rx_iconst (v := 3) d_Faults_isThere_118 (by decide) ?_
  refine rx_iload_n d_Faults_isThere_119 (by rfl) ?_
  refine rx_cS d_Faults_isThere_120 ml_Faults_40 st_Faults_isSecond (by exact c9_Faults_isSecond) (by rfl) (by exact Nat.le_of_ble_eq_true rfl) (c_isSecond hp (k := 3) (by omega) hbn) ?_
  refine rx_if_ne (tgt := 145) d_Faults_isThere_123 (by rfl) (fun c123 => ?_) (fun c123 => ?_)
  · have z : FT n Va s g 5 b := ⟨3, by omega, bP_1.mp c123⟩
    refine rx_iconst (v := 1) d_Faults_isThere_145 (by decide) ?_
    refine rx_goto (tgt := 150) d_Faults_isThere_146 (by rfl) ?_
    refine rx_zreturn d_Faults_isThere_150 (by rfl) (by rfl) ?_
    exact ⟨by first | (rw [bP_t z]; done) | (rw [bP_f z]; done), rfl⟩
  · refine rx_aload_nr d_Faults_isThere_126 (by rfl) ?_
    refine rx_iconst (v := 4) d_Faults_isThere_127 (by decide) ?_
    refine rx_iload_n d_Faults_isThere_128 (by rfl) ?_
    refine rx_cS d_Faults_isThere_129 ml_Faults_40 st_Faults_isSecond (by exact c9_Faults_isSecond) (by rfl) (by exact Nat.le_of_ble_eq_true rfl) (c_isSecond hp (k := 4) (by omega) hbn) ?_
    refine rx_if_ne (tgt := 145) d_Faults_isThere_132 (by rfl) (fun c132 => ?_) (fun c132 => ?_)
    · have z : FT n Va s g 5 b := ⟨4, by omega, bP_1.mp c132⟩
      refine rx_iconst (v := 1) d_Faults_isThere_145 (by decide) ?_
      refine rx_goto (tgt := 150) d_Faults_isThere_146 (by rfl) ?_
      refine rx_zreturn d_Faults_isThere_150 (by rfl) (by rfl) ?_
      exact ⟨by first | (rw [bP_t z]; done) | (rw [bP_f z]; done), rfl⟩
    · refine rx_aload_nr d_Faults_isThere_135 (by rfl) ?_
      refine rx_bipush (v := 7) d_Faults_isThere_136 (by decide) ?_
      refine rx_iload_n d_Faults_isThere_138 (by rfl) ?_
      refine rx_cS d_Faults_isThere_139 ml_Faults_40 st_Faults_isSecond (by exact c9_Faults_isSecond) (by rfl) (by exact Nat.le_of_ble_eq_true rfl) (c_isSecond hp (k := 7) (by omega) hbn) ?_
      refine rx_if_eq (tgt := 149) d_Faults_isThere_142 (by rfl) (fun c142 => ?_) (fun c142 => ?_)
      · have z : ¬ FT n Va s g 5 b := by
          rintro ⟨k, e | e | e, w⟩
          · subst e; exact bP_0.mp c123 w
          · subst e; exact bP_0.mp c132 w
          · subst e; exact bP_0.mp c142 w
        refine rx_iconst (v := 0) d_Faults_isThere_149 (by decide) ?_
        refine rx_zreturn d_Faults_isThere_150 (by rfl) (by rfl) ?_
        exact ⟨by first | (rw [bP_t z]; done) | (rw [bP_f z]; done), rfl⟩
      · have z : FT n Va s g 5 b := ⟨7, by omega, bP_1.mp c142⟩
        refine rx_iconst (v := 1) d_Faults_isThere_145 (by decide) ?_
        refine rx_goto (tgt := 150) d_Faults_isThere_146 (by rfl) ?_
        refine rx_zreturn d_Faults_isThere_150 (by rfl) (by rfl) ?_
        exact ⟨by first | (rw [bP_t z]; done) | (rw [bP_f z]; done), rfl⟩
theorem c_isThere6 (hp : is_pg V h aP n al at_ av Le Te Va) (H : is_rp V h a n aA aE aG s.1 fA (fun x => (gO s x).map ra) (fun x => (g x).map ra) ra R) (hr : roG s g R) (I : gI Va n s) (hg : ∀ x r, g x = some r → r < s.1 ∧ x < n ∧ gF s r ≤ x) (hbn : b < n) : rx_C V (d + 4) kc ks m_Faults_isThere [.int (nI 6), .ref aP, .ref a, .int (nI b)] h (rx_X (.inl (some (.int (bP (FT n Va s g 6 b))))) h) := by
  have hn := H.n20
  have v0 : pgv n Va (nI b) 0 = Va (10 * b + 0) := pgv_k hn hbn (by omega) rfl
  have v1 : pgv n Va (nI b) 1 = Va (10 * b + 1) := pgv_k hn hbn (by omega) rfl
  have v2 : pgv n Va (nI b) 2 = Va (10 * b + 2) := pgv_k hn hbn (by omega) rfl
  have v7 : pgv n Va (nI b) 7 = Va (10 * b + 7) := pgv_k hn hbn (by omega) rfl
  refine rx_iload_n d_Faults_isThere_0 (by rfl) ?_
  refine rx_tableIn (x := nI 6) (off := 150) (tgt := 151) d_Faults_isThere_1 (by decide) (by decide) (by decide) (by decide) ?_
  refine rx_aload_nr d_Faults_isThere_151 (by rfl) ?_
  refine rx_iload_n d_Faults_isThere_152 (by rfl) ?_
  refine rx_bipush (v := 7) d_Faults_isThere_153 (by decide) ?_
  refine rx_cV d_Faults_isThere_155 (by rfl) ml_Faults_21 im_Page_has se_Page_has (by exact c9_Page_has) hp.1 (by rfl) (by exact Nat.le_of_ble_eq_true rfl) (c_has hp (nI b) 7) ?_
  rw [v7]
  refine rx_if_eq (tgt := 174) d_Faults_isThere_158 (by rfl) (fun c158 => ?_) (fun c158 => ?_)
  · have z : ¬ FT n Va s g 6 b := fun w => hb_t.mp w.1 (ite01.mp c158)
    refine rx_iconst (v := 0) d_Faults_isThere_174 (by decide) ?_
    refine rx_zreturn d_Faults_isThere_175 (by rfl) (by rfl) ?_
    exact ⟨by first | (rw [bP_t z]; done) | (rw [bP_f z]; done), rfl⟩
  · refine rx_aload_nr d_Faults_isThere_161 (by rfl) ?_
    refine rx_iload_n d_Faults_isThere_162 (by rfl) ?_
    refine rx_cS d_Faults_isThere_163 ml_Faults_44 st_Jump_target (by exact c9_Jump_target) (by rfl) (by exact Nat.le_of_ble_eq_true rfl) (c_target hp hbn) ?_
    refine rx_iconst (v := -1) d_Faults_isThere_166 (by decide) ?_
    refine rx_icmp_ne (tgt := 174) d_Faults_isThere_167 (by rfl) (fun c167 => ?_) (fun c167 => ?_)
    · have z : ¬ FT n Va s g 6 b := fun w => c167 w.2
      refine rx_iconst (v := 0) d_Faults_isThere_174 (by decide) ?_
      refine rx_zreturn d_Faults_isThere_175 (by rfl) (by rfl) ?_
      exact ⟨by first | (rw [bP_t z]; done) | (rw [bP_f z]; done), rfl⟩
    · have z : FT n Va s g 6 b := ⟨hb_t.mpr (fun w => c158 (ite01.mpr w)), c167⟩
      refine rx_iconst (v := 1) d_Faults_isThere_170 (by decide) ?_
      refine rx_goto (tgt := 175) d_Faults_isThere_171 (by rfl) ?_
      refine rx_zreturn d_Faults_isThere_175 (by rfl) (by rfl) ?_
      exact ⟨by first | (rw [bP_t z]; done) | (rw [bP_f z]; done), rfl⟩
theorem c_isThere7 (hp : is_pg V h aP n al at_ av Le Te Va) (H : is_rp V h a n aA aE aG s.1 fA (fun x => (gO s x).map ra) (fun x => (g x).map ra) ra R) (hr : roG s g R) (I : gI Va n s) (hg : ∀ x r, g x = some r → r < s.1 ∧ x < n ∧ gF s r ≤ x) (hbn : b < n) : rx_C V (d + 4) kc ks m_Faults_isThere [.int (nI 7), .ref aP, .ref a, .int (nI b)] h (rx_X (.inl (some (.int (bP (FT n Va s g 7 b))))) h) := by
  have hn := H.n20
  have v0 : pgv n Va (nI b) 0 = Va (10 * b + 0) := pgv_k hn hbn (by omega) rfl
  have v1 : pgv n Va (nI b) 1 = Va (10 * b + 1) := pgv_k hn hbn (by omega) rfl
  have v2 : pgv n Va (nI b) 2 = Va (10 * b + 2) := pgv_k hn hbn (by omega) rfl
  have v7 : pgv n Va (nI b) 7 = Va (10 * b + 7) := pgv_k hn hbn (by omega) rfl
  refine rx_iload_n d_Faults_isThere_0 (by rfl) ?_
  refine rx_tableOut (x := nI 7) (tgt := 176) d_Faults_isThere_1 (by decide) (by decide) ?_
  refine rx_aload_nr d_Faults_isThere_176 (by rfl) ?_
  refine rx_iload_n d_Faults_isThere_177 (by rfl) ?_
  refine rx_bipush (v := 7) d_Faults_isThere_178 (by decide) ?_
  refine rx_cV d_Faults_isThere_180 (by rfl) ml_Faults_21 im_Page_has se_Page_has (by exact c9_Page_has) hp.1 (by rfl) (by exact Nat.le_of_ble_eq_true rfl) (c_has hp (nI b) 7) ?_
  rw [v7]
  refine rx_if_eq (tgt := 198) d_Faults_isThere_183 (by rfl) (fun c183 => ?_) (fun c183 => ?_)
  · have z : ¬ FT n Va s g 7 b := fun w => hb_t.mp w.1 (ite01.mp c183)
    refine rx_iconst (v := 0) d_Faults_isThere_198 (by decide) ?_
    refine rx_zreturn d_Faults_isThere_199 (by rfl) (by rfl) ?_
    exact ⟨by first | (rw [bP_t z]; done) | (rw [bP_f z]; done), rfl⟩
  · refine rx_aload_nr d_Faults_isThere_186 (by rfl) ?_
    refine rx_iload_n d_Faults_isThere_187 (by rfl) ?_
    refine rx_cS d_Faults_isThere_188 ml_Faults_50 st_Faults_lacksItsWay (by exact c9_Faults_lacksItsWay) (by rfl) (by exact Nat.le_of_ble_eq_true rfl) (c_lacksItsWay hp hbn) ?_
    refine rx_if_eq (tgt := 198) d_Faults_isThere_191 (by rfl) (fun c191 => ?_) (fun c191 => ?_)
    · have z : ¬ FT n Va s g 7 b := fun w => bP_0.mp c191 w.2
      refine rx_iconst (v := 0) d_Faults_isThere_198 (by decide) ?_
      refine rx_zreturn d_Faults_isThere_199 (by rfl) (by rfl) ?_
      exact ⟨by first | (rw [bP_t z]; done) | (rw [bP_f z]; done), rfl⟩
    · have z : FT n Va s g 7 b := ⟨hb_t.mpr (fun w => c183 (ite01.mpr w)), bP_1.mp c191⟩
      refine rx_iconst (v := 1) d_Faults_isThere_194 (by decide) ?_
      refine rx_goto (tgt := 199) d_Faults_isThere_195 (by rfl) ?_
      refine rx_zreturn d_Faults_isThere_199 (by rfl) (by rfl) ?_
      exact ⟨by first | (rw [bP_t z]; done) | (rw [bP_f z]; done), rfl⟩
theorem c_isThere (hp : is_pg V h aP n al at_ av Le Te Va) (H : is_rp V h a n aA aE aG s.1 fA (fun x => (gO s x).map ra) (fun x => (g x).map ra) ra R) (hr : roG s g R) (I : gI Va n s) (hg : ∀ x r, g x = some r → r < s.1 ∧ x < n ∧ gF s r ≤ x) (hbn : b < n) {k : Nat} (h1 : 1 ≤ k) (h7 : k ≤ 7) : rx_C V (d + 4) kc ks m_Faults_isThere [.int (nI k), .ref aP, .ref a, .int (nI b)] h (rx_X (.inl (some (.int (bP (FT n Va s g k b))))) h) := by
  match k, h1, h7 with
  | 1, _, _ => exact c_isThere1 hp H hr I hg hbn
  | 2, _, _ => exact c_isThere2 hp H hr I hg hbn
  | 3, _, _ => exact c_isThere3 hp H hr I hg hbn
  | 4, _, _ => exact c_isThere4 hp H hr I hg hbn
  | 5, _, _ => exact c_isThere5 hp H hr I hg hbn
  | 6, _, _ => exact c_isThere6 hp H hr I hg hbn
  | 7, _, _ => exact c_isThere7 hp H hr I hg hbn
  | k + 8, _, w => exact absurd w (by omega)
noncomputable def ftB (n : Nat) (F : Nat → Nat → Prop) (c : Nat) : Bool := pB (1 ≤ c / 100 ∧ c / 100 ≤ 7 ∧ c % 100 < n ∧ F (c / 100) (c % 100))
/-- the least fault's number -/
noncomputable def lst (n : Nat) (F : Nat → Nat → Prop) : Int32 := match fix (ftB n F) 0 800 with
  | none => 0
  | some c => nI c
theorem fix_at {Pr : Nat → Bool} {m x : Nat} (h1 : ∀ y, y < x → Pr y = false) (h2 : Pr x = true) (h3 : x < m) : fix Pr 0 m = some x := by
  cases e : fix Pr 0 m with
  | none => exact absurd ((fix_n e x (Nat.zero_le _) (by omega)).symm.trans h2) (by decide)
  | some y =>
    obtain ⟨-, -, j3, j4⟩ := fix_s e
    by_cases c : y < x
    · rw [h1 y c] at j3; cases j3
    · by_cases c2 : x < y
      · rw [j4 x (Nat.zero_le _) c2] at h2; cases h2
      · rw [show y = x from by omega]
theorem fix_0 {Pr : Nat → Bool} {m : Nat} (h1 : ∀ y, y < m → Pr y = false) : fix Pr 0 m = none := by
  cases e : fix Pr 0 m with
  | none => rfl
  | some y =>
    obtain ⟨-, j2, j3, -⟩ := fix_s e
    rw [h1 y (by omega)] at j3; cases j3
theorem l_least1 (hp : is_pg V h aP n al at_ av Le Te Va) (H : is_rp V h a n aA aE aG s.1 fA (fun x => (gO s x).map ra) (fun x => (g x).map ra) ra R) (hr : roG s g R) (I : gI Va n s) (hg : ∀ x r, g x = some r → r < s.1 ∧ x < n ∧ gF s r ≤ x) {k : Nat} (h1 : 1 ≤ k) (h7 : k ≤ 7) (K : (∀ c, c < 100 * (k + 1) → ftB n (FT n Va s g) c = false) → ∀ y, rx_W V (d + 5) kc ks m_Faults_least 2 [some (.ref aP), some (.ref a), some (.int (nI (k + 1))), y] [] h (rx_X (.inl (some (.int (lst n (FT n Va s g))))) h)) :
    ∀ (m b : Nat), b + m = n → (∀ c, c < 100 * k + b → ftB n (FT n Va s g) c = false) → rx_W V (d + 5) kc ks m_Faults_least 10 [some (.ref aP), some (.ref a), some (.int (nI k)), some (.int (nI b))] [] h (rx_X (.inl (some (.int (lst n (FT n Va s g))))) h) := by
  have hn := H.n20
  intro m
  induction m with
  | zero =>
    intro b hi hc
    have hi9 : b = n := by omega
    subst hi9
    refine rx_iload_n d_Faults_least_10 (by rfl) ?_
    refine rx_aload_nr d_Faults_least_11 (by rfl) ?_
    refine rx_getfield d_Faults_least_12 fl_Faults_11 hp.1 (by rfl) ?_
    refine rx_icmp_ge (tgt := 41) d_Faults_least_15 (by rfl) (fun c15 => ?_) (fun z => absurd (Int32.le_refl _) z)
    refine rx_iinc (v := nI (k + 1)) d_Faults_least_41 (by rfl) (i_inc k) ?_
    refine rx_goto (tgt := 2) d_Faults_least_44 (by rfl) ?_
    refine K (fun c hlt => ?_) _
    by_cases w : c < 100 * k + b
    · exact hc c w
    · exact pB_f.mpr (fun z => by omega)
  | succ m ih =>
    intro b hi hc
    have hbn : b < n := by omega
    have e1 : (100 * k + b) / 100 = k := by omega
    have e2 : (100 * k + b) % 100 = b := by omega
    refine rx_iload_n d_Faults_least_10 (by rfl) ?_
    refine rx_aload_nr d_Faults_least_11 (by rfl) ?_
    refine rx_getfield d_Faults_least_12 fl_Faults_11 hp.1 (by rfl) ?_
    refine rx_icmp_ge (tgt := 41) d_Faults_least_15 (by rfl) (fun z => absurd z (nI_ge hbn (by omega))) (fun c15 => ?_)
    refine rx_iload_n d_Faults_least_18 (by rfl) ?_
    refine rx_aload_nr d_Faults_least_19 (by rfl) ?_
    refine rx_aload_nr d_Faults_least_20 (by rfl) ?_
    refine rx_iload_n d_Faults_least_21 (by rfl) ?_
    refine rx_cS d_Faults_least_22 ml_Faults_17 st_Faults_isThere (by exact c9_Faults_isThere) (by rfl) (by exact Nat.le_of_ble_eq_true rfl) (c_isThere hp H hr I hg hbn h1 h7) ?_
    refine rx_if_eq (tgt := 35) d_Faults_least_25 (by rfl) (fun c25 => ?_) (fun c25 => ?_)
    · refine rx_iinc (v := nI (b + 1)) d_Faults_least_35 (by rfl) (i_inc b) ?_
      refine rx_goto (tgt := 10) d_Faults_least_38 (by rfl) ?_
      refine ih (b + 1) (by omega) (fun c hlt => ?_)
      by_cases w : c < 100 * k + b
      · exact hc c w
      · have e : c = 100 * k + b := by omega
        rw [e]
        exact pB_f.mpr (by rw [e1, e2]; exact fun z => bP_0.mp c25 z.2.2.2)
    · refine rx_bipush (v := 100) d_Faults_least_28 (by decide) ?_
      refine rx_iload_n d_Faults_least_30 (by rfl) ?_
      refine rx_imul d_Faults_least_31 ?_
      refine rx_iload_n d_Faults_least_32 (by rfl) ?_
      refine rx_iadd d_Faults_least_33 ?_
      refine rx_ireturn d_Faults_least_34 (by rfl) ?_
      have e3 : lst n (FT n Va s g) = nI (100 * k + b) := by
        unfold lst
        rw [fix_at hc (pB_t.mpr (by rw [e1, e2]; exact ⟨h1, h7, hbn, bP_1.mp c25⟩)) (by omega)]
      exact ⟨by rw [e3, show (100 : Int32) = nI 100 from rfl, pk_mul, nI_add], rfl⟩
theorem l_least2 (hp : is_pg V h aP n al at_ av Le Te Va) (H : is_rp V h a n aA aE aG s.1 fA (fun x => (gO s x).map ra) (fun x => (g x).map ra) ra R) (hr : roG s g R) (I : gI Va n s) (hg : ∀ x r, g x = some r → r < s.1 ∧ x < n ∧ gF s r ≤ x) : ∀ (m k : Nat) (y : Option Value), k + m = 8 → 1 ≤ k → (∀ c, c < 100 * k → ftB n (FT n Va s g) c = false) → rx_W V (d + 5) kc ks m_Faults_least 2 [some (.ref aP), some (.ref a), some (.int (nI k)), y] [] h (rx_X (.inl (some (.int (lst n (FT n Va s g))))) h) := by
  have hn := H.n20
  intro m
  induction m with
  | zero =>
    intro k y hi h1 hc
    have hi9 : k = 8 := by omega
    subst hi9
    refine rx_iload_n d_Faults_least_2 (by rfl) ?_
    refine rx_bipush (v := 7) d_Faults_least_3 (by decide) ?_
    refine rx_icmp_gt (tgt := 47) d_Faults_least_5 (by rfl) (fun c5 => ?_) (fun z => absurd (by decide) z)
    refine rx_iconst (v := 0) d_Faults_least_47 (by decide) ?_
    refine rx_ireturn d_Faults_least_48 (by rfl) ?_
    exact ⟨by unfold lst; rw [fix_0 hc], rfl⟩
  | succ m ih =>
    intro k y hi h1 hc
    refine rx_iload_n d_Faults_least_2 (by rfl) ?_
    refine rx_bipush (v := 7) d_Faults_least_3 (by decide) ?_
    refine rx_icmp_gt (tgt := 47) d_Faults_least_5 (by rfl) (fun z => absurd z (show ¬ nI 7 < nI k from nI_nlt (by omega) (by omega))) (fun c5 => ?_)
    refine rx_iconst (v := 0) d_Faults_least_8 (by decide) ?_
    refine rx_istore_n d_Faults_least_9 (Nat.le_of_ble_eq_true rfl) ?_
    exact l_least1 hp H hr I hg h1 (by omega) (fun w y => ih (k + 1) y (by omega) (by omega) w) n 0 (by omega) hc
theorem c_least (hp : is_pg V h aP n al at_ av Le Te Va) (H : is_rp V h a n aA aE aG s.1 fA (fun x => (gO s x).map ra) (fun x => (g x).map ra) ra R) (hr : roG s g R) (I : gI Va n s) (hg : ∀ x r, g x = some r → r < s.1 ∧ x < n ∧ gF s r ≤ x) : rx_C V (d + 5) kc ks m_Faults_least [.ref aP, .ref a] h (rx_X (.inl (some (.int (lst n (FT n Va s g))))) h) := by
  refine rx_iconst (v := 1) d_Faults_least_0 (by decide) ?_
  refine rx_istore_n d_Faults_least_1 (Nat.le_of_ble_eq_true rfl) ?_
  exact l_least2 hp H hr I hg 7 1 _ (by omega) (by omega) (fun c hc => pB_f.mpr (fun z => by omega))
end FA
