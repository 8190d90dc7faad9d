/-! the reference's walk: takes, how, resetPasses, come -/
def sF (S : mT) (j : Nat) (f : Nat → Int32) : mT := (S.1, S.2.1, up S.2.2 j f)
/-- the jump, as the reference keeps it -/
def mJ (j : Int32) (w : wT) : Prop := (w.2.1 = false ∧ j = -1 ∧ w.2.2.2.2 = true) ∨ (w.2.1 = true ∧ ∃ q : Fin 13, 1 ≤ q.val ∧ j = nI q.val - 1 ∧ w.2.2.2.1 = jwy (nI q.val) ∧ w.2.2.2.2 = decide (¬ nI q.val ≤ 6))
theorem q_tk : ∀ q : Fin 13, 1 ≤ q.val → decide (nI q.val - 1 < 0 ∨ 5 < nI q.val - 1) = decide (¬ nI q.val ≤ 6) := by decide
theorem q_ge : ∀ q : Fin 13, 1 ≤ q.val → ¬ nI q.val - 1 < 0 := by decide
theorem mJ_tk {j : Int32} {w : wT} (h : mJ j w) : decide (j < 0 ∨ 5 < j) = w.2.2.2.2 := by
  obtain ⟨-, h2, h3⟩ | ⟨-, q, h1, h2, -, h4⟩ := h
  · rw [h2, h3]; decide
  · rw [h2, h4]; exact q_tk q h1
theorem mJ_lt {j : Int32} {w : wT} (h : mJ j w) : j < 0 ↔ w.2.1 = false := by
  obtain ⟨h1, h2, h3⟩ | ⟨h0, q, h1, h2, -, h4⟩ := h
  · rw [h2, h1]; decide
  · rw [h2, h0]; exact ⟨fun z => absurd z (q_ge q h1), fun z => nomatch z⟩
/-- how the reference's jump goes on -/
def mhw (j : Int32) : Int32 := if j < 0 then 0 else j / 2 - j / 2 / 3 * 3
theorem mJ_hw {j : Int32} {w : wT} (h : mJ j w) : mhw j = if w.2.1 = true then w.2.2.2.1 else 0 := by
  obtain ⟨h1, h2, h3⟩ | ⟨h0, q, h1, h2, h3, h4⟩ := h
  · rw [h2, h1, if_neg (by decide)]; decide
  · rw [h0, if_pos rfl, h3, h2]
    exact if_neg (q_ge q h1)
/-- the reference's passes -/
def mP (S : mT) (s : gT) (p : Nat → Nat) : Prop := ∀ r, r < s.1 → S.2.2 15 r = nI (p r)
theorem mR.o {S S' : mT} {s : gT} {G : Nat → Option Nat} (h : mR S s G) (h1 : S'.1 13 = S.1 13) (h2 : ∀ j, 11 ≤ j → j ≤ 14 → S'.2.2 j = S.2.2 j) : mR S' s G := ⟨h1.trans h.1, fun r hr => by
  obtain ⟨j1, j2, j3, j4⟩ := h.2 r hr
  rw [h2 11 (by omega) (by omega), h2 12 (by omega) (by omega), h2 13 (by omega) (by omega), h2 14 (by omega) (by omega)]
  exact ⟨j1, j2, j3, j4⟩⟩
section MC
variable {V : rx_V} {d kc ks : Nat} {h h1 h2 : List va_E} {a n b c k9 : Nat} {S S0 : mT} {Va : Nat → Int32} {Q : rx_R → List va_E → Prop} {v : Int32} {s : gT} {g : Nat → Option Nat} {u : wT}
theorem k_takes (ha : a = V.2.1 + h1.length) : rx_C V d kc ks m_Mo_takes [.ref a] (mw V h1 a S h2) (rx_X (.inl (some (.int (bi (decide (S.1 22 < 0 ∨ 5 < S.1 22)))))) (mw V h1 a S h2)) := by
  refine rx_aload_nr d_Mo_takes_0 (by rfl) ?_
  refine rx_getfield d_Mo_takes_1 fl_Mo_145 (mr0 ha) (by rfl) ?_
  refine rx_if_lt (tgt := 15) d_Mo_takes_4 (by rfl) (fun c4 => ?_) (fun c4 => ?_)
  · rw [decide_eq_true (Or.inl c4)]
    refine rx_iconst (v := 1) d_Mo_takes_15 (by decide) ?_
    refine rx_goto (tgt := 20) d_Mo_takes_16 (by rfl) ?_
    refine rx_zreturn d_Mo_takes_20 (by rfl) (by rfl) ?_
    exact ⟨rfl, rfl⟩
  · refine rx_aload_nr d_Mo_takes_7 (by rfl) ?_
    refine rx_getfield d_Mo_takes_8 fl_Mo_145 (mr0 ha) (by rfl) ?_
    refine rx_iconst (v := 5) d_Mo_takes_11 (by decide) ?_
    refine rx_icmp_le (tgt := 19) d_Mo_takes_12 (by rfl) (fun c12 => ?_) (fun c12 => ?_)
    · rw [decide_eq_false (fun z => z.elim c4 (i_nlt c12))]
      refine rx_iconst (v := 0) d_Mo_takes_19 (by decide) ?_
      refine rx_zreturn d_Mo_takes_20 (by rfl) (by rfl) ?_
      exact ⟨rfl, rfl⟩
    · rw [decide_eq_true (Or.inr (i_nle c12))]
      refine rx_iconst (v := 1) d_Mo_takes_15 (by decide) ?_
      refine rx_goto (tgt := 20) d_Mo_takes_16 (by rfl) ?_
      refine rx_zreturn d_Mo_takes_20 (by rfl) (by rfl) ?_
      exact ⟨rfl, rfl⟩
theorem k_how (ha : a = V.2.1 + h1.length) : rx_C V d kc ks m_Mo_how [.ref a] (mw V h1 a S h2) (rx_X (.inl (some (.int (mhw (S.1 22))))) (mw V h1 a S h2)) := by
  refine rx_aload_nr d_Mo_how_0 (by rfl) ?_
  refine rx_getfield d_Mo_how_1 fl_Mo_145 (mr0 ha) (by rfl) ?_
  refine rx_if_ge (tgt := 11) d_Mo_how_4 (by rfl) (fun c4 => ?_) (fun c4 => ?_)
  · have z : mhw (S.1 22) = S.1 22 / 2 - S.1 22 / 2 / 3 * 3 := if_neg (i_nlt c4)
    refine rx_aload_nr d_Mo_how_11 (by rfl) ?_
    refine rx_getfield d_Mo_how_12 fl_Mo_145 (mr0 ha) (by rfl) ?_
    refine rx_iconst (v := 2) d_Mo_how_15 (by decide) ?_
    refine rx_idiv d_Mo_how_16 (by decide) ?_
    refine rx_iconst (v := 3) d_Mo_how_17 (by decide) ?_
    refine rx_irem d_Mo_how_18 (by decide) ?_
    refine rx_ireturn d_Mo_how_19 (by rfl) ?_
    exact ⟨by rw [z], rfl⟩
  · have z : mhw (S.1 22) = 0 := if_pos (Decidable.not_not.mp (fun y => c4 (i_nle' y)))
    refine rx_iconst (v := 0) d_Mo_how_7 (by decide) ?_
    refine rx_goto (tgt := 19) d_Mo_how_8 (by rfl) ?_
    refine rx_ireturn d_Mo_how_19 (by rfl) ?_
    exact ⟨by rw [z], rfl⟩
theorem l_mresetPasses (ha : a = V.2.1 + h1.length) {m0 : Nat} (hm : S.1 13 = nI m0) (hm2 : m0 ≤ 20) : ∀ (m i : Nat) (f : Nat → Int32), i + m = m0 → (∀ r, r < i → f r = 1) → rx_W V d kc ks m_Mo_resetPasses 2 [some (.ref a), some (.int (nI i))] [] (mw V h1 a (sF S 15 f) h2) (fun r9 h' => r9 = .inl none ∧ ∃ f, h' = mw V h1 a (sF S 15 f) h2 ∧ ∀ r, r < m0 → f r = 1) := by
  have e13 : ∀ f, (sF S 15 f).1 13 = nI m0 := fun _ => hm
  intro m
  induction m with
  | zero =>
    intro i f hi hf
    have e : i = m0 := by omega
    subst e
    refine rx_iload_n d_Mo_resetPasses_2 (by rfl) ?_
    refine rx_aload_nr d_Mo_resetPasses_3 (by rfl) ?_
    refine rx_getfield d_Mo_resetPasses_4 fl_Mo_97 (mr0 ha) (by rfl) ?_
    rw [e13]
    refine rx_icmp_ge (tgt := 23) d_Mo_resetPasses_7 (by rfl) (fun c7 => ?_) (fun z => absurd (Int32.le_refl _) z)
    refine rx_vreturn d_Mo_resetPasses_23 (by rfl) ?_
    exact ⟨rfl, f, rfl, hf⟩
  | succ m ih =>
    intro i f hi hf
    have e9 : ∀ x, sA (sF S 15 f) 15 i x = sF S 15 (up f i x) := by
      intro x
      unfold sA sF
      have : up (up S.2.2 15 f) 15 (up ((up S.2.2 15 f) 15) i x) = up S.2.2 15 (up f i x) := by
        funext j
        by_cases e : j = 15
        · subst e; rw [up_s, up_s, up_s]
        · rw [up_o e, up_o e, up_o e]
      show (S.1, S.2.1, up (up S.2.2 15 f) 15 (up ((up S.2.2 15 f) 15) i x)) = _
      rw [this]
    refine rx_iload_n d_Mo_resetPasses_2 (by rfl) ?_
    refine rx_aload_nr d_Mo_resetPasses_3 (by rfl) ?_
    refine rx_getfield d_Mo_resetPasses_4 fl_Mo_97 (mr0 ha) (by rfl) ?_
    rw [e13]
    refine rx_icmp_ge (tgt := 23) d_Mo_resetPasses_7 (by rfl) (fun z => absurd z (nI_ge (by omega) (by omega))) (fun c7 => ?_)
    refine rx_aload_nr d_Mo_resetPasses_10 (by rfl) ?_
    refine rx_getfield d_Mo_resetPasses_11 fl_Mo_53 (mr0 ha) (by rfl) ?_
    refine rx_iload_n d_Mo_resetPasses_14 (by rfl) ?_
    refine rx_iconst (v := 1) d_Mo_resetPasses_15 (by decide) ?_
    refine m_ias (j := 15) ha d_Mo_resetPasses_16 (by rfl) (by omega) (by decide) (by rfl) (by decide) ?_
    rw [e9]
    refine rx_iinc (v := nI (i + 1)) d_Mo_resetPasses_17 (by rfl) (i_inc i) ?_
    refine rx_goto (tgt := 2) d_Mo_resetPasses_20 (by rfl) ?_
    refine ih (i + 1) _ (by omega) (fun r hr => ?_)
    by_cases e : r = i
    · subst e; exact up_s
    · rw [up_o e]; exact hf r (by omega)
theorem sF_id : sF S 15 (S.2.2 15) = S := by
  unfold sF
  have : up S.2.2 15 (S.2.2 15) = S.2.2 := by
    funext j
    by_cases e : j = 15
    · subst e; rw [up_s]
    · rw [up_o e]
  rw [this]
theorem k_resetPasses (ha : a = V.2.1 + h1.length) {m0 : Nat} (hm : S.1 13 = nI m0) (hm2 : m0 ≤ 20) : rx_C V d kc ks m_Mo_resetPasses [.ref a] (mw V h1 a S h2) (fun r9 h' => r9 = .inl none ∧ ∃ f, h' = mw V h1 a (sF S 15 f) h2 ∧ ∀ r, r < m0 → f r = 1) := by
  refine rx_iconst (v := 0) d_Mo_resetPasses_0 (by decide) ?_
  refine rx_istore_n d_Mo_resetPasses_1 (Nat.le_of_ble_eq_true rfl) ?_
  have z := l_mresetPasses (d := d) (kc := kc) (ks := ks) (h2 := h2) ha hm hm2 m0 0 (S.2.2 15) (by omega) (fun r hr => absurd hr (Nat.not_lt_zero _))
  rw [sF_id] at z
  exact z
theorem bt_nn {Va : Nat → Int32} {e p : Nat} (hv : vok n Va) (he : e < n) (h1 : 1 ≤ p) (h4 : p ≤ 4) : inm (Va (10 * e + 2)) (p - 1) = bt Va e p := by
  obtain ⟨x, hx⟩ := vok_2 hv he
  have hb9 := bt_in x ⟨p, by omega⟩ h1
  rw [hx]
  cases z : inm (nI x.val) (p - 1) with
  | false => exact (bt_f.mpr (by rw [hx]; exact hb9.mpr z)).symm
  | true => exact (bt_t.mpr (by rw [hx]; exact fun y => by have := hb9.mp y; rw [show (⟨p, by omega⟩ : Fin 5).val = p from rfl] at this; rw [z] at this; cases this)).symm
theorem wif_1 {Va : Nat → Int32} {g : Nat → Option Nat} {r du c e : Nat} (h1 : ∀ x, c ≤ x → x < e → (decide (g x = some r) && bt Va x du) = false) (h2 : (decide (g e = some r) && bt Va e du) = true) (hc : c ≤ e) (he : e < n) : wif n Va g r du c = e := by
  unfold wif
  cases z : fix (fun e => decide (g e = some r) && bt Va e du) c (n - c) with
  | none => exact absurd ((fix_n z e hc (by omega)).symm.trans h2) (by decide)
  | some y =>
    obtain ⟨y1, y2, y3, y4⟩ := fix_s z
    show y = e
    by_cases a1 : y < e
    · exact absurd ((h1 y y1 a1).symm.trans y3) (by decide)
    · by_cases a2 : e < y
      · exact absurd ((y4 e hc a2).symm.trans h2) (by decide)
      · omega
theorem wif_2 {Va : Nat → Int32} {g : Nat → Option Nat} {r du c l : Nat} (hl : g l = some r) (hln : l < n) (hm : ∀ y, g y = some r → y ≤ l) (h1 : ∀ x, c ≤ x → x < l → (decide (g x = some r) && bt Va x du) = false) : wif n Va g r du c = l := by
  unfold wif
  cases z : fix (fun e => decide (g e = some r) && bt Va e du) c (n - c) with
  | none => exact lsg_eq hl hln hm
  | some y =>
    obtain ⟨y1, y2, y3, y4⟩ := fix_s z
    show y = l
    have := hm y (of_decide_eq_true (Bool.and_eq_true_iff.mp y3).1)
    by_cases a1 : y < l
    · exact absurd ((h1 y y1 a1).symm.trans y3) (by decide)
    · omega
theorem l_come54 (ha : a = V.2.1 + h1.length) (hN : mN n S) (hv : vok n (S.2.2 4)) {r c l du : Nat} (hr : r < 20) (j3 : mM (S.2.2 13 r) g r) (hl : g l = some r) (hln : l < n) (hm : ∀ y, g y = some r → y ≤ l) (hd1 : 1 ≤ du) (hd4 : du ≤ 4) (K : rx_W V (d + 2) kc ks m_Mo_come 108 [some (.ref a), some (.int (nI c)), some (.int (nI r)), some (.int (nI (du - 1))), some (.int (nI l))] [] (mw V h1 a (sS S 20 (nI (wif n (S.2.2 4) g r du c))) h2) Q) :
    ∀ (m e : Nat), e + m = l → c ≤ e → (∀ x, c ≤ x → x < e → (decide (g x = some r) && bt (S.2.2 4) x du) = false) → rx_W V (d + 2) kc ks m_Mo_come 54 [some (.ref a), some (.int (nI c)), some (.int (nI r)), some (.int (nI (du - 1))), some (.int (nI l))] [] (mw V h1 a (sS S 20 (nI e)) h2) Q := by
  have hn := hN.2
  have N9 : ∀ v, mN n (sS S 20 v) := fun _ => hN
  intro m
  induction m with
  | zero =>
    intro e he hce hx
    have e0 : e = l := by omega
    subst e0
    rw [wif_2 hl hln hm hx] at K
    refine rx_aload_nr d_Mo_come_54 (by rfl) ?_
    refine rx_getfield d_Mo_come_55 fl_Mo_148 (mr0 ha) (by rfl) ?_
    rw [show (sS S 20 (nI e)).1 20 = nI e from rfl]
    refine rx_iload d_Mo_come_58 (by rfl) ?_
    refine rx_icmp_ge (tgt := 108) d_Mo_come_60 (by rfl) (fun c60 => ?_) (fun z => absurd (Int32.le_refl _) z)
    exact K
  | succ m ih =>
    intro e he hce hx
    have go : (decide (g e = some r) && bt (S.2.2 4) e du) = false → rx_W V (d + 2) kc ks m_Mo_come 54 [some (.ref a), some (.int (nI c)), some (.int (nI r)), some (.int (nI (du - 1))), some (.int (nI l))] [] (mw V h1 a (sS S 20 (nI (e + 1))) h2) Q := fun z => ih (e + 1) (by omega) (by omega) (fun x h1 h2 => by
      by_cases a1 : x = e
      · subst a1; exact z
      · exact hx x h1 (by omega))
    refine rx_aload_nr d_Mo_come_54 (by rfl) ?_
    refine rx_getfield d_Mo_come_55 fl_Mo_148 (mr0 ha) (by rfl) ?_
    rw [show (sS S 20 (nI e)).1 20 = nI e from rfl]
    refine rx_iload d_Mo_come_58 (by rfl) ?_
    refine rx_icmp_ge (tgt := 108) d_Mo_come_60 (by rfl) (fun z => absurd z (nI_ge (by omega) (by omega))) (fun c60 => ?_)
    refine rx_aload_nr d_Mo_come_63 (by rfl) ?_
    refine rx_getfield d_Mo_come_64 fl_Mo_47 (mr0 ha) (by rfl) ?_
    refine rx_iload_n d_Mo_come_67 (by rfl) ?_
    refine m_ial (j := 13) ha d_Mo_come_68 (by rfl) (by omega) (by decide) ?_
    refine rx_aload_nr d_Mo_come_69 (by rfl) ?_
    refine rx_getfield d_Mo_come_70 fl_Mo_148 (mr0 ha) (by rfl) ?_
    rw [show (sS S 20 (nI e)).1 20 = nI e from rfl]
    refine rx_cS d_Mo_come_73 ml_Mo_94 st_Mo_in (by exact c9_Mo_in) (by rfl) (by exact Nat.le_of_ble_eq_true rfl) (k_in _ (b := e) (by omega)) ?_
    rw [show inm ((sS S 20 (nI e)).2.2 13 r) e = decide (g e = some r) from j3 e (by omega)]
    refine rx_if_eq (tgt := 95) d_Mo_come_76 (by rfl) (fun c76 => ?_) (fun c76 => ?_)
    · have c76 : decide (g e = some r) = false := bi_0.mp c76
      refine rx_aload_nr d_Mo_come_95 (by rfl) ?_
      refine rx_dup d_Mo_come_96 (by rfl) ?_
      refine rx_getfield d_Mo_come_97 fl_Mo_148 (mr0 ha) (by rfl) ?_
      rw [show (sS S 20 (nI e)).1 20 = nI e from rfl]
      refine rx_iconst (v := 1) d_Mo_come_100 (by decide) ?_
      refine rx_iadd d_Mo_come_101 ?_
      rw [nI_1]
      refine m_putI (k9 := 20) ha d_Mo_come_102 (fw_Mo_148 rfl) (by rfl) (by rfl) (by rfl) ?_
      rw [sS_sS]
      refine rx_goto (tgt := 54) d_Mo_come_105 (by rfl) ?_
      first | exact go (by rw [c76]; rfl) | exact go (by rw [c92, Bool.and_false])
    · have c76 : decide (g e = some r) = true := bi_1.mp c76
      refine rx_aload_nr d_Mo_come_79 (by rfl) ?_
      refine rx_aload_nr d_Mo_come_80 (by rfl) ?_
      refine rx_getfield d_Mo_come_81 fl_Mo_148 (mr0 ha) (by rfl) ?_
      rw [show (sS S 20 (nI e)).1 20 = nI e from rfl]
      refine rx_iconst (v := 2) d_Mo_come_84 (by decide) ?_
      refine rx_cV d_Mo_come_85 (by rfl) ml_Mo_70 im_Mo_signOf se_Mo_signOf (by exact c9_Mo_signOf) (mr0 ha) (by rfl) (by exact Nat.le_of_ble_eq_true rfl) (k_signOf ha (N9 _) (b := e) (k := 2) (by omega) (by omega)) ?_
      rw [sgn_1 (show e < n by omega), show (sS S 20 (nI e)).2.2 4 = S.2.2 4 from rfl]
      refine rx_iload_n d_Mo_come_88 (by rfl) ?_
      refine rx_cS d_Mo_come_89 ml_Mo_94 st_Mo_in (by exact c9_Mo_in) (by rfl) (by exact Nat.le_of_ble_eq_true rfl) (k_in _ (b := du - 1) (by omega)) ?_
      rw [bt_nn hv (by omega) hd1 hd4]
      refine rx_if_ne (tgt := 108) d_Mo_come_92 (by rfl) (fun c92 => ?_) (fun c92 => ?_)
      · have c92 : bt (S.2.2 4) e du = true := bi_1.mp c92
        rw [wif_1 hx (by rw [c76, c92]; rfl) hce (by omega)] at K
        exact K
      · have c92 : bt (S.2.2 4) e du = false := bi_0.mp c92
        refine rx_aload_nr d_Mo_come_95 (by rfl) ?_
        refine rx_dup d_Mo_come_96 (by rfl) ?_
        refine rx_getfield d_Mo_come_97 fl_Mo_148 (mr0 ha) (by rfl) ?_
        rw [show (sS S 20 (nI e)).1 20 = nI e from rfl]
        refine rx_iconst (v := 1) d_Mo_come_100 (by decide) ?_
        refine rx_iadd d_Mo_come_101 ?_
        rw [nI_1]
        refine m_putI (k9 := 20) ha d_Mo_come_102 (fw_Mo_148 rfl) (by rfl) (by rfl) (by rfl) ?_
        rw [sS_sS]
        refine rx_goto (tgt := 54) d_Mo_come_105 (by rfl) ?_
        first | exact go (by rw [c76]; rfl) | exact go (by rw [c92, Bool.and_false])
theorem l_come154 (ha : a = V.2.1 + h1.length) (hN : mN n S) (R : mR S s g) (I : gI Va n s) (hcn : ∀ r, r < s.1 → gC s r = nI (cn s r) ∧ cn s r ≤ 4) {p : Nat → Nat} (hp : mP S s p) (hp4 : ∀ r, r < s.1 → p r ≤ 4) (hb : S.1 20 = nI b) (hbn : b < n) {tk : Bool} (ht : decide (S.1 22 < 0 ∨ 5 < S.1 22) = tk) {y1 : Option Value} {y2 : Int32} (K : ∀ y3 y4, rx_W V (d + 2) kc ks m_Mo_come 248 [some (.ref a), y1, some (.int y2), y3, y4] [] (mw V h1 a (sS S 21 (bi (tk && (fix (fun q => decide (gF s q ≤ b ∧ b ≤ gL s q ∧ p q < cn s q)) 0 s.1).isSome))) h2) Q) :
    ∀ (m q : Nat) (ag : Bool) (y4 : Option Value), q + m = s.1 → (tk && (fix (fun q => decide (gF s q ≤ b ∧ b ≤ gL s q ∧ p q < cn s q)) 0 s.1).isSome) = (ag || (tk && (fix (fun q => decide (gF s q ≤ b ∧ b ≤ gL s q ∧ p q < cn s q)) q m).isSome)) → rx_W V (d + 2) kc ks m_Mo_come 154 [some (.ref a), y1, some (.int y2), some (.int (nI q)), y4] [] (mw V h1 a (sS S 21 (bi ag)) h2) Q := by
  have hn := hN.2
  have hs1 := I.1
  have hs2 := I.2.1
  have e13 : ∀ v, (sS S 21 v).1 13 = nI s.1 := fun _ => R.1
  have e20 : ∀ v, (sS S 21 v).1 20 = nI b := fun _ => hb
  have e22 : ∀ v, (sS S 21 v).1 22 = S.1 22 := fun _ => rfl
  intro m
  induction m with
  | zero =>
    intro q ag y4 hq hz
    have e0 : q = s.1 := by omega
    subst e0
    rw [show (fix (fun q => decide (gF s q ≤ b ∧ b ≤ gL s q ∧ p q < cn s q)) s.1 0).isSome = false from rfl, Bool.and_false, Bool.or_false] at hz
    rw [hz] at K
    refine rx_iload_n d_Mo_come_154 (by rfl) ?_
    refine rx_aload_nr d_Mo_come_155 (by rfl) ?_
    refine rx_getfield d_Mo_come_156 fl_Mo_97 (mr0 ha) (by rfl) ?_
    rw [e13]
    refine rx_icmp_ge (tgt := 248) d_Mo_come_159 (by rfl) (fun c159 => ?_) (fun z => absurd (Int32.le_refl _) z)
    exact K _ _
  | succ m ih =>
    intro q ag y4 hq hz
    have hq9 : q < s.1 := by omega
    have jj := I.2.2.2.2.1 q hq9
    obtain ⟨j1, j2, j3, j4⟩ := R.2 q hq9
    have hi1 : inm (S.2.2 12 q) (gL s q) = true := (j2 _ (by omega)).trans (decide_eq_true jj.2.2.2.2.2)
    have hi2 : ∀ y, gL s q < y → y ≤ 31 → inm (S.2.2 12 q) y = false := fun y h1 h2 => (j2 y h2).trans (decide_eq_false (fun z => by have := (I.2.2.2.2.2.2.1 y q z).2.2.1; omega))
    have go : ∀ ag' y4, ag' = (ag || (tk && decide (gF s q ≤ b ∧ b ≤ gL s q ∧ p q < cn s q))) → tk = true → rx_W V (d + 2) kc ks m_Mo_come 154 [some (.ref a), y1, some (.int y2), some (.int (nI (q + 1))), y4] [] (mw V h1 a (sS S 21 (bi ag')) h2) Q := by
      intro ag' y4 hag htk
      refine ih (q + 1) ag' y4 (by omega) (hz.trans ?_)
      rw [hag, htk, Bool.true_and, Bool.true_and, Bool.true_and, Bool.or_assoc]
      congr 1
      cases z : decide (gF s q ≤ b ∧ b ≤ gL s q ∧ p q < cn s q) with
      | true => rw [fix_yes (Pr := (fun q => decide (gF s q ≤ b ∧ b ≤ gL s q ∧ p q < cn s q))) z]; rfl
      | false => rw [fix_no (Pr := (fun q => decide (gF s q ≤ b ∧ b ≤ gL s q ∧ p q < cn s q))) z]; rfl
    have e206 : ∀ (ar : Int32), tk = true → (¬ ar = 0 ↔ (gF s q ≤ b ∧ b ≤ gL s q)) → rx_W V (d + 2) kc ks m_Mo_come 206 [some (.ref a), y1, some (.int y2), some (.int (nI q)), some (.int ar)] [] (mw V h1 a (sS S 21 (bi ag)) h2) Q := by
      intro ar htk har
      refine rx_aload_nr d_Mo_come_206 (by rfl) ?_
      refine rx_aload_nr d_Mo_come_207 (by rfl) ?_
      refine rx_getfield d_Mo_come_208 fl_Mo_155 (mr0 ha) (by rfl) ?_
      refine rx_if_ne (tgt := 234) d_Mo_come_211 (by rfl) (fun c211 => ?_) (fun c211 => ?_)
      · refine rx_iconst (v := 1) d_Mo_come_234 (by decide) ?_
        refine rx_goto (tgt := 239) d_Mo_come_235 (by rfl) ?_
        refine m_putI (k9 := 21) ha d_Mo_come_239 (fw_Mo_155 rfl) (by rfl) (by rfl) (by rfl) ?_
        rw [sS_sS]
        refine rx_iinc (v := nI (q + 1)) d_Mo_come_242 (by rfl) (i_inc q) ?_
        refine rx_goto (tgt := 154) d_Mo_come_245 (by rfl) ?_
        first
          | exact go true _ (by rw [bi_1.mp c211]; rfl) htk
          | exact go false _ (by rw [bi_0.mp c211, decide_eq_false (fun z => absurd c216 (har.mpr ⟨z.1, z.2.1⟩)), Bool.and_false]; rfl) htk
          | exact go false _ (by rw [bi_0.mp c211, decide_eq_false (fun z => by omega), Bool.and_false]; rfl) htk
          | exact go true _ (by rw [htk, decide_eq_true ⟨(har.mp c216).1, (har.mp c216).2, c231⟩, Bool.true_and, Bool.or_true]) htk
      · refine rx_iload d_Mo_come_214 (by rfl) ?_
        refine rx_if_eq (tgt := 238) d_Mo_come_216 (by rfl) (fun c216 => ?_) (fun c216 => ?_)
        · refine rx_iconst (v := 0) d_Mo_come_238 (by decide) ?_
          refine m_putI (k9 := 21) ha d_Mo_come_239 (fw_Mo_155 rfl) (by rfl) (by rfl) (by rfl) ?_
          rw [sS_sS]
          refine rx_iinc (v := nI (q + 1)) d_Mo_come_242 (by rfl) (i_inc q) ?_
          refine rx_goto (tgt := 154) d_Mo_come_245 (by rfl) ?_
          first
            | exact go true _ (by rw [bi_1.mp c211]; rfl) htk
            | exact go false _ (by rw [bi_0.mp c211, decide_eq_false (fun z => absurd c216 (har.mpr ⟨z.1, z.2.1⟩)), Bool.and_false]; rfl) htk
            | exact go false _ (by rw [bi_0.mp c211, decide_eq_false (fun z => by omega), Bool.and_false]; rfl) htk
            | exact go true _ (by rw [htk, decide_eq_true ⟨(har.mp c216).1, (har.mp c216).2, c231⟩, Bool.true_and, Bool.or_true]) htk
        · refine rx_aload_nr d_Mo_come_219 (by rfl) ?_
          refine rx_getfield d_Mo_come_220 fl_Mo_53 (mr0 ha) (by rfl) ?_
          refine rx_iload_n d_Mo_come_223 (by rfl) ?_
          refine m_ial (j := 15) ha d_Mo_come_224 (by rfl) (by omega) (by decide) ?_
          rw [show (sS S 21 (bi ag)).2.2 15 q = nI (p q) from hp q hq9]
          refine rx_aload_nr d_Mo_come_225 (by rfl) ?_
          refine rx_getfield d_Mo_come_226 fl_Mo_50 (mr0 ha) (by rfl) ?_
          refine rx_iload_n d_Mo_come_229 (by rfl) ?_
          refine m_ial (j := 14) ha d_Mo_come_230 (by rfl) (by omega) (by decide) ?_
          rw [show (sS S 21 (bi ag)).2.2 14 q = nI (cn s q) from j4.trans (hcn q hq9).1]
          refine rx_icmp_ge (tgt := 238) d_Mo_come_231 (by rfl) (fun c231 => ?_) (fun c231 => ?_)
          · have c231 : cn s q ≤ p q := by
              have a1 := (hcn q hq9).2
              have a2 := hp4 q hq9
              rw [i_le, i_n (by omega), i_n (by omega)] at c231; omega
            refine rx_iconst (v := 0) d_Mo_come_238 (by decide) ?_
            refine m_putI (k9 := 21) ha d_Mo_come_239 (fw_Mo_155 rfl) (by rfl) (by rfl) (by rfl) ?_
            rw [sS_sS]
            refine rx_iinc (v := nI (q + 1)) d_Mo_come_242 (by rfl) (i_inc q) ?_
            refine rx_goto (tgt := 154) d_Mo_come_245 (by rfl) ?_
            first
              | exact go true _ (by rw [bi_1.mp c211]; rfl) htk
              | exact go false _ (by rw [bi_0.mp c211, decide_eq_false (fun z => absurd c216 (har.mpr ⟨z.1, z.2.1⟩)), Bool.and_false]; rfl) htk
              | exact go false _ (by rw [bi_0.mp c211, decide_eq_false (fun z => by omega), Bool.and_false]; rfl) htk
              | exact go true _ (by rw [htk, decide_eq_true ⟨(har.mp c216).1, (har.mp c216).2, c231⟩, Bool.true_and, Bool.or_true]) htk
          · have c231 : p q < cn s q := by
              have a1 := (hcn q hq9).2
              have a2 := hp4 q hq9
              rw [i_le, i_n (by omega), i_n (by omega)] at c231; omega
            refine rx_iconst (v := 1) d_Mo_come_234 (by decide) ?_
            refine rx_goto (tgt := 239) d_Mo_come_235 (by rfl) ?_
            refine m_putI (k9 := 21) ha d_Mo_come_239 (fw_Mo_155 rfl) (by rfl) (by rfl) (by rfl) ?_
            rw [sS_sS]
            refine rx_iinc (v := nI (q + 1)) d_Mo_come_242 (by rfl) (i_inc q) ?_
            refine rx_goto (tgt := 154) d_Mo_come_245 (by rfl) ?_
            first
              | exact go true _ (by rw [bi_1.mp c211]; rfl) htk
              | exact go false _ (by rw [bi_0.mp c211, decide_eq_false (fun z => absurd c216 (har.mpr ⟨z.1, z.2.1⟩)), Bool.and_false]; rfl) htk
              | exact go false _ (by rw [bi_0.mp c211, decide_eq_false (fun z => by omega), Bool.and_false]; rfl) htk
              | exact go true _ (by rw [htk, decide_eq_true ⟨(har.mp c216).1, (har.mp c216).2, c231⟩, Bool.true_and, Bool.or_true]) htk
    refine rx_iload_n d_Mo_come_154 (by rfl) ?_
    refine rx_aload_nr d_Mo_come_155 (by rfl) ?_
    refine rx_getfield d_Mo_come_156 fl_Mo_97 (mr0 ha) (by rfl) ?_
    rw [e13]
    refine rx_icmp_ge (tgt := 248) d_Mo_come_159 (by rfl) (fun z => absurd z (nI_ge (by omega) (by omega))) (fun c159 => ?_)
    refine rx_aload_nr d_Mo_come_162 (by rfl) ?_
    refine rx_cV d_Mo_come_163 (by rfl) ml_Mo_151 im_Mo_takes se_Mo_takes (by exact c9_Mo_takes) (mr0 ha) (by rfl) (by exact Nat.le_of_ble_eq_true rfl) (k_takes ha) ?_
    rw [e22, ht]
    refine rx_if_eq (tgt := 248) d_Mo_come_166 (by rfl) (fun c166 => ?_) (fun c166 => ?_)
    · have c166 : tk = false := bi_0.mp c166
      rw [c166, Bool.false_and, Bool.false_and, Bool.or_false] at hz
      rw [c166, Bool.false_and, hz] at K
      exact K _ _
    · have c166 : tk = true := bi_1.mp c166
      refine rx_aload_nr d_Mo_come_169 (by rfl) ?_
      refine rx_getfield d_Mo_come_170 fl_Mo_148 (mr0 ha) (by rfl) ?_
      rw [e20]
      refine rx_aload_nr d_Mo_come_173 (by rfl) ?_
      refine rx_getfield d_Mo_come_174 fl_Mo_41 (mr0 ha) (by rfl) ?_
      refine rx_iload_n d_Mo_come_177 (by rfl) ?_
      refine m_ial (j := 11) ha d_Mo_come_178 (by rfl) (by omega) (by decide) ?_
      rw [show (sS S 21 (bi ag)).2.2 11 q = nI (gF s q) from j1]
      refine rx_icmp_lt (tgt := 203) d_Mo_come_179 (by rfl) (fun c179 => ?_) (fun c179 => ?_)
      · have c179 : b < gF s q := by rw [i_lt, i_n (by omega), i_n (by omega)] at c179; omega
        refine rx_iconst (v := 0) d_Mo_come_203 (by decide) ?_
        refine rx_istore d_Mo_come_204 (Nat.le_of_ble_eq_true rfl) ?_
        first | exact e206 0 c166 ⟨fun z => absurd rfl z, fun z => by omega⟩ | exact e206 1 c166 ⟨fun _ => ⟨c179, c196⟩, fun _ => by decide⟩
      · have c179 : gF s q ≤ b := by rw [i_lt, i_n (by omega), i_n (by omega)] at c179; omega
        refine rx_aload_nr d_Mo_come_182 (by rfl) ?_
        refine rx_getfield d_Mo_come_183 fl_Mo_148 (mr0 ha) (by rfl) ?_
        rw [e20]
        refine rx_aload_nr d_Mo_come_186 (by rfl) ?_
        refine rx_aload_nr d_Mo_come_187 (by rfl) ?_
        refine rx_getfield d_Mo_come_188 fl_Mo_44 (mr0 ha) (by rfl) ?_
        refine rx_iload_n d_Mo_come_191 (by rfl) ?_
        refine m_ial (j := 12) ha d_Mo_come_192 (by rfl) (by omega) (by decide) ?_
        refine rx_cV d_Mo_come_193 (by rfl) ml_Mo_116 im_Mo_highest se_Mo_highest (by exact c9_Mo_highest) (mr0 ha) (by rfl) (by exact Nat.le_of_ble_eq_true rfl) (k_highest (x := gL s q) (by omega) hi1 hi2) ?_
        refine rx_icmp_gt (tgt := 203) d_Mo_come_196 (by rfl) (fun c196 => ?_) (fun c196 => ?_)
        · have c196 : gL s q < b := by rw [i_lt, i_n (by omega), i_n (by omega)] at c196; omega
          refine rx_iconst (v := 0) d_Mo_come_203 (by decide) ?_
          refine rx_istore d_Mo_come_204 (Nat.le_of_ble_eq_true rfl) ?_
          first | exact e206 0 c166 ⟨fun z => absurd rfl z, fun z => by omega⟩ | exact e206 1 c166 ⟨fun _ => ⟨c179, c196⟩, fun _ => by decide⟩
        · have c196 : b ≤ gL s q := by rw [i_lt, i_n (by omega), i_n (by omega)] at c196; omega
          refine rx_iconst (v := 1) d_Mo_come_199 (by decide) ?_
          refine rx_goto (tgt := 204) d_Mo_come_200 (by rfl) ?_
          refine rx_istore d_Mo_come_204 (Nat.le_of_ble_eq_true rfl) ?_
          first | exact e206 0 c166 ⟨fun z => absurd rfl z, fun z => by omega⟩ | exact e206 1 c166 ⟨fun _ => ⟨c179, c196⟩, fun _ => by decide⟩
/-- what holds after come -/
def cmP (V : rx_V) (h1 : List va_E) (a : Nat) (S : mT) (h2 : List va_E) (s : gT) (g : Nat → Option Nat) (b k9 : Nat) (p' : Nat → Nat) (ag : Bool) (h' : List va_E) : Prop :=
  ∃ S', h' = mw V h1 a S' h2 ∧ mE S S' ∧ mR S' s g ∧ mP S' s p' ∧ S'.1 22 = S.1 22 ∧ S'.1 23 = S.1 23 ∧ S'.1 20 = nI b ∧ S'.1 21 = bi ag ∧ S'.1 24 = nI (k9 + 1) ∧ S'.2.2 16 = up (S.2.2 16) k9 (nI b)
theorem l_come147 (ha : a = V.2.1 + h1.length) (hN : mN n S) (R : mR S s g) (I : gI Va n s) (hcn : ∀ r, r < s.1 → gC s r = nI (cn s r) ∧ cn s r ≤ 4) {p : Nat → Nat} (hp : mP S s p) (hp4 : ∀ r, r < s.1 → p r ≤ 4) (hb : S.1 20 = nI b) (hbn : b < n) {tk : Bool} (ht : decide (S.1 22 < 0 ∨ 5 < S.1 22) = tk) (hk : S.1 24 = nI k9) (hk4 : k9 < 400) {y1 y3 y4 : Option Value} {y2 : Int32} :
    rx_W V (d + 2) kc ks m_Mo_come 147 [some (.ref a), y1, some (.int y2), y3, y4] [] (mw V h1 a S h2) (fun r9 h' => r9 = .inl none ∧ cmP V h1 a S h2 s g b k9 p (tk && (fix (fun q => decide (gF s q ≤ b ∧ b ≤ gL s q ∧ p q < cn s q)) 0 s.1).isSome) h') := by
  have R9 : ∀ v, mR (sS S 21 v) s g := fun _ => R
  have K1 : ∀ y3 y4, rx_W V (d + 2) kc ks m_Mo_come 248 [some (.ref a), y1, some (.int y2), y3, y4] [] (mw V h1 a (sS S 21 (bi (tk && (fix (fun q => decide (gF s q ≤ b ∧ b ≤ gL s q ∧ p q < cn s q)) 0 s.1).isSome))) h2) (fun r9 h' => r9 = .inl none ∧ cmP V h1 a S h2 s g b k9 p (tk && (fix (fun q => decide (gF s q ≤ b ∧ b ≤ gL s q ∧ p q < cn s q)) 0 s.1).isSome) h') := by
    intro y3 y4
    generalize (tk && (fix (fun q => decide (gF s q ≤ b ∧ b ≤ gL s q ∧ p q < cn s q)) 0 s.1).isSome) = ag
    refine rx_aload_nr d_Mo_come_248 (by rfl) ?_
    refine rx_getfield d_Mo_come_249 fl_Mo_56 (mr0 ha) (by rfl) ?_
    refine rx_aload_nr d_Mo_come_252 (by rfl) ?_
    refine rx_getfield d_Mo_come_253 fl_Mo_159 (mr0 ha) (by rfl) ?_
    rw [show (sS S 21 (bi ag)).1 24 = nI k9 from hk]
    refine rx_aload_nr d_Mo_come_256 (by rfl) ?_
    refine rx_getfield d_Mo_come_257 fl_Mo_148 (mr0 ha) (by rfl) ?_
    rw [show (sS S 21 (bi ag)).1 20 = nI b from hb]
    refine m_ias (j := 16) ha d_Mo_come_260 (by rfl) (by omega) (by decide) (by rfl) (by decide) ?_
    refine rx_aload_nr d_Mo_come_261 (by rfl) ?_
    refine rx_dup d_Mo_come_262 (by rfl) ?_
    refine rx_getfield d_Mo_come_263 fl_Mo_159 (mr0 ha) (by rfl) ?_
    rw [show ∀ x, (sA (sS S 21 (bi ag)) 16 k9 x).1 24 = nI k9 from fun _ => hk]
    refine rx_iconst (v := 1) d_Mo_come_266 (by decide) ?_
    refine rx_iadd d_Mo_come_267 ?_
    rw [nI_1]
    refine m_putI (k9 := 24) ha d_Mo_come_268 (fw_Mo_159 rfl) (by rfl) (by rfl) (by rfl) ?_
    refine rx_vreturn d_Mo_come_271 (by rfl) ?_
    exact ⟨rfl, _, rfl, mE.sS (mE.sA (mE.sS mE.refl (by decide) (by decide) (by decide)) (by decide)) (by decide) (by decide) (by decide), R.o rfl (fun j h1 h2 => up_o (show j ≠ 16 by omega)), hp, rfl, rfl, hb, rfl, rfl, rfl⟩
  refine rx_aload_nr d_Mo_come_147 (by rfl) ?_
  refine rx_iconst (v := 0) d_Mo_come_148 (by decide) ?_
  refine m_putI (k9 := 21) ha d_Mo_come_149 (fw_Mo_155 rfl) (by rfl) (by rfl) (by rfl) ?_
  refine rx_iconst (v := 0) d_Mo_come_152 (by decide) ?_
  refine rx_istore_n d_Mo_come_153 (Nat.le_of_ble_eq_true rfl) ?_
  exact l_come154 ha hN R I hcn hp hp4 hb hbn ht K1 s.1 0 false _ (by omega) (Bool.false_or _).symm
end MC
