/-! the law's calls -/
def lwS (V : rx_V) (A ra : Nat → Nat) (n a : Nat) (na : Nat → Nat) (Le Te Va : Nat → Int32) (num : Nat) (NS : Nat → Nat → Int32) (S : mT) (fo : Nat → Int64) (h : List va_E) : Prop := (∃ kn kp, is_cl V h A ra na n Le Te Va num NS kn kp) ∧ (∃ h1 h2, h = mw V h1 a S h2 ∧ a = V.2.1 + h1.length) ∧ rx_rd V h (a + 17) = some (.inl (V.2.2.2.1 1, 1, .inr (.inl fo))) ∧ (∀ i, i < num → a + 17 < na i)
/-- the law's invariant -/
def lwI (V : rx_V) (A ra : Nat → Nat) (n a : Nat) (h : List va_E) : Prop := ∃ na Le Te Va num NS S fo, lwS V A ra n a na Le Te Va num NS S fo h ∧ mA n Le Te Va num NS S
def lwA (A ra : Nat → Nat) (n a : Nat) : Prop := (∀ i, i < 16 → A i < a) ∧ ∀ r, r < n → ra r < a
theorem lw_d {A ra na : Nat → Nat} {n a num : Nat} (hA : lwA A ra n a) (hna : ∀ i, i < num → a + 17 < na i) : ∀ q, fp_c A ra na n num q → q < a ∨ a + 17 < q := by
  rintro q (⟨i, hi, rfl⟩ | ⟨r, hr, rfl⟩ | ⟨i, hi, rfl⟩)
  · exact Or.inl (hA.1 i hi)
  · exact Or.inl (hA.2 r hr)
  · exact Or.inr (hna i hi)
theorem mw_of {V : rx_V} {h : List va_E} {a : Nat} {S : mT} (hz : V.2.1 ≤ a) (hr : ∀ j, j < 17 → rx_rd V h (a + j) = (mc V a S)[j]?) : ∃ h1 h2, h = mw V h1 a S h2 ∧ a = V.2.1 + h1.length := by
  have hl : (mc V a S).length = 17 := rfl
  have hg : ∀ j, j < 17 → h[a - V.2.1 + j]? = (mc V a S)[j]? := by
    intro j hj
    have := hr j hj
    unfold rx_rd at this
    rw [if_pos (by omega), show a + j - V.2.1 = a - V.2.1 + j by omega] at this
    exact this
  have hk : a - V.2.1 + 16 < h.length := by
    have := hg 16 (by omega)
    rw [List.getElem?_eq_getElem (show 16 < (mc V a S).length by omega)] at this
    exact (List.getElem?_eq_some_iff.mp this).1
  refine ⟨h.take (a - V.2.1), h.drop (a - V.2.1 + 17), ?_, by rw [List.length_take]; omega⟩
  unfold mw
  apply List.ext_getElem?
  intro i
  by_cases c1 : i < a - V.2.1
  · rw [List.getElem?_append_left (by rw [List.length_take]; omega), List.getElem?_take, if_pos c1]
  · rw [List.getElem?_append_right (by rw [List.length_take]; omega), List.length_take, show min (a - V.2.1) h.length = a - V.2.1 by omega]
    by_cases c2 : i < a - V.2.1 + 17
    · rw [List.getElem?_append_left (by omega), ← hg (i - (a - V.2.1)) (by omega), show a - V.2.1 + (i - (a - V.2.1)) = i by omega]
    · rw [List.getElem?_append_right (by omega), List.getElem?_drop, hl, show a - V.2.1 + 17 + (i - (a - V.2.1) - 17) = i by omega]
theorem mw_rd {V : rx_V} {h1 h2 : List va_E} {a : Nat} {S : mT} (ha : a = V.2.1 + h1.length) : ∀ j, j < 17 → rx_rd V (mw V h1 a S h2) (a + j) = (mc V a S)[j]? := by
  intro j hj
  have hl : (mc V a S).length = 17 := rfl
  rw [List.getElem?_eq_getElem (show j < (mc V a S).length by omega)]
  exact mrd ha (List.getElem?_eq_getElem _)
theorem mw_fr {V : rx_V} {h1 h2 : List va_E} {a : Nat} {S S' : mT} (ha : a = V.2.1 + h1.length) : rx_fr V (mw V h1 a S h2) (mw V h1 a S' h2) (fun q => a ≤ q ∧ q ≤ a + 16) := by
  have l1 : (mc V a S).length = 17 := rfl
  have l2 : (mc V a S').length = 17 := rfl
  refine ⟨by unfold mw; simp only [List.length_append, l1, l2], fun q hq => ?_⟩
  unfold rx_rd mw
  by_cases c : V.2.1 ≤ q
  · rw [if_pos c, if_pos c]
    by_cases c1 : q < a
    · rw [List.getElem?_append_left (by omega), List.getElem?_append_left (by omega)]
    · rw [List.getElem?_append_right (by omega), List.getElem?_append_right (by omega), List.getElem?_append_right (by omega), List.getElem?_append_right (by omega), l1, l2]
  · rw [if_neg c, if_neg c]
section LW
variable {V : rx_V} {d kc ks b L a n i : Nat} {xs : Nat → Int32} {A ra na : Nat → Nat} {h : List va_E} {Q : rx_R → List va_E → Prop} {Le Te Va : Nat → Int32} {num : Nat} {NS : Nat → Nat → Int32} {S S' : mT} {fo : Nat → Int64} {y5 y6 y7 : Option Value}
theorem lwS.cl (H : lwS V A ra n a na Le Te Va num NS S fo h) (hA : lwA A ra n a) {na' : Nat → Nat} {Le' Te' Va' : Nat → Int32} {num' : Nat} {NS' : Nat → Nat → Int32} {h' : List va_E} (Z : cPr V h A ra na n num na' Le' Te' Va' num' NS' h') (hna' : ∀ i, i < num' → a + 17 < na' i) : lwS V A ra n a na' Le' Te' Va' num' NS' S fo h' := by
  obtain ⟨-, ⟨h1, h2, rfl, ha⟩, ho, hna⟩ := H
  have hd9 := lw_d hA hna
  refine ⟨Z.1, mw_of (by omega) (fun j hj => ?_), oO ho hd9 h' Z, hna'⟩
  have hl : (mc V a S).length = 17 := rfl
  rw [List.getElem?_eq_getElem (show j < (mc V a S).length by omega)]
  exact Z.2.1.2 _ _ (fun y => by have := hd9 _ y; omega) (mrd ha (List.getElem?_eq_getElem _))
theorem lwS.out (H : lwS V A ra n a na Le Te Va num NS S fo h) (hA : lwA A ra n a) {x : Int64} {c : va_E} (hc : outc V x c) : ∃ fo', fo' (0 : Int32).toNatClampNeg = x ∧ lwS V A ra n a na Le Te Va num NS S fo' (rx_wr V h (a + 17) c) := by
  obtain ⟨⟨kn, kp, C⟩, ⟨h1, h2, rfl, ha⟩, ho, hna⟩ := H
  obtain ⟨fo', rfl, hx⟩ := hc
  have hd9 := lw_d hA hna
  refine ⟨fo', hx, ⟨kn, kp, C.gr (rx_fr.wr (FP := fun q => q = a + 17) ho rfl).gr (fun q hq e => by have := hd9 q hq; omega)⟩, mw_of (by omega) (fun j hj => ?_), rx_rd_wr ho, hna⟩
  rw [rx_rd_wn ho (by omega)]
  exact mw_rd ha j hj
theorem lwS.mo {h1 h2 : List va_E} (H : lwS V A ra n a na Le Te Va num NS S fo (mw V h1 a S h2)) (ha : a = V.2.1 + h1.length) (hA : lwA A ra n a) : lwS V A ra n a na Le Te Va num NS S' fo (mw V h1 a S' h2) := by
  obtain ⟨⟨kn, kp, C⟩, -, ho, hna⟩ := H
  have hd9 := lw_d hA hna
  have f := mw_fr (h2 := h2) (S := S) (S' := S') ha
  exact ⟨⟨kn, kp, C.gr f.gr (fun q hq e => by have := hd9 q hq; omega)⟩, ⟨h1, h2, rfl, ha⟩, (f.2 (a + 17) (by omega)).trans ho, hna⟩
theorem lwS.wp (H : lwS V A ra n a na Le Te Va num NS S fo h) (hA : lwA A ra n a) {code : Int32} {x : Int64} {na' : Nat → Nat} {Le' Te' Va' : Nat → Int32} {num' : Nat} {NS' : Nat → Nat → Int32} {h' : List va_E} (Z : ∃ h1, cPr V h A ra na n num na' Le' Te' Va' num' NS' h1 ∧ ((code ≠ 0 ∧ h' = h1) ∨ (code = 0 ∧ ∃ c, outc V x c ∧ h' = rx_wr V h1 (a + 17) c))) (hna' : ∀ i, i < num' → a + 17 < na' i) : ∃ fo', lwS V A ra n a na' Le' Te' Va' num' NS' S fo' h' ∧ (code = 0 → fo' (0 : Int32).toNatClampNeg = x) := by
  obtain ⟨h1, z1, ⟨z2, rfl⟩ | ⟨z2, c, z3, rfl⟩⟩ := Z
  · exact ⟨fo, H.cl hA z1 hna', fun e => absurd e z2⟩
  · obtain ⟨fo', e1, e2⟩ := (H.cl hA z1 hna').out hA z3
    exact ⟨fo', e2, fun _ => e1⟩
theorem lg_self (x : Int64) : lg_cmp x x = 0 := by
  have h1 := (lg_ge0 x x).mpr (Int64.lt_irrefl)
  have h2 := (lg_le0 x x).mpr (Int64.lt_irrefl)
  rw [i_le, i_0] at h1 h2
  exact Int32.toInt_inj.mp (by rw [i_0]; omega)
theorem rx_okVk {M y : rx_T} {pc : Nat} {L : rx_L} {St Sr As : List Value} {P9 : List va_E → Prop} {index : Nat} {v0 : Option Value} {b ci : Nat} {fs : List Value} {r : vw_C} (hd : decode M.2.1 pc = .ok (.invokevirtual index, 3)) (hc : rx_cl[ci]? = some r) (w1 : Cond.methodLink M.1.cls index y.1 ∈ rx_tbl) (w2 : Cond.instanceMethod y.1 ∈ rx_tbl) (w3 : Cond.selects r.1 y.1 y.1 ∈ rx_tbl) (hcl : rx_cl9 y As.length (lg_sl (.ref b :: As)).length)
    (he : rx_rd V h b = some (.inr (ci, fs))) (hS : St = As.reverse ++ .ref b :: Sr) (hw8 : (Sr.map fun v => v.category).sum ≤ 8) (K : rx_C V d 1 6 y (.ref b :: As) h (fun r h' => r = .inl v0 ∧ P9 h')) (k : ∀ h1, P9 h1 → rx_W V (d + 1) kc ks M (pc + 3) L (v0.toList ++ Sr) h1 Q) : rx_W V (d + 1) (1 + kc) (6 + ks) M pc L St h Q :=
  rx_callV (mc := 1) (ms := 6) hd hc w1 w2 w3 hcl he hS hw8 K (fun E' h1 z => nomatch z.1) (fun v h1 z => by obtain ⟨z1, z2⟩ := z; cases z1; exact k h1 z2)
theorem la_bar (htr : V.1.stackTraces = false) (hq : (b, L, xs) ∈ V.2.2.2.2) (hL : L ≤ 3585) (hA : lwA A ra n a) (hi : i + 7 ≤ L) (I : lwI V A ra n a h) (K : ∀ h' y5 y6 y7, lwI V A ra n a h' → rx_W V (d + 10) kc ks m_La_law 1062 [some (.ref b), some (.ref (A 0)), some (.ref a), some (.ref (a + 17)), some (.int (nI i)), y5, y6, y7] [] h' Q) : rx_W V (d + 10) (1 + kc) (6 + ks) m_La_law 124 [some (.ref b), some (.ref (A 0)), some (.ref a), some (.ref (a + 17)), some (.int (nI i)), y5, y6, y7] [] h Q := by
  obtain ⟨na, Le, Te, Va, num, NS, S, fo, H, m⟩ := I
  obtain ⟨⟨kn, kp, C⟩, ⟨h8, h9, e8, ha8⟩, ho, hna⟩ := id H
  have hd9 := lw_d hA hna
  obtain ⟨code, Le', Te', pw, pm⟩ := p_bar (d := d) htr C m (xs (i + 1)) (xs (i + 2)) (xs (i + 3))
  refine rx_aload_nr d_La_law_124 (by rfl) ?_
  refine rx_aload_nr d_La_law_125 (by rfl) ?_
  refine rx_iload d_La_law_126 (by rfl) ?_
  refine rx_iconst (v := 1) d_La_law_128 (by decide) ?_
  refine rx_iadd d_La_law_129 ?_
  rw [show nI i + 1 = nI (i + 1) from nI_add i 1]
  refine rx_ialoadX d_La_law_130 hq (vp_in_nI (by omega) (by omega)) ?_
  rw [i_cl (by omega)]
  refine rx_aload_nr d_La_law_131 (by rfl) ?_
  refine rx_iload d_La_law_132 (by rfl) ?_
  refine rx_iconst (v := 2) d_La_law_134 (by decide) ?_
  refine rx_iadd d_La_law_135 ?_
  rw [show nI i + 2 = nI (i + 2) from nI_add i 2]
  refine rx_ialoadX d_La_law_136 hq (vp_in_nI (by omega) (by omega)) ?_
  rw [i_cl (by omega)]
  refine rx_aload_nr d_La_law_137 (by rfl) ?_
  refine rx_iload d_La_law_138 (by rfl) ?_
  refine rx_iconst (v := 3) d_La_law_140 (by decide) ?_
  refine rx_iadd d_La_law_141 ?_
  rw [show nI i + 3 = nI (i + 3) from nI_add i 3]
  refine rx_ialoadX d_La_law_142 hq (vp_in_nI (by omega) (by omega)) ?_
  rw [i_cl (by omega)]
  refine rx_okSW d_La_law_143 ml_La_71 st_La_bar cw_La_bar (rx_in 0 (by decide +kernel) (by decide +kernel)) (by decide +kernel) (by decide +kernel) (by exact hl_La_bar) (by exact Nat.le_of_ble_eq_true rfl) (by decide +kernel) (by rfl) (by exact Nat.le_of_ble_eq_true rfl) pw ?_
  intro hw zw
  have H2 := H.cl hA zw hna
  obtain ⟨-, ⟨h1, h2, rfl, ha⟩, ho2, -⟩ := id H2
  refine rx_istore d_La_law_146 (Nat.le_of_ble_eq_true rfl) ?_
  refine rx_aload_nr d_La_law_148 (by rfl) ?_
  refine rx_aload_nr d_La_law_149 (by rfl) ?_
  refine rx_iload d_La_law_150 (by rfl) ?_
  refine rx_iconst (v := 1) d_La_law_152 (by decide) ?_
  refine rx_iadd d_La_law_153 ?_
  rw [show nI i + 1 = nI (i + 1) from nI_add i 1]
  refine rx_ialoadX d_La_law_154 hq (vp_in_nI (by omega) (by omega)) ?_
  rw [i_cl (by omega)]
  refine rx_aload_nr d_La_law_155 (by rfl) ?_
  refine rx_iload d_La_law_156 (by rfl) ?_
  refine rx_iconst (v := 2) d_La_law_158 (by decide) ?_
  refine rx_iadd d_La_law_159 ?_
  rw [show nI i + 2 = nI (i + 2) from nI_add i 2]
  refine rx_ialoadX d_La_law_160 hq (vp_in_nI (by omega) (by omega)) ?_
  rw [i_cl (by omega)]
  refine rx_aload_nr d_La_law_161 (by rfl) ?_
  refine rx_iload d_La_law_162 (by rfl) ?_
  refine rx_iconst (v := 3) d_La_law_164 (by decide) ?_
  refine rx_iadd d_La_law_165 ?_
  rw [show nI i + 3 = nI (i + 3) from nI_add i 3]
  refine rx_ialoadX d_La_law_166 hq (vp_in_nI (by omega) (by omega)) ?_
  rw [i_cl (by omega)]
  refine rx_pV d_La_law_167 (by rfl) ml_La_74 im_Mo_bar se_Mo_bar (by exact c9_Mo_bar) (mr0 ha) (by rfl) (by exact Nat.le_of_ble_eq_true rfl) (rx_more (pm h1 h2 ha) (Nat.le_succ _) (Nat.le_refl _) (Nat.le_refl _)) ?_
  intro hm z9
  obtain ⟨S', rfl, cS, mS⟩ := z9
  refine rx_aload_nr d_La_law_170 (by rfl) ?_
  refine rx_cV d_La_law_171 (by rfl) ml_La_75 im_Mo_thrown se_Mo_thrown (by exact c9_Mo_thrown) (mr0 ha) (by rfl) (by exact Nat.le_of_ble_eq_true rfl) (k_thrown ha) ?_
  rw [cS]
  refine rx_iload d_La_law_174 (by rfl) ?_
  refine rx_icmp_eq (tgt := 181) d_La_law_176 (by rfl) (fun c176 => ?_) (fun z => absurd rfl z)
  refine rx_goto (tgt := 1062) d_La_law_181 (by rfl) ?_
  exact K _ _ _ _ ⟨na, Le', Te', Va, num, NS, S', fo, H2.mo ha hA, mS⟩
theorem la_sign (htr : V.1.stackTraces = false) (hq : (b, L, xs) ∈ V.2.2.2.2) (hL : L ≤ 3585) {l1 l2 : Nat} {fl fm : Nat → Int32} (e1 : V.2.2.2.2[1]? = some (l1, 10, fl)) (e2 : V.2.2.2.2[2]? = some (l2, 10, fm)) (f1 : ∀ k, k < 10 → fl k = lsF k) (f2 : ∀ k, k < 10 → fm k = msF k) (hA : lwA A ra n a) (hi : i + 7 ≤ L) (I : lwI V A ra n a h) (K : ∀ h' y5 y6 y7, lwI V A ra n a h' → rx_W V (d + 10) kc ks m_La_law 1062 [some (.ref b), some (.ref (A 0)), some (.ref a), some (.ref (a + 17)), some (.int (nI i)), y5, y6, y7] [] h' Q) : rx_W V (d + 10) (1 + kc) (6 + ks) m_La_law 184 [some (.ref b), some (.ref (A 0)), some (.ref a), some (.ref (a + 17)), some (.int (nI i)), y5, y6, y7] [] h Q := by
  obtain ⟨na, Le, Te, Va, num, NS, S, fo, H, m⟩ := I
  obtain ⟨⟨kn, kp, C⟩, ⟨h8, h9, e8, ha8⟩, ho, hna⟩ := id H
  have hd9 := lw_d hA hna
  obtain ⟨code, v, Va', pw, pm⟩ := p_sign (d := d) htr C m ho hd9 e1 e2 f1 f2 (xs (i + 1)) (xs (i + 2)) (xs (i + 3))
  refine rx_aload_nr d_La_law_184 (by rfl) ?_
  refine rx_aload_nr d_La_law_185 (by rfl) ?_
  refine rx_iload d_La_law_186 (by rfl) ?_
  refine rx_iconst (v := 1) d_La_law_188 (by decide) ?_
  refine rx_iadd d_La_law_189 ?_
  rw [show nI i + 1 = nI (i + 1) from nI_add i 1]
  refine rx_ialoadX d_La_law_190 hq (vp_in_nI (by omega) (by omega)) ?_
  rw [i_cl (by omega)]
  refine rx_aload_nr d_La_law_191 (by rfl) ?_
  refine rx_iload d_La_law_192 (by rfl) ?_
  refine rx_iconst (v := 2) d_La_law_194 (by decide) ?_
  refine rx_iadd d_La_law_195 ?_
  rw [show nI i + 2 = nI (i + 2) from nI_add i 2]
  refine rx_ialoadX d_La_law_196 hq (vp_in_nI (by omega) (by omega)) ?_
  rw [i_cl (by omega)]
  refine rx_aload_nr d_La_law_197 (by rfl) ?_
  refine rx_iload d_La_law_198 (by rfl) ?_
  refine rx_iconst (v := 3) d_La_law_200 (by decide) ?_
  refine rx_iadd d_La_law_201 ?_
  rw [show nI i + 3 = nI (i + 3) from nI_add i 3]
  refine rx_ialoadX d_La_law_202 hq (vp_in_nI (by omega) (by omega)) ?_
  rw [i_cl (by omega)]
  refine rx_aload_nr d_La_law_203 (by rfl) ?_
  refine rx_okSW d_La_law_204 ml_La_79 st_La_sign cw_La_sign (rx_in 0 (by decide +kernel) (by decide +kernel)) (by decide +kernel) (by decide +kernel) (by exact hl_La_sign) (by exact Nat.le_of_ble_eq_true rfl) (by decide +kernel) (by rfl) (by exact Nat.le_of_ble_eq_true rfl) pw ?_
  intro hw zw
  obtain ⟨fo2, H2, ex⟩ := H.wp hA zw hna
  obtain ⟨-, ⟨h1, h2, rfl, ha⟩, ho2, -⟩ := id H2
  refine rx_istore d_La_law_207 (Nat.le_of_ble_eq_true rfl) ?_
  refine rx_aload_nr d_La_law_209 (by rfl) ?_
  refine rx_aload_nr d_La_law_210 (by rfl) ?_
  refine rx_iload d_La_law_211 (by rfl) ?_
  refine rx_iconst (v := 1) d_La_law_213 (by decide) ?_
  refine rx_iadd d_La_law_214 ?_
  rw [show nI i + 1 = nI (i + 1) from nI_add i 1]
  refine rx_ialoadX d_La_law_215 hq (vp_in_nI (by omega) (by omega)) ?_
  rw [i_cl (by omega)]
  refine rx_aload_nr d_La_law_216 (by rfl) ?_
  refine rx_iload d_La_law_217 (by rfl) ?_
  refine rx_iconst (v := 2) d_La_law_219 (by decide) ?_
  refine rx_iadd d_La_law_220 ?_
  rw [show nI i + 2 = nI (i + 2) from nI_add i 2]
  refine rx_ialoadX d_La_law_221 hq (vp_in_nI (by omega) (by omega)) ?_
  rw [i_cl (by omega)]
  refine rx_aload_nr d_La_law_222 (by rfl) ?_
  refine rx_iload d_La_law_223 (by rfl) ?_
  refine rx_iconst (v := 3) d_La_law_225 (by decide) ?_
  refine rx_iadd d_La_law_226 ?_
  rw [show nI i + 3 = nI (i + 3) from nI_add i 3]
  refine rx_ialoadX d_La_law_227 hq (vp_in_nI (by omega) (by omega)) ?_
  rw [i_cl (by omega)]
  refine rx_pV d_La_law_228 (by rfl) ml_La_82 im_Mo_sign se_Mo_sign (by exact c9_Mo_sign) (mr0 ha) (by rfl) (by exact Nat.le_of_ble_eq_true rfl) (rx_more (pm h1 h2 ha) (Nat.le_succ _) (Nat.le_refl _) (Nat.le_refl _)) ?_
  intro hm z9
  obtain ⟨S', rfl, cS, mS⟩ := z9
  refine rx_istore d_La_law_231 (Nat.le_of_ble_eq_true rfl) ?_
  refine rx_aload_nr d_La_law_233 (by rfl) ?_
  refine rx_cV d_La_law_234 (by rfl) ml_La_75 im_Mo_thrown se_Mo_thrown (by exact c9_Mo_thrown) (mr0 ha) (by rfl) (by exact Nat.le_of_ble_eq_true rfl) (k_thrown ha) ?_
  rw [cS]
  refine rx_iload d_La_law_237 (by rfl) ?_
  refine rx_icmp_eq (tgt := 244) d_La_law_239 (by rfl) (fun c239 => ?_) (fun z => absurd rfl z)
  refine rx_iload d_La_law_244 (by rfl) ?_
  refine rx_if_ne (tgt := 268) d_La_law_246 (by rfl) (fun c246 => ?_) (fun c246 => ?_)
  · refine rx_goto (tgt := 1062) d_La_law_268 (by rfl) ?_
    exact K _ _ _ _ ⟨na, Le, Te, Va', num, NS, S', fo2, H2.mo ha hA, mS⟩
  · refine rx_aload_nr d_La_law_249 (by rfl) ?_
    refine rx_iconst (v := 0) d_La_law_250 (by decide) ?_
    refine rx_laload d_La_law_251 (by rfl) ((mw_fr (h2 := h2) (S := S) (S' := S') ha).2 (a + 17) (by omega) |>.trans ho2) vp_01 ?_
    rw [ex c246]
    refine rx_iload d_La_law_252 (by rfl) ?_
    refine rx_if_eq (tgt := 261) d_La_law_254 (by rfl) (fun c254 => ?_) (fun c254 => ?_)
    · have cv : v = false := bi_0.mp c254
      subst cv
      refine rx_lconst (v := 0) d_La_law_261 (by decide) ?_
      refine rx_lcmp d_La_law_262 ?_
      refine rx_if_eq (tgt := 268) d_La_law_263 (by rfl) (fun c263 => ?_) (fun z => absurd (lg_self _) z)
      refine rx_goto (tgt := 1062) d_La_law_268 (by rfl) ?_
      exact K _ _ _ _ ⟨na, Le, Te, Va', num, NS, S', fo2, H2.mo ha hA, mS⟩
    · have cv : v = true := bi_1.mp c254
      subst cv
      refine rx_lconst (v := 1) d_La_law_257 (by decide) ?_
      refine rx_goto (tgt := 262) d_La_law_258 (by rfl) ?_
      refine rx_lcmp d_La_law_262 ?_
      refine rx_if_eq (tgt := 268) d_La_law_263 (by rfl) (fun c263 => ?_) (fun z => absurd (lg_self _) z)
      refine rx_goto (tgt := 1062) d_La_law_268 (by rfl) ?_
      exact K _ _ _ _ ⟨na, Le, Te, Va', num, NS, S', fo2, H2.mo ha hA, mS⟩
theorem la_signAt (htr : V.1.stackTraces = false) (hq : (b, L, xs) ∈ V.2.2.2.2) (hL : L ≤ 3585) (hA : lwA A ra n a) (hi : i + 7 ≤ L) (I : lwI V A ra n a h) (K : ∀ h' y5 y6 y7, lwI V A ra n a h' → rx_W V (d + 10) kc ks m_La_law 1062 [some (.ref b), some (.ref (A 0)), some (.ref a), some (.ref (a + 17)), some (.int (nI i)), y5, y6, y7] [] h' Q) : rx_W V (d + 10) (1 + kc) (6 + ks) m_La_law 271 [some (.ref b), some (.ref (A 0)), some (.ref a), some (.ref (a + 17)), some (.int (nI i)), y5, y6, y7] [] h Q := by
  obtain ⟨na, Le, Te, Va, num, NS, S, fo, H, m⟩ := I
  obtain ⟨⟨kn, kp, C⟩, ⟨h8, h9, e8, ha8⟩, ho, hna⟩ := id H
  have hd9 := lw_d hA hna
  obtain ⟨fs, c0⟩ := C.c0
  refine rx_aload_nr d_La_law_271 (by rfl) ?_
  refine rx_aload_nr d_La_law_272 (by rfl) ?_
  refine rx_iload d_La_law_273 (by rfl) ?_
  refine rx_iconst (v := 1) d_La_law_275 (by decide) ?_
  refine rx_iadd d_La_law_276 ?_
  rw [show nI i + 1 = nI (i + 1) from nI_add i 1]
  refine rx_ialoadX d_La_law_277 hq (vp_in_nI (by omega) (by omega)) ?_
  rw [i_cl (by omega)]
  refine rx_aload_nr d_La_law_278 (by rfl) ?_
  refine rx_iload d_La_law_279 (by rfl) ?_
  refine rx_iconst (v := 2) d_La_law_281 (by decide) ?_
  refine rx_iadd d_La_law_282 ?_
  rw [show nI i + 2 = nI (i + 2) from nI_add i 2]
  refine rx_ialoadX d_La_law_283 hq (vp_in_nI (by omega) (by omega)) ?_
  rw [i_cl (by omega)]
  refine rx_okVk d_La_law_284 (by rfl) ml_La_83 im_SR_signAt se_SR_signAt (by exact c9_SR_signAt) c0 (by rfl) (by exact Nat.le_of_ble_eq_true rfl) (c_signAt (d := d + 1) C (xs (i + 1)) (xs (i + 2))) ?_
  intro hw zw
  have H2 := H.cl hA zw hna
  have fo2 := fo
  obtain ⟨-, ⟨h1, h2, rfl, ha⟩, ho2, -⟩ := id H2
  refine rx_aload_nr d_La_law_287 (by rfl) ?_
  refine rx_aload_nr d_La_law_288 (by rfl) ?_
  refine rx_iload d_La_law_289 (by rfl) ?_
  refine rx_iconst (v := 1) d_La_law_291 (by decide) ?_
  refine rx_iadd d_La_law_292 ?_
  rw [show nI i + 1 = nI (i + 1) from nI_add i 1]
  refine rx_ialoadX d_La_law_293 hq (vp_in_nI (by omega) (by omega)) ?_
  rw [i_cl (by omega)]
  refine rx_aload_nr d_La_law_294 (by rfl) ?_
  refine rx_iload d_La_law_295 (by rfl) ?_
  refine rx_iconst (v := 2) d_La_law_297 (by decide) ?_
  refine rx_iadd d_La_law_298 ?_
  rw [show nI i + 2 = nI (i + 2) from nI_add i 2]
  refine rx_ialoadX d_La_law_299 hq (vp_in_nI (by omega) (by omega)) ?_
  rw [i_cl (by omega)]
  refine rx_pV d_La_law_300 (by rfl) ml_La_86 im_Mo_signAt se_Mo_signAt (by exact c9_Mo_signAt) (mr0 ha) (by rfl) (by exact Nat.le_of_ble_eq_true rfl) (rx_cons (k_signAt (d := d + 1) ha m.1 (xs (i + 1)) (xs (i + 2))) (fun r h' z => z)) ?_
  intro hm z9
  obtain ⟨S', rfl, E9, -⟩ := z9
  have mS := m.e2 E9
  rw [m.2.2.1]
  refine rx_icmp_eq (tgt := 1062) d_La_law_303 (by rfl) (fun c303 => ?_) (fun z => absurd rfl z)
  exact K _ _ _ _ ⟨na, Le, Te, Va, num, NS, S', fo, H2.mo ha hA, mS⟩
theorem la_note (htr : V.1.stackTraces = false) (hq : (b, L, xs) ∈ V.2.2.2.2) (hL : L ≤ 3585) (hA : lwA A ra n a) (hi : i + 7 ≤ L) (I : lwI V A ra n a h) (K : ∀ h' y5 y6 y7, lwI V A ra n a h' → rx_W V (d + 10) kc ks m_La_law 1062 [some (.ref b), some (.ref (A 0)), some (.ref a), some (.ref (a + 17)), some (.int (nI i)), y5, y6, y7] [] h' Q) : rx_W V (d + 10) (1 + kc) (6 + ks) m_La_law 308 [some (.ref b), some (.ref (A 0)), some (.ref a), some (.ref (a + 17)), some (.int (nI i)), y5, y6, y7] [] h Q := by
  obtain ⟨na, Le, Te, Va, num, NS, S, fo, H, m⟩ := I
  obtain ⟨⟨kn, kp, C⟩, ⟨h8, h9, e8, ha8⟩, ho, hna⟩ := id H
  have hd9 := lw_d hA hna
  obtain ⟨code, v, na', num', NS', pw, hna2, pm⟩ := p_note (d := d) htr C m ho hd9 hna (by have := rx_rd_lt ho; omega) (xs (i + 1)) (xs (i + 2)) (xs (i + 3)) (xs (i + 4)) (xs (i + 5)) (decide (¬ xs (i + 6) = 0))
  by_cases cy : xs (i + 6) = 0
  · rw [decide_eq_false (fun z => z cy)] at pw pm
    refine rx_aload_nr d_La_law_308 (by rfl) ?_
    refine rx_aload_nr d_La_law_309 (by rfl) ?_
    refine rx_iload d_La_law_310 (by rfl) ?_
    refine rx_iconst (v := 1) d_La_law_312 (by decide) ?_
    refine rx_iadd d_La_law_313 ?_
    rw [show nI i + 1 = nI (i + 1) from nI_add i 1]
    refine rx_ialoadX d_La_law_314 hq (vp_in_nI (by omega) (by omega)) ?_
    rw [i_cl (by omega)]
    refine rx_aload_nr d_La_law_315 (by rfl) ?_
    refine rx_iload d_La_law_316 (by rfl) ?_
    refine rx_iconst (v := 2) d_La_law_318 (by decide) ?_
    refine rx_iadd d_La_law_319 ?_
    rw [show nI i + 2 = nI (i + 2) from nI_add i 2]
    refine rx_ialoadX d_La_law_320 hq (vp_in_nI (by omega) (by omega)) ?_
    rw [i_cl (by omega)]
    refine rx_aload_nr d_La_law_321 (by rfl) ?_
    refine rx_iload d_La_law_322 (by rfl) ?_
    refine rx_iconst (v := 3) d_La_law_324 (by decide) ?_
    refine rx_iadd d_La_law_325 ?_
    rw [show nI i + 3 = nI (i + 3) from nI_add i 3]
    refine rx_ialoadX d_La_law_326 hq (vp_in_nI (by omega) (by omega)) ?_
    rw [i_cl (by omega)]
    refine rx_aload_nr d_La_law_327 (by rfl) ?_
    refine rx_iload d_La_law_328 (by rfl) ?_
    refine rx_iconst (v := 4) d_La_law_330 (by decide) ?_
    refine rx_iadd d_La_law_331 ?_
    rw [show nI i + 4 = nI (i + 4) from nI_add i 4]
    refine rx_ialoadX d_La_law_332 hq (vp_in_nI (by omega) (by omega)) ?_
    rw [i_cl (by omega)]
    refine rx_aload_nr d_La_law_333 (by rfl) ?_
    refine rx_iload d_La_law_334 (by rfl) ?_
    refine rx_iconst (v := 5) d_La_law_336 (by decide) ?_
    refine rx_iadd d_La_law_337 ?_
    rw [show nI i + 5 = nI (i + 5) from nI_add i 5]
    refine rx_ialoadX d_La_law_338 hq (vp_in_nI (by omega) (by omega)) ?_
    rw [i_cl (by omega)]
    refine rx_aload_nr d_La_law_339 (by rfl) ?_
    refine rx_iload d_La_law_340 (by rfl) ?_
    refine rx_bipush (v := 6) d_La_law_342 (by decide) ?_
    refine rx_iadd d_La_law_344 ?_
    rw [show nI i + 6 = nI (i + 6) from nI_add i 6]
    refine rx_ialoadX d_La_law_345 hq (vp_in_nI (by omega) (by omega)) ?_
    rw [i_cl (by omega)]
    refine rx_if_eq (tgt := 353) d_La_law_346 (by rfl) (fun c346 => ?_) (fun z => absurd cy z)
    refine rx_iconst (v := 0) d_La_law_353 (by decide) ?_
    refine rx_aload_nr d_La_law_354 (by rfl) ?_
    refine rx_okSW d_La_law_355 ml_La_87 st_La_note cw_La_note (rx_in 0 (by decide +kernel) (by decide +kernel)) (by decide +kernel) (by decide +kernel) (by exact hl_La_note) (by exact Nat.le_of_ble_eq_true rfl) (by decide +kernel) (by rfl) (by exact Nat.le_of_ble_eq_true rfl) pw ?_
    intro hw zw
    obtain ⟨fo2, H2, ex⟩ := H.wp hA zw hna2
    obtain ⟨-, ⟨h1, h2, rfl, ha⟩, ho2, -⟩ := id H2
    refine rx_istore d_La_law_358 (Nat.le_of_ble_eq_true rfl) ?_
    refine rx_aload_nr d_La_law_360 (by rfl) ?_
    refine rx_aload_nr d_La_law_361 (by rfl) ?_
    refine rx_iload d_La_law_362 (by rfl) ?_
    refine rx_iconst (v := 1) d_La_law_364 (by decide) ?_
    refine rx_iadd d_La_law_365 ?_
    rw [show nI i + 1 = nI (i + 1) from nI_add i 1]
    refine rx_ialoadX d_La_law_366 hq (vp_in_nI (by omega) (by omega)) ?_
    rw [i_cl (by omega)]
    refine rx_aload_nr d_La_law_367 (by rfl) ?_
    refine rx_iload d_La_law_368 (by rfl) ?_
    refine rx_iconst (v := 2) d_La_law_370 (by decide) ?_
    refine rx_iadd d_La_law_371 ?_
    rw [show nI i + 2 = nI (i + 2) from nI_add i 2]
    refine rx_ialoadX d_La_law_372 hq (vp_in_nI (by omega) (by omega)) ?_
    rw [i_cl (by omega)]
    refine rx_aload_nr d_La_law_373 (by rfl) ?_
    refine rx_iload d_La_law_374 (by rfl) ?_
    refine rx_iconst (v := 3) d_La_law_376 (by decide) ?_
    refine rx_iadd d_La_law_377 ?_
    rw [show nI i + 3 = nI (i + 3) from nI_add i 3]
    refine rx_ialoadX d_La_law_378 hq (vp_in_nI (by omega) (by omega)) ?_
    rw [i_cl (by omega)]
    refine rx_aload_nr d_La_law_379 (by rfl) ?_
    refine rx_iload d_La_law_380 (by rfl) ?_
    refine rx_iconst (v := 4) d_La_law_382 (by decide) ?_
    refine rx_iadd d_La_law_383 ?_
    rw [show nI i + 4 = nI (i + 4) from nI_add i 4]
    refine rx_ialoadX d_La_law_384 hq (vp_in_nI (by omega) (by omega)) ?_
    rw [i_cl (by omega)]
    refine rx_aload_nr d_La_law_385 (by rfl) ?_
    refine rx_iload d_La_law_386 (by rfl) ?_
    refine rx_iconst (v := 5) d_La_law_388 (by decide) ?_
    refine rx_iadd d_La_law_389 ?_
    rw [show nI i + 5 = nI (i + 5) from nI_add i 5]
    refine rx_ialoadX d_La_law_390 hq (vp_in_nI (by omega) (by omega)) ?_
    rw [i_cl (by omega)]
    refine rx_aload_nr d_La_law_391 (by rfl) ?_
    refine rx_iload d_La_law_392 (by rfl) ?_
    refine rx_bipush (v := 6) d_La_law_394 (by decide) ?_
    refine rx_iadd d_La_law_396 ?_
    rw [show nI i + 6 = nI (i + 6) from nI_add i 6]
    refine rx_ialoadX d_La_law_397 hq (vp_in_nI (by omega) (by omega)) ?_
    rw [i_cl (by omega)]
    refine rx_if_eq (tgt := 405) d_La_law_398 (by rfl) (fun c398 => ?_) (fun z => absurd cy z)
    refine rx_iconst (v := 0) d_La_law_405 (by decide) ?_
    refine rx_pV d_La_law_406 (by rfl) ml_La_90 im_Mo_note se_Mo_note (by exact c9_Mo_note) (mr0 ha) (by rfl) (by exact Nat.le_of_ble_eq_true rfl) (rx_more (pm h1 h2 ha) (Nat.le_succ _) (Nat.le_refl _) (Nat.le_refl _)) ?_
    intro hm z9
    obtain ⟨S', rfl, cS, mS⟩ := z9
    refine rx_istore d_La_law_409 (Nat.le_of_ble_eq_true rfl) ?_
    refine rx_aload_nr d_La_law_411 (by rfl) ?_
    refine rx_cV d_La_law_412 (by rfl) ml_La_75 im_Mo_thrown se_Mo_thrown (by exact c9_Mo_thrown) (mr0 ha) (by rfl) (by exact Nat.le_of_ble_eq_true rfl) (k_thrown ha) ?_
    rw [cS]
    refine rx_iload d_La_law_415 (by rfl) ?_
    refine rx_icmp_eq (tgt := 422) d_La_law_417 (by rfl) (fun c417 => ?_) (fun z => absurd rfl z)
    refine rx_iload d_La_law_422 (by rfl) ?_
    refine rx_if_ne (tgt := 439) d_La_law_424 (by rfl) (fun c424 => ?_) (fun c424 => ?_)
    · refine rx_goto (tgt := 1062) d_La_law_439 (by rfl) ?_
      exact K _ _ _ _ ⟨na', Le, Te, Va, num', NS', S', fo2, H2.mo ha hA, mS⟩
    · refine rx_aload_nr d_La_law_427 (by rfl) ?_
      refine rx_iconst (v := 0) d_La_law_428 (by decide) ?_
      refine rx_laload d_La_law_429 (by rfl) ((mw_fr (h2 := h2) (S := S) (S' := S') ha).2 (a + 17) (by omega) |>.trans ho2) vp_01 ?_
      rw [ex c424]
      refine rx_iload d_La_law_430 (by rfl) ?_
      refine rx_i2l d_La_law_432 ?_
      refine rx_lcmp d_La_law_433 ?_
      refine rx_if_eq (tgt := 439) d_La_law_434 (by rfl) (fun c434 => ?_) (fun z => absurd (lg_self _) z)
      refine rx_goto (tgt := 1062) d_La_law_439 (by rfl) ?_
      exact K _ _ _ _ ⟨na', Le, Te, Va, num', NS', S', fo2, H2.mo ha hA, mS⟩
  · rw [decide_eq_true cy] at pw pm
    refine rx_aload_nr d_La_law_308 (by rfl) ?_
    refine rx_aload_nr d_La_law_309 (by rfl) ?_
    refine rx_iload d_La_law_310 (by rfl) ?_
    refine rx_iconst (v := 1) d_La_law_312 (by decide) ?_
    refine rx_iadd d_La_law_313 ?_
    rw [show nI i + 1 = nI (i + 1) from nI_add i 1]
    refine rx_ialoadX d_La_law_314 hq (vp_in_nI (by omega) (by omega)) ?_
    rw [i_cl (by omega)]
    refine rx_aload_nr d_La_law_315 (by rfl) ?_
    refine rx_iload d_La_law_316 (by rfl) ?_
    refine rx_iconst (v := 2) d_La_law_318 (by decide) ?_
    refine rx_iadd d_La_law_319 ?_
    rw [show nI i + 2 = nI (i + 2) from nI_add i 2]
    refine rx_ialoadX d_La_law_320 hq (vp_in_nI (by omega) (by omega)) ?_
    rw [i_cl (by omega)]
    refine rx_aload_nr d_La_law_321 (by rfl) ?_
    refine rx_iload d_La_law_322 (by rfl) ?_
    refine rx_iconst (v := 3) d_La_law_324 (by decide) ?_
    refine rx_iadd d_La_law_325 ?_
    rw [show nI i + 3 = nI (i + 3) from nI_add i 3]
    refine rx_ialoadX d_La_law_326 hq (vp_in_nI (by omega) (by omega)) ?_
    rw [i_cl (by omega)]
    refine rx_aload_nr d_La_law_327 (by rfl) ?_
    refine rx_iload d_La_law_328 (by rfl) ?_
    refine rx_iconst (v := 4) d_La_law_330 (by decide) ?_
    refine rx_iadd d_La_law_331 ?_
    rw [show nI i + 4 = nI (i + 4) from nI_add i 4]
    refine rx_ialoadX d_La_law_332 hq (vp_in_nI (by omega) (by omega)) ?_
    rw [i_cl (by omega)]
    refine rx_aload_nr d_La_law_333 (by rfl) ?_
    refine rx_iload d_La_law_334 (by rfl) ?_
    refine rx_iconst (v := 5) d_La_law_336 (by decide) ?_
    refine rx_iadd d_La_law_337 ?_
    rw [show nI i + 5 = nI (i + 5) from nI_add i 5]
    refine rx_ialoadX d_La_law_338 hq (vp_in_nI (by omega) (by omega)) ?_
    rw [i_cl (by omega)]
    refine rx_aload_nr d_La_law_339 (by rfl) ?_
    refine rx_iload d_La_law_340 (by rfl) ?_
    refine rx_bipush (v := 6) d_La_law_342 (by decide) ?_
    refine rx_iadd d_La_law_344 ?_
    rw [show nI i + 6 = nI (i + 6) from nI_add i 6]
    refine rx_ialoadX d_La_law_345 hq (vp_in_nI (by omega) (by omega)) ?_
    rw [i_cl (by omega)]
    refine rx_if_eq (tgt := 353) d_La_law_346 (by rfl) (fun z => absurd z cy) (fun c346 => ?_)
    refine rx_iconst (v := 1) d_La_law_349 (by decide) ?_
    refine rx_goto (tgt := 354) d_La_law_350 (by rfl) ?_
    refine rx_aload_nr d_La_law_354 (by rfl) ?_
    refine rx_okSW d_La_law_355 ml_La_87 st_La_note cw_La_note (rx_in 0 (by decide +kernel) (by decide +kernel)) (by decide +kernel) (by decide +kernel) (by exact hl_La_note) (by exact Nat.le_of_ble_eq_true rfl) (by decide +kernel) (by rfl) (by exact Nat.le_of_ble_eq_true rfl) pw ?_
    intro hw zw
    obtain ⟨fo2, H2, ex⟩ := H.wp hA zw hna2
    obtain ⟨-, ⟨h1, h2, rfl, ha⟩, ho2, -⟩ := id H2
    refine rx_istore d_La_law_358 (Nat.le_of_ble_eq_true rfl) ?_
    refine rx_aload_nr d_La_law_360 (by rfl) ?_
    refine rx_aload_nr d_La_law_361 (by rfl) ?_
    refine rx_iload d_La_law_362 (by rfl) ?_
    refine rx_iconst (v := 1) d_La_law_364 (by decide) ?_
    refine rx_iadd d_La_law_365 ?_
    rw [show nI i + 1 = nI (i + 1) from nI_add i 1]
    refine rx_ialoadX d_La_law_366 hq (vp_in_nI (by omega) (by omega)) ?_
    rw [i_cl (by omega)]
    refine rx_aload_nr d_La_law_367 (by rfl) ?_
    refine rx_iload d_La_law_368 (by rfl) ?_
    refine rx_iconst (v := 2) d_La_law_370 (by decide) ?_
    refine rx_iadd d_La_law_371 ?_
    rw [show nI i + 2 = nI (i + 2) from nI_add i 2]
    refine rx_ialoadX d_La_law_372 hq (vp_in_nI (by omega) (by omega)) ?_
    rw [i_cl (by omega)]
    refine rx_aload_nr d_La_law_373 (by rfl) ?_
    refine rx_iload d_La_law_374 (by rfl) ?_
    refine rx_iconst (v := 3) d_La_law_376 (by decide) ?_
    refine rx_iadd d_La_law_377 ?_
    rw [show nI i + 3 = nI (i + 3) from nI_add i 3]
    refine rx_ialoadX d_La_law_378 hq (vp_in_nI (by omega) (by omega)) ?_
    rw [i_cl (by omega)]
    refine rx_aload_nr d_La_law_379 (by rfl) ?_
    refine rx_iload d_La_law_380 (by rfl) ?_
    refine rx_iconst (v := 4) d_La_law_382 (by decide) ?_
    refine rx_iadd d_La_law_383 ?_
    rw [show nI i + 4 = nI (i + 4) from nI_add i 4]
    refine rx_ialoadX d_La_law_384 hq (vp_in_nI (by omega) (by omega)) ?_
    rw [i_cl (by omega)]
    refine rx_aload_nr d_La_law_385 (by rfl) ?_
    refine rx_iload d_La_law_386 (by rfl) ?_
    refine rx_iconst (v := 5) d_La_law_388 (by decide) ?_
    refine rx_iadd d_La_law_389 ?_
    rw [show nI i + 5 = nI (i + 5) from nI_add i 5]
    refine rx_ialoadX d_La_law_390 hq (vp_in_nI (by omega) (by omega)) ?_
    rw [i_cl (by omega)]
    refine rx_aload_nr d_La_law_391 (by rfl) ?_
    refine rx_iload d_La_law_392 (by rfl) ?_
    refine rx_bipush (v := 6) d_La_law_394 (by decide) ?_
    refine rx_iadd d_La_law_396 ?_
    rw [show nI i + 6 = nI (i + 6) from nI_add i 6]
    refine rx_ialoadX d_La_law_397 hq (vp_in_nI (by omega) (by omega)) ?_
    rw [i_cl (by omega)]
    refine rx_if_eq (tgt := 405) d_La_law_398 (by rfl) (fun z => absurd z cy) (fun c398 => ?_)
    refine rx_iconst (v := 1) d_La_law_401 (by decide) ?_
    refine rx_goto (tgt := 406) d_La_law_402 (by rfl) ?_
    refine rx_pV d_La_law_406 (by rfl) ml_La_90 im_Mo_note se_Mo_note (by exact c9_Mo_note) (mr0 ha) (by rfl) (by exact Nat.le_of_ble_eq_true rfl) (rx_more (pm h1 h2 ha) (Nat.le_succ _) (Nat.le_refl _) (Nat.le_refl _)) ?_
    intro hm z9
    obtain ⟨S', rfl, cS, mS⟩ := z9
    refine rx_istore d_La_law_409 (Nat.le_of_ble_eq_true rfl) ?_
    refine rx_aload_nr d_La_law_411 (by rfl) ?_
    refine rx_cV d_La_law_412 (by rfl) ml_La_75 im_Mo_thrown se_Mo_thrown (by exact c9_Mo_thrown) (mr0 ha) (by rfl) (by exact Nat.le_of_ble_eq_true rfl) (k_thrown ha) ?_
    rw [cS]
    refine rx_iload d_La_law_415 (by rfl) ?_
    refine rx_icmp_eq (tgt := 422) d_La_law_417 (by rfl) (fun c417 => ?_) (fun z => absurd rfl z)
    refine rx_iload d_La_law_422 (by rfl) ?_
    refine rx_if_ne (tgt := 439) d_La_law_424 (by rfl) (fun c424 => ?_) (fun c424 => ?_)
    · refine rx_goto (tgt := 1062) d_La_law_439 (by rfl) ?_
      exact K _ _ _ _ ⟨na', Le, Te, Va, num', NS', S', fo2, H2.mo ha hA, mS⟩
    · refine rx_aload_nr d_La_law_427 (by rfl) ?_
      refine rx_iconst (v := 0) d_La_law_428 (by decide) ?_
      refine rx_laload d_La_law_429 (by rfl) ((mw_fr (h2 := h2) (S := S) (S' := S') ha).2 (a + 17) (by omega) |>.trans ho2) vp_01 ?_
      rw [ex c424]
      refine rx_iload d_La_law_430 (by rfl) ?_
      refine rx_i2l d_La_law_432 ?_
      refine rx_lcmp d_La_law_433 ?_
      refine rx_if_eq (tgt := 439) d_La_law_434 (by rfl) (fun c434 => ?_) (fun z => absurd (lg_self _) z)
      refine rx_goto (tgt := 1062) d_La_law_439 (by rfl) ?_
      exact K _ _ _ _ ⟨na', Le, Te, Va, num', NS', S', fo2, H2.mo ha hA, mS⟩
theorem la_transpose (htr : V.1.stackTraces = false) (hq : (b, L, xs) ∈ V.2.2.2.2) (hL : L ≤ 3585) (hA : lwA A ra n a) (hi : i + 7 ≤ L) (I : lwI V A ra n a h) (K : ∀ h' y5 y6 y7, lwI V A ra n a h' → rx_W V (d + 10) kc ks m_La_law 1062 [some (.ref b), some (.ref (A 0)), some (.ref a), some (.ref (a + 17)), some (.int (nI i)), y5, y6, y7] [] h' Q) : rx_W V (d + 10) (1 + kc) (6 + ks) m_La_law 442 [some (.ref b), some (.ref (A 0)), some (.ref a), some (.ref (a + 17)), some (.int (nI i)), y5, y6, y7] [] h Q := by
  obtain ⟨na, Le, Te, Va, num, NS, S, fo, H, m⟩ := I
  obtain ⟨⟨kn, kp, C⟩, ⟨h8, h9, e8, ha8⟩, ho, hna⟩ := id H
  have hd9 := lw_d hA hna
  obtain ⟨code, v, NS', pw, pm⟩ := p_transpose (d := d) htr C m ho hd9 (xs (i + 1)) (xs (i + 2))
  refine rx_aload_nr d_La_law_442 (by rfl) ?_
  refine rx_aload_nr d_La_law_443 (by rfl) ?_
  refine rx_iload d_La_law_444 (by rfl) ?_
  refine rx_iconst (v := 1) d_La_law_446 (by decide) ?_
  refine rx_iadd d_La_law_447 ?_
  rw [show nI i + 1 = nI (i + 1) from nI_add i 1]
  refine rx_ialoadX d_La_law_448 hq (vp_in_nI (by omega) (by omega)) ?_
  rw [i_cl (by omega)]
  refine rx_aload_nr d_La_law_449 (by rfl) ?_
  refine rx_iload d_La_law_450 (by rfl) ?_
  refine rx_iconst (v := 2) d_La_law_452 (by decide) ?_
  refine rx_iadd d_La_law_453 ?_
  rw [show nI i + 2 = nI (i + 2) from nI_add i 2]
  refine rx_ialoadX d_La_law_454 hq (vp_in_nI (by omega) (by omega)) ?_
  rw [i_cl (by omega)]
  refine rx_aload_nr d_La_law_455 (by rfl) ?_
  refine rx_okSW d_La_law_456 ml_La_91 st_La_transpose cw_La_transpose (rx_in 0 (by decide +kernel) (by decide +kernel)) (by decide +kernel) (by decide +kernel) (by exact hl_La_transpose) (by exact Nat.le_of_ble_eq_true rfl) (by decide +kernel) (by rfl) (by exact Nat.le_of_ble_eq_true rfl) pw ?_
  intro hw zw
  obtain ⟨fo2, H2, ex⟩ := H.wp hA zw hna
  obtain ⟨-, ⟨h1, h2, rfl, ha⟩, ho2, -⟩ := id H2
  refine rx_istore d_La_law_459 (Nat.le_of_ble_eq_true rfl) ?_
  refine rx_aload_nr d_La_law_461 (by rfl) ?_
  refine rx_aload_nr d_La_law_462 (by rfl) ?_
  refine rx_iload d_La_law_463 (by rfl) ?_
  refine rx_iconst (v := 1) d_La_law_465 (by decide) ?_
  refine rx_iadd d_La_law_466 ?_
  rw [show nI i + 1 = nI (i + 1) from nI_add i 1]
  refine rx_ialoadX d_La_law_467 hq (vp_in_nI (by omega) (by omega)) ?_
  rw [i_cl (by omega)]
  refine rx_aload_nr d_La_law_468 (by rfl) ?_
  refine rx_iload d_La_law_469 (by rfl) ?_
  refine rx_iconst (v := 2) d_La_law_471 (by decide) ?_
  refine rx_iadd d_La_law_472 ?_
  rw [show nI i + 2 = nI (i + 2) from nI_add i 2]
  refine rx_ialoadX d_La_law_473 hq (vp_in_nI (by omega) (by omega)) ?_
  rw [i_cl (by omega)]
  refine rx_pV d_La_law_474 (by rfl) ml_La_94 im_Mo_transpose se_Mo_transpose (by exact c9_Mo_transpose) (mr0 ha) (by rfl) (by exact Nat.le_of_ble_eq_true rfl) (rx_more (pm h1 h2 ha) (Nat.le_succ _) (Nat.le_refl _) (Nat.le_refl _)) ?_
  intro hm z9
  obtain ⟨S', rfl, cS, mS⟩ := z9
  refine rx_istore d_La_law_477 (Nat.le_of_ble_eq_true rfl) ?_
  refine rx_aload_nr d_La_law_479 (by rfl) ?_
  refine rx_cV d_La_law_480 (by rfl) ml_La_75 im_Mo_thrown se_Mo_thrown (by exact c9_Mo_thrown) (mr0 ha) (by rfl) (by exact Nat.le_of_ble_eq_true rfl) (k_thrown ha) ?_
  rw [cS]
  refine rx_iload d_La_law_483 (by rfl) ?_
  refine rx_icmp_eq (tgt := 490) d_La_law_485 (by rfl) (fun c485 => ?_) (fun z => absurd rfl z)
  refine rx_iload d_La_law_490 (by rfl) ?_
  refine rx_if_ne (tgt := 507) d_La_law_492 (by rfl) (fun c492 => ?_) (fun c492 => ?_)
  · refine rx_goto (tgt := 1062) d_La_law_507 (by rfl) ?_
    exact K _ _ _ _ ⟨na, Le, Te, Va, num, NS', S', fo2, H2.mo ha hA, mS⟩
  · refine rx_aload_nr d_La_law_495 (by rfl) ?_
    refine rx_iconst (v := 0) d_La_law_496 (by decide) ?_
    refine rx_laload d_La_law_497 (by rfl) ((mw_fr (h2 := h2) (S := S) (S' := S') ha).2 (a + 17) (by omega) |>.trans ho2) vp_01 ?_
    rw [ex c492]
    refine rx_iload d_La_law_498 (by rfl) ?_
    refine rx_i2l d_La_law_500 ?_
    refine rx_lcmp d_La_law_501 ?_
    refine rx_if_eq (tgt := 507) d_La_law_502 (by rfl) (fun c502 => ?_) (fun z => absurd (lg_self _) z)
    refine rx_goto (tgt := 1062) d_La_law_507 (by rfl) ?_
    exact K _ _ _ _ ⟨na, Le, Te, Va, num, NS', S', fo2, H2.mo ha hA, mS⟩
theorem la_check (htr : V.1.stackTraces = false) (hq : (b, L, xs) ∈ V.2.2.2.2) (hL : L ≤ 3585) (hA : lwA A ra n a) (hi : i + 7 ≤ L) (I : lwI V A ra n a h) (K : ∀ h' y5 y6 y7, lwI V A ra n a h' → rx_W V (d + 10) kc ks m_La_law 1062 [some (.ref b), some (.ref (A 0)), some (.ref a), some (.ref (a + 17)), some (.int (nI i)), y5, y6, y7] [] h' Q) : rx_W V (d + 10) (1 + kc) (6 + ks) m_La_law 510 [some (.ref b), some (.ref (A 0)), some (.ref a), some (.ref (a + 17)), some (.int (nI i)), y5, y6, y7] [] h Q := by
  obtain ⟨na, Le, Te, Va, num, NS, S, fo, H, m⟩ := I
  obtain ⟨⟨kn, kp, C⟩, ⟨h8, h9, e8, ha8⟩, ho, hna⟩ := id H
  have hd9 := lw_d hA hna
  obtain ⟨fs, c0⟩ := C.c0
  refine rx_aload_nr d_La_law_510 (by rfl) ?_
  refine rx_okVk d_La_law_511 (by rfl) ml_La_95 im_SR_check se_SR_check (by exact c9_SR_check) c0 (by rfl) (by exact Nat.le_of_ble_eq_true rfl) (c_check (d := d + 1) m.2.1 C) ?_
  intro hw zw
  have H2 := H.cl hA zw hna
  have fo2 := fo
  obtain ⟨-, ⟨h1, h2, rfl, ha⟩, ho2, -⟩ := id H2
  refine rx_aload_nr d_La_law_514 (by rfl) ?_
  refine rx_pV d_La_law_515 (by rfl) ml_La_98 im_Mo_check se_Mo_check (by exact c9_Mo_check) (mr0 ha) (by rfl) (by exact Nat.le_of_ble_eq_true rfl) (rx_cons (k_check (d := d + 1) ha m.1 m.v) (fun r h' z => z)) ?_
  intro hm z9
  obtain ⟨S', rfl, E9, -⟩ := z9
  have mS := m.e2 E9
  rw [m.2.2.1]
  refine rx_icmp_eq (tgt := 1062) d_La_law_518 (by rfl) (fun c518 => ?_) (fun z => absurd rfl z)
  exact K _ _ _ _ ⟨na, Le, Te, Va, num, NS, S', fo, H2.mo ha hA, mS⟩
theorem la_plays (htr : V.1.stackTraces = false) (hq : (b, L, xs) ∈ V.2.2.2.2) (hL : L ≤ 3585) (hA : lwA A ra n a) (hi : i + 7 ≤ L) (I : lwI V A ra n a h) (K : ∀ h' y5 y6 y7, lwI V A ra n a h' → rx_W V (d + 10) kc ks m_La_law 1062 [some (.ref b), some (.ref (A 0)), some (.ref a), some (.ref (a + 17)), some (.int (nI i)), y5, y6, y7] [] h' Q) : rx_W V (d + 10) (1 + kc) (6 + ks) m_La_law 523 [some (.ref b), some (.ref (A 0)), some (.ref a), some (.ref (a + 17)), some (.int (nI i)), y5, y6, y7] [] h Q := by
  obtain ⟨na, Le, Te, Va, num, NS, S, fo, H, m⟩ := I
  obtain ⟨⟨kn, kp, C⟩, ⟨h8, h9, e8, ha8⟩, ho, hna⟩ := id H
  have hd9 := lw_d hA hna
  obtain ⟨fs, c0⟩ := C.c0
  refine rx_aload_nr d_La_law_523 (by rfl) ?_
  refine rx_okVk d_La_law_524 (by rfl) ml_La_99 im_SR_plays se_SR_plays (by exact c9_SR_plays) c0 (by rfl) (by exact Nat.le_of_ble_eq_true rfl) (c_plays (d := d + 1) m.2.1 C) ?_
  intro hw zw
  have H2 := H.cl hA zw hna
  have fo2 := fo
  obtain ⟨-, ⟨h1, h2, rfl, ha⟩, ho2, -⟩ := id H2
  refine rx_aload_nr d_La_law_527 (by rfl) ?_
  refine rx_pV d_La_law_528 (by rfl) ml_La_102 im_Mo_plays se_Mo_plays (by exact c9_Mo_plays) (mr0 ha) (by rfl) (by exact Nat.le_of_ble_eq_true rfl) (rx_cons (k_plays (d := d + 1) ha m.1 m.v) (fun r h' z => z)) ?_
  intro hm z9
  obtain ⟨S', rfl, E9, -⟩ := z9
  have mS := m.e2 E9
  rw [m.2.2.1]
  refine rx_icmp_eq (tgt := 1062) d_La_law_531 (by rfl) (fun c531 => ?_) (fun z => absurd rfl z)
  exact K _ _ _ _ ⟨na, Le, Te, Va, num, NS, S', fo, H2.mo ha hA, mS⟩
theorem la_played (htr : V.1.stackTraces = false) (hq : (b, L, xs) ∈ V.2.2.2.2) (hL : L ≤ 3585) (hA : lwA A ra n a) (hi : i + 7 ≤ L) (I : lwI V A ra n a h) (K : ∀ h' y5 y6 y7, lwI V A ra n a h' → rx_W V (d + 10) kc ks m_La_law 1062 [some (.ref b), some (.ref (A 0)), some (.ref a), some (.ref (a + 17)), some (.int (nI i)), y5, y6, y7] [] h' Q) : rx_W V (d + 10) (1 + kc) (6 + ks) m_La_law 536 [some (.ref b), some (.ref (A 0)), some (.ref a), some (.ref (a + 17)), some (.int (nI i)), y5, y6, y7] [] h Q := by
  obtain ⟨na, Le, Te, Va, num, NS, S, fo, H, m⟩ := I
  obtain ⟨⟨kn, kp, C⟩, ⟨h8, h9, e8, ha8⟩, ho, hna⟩ := id H
  have hd9 := lw_d hA hna
  obtain ⟨code, v, pw, pm⟩ := p_played (d := d) htr C m ho hd9 (xs (i + 1))
  refine rx_aload_nr d_La_law_536 (by rfl) ?_
  refine rx_aload_nr d_La_law_537 (by rfl) ?_
  refine rx_iload d_La_law_538 (by rfl) ?_
  refine rx_iconst (v := 1) d_La_law_540 (by decide) ?_
  refine rx_iadd d_La_law_541 ?_
  rw [show nI i + 1 = nI (i + 1) from nI_add i 1]
  refine rx_ialoadX d_La_law_542 hq (vp_in_nI (by omega) (by omega)) ?_
  rw [i_cl (by omega)]
  refine rx_aload_nr d_La_law_543 (by rfl) ?_
  refine rx_okSW d_La_law_544 ml_La_103 st_La_played cw_La_played (rx_in 0 (by decide +kernel) (by decide +kernel)) (by decide +kernel) (by decide +kernel) (by exact hl_La_played) (by exact Nat.le_of_ble_eq_true rfl) (by decide +kernel) (by rfl) (by exact Nat.le_of_ble_eq_true rfl) pw ?_
  intro hw zw
  obtain ⟨fo2, H2, ex⟩ := H.wp hA zw hna
  obtain ⟨-, ⟨h1, h2, rfl, ha⟩, ho2, -⟩ := id H2
  refine rx_istore d_La_law_547 (Nat.le_of_ble_eq_true rfl) ?_
  refine rx_aload_nr d_La_law_549 (by rfl) ?_
  refine rx_aload_nr d_La_law_550 (by rfl) ?_
  refine rx_iload d_La_law_551 (by rfl) ?_
  refine rx_iconst (v := 1) d_La_law_553 (by decide) ?_
  refine rx_iadd d_La_law_554 ?_
  rw [show nI i + 1 = nI (i + 1) from nI_add i 1]
  refine rx_ialoadX d_La_law_555 hq (vp_in_nI (by omega) (by omega)) ?_
  rw [i_cl (by omega)]
  refine rx_pV d_La_law_556 (by rfl) ml_La_106 im_Mo_played se_Mo_played (by exact c9_Mo_played) (mr0 ha) (by rfl) (by exact Nat.le_of_ble_eq_true rfl) (rx_more (pm h1 h2 ha) (Nat.le_succ _) (Nat.le_refl _) (Nat.le_refl _)) ?_
  intro hm z9
  obtain ⟨S', rfl, cS, mS⟩ := z9
  refine rx_istore d_La_law_559 (Nat.le_of_ble_eq_true rfl) ?_
  refine rx_aload_nr d_La_law_561 (by rfl) ?_
  refine rx_cV d_La_law_562 (by rfl) ml_La_75 im_Mo_thrown se_Mo_thrown (by exact c9_Mo_thrown) (mr0 ha) (by rfl) (by exact Nat.le_of_ble_eq_true rfl) (k_thrown ha) ?_
  rw [cS]
  refine rx_iload d_La_law_565 (by rfl) ?_
  refine rx_icmp_eq (tgt := 572) d_La_law_567 (by rfl) (fun c567 => ?_) (fun z => absurd rfl z)
  refine rx_iload d_La_law_572 (by rfl) ?_
  refine rx_if_ne (tgt := 589) d_La_law_574 (by rfl) (fun c574 => ?_) (fun c574 => ?_)
  · refine rx_goto (tgt := 1062) d_La_law_589 (by rfl) ?_
    exact K _ _ _ _ ⟨na, Le, Te, Va, num, NS, S', fo2, H2.mo ha hA, mS⟩
  · refine rx_aload_nr d_La_law_577 (by rfl) ?_
    refine rx_iconst (v := 0) d_La_law_578 (by decide) ?_
    refine rx_laload d_La_law_579 (by rfl) ((mw_fr (h2 := h2) (S := S) (S' := S') ha).2 (a + 17) (by omega) |>.trans ho2) vp_01 ?_
    rw [ex c574]
    refine rx_iload d_La_law_580 (by rfl) ?_
    refine rx_i2l d_La_law_582 ?_
    refine rx_lcmp d_La_law_583 ?_
    refine rx_if_eq (tgt := 589) d_La_law_584 (by rfl) (fun c584 => ?_) (fun z => absurd (lg_self _) z)
    refine rx_goto (tgt := 1062) d_La_law_589 (by rfl) ?_
    exact K _ _ _ _ ⟨na, Le, Te, Va, num, NS, S', fo2, H2.mo ha hA, mS⟩
theorem la_time (htr : V.1.stackTraces = false) (hq : (b, L, xs) ∈ V.2.2.2.2) (hL : L ≤ 3585) (hA : lwA A ra n a) (hi : i + 7 ≤ L) (I : lwI V A ra n a h) (K : ∀ h' y5 y6 y7, lwI V A ra n a h' → rx_W V (d + 10) kc ks m_La_law 1062 [some (.ref b), some (.ref (A 0)), some (.ref a), some (.ref (a + 17)), some (.int (nI i)), y5, y6, y7] [] h' Q) : rx_W V (d + 10) (1 + kc) (6 + ks) m_La_law 592 [some (.ref b), some (.ref (A 0)), some (.ref a), some (.ref (a + 17)), some (.int (nI i)), y5, y6, y7] [] h Q := by
  obtain ⟨na, Le, Te, Va, num, NS, S, fo, H, m⟩ := I
  obtain ⟨⟨kn, kp, C⟩, ⟨h8, h9, e8, ha8⟩, ho, hna⟩ := id H
  have hd9 := lw_d hA hna
  obtain ⟨code, v, pw, pm⟩ := p_time (d := d) htr C m ho hd9 (xs (i + 1))
  refine rx_aload_nr d_La_law_592 (by rfl) ?_
  refine rx_aload_nr d_La_law_593 (by rfl) ?_
  refine rx_iload d_La_law_594 (by rfl) ?_
  refine rx_iconst (v := 1) d_La_law_596 (by decide) ?_
  refine rx_iadd d_La_law_597 ?_
  rw [show nI i + 1 = nI (i + 1) from nI_add i 1]
  refine rx_ialoadX d_La_law_598 hq (vp_in_nI (by omega) (by omega)) ?_
  rw [i_cl (by omega)]
  refine rx_aload_nr d_La_law_599 (by rfl) ?_
  refine rx_okSW d_La_law_600 ml_La_107 st_La_time cw_La_time (rx_in 0 (by decide +kernel) (by decide +kernel)) (by decide +kernel) (by decide +kernel) (by exact hl_La_time) (by exact Nat.le_of_ble_eq_true rfl) (by decide +kernel) (by rfl) (by exact Nat.le_of_ble_eq_true rfl) pw ?_
  intro hw zw
  obtain ⟨fo2, H2, ex⟩ := H.wp hA zw hna
  obtain ⟨-, ⟨h1, h2, rfl, ha⟩, ho2, -⟩ := id H2
  refine rx_istore d_La_law_603 (Nat.le_of_ble_eq_true rfl) ?_
  refine rx_aload_nr d_La_law_605 (by rfl) ?_
  refine rx_aload_nr d_La_law_606 (by rfl) ?_
  refine rx_iload d_La_law_607 (by rfl) ?_
  refine rx_iconst (v := 1) d_La_law_609 (by decide) ?_
  refine rx_iadd d_La_law_610 ?_
  rw [show nI i + 1 = nI (i + 1) from nI_add i 1]
  refine rx_ialoadX d_La_law_611 hq (vp_in_nI (by omega) (by omega)) ?_
  rw [i_cl (by omega)]
  refine rx_pV d_La_law_612 (by rfl) ml_La_109 im_Mo_time se_Mo_time (by exact c9_Mo_time) (mr0 ha) (by rfl) (by exact Nat.le_of_ble_eq_true rfl) (rx_more (pm h1 h2 ha) (Nat.le_succ _) (Nat.le_refl _) (Nat.le_refl _)) ?_
  intro hm z9
  obtain ⟨S', rfl, cS, mS⟩ := z9
  refine rx_istore d_La_law_615 (Nat.le_of_ble_eq_true rfl) ?_
  refine rx_aload_nr d_La_law_617 (by rfl) ?_
  refine rx_cV d_La_law_618 (by rfl) ml_La_75 im_Mo_thrown se_Mo_thrown (by exact c9_Mo_thrown) (mr0 ha) (by rfl) (by exact Nat.le_of_ble_eq_true rfl) (k_thrown ha) ?_
  rw [cS]
  refine rx_iload d_La_law_621 (by rfl) ?_
  refine rx_icmp_eq (tgt := 628) d_La_law_623 (by rfl) (fun c623 => ?_) (fun z => absurd rfl z)
  refine rx_iload d_La_law_628 (by rfl) ?_
  refine rx_if_ne (tgt := 645) d_La_law_630 (by rfl) (fun c630 => ?_) (fun c630 => ?_)
  · refine rx_goto (tgt := 1062) d_La_law_645 (by rfl) ?_
    exact K _ _ _ _ ⟨na, Le, Te, Va, num, NS, S', fo2, H2.mo ha hA, mS⟩
  · refine rx_aload_nr d_La_law_633 (by rfl) ?_
    refine rx_iconst (v := 0) d_La_law_634 (by decide) ?_
    refine rx_laload d_La_law_635 (by rfl) ((mw_fr (h2 := h2) (S := S) (S' := S') ha).2 (a + 17) (by omega) |>.trans ho2) vp_01 ?_
    rw [ex c630]
    refine rx_iload d_La_law_636 (by rfl) ?_
    refine rx_i2l d_La_law_638 ?_
    refine rx_lcmp d_La_law_639 ?_
    refine rx_if_eq (tgt := 645) d_La_law_640 (by rfl) (fun c640 => ?_) (fun z => absurd (lg_self _) z)
    refine rx_goto (tgt := 1062) d_La_law_645 (by rfl) ?_
    exact K _ _ _ _ ⟨na, Le, Te, Va, num, NS, S', fo2, H2.mo ha hA, mS⟩
theorem la_find (htr : V.1.stackTraces = false) (hq : (b, L, xs) ∈ V.2.2.2.2) (hL : L ≤ 3585) (hA : lwA A ra n a) (hi : i + 7 ≤ L) (I : lwI V A ra n a h) (K : ∀ h' y5 y6 y7, lwI V A ra n a h' → rx_W V (d + 10) kc ks m_La_law 1062 [some (.ref b), some (.ref (A 0)), some (.ref a), some (.ref (a + 17)), some (.int (nI i)), y5, y6, y7] [] h' Q) : rx_W V (d + 10) (1 + kc) (6 + ks) m_La_law 648 [some (.ref b), some (.ref (A 0)), some (.ref a), some (.ref (a + 17)), some (.int (nI i)), y5, y6, y7] [] h Q := by
  obtain ⟨na, Le, Te, Va, num, NS, S, fo, H, m⟩ := I
  obtain ⟨⟨kn, kp, C⟩, ⟨h8, h9, e8, ha8⟩, ho, hna⟩ := id H
  have hd9 := lw_d hA hna
  obtain ⟨code, v, pw, pm⟩ := p_find (d := d) htr C m ho hd9 (xs (i + 1)) (xs (i + 2))
  refine rx_aload_nr d_La_law_648 (by rfl) ?_
  refine rx_aload_nr d_La_law_649 (by rfl) ?_
  refine rx_iload d_La_law_650 (by rfl) ?_
  refine rx_iconst (v := 1) d_La_law_652 (by decide) ?_
  refine rx_iadd d_La_law_653 ?_
  rw [show nI i + 1 = nI (i + 1) from nI_add i 1]
  refine rx_ialoadX d_La_law_654 hq (vp_in_nI (by omega) (by omega)) ?_
  rw [i_cl (by omega)]
  refine rx_aload_nr d_La_law_655 (by rfl) ?_
  refine rx_iload d_La_law_656 (by rfl) ?_
  refine rx_iconst (v := 2) d_La_law_658 (by decide) ?_
  refine rx_iadd d_La_law_659 ?_
  rw [show nI i + 2 = nI (i + 2) from nI_add i 2]
  refine rx_ialoadX d_La_law_660 hq (vp_in_nI (by omega) (by omega)) ?_
  rw [i_cl (by omega)]
  refine rx_aload_nr d_La_law_661 (by rfl) ?_
  refine rx_okSW d_La_law_662 ml_La_110 st_La_find cw_La_find (rx_in 0 (by decide +kernel) (by decide +kernel)) (by decide +kernel) (by decide +kernel) (by exact hl_La_find) (by exact Nat.le_of_ble_eq_true rfl) (by decide +kernel) (by rfl) (by exact Nat.le_of_ble_eq_true rfl) pw ?_
  intro hw zw
  obtain ⟨fo2, H2, ex⟩ := H.wp hA zw hna
  obtain ⟨-, ⟨h1, h2, rfl, ha⟩, ho2, -⟩ := id H2
  refine rx_istore d_La_law_665 (Nat.le_of_ble_eq_true rfl) ?_
  refine rx_aload_nr d_La_law_667 (by rfl) ?_
  refine rx_aload_nr d_La_law_668 (by rfl) ?_
  refine rx_iload d_La_law_669 (by rfl) ?_
  refine rx_iconst (v := 1) d_La_law_671 (by decide) ?_
  refine rx_iadd d_La_law_672 ?_
  rw [show nI i + 1 = nI (i + 1) from nI_add i 1]
  refine rx_ialoadX d_La_law_673 hq (vp_in_nI (by omega) (by omega)) ?_
  rw [i_cl (by omega)]
  refine rx_aload_nr d_La_law_674 (by rfl) ?_
  refine rx_iload d_La_law_675 (by rfl) ?_
  refine rx_iconst (v := 2) d_La_law_677 (by decide) ?_
  refine rx_iadd d_La_law_678 ?_
  rw [show nI i + 2 = nI (i + 2) from nI_add i 2]
  refine rx_ialoadX d_La_law_679 hq (vp_in_nI (by omega) (by omega)) ?_
  rw [i_cl (by omega)]
  refine rx_pV d_La_law_680 (by rfl) ml_La_112 im_Mo_find se_Mo_find (by exact c9_Mo_find) (mr0 ha) (by rfl) (by exact Nat.le_of_ble_eq_true rfl) (rx_more (pm h1 h2 ha) (Nat.le_succ _) (Nat.le_refl _) (Nat.le_refl _)) ?_
  intro hm z9
  obtain ⟨S', rfl, cS, mS⟩ := z9
  refine rx_istore d_La_law_683 (Nat.le_of_ble_eq_true rfl) ?_
  refine rx_aload_nr d_La_law_685 (by rfl) ?_
  refine rx_cV d_La_law_686 (by rfl) ml_La_75 im_Mo_thrown se_Mo_thrown (by exact c9_Mo_thrown) (mr0 ha) (by rfl) (by exact Nat.le_of_ble_eq_true rfl) (k_thrown ha) ?_
  rw [cS]
  refine rx_iload d_La_law_689 (by rfl) ?_
  refine rx_icmp_eq (tgt := 696) d_La_law_691 (by rfl) (fun c691 => ?_) (fun z => absurd rfl z)
  refine rx_iload d_La_law_696 (by rfl) ?_
  refine rx_if_ne (tgt := 713) d_La_law_698 (by rfl) (fun c698 => ?_) (fun c698 => ?_)
  · refine rx_goto (tgt := 1062) d_La_law_713 (by rfl) ?_
    exact K _ _ _ _ ⟨na, Le, Te, Va, num, NS, S', fo2, H2.mo ha hA, mS⟩
  · refine rx_aload_nr d_La_law_701 (by rfl) ?_
    refine rx_iconst (v := 0) d_La_law_702 (by decide) ?_
    refine rx_laload d_La_law_703 (by rfl) ((mw_fr (h2 := h2) (S := S) (S' := S') ha).2 (a + 17) (by omega) |>.trans ho2) vp_01 ?_
    rw [ex c698]
    refine rx_iload d_La_law_704 (by rfl) ?_
    refine rx_i2l d_La_law_706 ?_
    refine rx_lcmp d_La_law_707 ?_
    refine rx_if_eq (tgt := 713) d_La_law_708 (by rfl) (fun c708 => ?_) (fun z => absurd (lg_self _) z)
    refine rx_goto (tgt := 1062) d_La_law_713 (by rfl) ?_
    exact K _ _ _ _ ⟨na, Le, Te, Va, num, NS, S', fo2, H2.mo ha hA, mS⟩
theorem la_tick (htr : V.1.stackTraces = false) (hq : (b, L, xs) ∈ V.2.2.2.2) (hL : L ≤ 3585) (hA : lwA A ra n a) (hi : i + 7 ≤ L) (I : lwI V A ra n a h) (K : ∀ h' y5 y6 y7, lwI V A ra n a h' → rx_W V (d + 10) kc ks m_La_law 1062 [some (.ref b), some (.ref (A 0)), some (.ref a), some (.ref (a + 17)), some (.int (nI i)), y5, y6, y7] [] h' Q) : rx_W V (d + 10) (1 + kc) (6 + ks) m_La_law 716 [some (.ref b), some (.ref (A 0)), some (.ref a), some (.ref (a + 17)), some (.int (nI i)), y5, y6, y7] [] h Q := by
  obtain ⟨na, Le, Te, Va, num, NS, S, fo, H, m⟩ := I
  obtain ⟨⟨kn, kp, C⟩, ⟨h8, h9, e8, ha8⟩, ho, hna⟩ := id H
  have hd9 := lw_d hA hna
  obtain ⟨code, v, pw, pm⟩ := p_tick (d := d) htr C m ho hd9 (xs (i + 1))
  refine rx_aload_nr d_La_law_716 (by rfl) ?_
  refine rx_aload_nr d_La_law_717 (by rfl) ?_
  refine rx_iload d_La_law_718 (by rfl) ?_
  refine rx_iconst (v := 1) d_La_law_720 (by decide) ?_
  refine rx_iadd d_La_law_721 ?_
  rw [show nI i + 1 = nI (i + 1) from nI_add i 1]
  refine rx_ialoadX d_La_law_722 hq (vp_in_nI (by omega) (by omega)) ?_
  rw [i_cl (by omega)]
  refine rx_aload_nr d_La_law_723 (by rfl) ?_
  refine rx_okSW d_La_law_724 ml_La_113 st_La_tick cw_La_tick (rx_in 0 (by decide +kernel) (by decide +kernel)) (by decide +kernel) (by decide +kernel) (by exact hl_La_tick) (by exact Nat.le_of_ble_eq_true rfl) (by decide +kernel) (by rfl) (by exact Nat.le_of_ble_eq_true rfl) pw ?_
  intro hw zw
  obtain ⟨fo2, H2, ex⟩ := H.wp hA zw hna
  obtain ⟨-, ⟨h1, h2, rfl, ha⟩, ho2, -⟩ := id H2
  refine rx_istore d_La_law_727 (Nat.le_of_ble_eq_true rfl) ?_
  refine rx_aload_nr d_La_law_729 (by rfl) ?_
  refine rx_aload_nr d_La_law_730 (by rfl) ?_
  refine rx_iload d_La_law_731 (by rfl) ?_
  refine rx_iconst (v := 1) d_La_law_733 (by decide) ?_
  refine rx_iadd d_La_law_734 ?_
  rw [show nI i + 1 = nI (i + 1) from nI_add i 1]
  refine rx_ialoadX d_La_law_735 hq (vp_in_nI (by omega) (by omega)) ?_
  rw [i_cl (by omega)]
  refine rx_pV d_La_law_736 (by rfl) ml_La_115 im_Mo_tick se_Mo_tick (by exact c9_Mo_tick) (mr0 ha) (by rfl) (by exact Nat.le_of_ble_eq_true rfl) (rx_more (pm h1 h2 ha) (Nat.le_succ _) (Nat.le_refl _) (Nat.le_refl _)) ?_
  intro hm z9
  obtain ⟨S', rfl, cS, mS⟩ := z9
  refine rx_lstore d_La_law_739 (Nat.le_of_ble_eq_true rfl) ?_
  refine rx_aload_nr d_La_law_741 (by rfl) ?_
  refine rx_cV d_La_law_742 (by rfl) ml_La_75 im_Mo_thrown se_Mo_thrown (by exact c9_Mo_thrown) (mr0 ha) (by rfl) (by exact Nat.le_of_ble_eq_true rfl) (k_thrown ha) ?_
  rw [cS]
  refine rx_iload d_La_law_745 (by rfl) ?_
  refine rx_icmp_eq (tgt := 752) d_La_law_747 (by rfl) (fun c747 => ?_) (fun z => absurd rfl z)
  refine rx_iload d_La_law_752 (by rfl) ?_
  refine rx_if_ne (tgt := 768) d_La_law_754 (by rfl) (fun c754 => ?_) (fun c754 => ?_)
  · refine rx_goto (tgt := 1062) d_La_law_768 (by rfl) ?_
    exact K _ _ _ _ ⟨na, Le, Te, Va, num, NS, S', fo2, H2.mo ha hA, mS⟩
  · refine rx_aload_nr d_La_law_757 (by rfl) ?_
    refine rx_iconst (v := 0) d_La_law_758 (by decide) ?_
    refine rx_laload d_La_law_759 (by rfl) ((mw_fr (h2 := h2) (S := S) (S' := S') ha).2 (a + 17) (by omega) |>.trans ho2) vp_01 ?_
    rw [ex c754]
    refine rx_lload d_La_law_760 (by rfl) ?_
    refine rx_lcmp d_La_law_762 ?_
    refine rx_if_eq (tgt := 768) d_La_law_763 (by rfl) (fun c763 => ?_) (fun z => absurd (lg_self _) z)
    refine rx_goto (tgt := 1062) d_La_law_768 (by rfl) ?_
    exact K _ _ _ _ ⟨na, Le, Te, Va, num, NS, S', fo2, H2.mo ha hA, mS⟩
theorem la_at (htr : V.1.stackTraces = false) (hq : (b, L, xs) ∈ V.2.2.2.2) (hL : L ≤ 3585) (hA : lwA A ra n a) (hi : i + 7 ≤ L) (I : lwI V A ra n a h) (K : ∀ h' y5 y6 y7, lwI V A ra n a h' → rx_W V (d + 10) kc ks m_La_law 1062 [some (.ref b), some (.ref (A 0)), some (.ref a), some (.ref (a + 17)), some (.int (nI i)), y5, y6, y7] [] h' Q) : rx_W V (d + 10) (1 + kc) (6 + ks) m_La_law 771 [some (.ref b), some (.ref (A 0)), some (.ref a), some (.ref (a + 17)), some (.int (nI i)), y5, y6, y7] [] h Q := by
  obtain ⟨na, Le, Te, Va, num, NS, S, fo, H, m⟩ := I
  obtain ⟨⟨kn, kp, C⟩, ⟨h8, h9, e8, ha8⟩, ho, hna⟩ := id H
  have hd9 := lw_d hA hna
  obtain ⟨code, v, pw, pm⟩ := p_at (d := d) htr C m ho hd9 ((xs (i + 1)).toInt64 <<< ((32 : Int32).toInt64 &&& 63) ||| (xs (i + 2)).toInt64 &&& 4294967295)
  refine rx_aload_nr d_La_law_771 (by rfl) ?_
  refine rx_aload_nr d_La_law_772 (by rfl) ?_
  refine rx_iload d_La_law_773 (by rfl) ?_
  refine rx_iconst (v := 1) d_La_law_775 (by decide) ?_
  refine rx_iadd d_La_law_776 ?_
  rw [show nI i + 1 = nI (i + 1) from nI_add i 1]
  refine rx_ialoadX d_La_law_777 hq (vp_in_nI (by omega) (by omega)) ?_
  rw [i_cl (by omega)]
  refine rx_i2l d_La_law_778 ?_
  refine rx_bipush (v := 32) d_La_law_779 (by decide) ?_
  refine rx_lshl d_La_law_781 ?_
  refine rx_aload_nr d_La_law_782 (by rfl) ?_
  refine rx_iload d_La_law_783 (by rfl) ?_
  refine rx_iconst (v := 2) d_La_law_785 (by decide) ?_
  refine rx_iadd d_La_law_786 ?_
  rw [show nI i + 2 = nI (i + 2) from nI_add i 2]
  refine rx_ialoadX d_La_law_787 hq (vp_in_nI (by omega) (by omega)) ?_
  rw [i_cl (by omega)]
  refine rx_i2l d_La_law_788 ?_
  refine rx_ldc2 d_La_law_789 kl_La_116 ?_
  refine rx_land d_La_law_792 ?_
  refine rx_lor d_La_law_793 ?_
  refine rx_aload_nr d_La_law_794 (by rfl) ?_
  refine rx_okSW d_La_law_795 ml_La_118 st_La_at cw_La_at (rx_in 0 (by decide +kernel) (by decide +kernel)) (by decide +kernel) (by decide +kernel) (by exact hl_La_at) (by exact Nat.le_of_ble_eq_true rfl) (by decide +kernel) (by rfl) (by exact Nat.le_of_ble_eq_true rfl) pw ?_
  intro hw zw
  obtain ⟨fo2, H2, ex⟩ := H.wp hA zw hna
  obtain ⟨-, ⟨h1, h2, rfl, ha⟩, ho2, -⟩ := id H2
  refine rx_istore d_La_law_798 (Nat.le_of_ble_eq_true rfl) ?_
  refine rx_aload_nr d_La_law_800 (by rfl) ?_
  refine rx_aload_nr d_La_law_801 (by rfl) ?_
  refine rx_iload d_La_law_802 (by rfl) ?_
  refine rx_iconst (v := 1) d_La_law_804 (by decide) ?_
  refine rx_iadd d_La_law_805 ?_
  rw [show nI i + 1 = nI (i + 1) from nI_add i 1]
  refine rx_ialoadX d_La_law_806 hq (vp_in_nI (by omega) (by omega)) ?_
  rw [i_cl (by omega)]
  refine rx_i2l d_La_law_807 ?_
  refine rx_bipush (v := 32) d_La_law_808 (by decide) ?_
  refine rx_lshl d_La_law_810 ?_
  refine rx_aload_nr d_La_law_811 (by rfl) ?_
  refine rx_iload d_La_law_812 (by rfl) ?_
  refine rx_iconst (v := 2) d_La_law_814 (by decide) ?_
  refine rx_iadd d_La_law_815 ?_
  rw [show nI i + 2 = nI (i + 2) from nI_add i 2]
  refine rx_ialoadX d_La_law_816 hq (vp_in_nI (by omega) (by omega)) ?_
  rw [i_cl (by omega)]
  refine rx_i2l d_La_law_817 ?_
  refine rx_ldc2 d_La_law_818 kl_La_116 ?_
  refine rx_land d_La_law_821 ?_
  refine rx_lor d_La_law_822 ?_
  refine rx_pV d_La_law_823 (by rfl) ml_La_121 im_Mo_at se_Mo_at (by exact c9_Mo_at) (mr0 ha) (by rfl) (by exact Nat.le_of_ble_eq_true rfl) (rx_more (pm h1 h2 ha) (Nat.le_succ _) (Nat.le_refl _) (Nat.le_refl _)) ?_
  intro hm z9
  obtain ⟨S', rfl, cS, mS⟩ := z9
  refine rx_istore d_La_law_826 (Nat.le_of_ble_eq_true rfl) ?_
  refine rx_aload_nr d_La_law_828 (by rfl) ?_
  refine rx_cV d_La_law_829 (by rfl) ml_La_75 im_Mo_thrown se_Mo_thrown (by exact c9_Mo_thrown) (mr0 ha) (by rfl) (by exact Nat.le_of_ble_eq_true rfl) (k_thrown ha) ?_
  rw [cS]
  refine rx_iload d_La_law_832 (by rfl) ?_
  refine rx_icmp_eq (tgt := 839) d_La_law_834 (by rfl) (fun c834 => ?_) (fun z => absurd rfl z)
  refine rx_iload d_La_law_839 (by rfl) ?_
  refine rx_if_ne (tgt := 856) d_La_law_841 (by rfl) (fun c841 => ?_) (fun c841 => ?_)
  · refine rx_goto (tgt := 1062) d_La_law_856 (by rfl) ?_
    exact K _ _ _ _ ⟨na, Le, Te, Va, num, NS, S', fo2, H2.mo ha hA, mS⟩
  · refine rx_aload_nr d_La_law_844 (by rfl) ?_
    refine rx_iconst (v := 0) d_La_law_845 (by decide) ?_
    refine rx_laload d_La_law_846 (by rfl) ((mw_fr (h2 := h2) (S := S) (S' := S') ha).2 (a + 17) (by omega) |>.trans ho2) vp_01 ?_
    rw [ex c841]
    refine rx_iload d_La_law_847 (by rfl) ?_
    refine rx_i2l d_La_law_849 ?_
    refine rx_lcmp d_La_law_850 ?_
    refine rx_if_eq (tgt := 856) d_La_law_851 (by rfl) (fun c851 => ?_) (fun z => absurd (lg_self _) z)
    refine rx_goto (tgt := 1062) d_La_law_856 (by rfl) ?_
    exact K _ _ _ _ ⟨na, Le, Te, Va, num, NS, S', fo2, H2.mo ha hA, mS⟩
theorem la_sounds (htr : V.1.stackTraces = false) (hq : (b, L, xs) ∈ V.2.2.2.2) (hL : L ≤ 3585) (hA : lwA A ra n a) (hi : i + 7 ≤ L) (I : lwI V A ra n a h) (K : ∀ h' y5 y6 y7, lwI V A ra n a h' → rx_W V (d + 10) kc ks m_La_law 1062 [some (.ref b), some (.ref (A 0)), some (.ref a), some (.ref (a + 17)), some (.int (nI i)), y5, y6, y7] [] h' Q) : rx_W V (d + 10) (1 + kc) (6 + ks) m_La_law 859 [some (.ref b), some (.ref (A 0)), some (.ref a), some (.ref (a + 17)), some (.int (nI i)), y5, y6, y7] [] h Q := by
  obtain ⟨na, Le, Te, Va, num, NS, S, fo, H, m⟩ := I
  obtain ⟨⟨kn, kp, C⟩, ⟨h8, h9, e8, ha8⟩, ho, hna⟩ := id H
  have hd9 := lw_d hA hna
  obtain ⟨code, v, pw, pm⟩ := p_sounds (d := d) htr C m ho hd9 (xs (i + 1))
  refine rx_aload_nr d_La_law_859 (by rfl) ?_
  refine rx_aload_nr d_La_law_860 (by rfl) ?_
  refine rx_iload d_La_law_861 (by rfl) ?_
  refine rx_iconst (v := 1) d_La_law_863 (by decide) ?_
  refine rx_iadd d_La_law_864 ?_
  rw [show nI i + 1 = nI (i + 1) from nI_add i 1]
  refine rx_ialoadX d_La_law_865 hq (vp_in_nI (by omega) (by omega)) ?_
  rw [i_cl (by omega)]
  refine rx_aload_nr d_La_law_866 (by rfl) ?_
  refine rx_okSW d_La_law_867 ml_La_122 st_La_sounds cw_La_sounds (rx_in 0 (by decide +kernel) (by decide +kernel)) (by decide +kernel) (by decide +kernel) (by exact hl_La_sounds) (by exact Nat.le_of_ble_eq_true rfl) (by decide +kernel) (by rfl) (by exact Nat.le_of_ble_eq_true rfl) pw ?_
  intro hw zw
  obtain ⟨fo2, H2, ex⟩ := H.wp hA zw hna
  obtain ⟨-, ⟨h1, h2, rfl, ha⟩, ho2, -⟩ := id H2
  refine rx_istore d_La_law_870 (Nat.le_of_ble_eq_true rfl) ?_
  refine rx_aload_nr d_La_law_872 (by rfl) ?_
  refine rx_aload_nr d_La_law_873 (by rfl) ?_
  refine rx_iload d_La_law_874 (by rfl) ?_
  refine rx_iconst (v := 1) d_La_law_876 (by decide) ?_
  refine rx_iadd d_La_law_877 ?_
  rw [show nI i + 1 = nI (i + 1) from nI_add i 1]
  refine rx_ialoadX d_La_law_878 hq (vp_in_nI (by omega) (by omega)) ?_
  rw [i_cl (by omega)]
  refine rx_pV d_La_law_879 (by rfl) ml_La_124 im_Mo_sounds se_Mo_sounds (by exact c9_Mo_sounds) (mr0 ha) (by rfl) (by exact Nat.le_of_ble_eq_true rfl) (rx_more (pm h1 h2 ha) (Nat.le_succ _) (Nat.le_refl _) (Nat.le_refl _)) ?_
  intro hm z9
  obtain ⟨S', rfl, cS, mS⟩ := z9
  refine rx_istore d_La_law_882 (Nat.le_of_ble_eq_true rfl) ?_
  refine rx_aload_nr d_La_law_884 (by rfl) ?_
  refine rx_cV d_La_law_885 (by rfl) ml_La_75 im_Mo_thrown se_Mo_thrown (by exact c9_Mo_thrown) (mr0 ha) (by rfl) (by exact Nat.le_of_ble_eq_true rfl) (k_thrown ha) ?_
  rw [cS]
  refine rx_iload d_La_law_888 (by rfl) ?_
  refine rx_icmp_eq (tgt := 895) d_La_law_890 (by rfl) (fun c890 => ?_) (fun z => absurd rfl z)
  refine rx_iload d_La_law_895 (by rfl) ?_
  refine rx_if_ne (tgt := 912) d_La_law_897 (by rfl) (fun c897 => ?_) (fun c897 => ?_)
  · refine rx_goto (tgt := 1062) d_La_law_912 (by rfl) ?_
    exact K _ _ _ _ ⟨na, Le, Te, Va, num, NS, S', fo2, H2.mo ha hA, mS⟩
  · refine rx_aload_nr d_La_law_900 (by rfl) ?_
    refine rx_iconst (v := 0) d_La_law_901 (by decide) ?_
    refine rx_laload d_La_law_902 (by rfl) ((mw_fr (h2 := h2) (S := S) (S' := S') ha).2 (a + 17) (by omega) |>.trans ho2) vp_01 ?_
    rw [ex c897]
    refine rx_iload d_La_law_903 (by rfl) ?_
    refine rx_i2l d_La_law_905 ?_
    refine rx_lcmp d_La_law_906 ?_
    refine rx_if_eq (tgt := 912) d_La_law_907 (by rfl) (fun c907 => ?_) (fun z => absurd (lg_self _) z)
    refine rx_goto (tgt := 1062) d_La_law_912 (by rfl) ?_
    exact K _ _ _ _ ⟨na, Le, Te, Va, num, NS, S', fo2, H2.mo ha hA, mS⟩
theorem la_sound (htr : V.1.stackTraces = false) (hq : (b, L, xs) ∈ V.2.2.2.2) (hL : L ≤ 3585) (hA : lwA A ra n a) (hi : i + 7 ≤ L) (I : lwI V A ra n a h) (K : ∀ h' y5 y6 y7, lwI V A ra n a h' → rx_W V (d + 10) kc ks m_La_law 1062 [some (.ref b), some (.ref (A 0)), some (.ref a), some (.ref (a + 17)), some (.int (nI i)), y5, y6, y7] [] h' Q) : rx_W V (d + 10) (1 + kc) (6 + ks) m_La_law 915 [some (.ref b), some (.ref (A 0)), some (.ref a), some (.ref (a + 17)), some (.int (nI i)), y5, y6, y7] [] h Q := by
  obtain ⟨na, Le, Te, Va, num, NS, S, fo, H, m⟩ := I
  obtain ⟨⟨kn, kp, C⟩, ⟨h8, h9, e8, ha8⟩, ho, hna⟩ := id H
  have hd9 := lw_d hA hna
  obtain ⟨code, v, pw, pm⟩ := p_sound (d := d) htr C m ho hd9 (xs (i + 1)) (xs (i + 2)) (xs (i + 3))
  refine rx_aload_nr d_La_law_915 (by rfl) ?_
  refine rx_aload_nr d_La_law_916 (by rfl) ?_
  refine rx_iload d_La_law_917 (by rfl) ?_
  refine rx_iconst (v := 1) d_La_law_919 (by decide) ?_
  refine rx_iadd d_La_law_920 ?_
  rw [show nI i + 1 = nI (i + 1) from nI_add i 1]
  refine rx_ialoadX d_La_law_921 hq (vp_in_nI (by omega) (by omega)) ?_
  rw [i_cl (by omega)]
  refine rx_aload_nr d_La_law_922 (by rfl) ?_
  refine rx_iload d_La_law_923 (by rfl) ?_
  refine rx_iconst (v := 2) d_La_law_925 (by decide) ?_
  refine rx_iadd d_La_law_926 ?_
  rw [show nI i + 2 = nI (i + 2) from nI_add i 2]
  refine rx_ialoadX d_La_law_927 hq (vp_in_nI (by omega) (by omega)) ?_
  rw [i_cl (by omega)]
  refine rx_aload_nr d_La_law_928 (by rfl) ?_
  refine rx_iload d_La_law_929 (by rfl) ?_
  refine rx_iconst (v := 3) d_La_law_931 (by decide) ?_
  refine rx_iadd d_La_law_932 ?_
  rw [show nI i + 3 = nI (i + 3) from nI_add i 3]
  refine rx_ialoadX d_La_law_933 hq (vp_in_nI (by omega) (by omega)) ?_
  rw [i_cl (by omega)]
  refine rx_aload_nr d_La_law_934 (by rfl) ?_
  refine rx_okSW d_La_law_935 ml_La_125 st_La_sound cw_La_sound (rx_in 0 (by decide +kernel) (by decide +kernel)) (by decide +kernel) (by decide +kernel) (by exact hl_La_sound) (by exact Nat.le_of_ble_eq_true rfl) (by decide +kernel) (by rfl) (by exact Nat.le_of_ble_eq_true rfl) pw ?_
  intro hw zw
  obtain ⟨fo2, H2, ex⟩ := H.wp hA zw hna
  obtain ⟨-, ⟨h1, h2, rfl, ha⟩, ho2, -⟩ := id H2
  refine rx_istore d_La_law_938 (Nat.le_of_ble_eq_true rfl) ?_
  refine rx_aload_nr d_La_law_940 (by rfl) ?_
  refine rx_aload_nr d_La_law_941 (by rfl) ?_
  refine rx_iload d_La_law_942 (by rfl) ?_
  refine rx_iconst (v := 1) d_La_law_944 (by decide) ?_
  refine rx_iadd d_La_law_945 ?_
  rw [show nI i + 1 = nI (i + 1) from nI_add i 1]
  refine rx_ialoadX d_La_law_946 hq (vp_in_nI (by omega) (by omega)) ?_
  rw [i_cl (by omega)]
  refine rx_aload_nr d_La_law_947 (by rfl) ?_
  refine rx_iload d_La_law_948 (by rfl) ?_
  refine rx_iconst (v := 2) d_La_law_950 (by decide) ?_
  refine rx_iadd d_La_law_951 ?_
  rw [show nI i + 2 = nI (i + 2) from nI_add i 2]
  refine rx_ialoadX d_La_law_952 hq (vp_in_nI (by omega) (by omega)) ?_
  rw [i_cl (by omega)]
  refine rx_aload_nr d_La_law_953 (by rfl) ?_
  refine rx_iload d_La_law_954 (by rfl) ?_
  refine rx_iconst (v := 3) d_La_law_956 (by decide) ?_
  refine rx_iadd d_La_law_957 ?_
  rw [show nI i + 3 = nI (i + 3) from nI_add i 3]
  refine rx_ialoadX d_La_law_958 hq (vp_in_nI (by omega) (by omega)) ?_
  rw [i_cl (by omega)]
  refine rx_pV d_La_law_959 (by rfl) ml_La_127 im_Mo_sound se_Mo_sound (by exact c9_Mo_sound) (mr0 ha) (by rfl) (by exact Nat.le_of_ble_eq_true rfl) (rx_more (pm h1 h2 ha) (Nat.le_succ _) (Nat.le_refl _) (Nat.le_refl _)) ?_
  intro hm z9
  obtain ⟨S', rfl, cS, mS⟩ := z9
  refine rx_lstore d_La_law_962 (Nat.le_of_ble_eq_true rfl) ?_
  refine rx_aload_nr d_La_law_964 (by rfl) ?_
  refine rx_cV d_La_law_965 (by rfl) ml_La_75 im_Mo_thrown se_Mo_thrown (by exact c9_Mo_thrown) (mr0 ha) (by rfl) (by exact Nat.le_of_ble_eq_true rfl) (k_thrown ha) ?_
  rw [cS]
  refine rx_iload d_La_law_968 (by rfl) ?_
  refine rx_icmp_eq (tgt := 975) d_La_law_970 (by rfl) (fun c970 => ?_) (fun z => absurd rfl z)
  refine rx_iload d_La_law_975 (by rfl) ?_
  refine rx_if_ne (tgt := 991) d_La_law_977 (by rfl) (fun c977 => ?_) (fun c977 => ?_)
  · refine rx_goto (tgt := 1062) d_La_law_991 (by rfl) ?_
    exact K _ _ _ _ ⟨na, Le, Te, Va, num, NS, S', fo2, H2.mo ha hA, mS⟩
  · refine rx_aload_nr d_La_law_980 (by rfl) ?_
    refine rx_iconst (v := 0) d_La_law_981 (by decide) ?_
    refine rx_laload d_La_law_982 (by rfl) ((mw_fr (h2 := h2) (S := S) (S' := S') ha).2 (a + 17) (by omega) |>.trans ho2) vp_01 ?_
    rw [ex c977]
    refine rx_lload d_La_law_983 (by rfl) ?_
    refine rx_lcmp d_La_law_985 ?_
    refine rx_if_eq (tgt := 991) d_La_law_986 (by rfl) (fun c986 => ?_) (fun z => absurd (lg_self _) z)
    refine rx_goto (tgt := 1062) d_La_law_991 (by rfl) ?_
    exact K _ _ _ _ ⟨na, Le, Te, Va, num, NS, S', fo2, H2.mo ha hA, mS⟩
theorem la_rest (htr : V.1.stackTraces = false) (hq : (b, L, xs) ∈ V.2.2.2.2) (hL : L ≤ 3585) (hA : lwA A ra n a) (hi : i + 7 ≤ L) (I : lwI V A ra n a h) (K : ∀ h' y5 y6 y7, lwI V A ra n a h' → rx_W V (d + 10) kc ks m_La_law 1062 [some (.ref b), some (.ref (A 0)), some (.ref a), some (.ref (a + 17)), some (.int (nI i)), y5, y6, y7] [] h' Q) : rx_W V (d + 10) (1 + kc) (6 + ks) m_La_law 994 [some (.ref b), some (.ref (A 0)), some (.ref a), some (.ref (a + 17)), some (.int (nI i)), y5, y6, y7] [] h Q := by
  obtain ⟨na, Le, Te, Va, num, NS, S, fo, H, m⟩ := I
  obtain ⟨⟨kn, kp, C⟩, ⟨h8, h9, e8, ha8⟩, ho, hna⟩ := id H
  have hd9 := lw_d hA hna
  obtain ⟨code, v, pw, pm⟩ := p_rest (d := d) htr C m ho hd9 (xs (i + 1)) (xs (i + 2))
  refine rx_aload_nr d_La_law_994 (by rfl) ?_
  refine rx_aload_nr d_La_law_995 (by rfl) ?_
  refine rx_iload d_La_law_996 (by rfl) ?_
  refine rx_iconst (v := 1) d_La_law_998 (by decide) ?_
  refine rx_iadd d_La_law_999 ?_
  rw [show nI i + 1 = nI (i + 1) from nI_add i 1]
  refine rx_ialoadX d_La_law_1000 hq (vp_in_nI (by omega) (by omega)) ?_
  rw [i_cl (by omega)]
  refine rx_aload_nr d_La_law_1001 (by rfl) ?_
  refine rx_iload d_La_law_1002 (by rfl) ?_
  refine rx_iconst (v := 2) d_La_law_1004 (by decide) ?_
  refine rx_iadd d_La_law_1005 ?_
  rw [show nI i + 2 = nI (i + 2) from nI_add i 2]
  refine rx_ialoadX d_La_law_1006 hq (vp_in_nI (by omega) (by omega)) ?_
  rw [i_cl (by omega)]
  refine rx_aload_nr d_La_law_1007 (by rfl) ?_
  refine rx_okSW d_La_law_1008 ml_La_128 st_La_rest cw_La_rest (rx_in 0 (by decide +kernel) (by decide +kernel)) (by decide +kernel) (by decide +kernel) (by exact hl_La_rest) (by exact Nat.le_of_ble_eq_true rfl) (by decide +kernel) (by rfl) (by exact Nat.le_of_ble_eq_true rfl) pw ?_
  intro hw zw
  obtain ⟨fo2, H2, ex⟩ := H.wp hA zw hna
  obtain ⟨-, ⟨h1, h2, rfl, ha⟩, ho2, -⟩ := id H2
  refine rx_istore d_La_law_1011 (Nat.le_of_ble_eq_true rfl) ?_
  refine rx_aload_nr d_La_law_1013 (by rfl) ?_
  refine rx_aload_nr d_La_law_1014 (by rfl) ?_
  refine rx_iload d_La_law_1015 (by rfl) ?_
  refine rx_iconst (v := 1) d_La_law_1017 (by decide) ?_
  refine rx_iadd d_La_law_1018 ?_
  rw [show nI i + 1 = nI (i + 1) from nI_add i 1]
  refine rx_ialoadX d_La_law_1019 hq (vp_in_nI (by omega) (by omega)) ?_
  rw [i_cl (by omega)]
  refine rx_aload_nr d_La_law_1020 (by rfl) ?_
  refine rx_iload d_La_law_1021 (by rfl) ?_
  refine rx_iconst (v := 2) d_La_law_1023 (by decide) ?_
  refine rx_iadd d_La_law_1024 ?_
  rw [show nI i + 2 = nI (i + 2) from nI_add i 2]
  refine rx_ialoadX d_La_law_1025 hq (vp_in_nI (by omega) (by omega)) ?_
  rw [i_cl (by omega)]
  refine rx_pV d_La_law_1026 (by rfl) ml_La_130 im_Mo_rest se_Mo_rest (by exact c9_Mo_rest) (mr0 ha) (by rfl) (by exact Nat.le_of_ble_eq_true rfl) (rx_more (pm h1 h2 ha) (Nat.le_succ _) (Nat.le_refl _) (Nat.le_refl _)) ?_
  intro hm z9
  obtain ⟨S', rfl, cS, mS⟩ := z9
  refine rx_istore d_La_law_1029 (Nat.le_of_ble_eq_true rfl) ?_
  refine rx_aload_nr d_La_law_1031 (by rfl) ?_
  refine rx_cV d_La_law_1032 (by rfl) ml_La_75 im_Mo_thrown se_Mo_thrown (by exact c9_Mo_thrown) (mr0 ha) (by rfl) (by exact Nat.le_of_ble_eq_true rfl) (k_thrown ha) ?_
  rw [cS]
  refine rx_iload d_La_law_1035 (by rfl) ?_
  refine rx_icmp_eq (tgt := 1042) d_La_law_1037 (by rfl) (fun c1037 => ?_) (fun z => absurd rfl z)
  refine rx_iload d_La_law_1042 (by rfl) ?_
  refine rx_if_ne (tgt := 1059) d_La_law_1044 (by rfl) (fun c1044 => ?_) (fun c1044 => ?_)
  · refine rx_goto (tgt := 1062) d_La_law_1059 (by rfl) ?_
    exact K _ _ _ _ ⟨na, Le, Te, Va, num, NS, S', fo2, H2.mo ha hA, mS⟩
  · refine rx_aload_nr d_La_law_1047 (by rfl) ?_
    refine rx_iconst (v := 0) d_La_law_1048 (by decide) ?_
    refine rx_laload d_La_law_1049 (by rfl) ((mw_fr (h2 := h2) (S := S) (S' := S') ha).2 (a + 17) (by omega) |>.trans ho2) vp_01 ?_
    rw [ex c1044]
    refine rx_iload d_La_law_1050 (by rfl) ?_
    refine rx_i2l d_La_law_1052 ?_
    refine rx_lcmp d_La_law_1053 ?_
    refine rx_if_eq (tgt := 1059) d_La_law_1054 (by rfl) (fun c1054 => ?_) (fun z => absurd (lg_self _) z)
    refine rx_goto (tgt := 1062) d_La_law_1059 (by rfl) ?_
    exact K _ _ _ _ ⟨na, Le, Te, Va, num, NS, S', fo2, H2.mo ha hA, mS⟩
end LW
