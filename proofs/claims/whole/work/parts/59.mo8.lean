/-! the reference's walk: goOn, walk -/
def goP (V : rx_V) (h1 : List va_E) (a : Nat) (S : mT) (h2 : List va_E) (n : Nat) (Va : Nat → Int32) (s : gT) (g : Nat → Option Nat) (k9 : Nat) (x : wT × Option Nat) (r : rx_R) (h' : List va_E) : Prop := match x.2 with
  | none => r = .inl (some (.int 0)) ∧ ∃ S', h' = mw V h1 a S' h2 ∧ mE S S' ∧ S'.1 24 = S.1 24 ∧ S'.2.2 16 = S.2.2 16
  | some c => r = .inl (some (.int 1)) ∧ gPo V h1 a S h2 n Va s g k9 x.1 c h'
theorem goP.b {V : rx_V} {h1 h2 h' : List va_E} {a n k9 : Nat} {S S1 : mT} {Va : Nat → Int32} {s : gT} {g : Nat → Option Nat} {x : wT × Option Nat} {r : rx_R} (H : goP V h1 a S1 h2 n Va s g k9 x r h') (E : mE S S1) (e24 : S1.1 24 = S.1 24) (e : S1.2.2 16 = S.2.2 16) : goP V h1 a S h2 n Va s g k9 x r h' := by
  unfold goP at H ⊢
  cases z : x.2 with
  | none =>
    rw [z] at H
    obtain ⟨q1, S', q2, q3, q4, q5⟩ := H
    exact ⟨q1, S', q2, E.trans q3, q4.trans e24, q5.trans e⟩
  | some c =>
    rw [z] at H
    exact ⟨H.1, H.2.b E e⟩
theorem ite_1 {p : Bool} {x : Int32} : (if p = true then x else 0) = 1 ↔ p = true ∧ x = 1 := by
  cases p with
  | true => rw [if_pos rfl]; exact ⟨fun z => ⟨rfl, z⟩, fun z => z.2⟩
  | false => exact ⟨fun z => absurd z (by rw [if_neg (by decide)]; decide), fun z => nomatch z.1⟩
theorem ite_2 {p : Bool} {x : Int32} : (if p = true then x else 0) = 2 ↔ p = true ∧ x = 2 := by
  cases p with
  | true => rw [if_pos rfl]; exact ⟨fun z => ⟨rfl, z⟩, fun z => z.2⟩
  | false => exact ⟨fun z => absurd z (by rw [if_neg (by decide)]; decide), fun z => nomatch z.1⟩
section GO
variable {V : rx_V} {d kc ks : Nat} {h h1 h2 : List va_E} {a n b c k9 : Nat} {S S0 : mT} {Va : Nat → Int32} {Q : rx_R → List va_E → Prop} {v : Int32} {s : gT} {g : Nat → Option Nat} {u : wT} {ag : Bool}
theorem l_goOn64 (ha : a = V.2.1 + h1.length) (hN : mN n S) (hVa : S.2.2 4 = Va) (M : mapOk n Va s g) (R : mR S s g) (hp : mP S s u.1) (hpr : ∀ r, r < s.1 → 1 ≤ u.1 r ∧ u.1 r ≤ cn s r) (hj : mJ (S.1 22) u) (hw : S.1 23 = bi u.2.2.1) (h20 : S.1 20 = nI b) (hbn : b < n) (h21 : S.1 21 = bi ag) (hk : S.1 24 = nI k9) (hk4 : k9 < 400) (hco : u.2.1 = true → u.2.2.2.1 = 2 → ∃ y, y < n ∧ hb Va 4 y = true) {y1 : Option Value} : rx_W V (d + 5) kc ks m_Mo_goOn 64 [some (.ref a), y1] [] (mw V h1 a S h2) (goP V h1 a S h2 n Va s g k9 (wn2 n Va u b ag)) := by
  obtain ⟨M1, M2, M3, M4, M5, M6⟩ := id M
  have hv : vok n (S.2.2 4) := by rw [hVa]; exact M3
  have ehw := mJ_hw hj
  have e189 : ¬ (ag = false ∧ u.2.1 = true ∧ u.2.2.2.1 = 1 ∧ hb Va 5 b = true) → ¬ (ag = false ∧ u.2.1 = true ∧ u.2.2.2.1 = 2 ∧ u.2.2.1 = false ∧ hb Va 6 b = true) → ¬ (ag = false ∧ u.2.1 = false ∧ hb Va 7 b = true) → rx_W V (d + 5) kc ks m_Mo_goOn 189 [some (.ref a), y1] [] (mw V h1 a S h2) (goP V h1 a S h2 n Va s g k9 (wn2 n Va u b ag)) := by
    intro n1 n2 n3
    have ewn : wn2 n Va u b ag = (u, if b + 1 < n then some (b + 1) else none) := (if_neg n1).trans ((if_neg n2).trans (if_neg n3))
    refine rx_aload_nr d_Mo_goOn_189 (by rfl) ?_
    refine rx_getfield d_Mo_goOn_190 fl_Mo_148 (mr0 ha) (by rfl) ?_
    rw [h20]
    refine rx_iconst (v := 1) d_Mo_goOn_193 (by decide) ?_
    refine rx_iadd d_Mo_goOn_194 ?_
    rw [nI_1]
    refine rx_aload_nr d_Mo_goOn_195 (by rfl) ?_
    refine rx_getfield d_Mo_goOn_196 fl_Mo_59 (mr0 ha) (by rfl) ?_
    rw [show S.1 2 = nI n from hN.1]
    refine rx_icmp_ne (tgt := 204) d_Mo_goOn_199 (by rfl) (fun c199 => ?_) (fun c199 => ?_)
    · have c199 : b + 1 ≠ n := fun z => c199 (by rw [z])
      refine rx_aload_nr d_Mo_goOn_204 (by rfl) ?_
      refine rx_aload_nr d_Mo_goOn_205 (by rfl) ?_
      refine rx_getfield d_Mo_goOn_206 fl_Mo_148 (mr0 ha) (by rfl) ?_
      rw [h20]
      refine rx_iconst (v := 1) d_Mo_goOn_209 (by decide) ?_
      refine rx_iadd d_Mo_goOn_210 ?_
      rw [nI_1]
      refine rx_pV d_Mo_goOn_211 (by rfl) ml_Mo_165 im_Mo_come se_Mo_come (by exact c9_Mo_come) (mr0 ha) (by rfl) (by exact Nat.le_of_ble_eq_true rfl) (k_come (d := d + 2) ha hN hVa M R hp hpr hj hw hk hk4 (c := b + 1) (by omega)) ?_
      intro hx z9
      have z8 := z9
      refine rx_iconst (v := 1) d_Mo_goOn_214 (by decide) ?_
      refine rx_zreturn d_Mo_goOn_215 (by rfl) (by rfl) ?_
      rw [ewn, if_pos (show b + 1 < n by omega)]
      exact ⟨rfl, z8⟩
    · have c199 : b + 1 = n := (nI_eq (by omega) (by omega)).mp c199
      refine rx_iconst (v := 0) d_Mo_goOn_202 (by decide) ?_
      refine rx_zreturn d_Mo_goOn_203 (by rfl) (by rfl) ?_
      rw [ewn, if_neg (show ¬ b + 1 < n by omega)]
      exact ⟨rfl, S, rfl, mE.refl, rfl, rfl⟩
  have e144 : ¬ (ag = false ∧ u.2.1 = true ∧ u.2.2.2.1 = 1 ∧ hb Va 5 b = true) → ¬ (ag = false ∧ u.2.1 = true ∧ u.2.2.2.1 = 2 ∧ u.2.2.1 = false ∧ hb Va 6 b = true) → rx_W V (d + 5) kc ks m_Mo_goOn 144 [some (.ref a), y1] [] (mw V h1 a S h2) (goP V h1 a S h2 n Va s g k9 (wn2 n Va u b ag)) := by
    intro n1 n2
    refine rx_aload_nr d_Mo_goOn_144 (by rfl) ?_
    refine rx_getfield d_Mo_goOn_145 fl_Mo_145 (mr0 ha) (by rfl) ?_
    refine rx_if_ge (tgt := 189) d_Mo_goOn_148 (by rfl) (fun c148 => ?_) (fun c148 => ?_)
    · have c148 : ¬ u.2.1 = false := fun z => i_nlt c148 ((mJ_lt hj).mpr z)
      first | exact e189 n1 n2 (fun z => c148 z.2.1) | exact e189 n1 n2 (fun z => absurd z.2.2 (by rw [c161]; decide)) | exact e189 n1 n2 (fun z => absurd z.1 (by rw [c168]; decide))
    · have c148 : u.2.1 = false := (mJ_lt hj).mp (Decidable.not_not.mp (fun z => c148 (i_nle' z)))
      refine rx_aload_nr d_Mo_goOn_151 (by rfl) ?_
      refine rx_aload_nr d_Mo_goOn_152 (by rfl) ?_
      refine rx_getfield d_Mo_goOn_153 fl_Mo_148 (mr0 ha) (by rfl) ?_
      rw [h20]
      refine rx_bipush (v := 7) d_Mo_goOn_156 (by decide) ?_
      refine rx_cV d_Mo_goOn_158 (by rfl) ml_Mo_90 im_Mo_has se_Mo_has (by exact c9_Mo_has) (mr0 ha) (by rfl) (by exact Nat.le_of_ble_eq_true rfl) (k_has ha hN hv (b := b) (k := 7) (by omega) (by omega)) ?_
      rw [hbn_1 hbn, hVa]
      refine rx_if_eq (tgt := 189) d_Mo_goOn_161 (by rfl) (fun c161 => ?_) (fun c161 => ?_)
      · have c161 : hb Va 7 b = false := bi_0.mp c161
        first | exact e189 n1 n2 (fun z => c148 z.2.1) | exact e189 n1 n2 (fun z => absurd z.2.2 (by rw [c161]; decide)) | exact e189 n1 n2 (fun z => absurd z.1 (by rw [c168]; decide))
      · have c161 : hb Va 7 b = true := bi_1.mp c161
        refine rx_aload_nr d_Mo_goOn_164 (by rfl) ?_
        refine rx_getfield d_Mo_goOn_165 fl_Mo_155 (mr0 ha) (by rfl) ?_
        rw [h21]
        refine rx_if_ne (tgt := 189) d_Mo_goOn_168 (by rfl) (fun c168 => ?_) (fun c168 => ?_)
        · have c168 : ag = true := bi_1.mp c168
          first | exact e189 n1 n2 (fun z => c148 z.2.1) | exact e189 n1 n2 (fun z => absurd z.2.2 (by rw [c161]; decide)) | exact e189 n1 n2 (fun z => absurd z.1 (by rw [c168]; decide))
        · have c168 : ag = false := bi_0.mp c168
          refine rx_aload_nr d_Mo_goOn_171 (by rfl) ?_
          refine rx_aload_nr d_Mo_goOn_172 (by rfl) ?_
          refine rx_aload_nr d_Mo_goOn_173 (by rfl) ?_
          refine rx_getfield d_Mo_goOn_174 fl_Mo_148 (mr0 ha) (by rfl) ?_
          rw [h20]
          refine rx_bipush (v := 7) d_Mo_goOn_177 (by decide) ?_
          refine rx_cV d_Mo_goOn_179 (by rfl) ml_Mo_70 im_Mo_signOf se_Mo_signOf (by exact c9_Mo_signOf) (mr0 ha) (by rfl) (by exact Nat.le_of_ble_eq_true rfl) (k_signOf ha hN (b := b) (k := 7) (by omega) (by omega)) ?_
          rw [sgn_1 hbn, hVa]
          refine rx_iconst (v := 1) d_Mo_goOn_182 (by decide) ?_
          refine rx_isub d_Mo_goOn_183 ?_
          refine rx_pV d_Mo_goOn_184 (by rfl) ml_Mo_177 im_Mo_resetJumped se_Mo_resetJumped (by exact c9_Mo_resetJumped) (mr0 ha) (by rfl) (by exact Nat.le_of_ble_eq_true rfl) (k_resetJumped ha hN hVa M R hbn c161 hw hk hk4) ?_
          intro hx z9
          have z8 := z9
          refine rx_iconst (v := 1) d_Mo_goOn_187 (by decide) ?_
          refine rx_zreturn d_Mo_goOn_188 (by rfl) (by rfl) ?_
          rw [show wn2 n Va u b ag = (wju Va u b, some (wta Va b)) from (if_neg n1).trans ((if_neg n2).trans (if_pos ⟨c168, c148, c161⟩))]
          exact ⟨rfl, z8⟩
  have e93 : ¬ (ag = false ∧ u.2.1 = true ∧ u.2.2.2.1 = 1 ∧ hb Va 5 b = true) → rx_W V (d + 5) kc ks m_Mo_goOn 93 [some (.ref a), y1] [] (mw V h1 a S h2) (goP V h1 a S h2 n Va s g k9 (wn2 n Va u b ag)) := by
    intro n1
    refine rx_aload_nr d_Mo_goOn_93 (by rfl) ?_
    refine rx_cV d_Mo_goOn_94 (by rfl) ml_Mo_171 im_Mo_how se_Mo_how (by exact c9_Mo_how) (mr0 ha) (by rfl) (by exact Nat.le_of_ble_eq_true rfl) (k_how ha) ?_
    rw [ehw]
    refine rx_iconst (v := 2) d_Mo_goOn_97 (by decide) ?_
    refine rx_icmp_ne (tgt := 144) d_Mo_goOn_98 (by rfl) (fun c98 => ?_) (fun c98 => ?_)
    · first | exact e144 n1 (fun z => c98 (ite_2.mpr ⟨z.2.1, z.2.2.1⟩)) | exact e144 n1 (fun z => absurd z.2.2.2.1 (by rw [c105]; decide)) | exact e144 n1 (fun z => absurd z.2.2.2.2 (by rw [c118]; decide)) | exact e144 n1 (fun z => absurd z.1 (by rw [c125]; decide))
    · have c98 := ite_2.mp c98
      have hco1 := hco c98.1 c98.2
      have ew := wco_fo M6 hco1
      refine rx_aload_nr d_Mo_goOn_101 (by rfl) ?_
      refine rx_getfield d_Mo_goOn_102 fl_Mo_174 (mr0 ha) (by rfl) ?_
      rw [hw]
      refine rx_if_ne (tgt := 144) d_Mo_goOn_105 (by rfl) (fun c105 => ?_) (fun c105 => ?_)
      · have c105 : u.2.2.1 = true := bi_1.mp c105
        first | exact e144 n1 (fun z => c98 (ite_2.mpr ⟨z.2.1, z.2.2.1⟩)) | exact e144 n1 (fun z => absurd z.2.2.2.1 (by rw [c105]; decide)) | exact e144 n1 (fun z => absurd z.2.2.2.2 (by rw [c118]; decide)) | exact e144 n1 (fun z => absurd z.1 (by rw [c125]; decide))
      · have c105 : u.2.2.1 = false := bi_0.mp c105
        refine rx_aload_nr d_Mo_goOn_108 (by rfl) ?_
        refine rx_aload_nr d_Mo_goOn_109 (by rfl) ?_
        refine rx_getfield d_Mo_goOn_110 fl_Mo_148 (mr0 ha) (by rfl) ?_
        rw [h20]
        refine rx_bipush (v := 6) d_Mo_goOn_113 (by decide) ?_
        refine rx_cV d_Mo_goOn_115 (by rfl) ml_Mo_90 im_Mo_has se_Mo_has (by exact c9_Mo_has) (mr0 ha) (by rfl) (by exact Nat.le_of_ble_eq_true rfl) (k_has ha hN hv (b := b) (k := 6) (by omega) (by omega)) ?_
        rw [hbn_1 hbn, hVa]
        refine rx_if_eq (tgt := 144) d_Mo_goOn_118 (by rfl) (fun c118 => ?_) (fun c118 => ?_)
        · have c118 : hb Va 6 b = false := bi_0.mp c118
          first | exact e144 n1 (fun z => c98 (ite_2.mpr ⟨z.2.1, z.2.2.1⟩)) | exact e144 n1 (fun z => absurd z.2.2.2.1 (by rw [c105]; decide)) | exact e144 n1 (fun z => absurd z.2.2.2.2 (by rw [c118]; decide)) | exact e144 n1 (fun z => absurd z.1 (by rw [c125]; decide))
        · have c118 : hb Va 6 b = true := bi_1.mp c118
          refine rx_aload_nr d_Mo_goOn_121 (by rfl) ?_
          refine rx_getfield d_Mo_goOn_122 fl_Mo_155 (mr0 ha) (by rfl) ?_
          rw [h21]
          refine rx_if_ne (tgt := 144) d_Mo_goOn_125 (by rfl) (fun c125 => ?_) (fun c125 => ?_)
          · have c125 : ag = true := bi_1.mp c125
            first | exact e144 n1 (fun z => c98 (ite_2.mpr ⟨z.2.1, z.2.2.1⟩)) | exact e144 n1 (fun z => absurd z.2.2.2.1 (by rw [c105]; decide)) | exact e144 n1 (fun z => absurd z.2.2.2.2 (by rw [c118]; decide)) | exact e144 n1 (fun z => absurd z.1 (by rw [c125]; decide))
          · have c125 : ag = false := bi_0.mp c125
            have hcn9 : wco n Va < n := by
              rw [← ew]
              obtain ⟨y, y1, y2⟩ := hco1
              cases e : fix (hb Va 4) 0 n with
              | none => exact absurd ((fix_n e y (by omega) (by omega)).symm.trans y2) (by decide)
              | some x => have := (fix_s e).2.1; show x < n; omega
            refine rx_aload_nr d_Mo_goOn_128 (by rfl) ?_
            refine rx_iconst (v := 1) d_Mo_goOn_129 (by decide) ?_
            refine m_putI (k9 := 23) ha d_Mo_goOn_130 (fw_Mo_174 rfl) (by rfl) (by rfl) (by rfl) ?_
            refine rx_aload_nr d_Mo_goOn_133 (by rfl) ?_
            refine rx_aload_nr d_Mo_goOn_134 (by rfl) ?_
            refine rx_iconst (v := 4) d_Mo_goOn_135 (by decide) ?_
            refine rx_cV d_Mo_goOn_136 (by rfl) ml_Mo_119 im_Mo_firstOf se_Mo_firstOf (by exact c9_Mo_firstOf) (mr0 ha) (by rfl) (by exact Nat.le_of_ble_eq_true rfl) (k_firstOf ha (show mN n (sS S 23 1) from hN) (show vok n ((sS S 23 1).2.2 4) from hv) (k := 4) (by omega)) ?_
            rw [show (sS S 23 1).2.2 4 = Va from hVa, ew]
            refine rx_pV d_Mo_goOn_139 (by rfl) ml_Mo_165 im_Mo_come se_Mo_come (by exact c9_Mo_come) (mr0 ha) (by rfl) (by exact Nat.le_of_ble_eq_true rfl) (k_come (S := sS S 23 1) (d := d + 2) (u := (u.1, u.2.1, true, u.2.2.2.1, u.2.2.2.2)) ha hN hVa M R hp hpr hj rfl hk hk4 hcn9) ?_
            intro hx z9
            have z8 := z9
            refine rx_iconst (v := 1) d_Mo_goOn_142 (by decide) ?_
            refine rx_zreturn d_Mo_goOn_143 (by rfl) (by rfl) ?_
            rw [show wn2 n Va u b ag = ((u.1, u.2.1, true, u.2.2.2.1, u.2.2.2.2), some (wco n Va)) from (if_neg n1).trans (if_pos ⟨c125, c98.1, c98.2, c105, c118⟩)]
            exact ⟨rfl, z8.b (mE.sS mE.refl (by decide) (by decide) (by decide)) rfl⟩
  refine rx_aload_nr d_Mo_goOn_64 (by rfl) ?_
  refine rx_cV d_Mo_goOn_65 (by rfl) ml_Mo_171 im_Mo_how se_Mo_how (by exact c9_Mo_how) (mr0 ha) (by rfl) (by exact Nat.le_of_ble_eq_true rfl) (k_how ha) ?_
  rw [ehw]
  refine rx_iconst (v := 1) d_Mo_goOn_68 (by decide) ?_
  refine rx_icmp_ne (tgt := 93) d_Mo_goOn_69 (by rfl) (fun c69 => ?_) (fun c69 => ?_)
  · first | exact e93 (fun z => c69 (ite_1.mpr ⟨z.2.1, z.2.2.1⟩)) | exact e93 (fun z => absurd z.2.2.2 (by rw [c81]; decide)) | exact e93 (fun z => absurd z.1 (by rw [c88]; decide))
  · refine rx_aload_nr d_Mo_goOn_72 (by rfl) ?_
    refine rx_aload_nr d_Mo_goOn_73 (by rfl) ?_
    refine rx_getfield d_Mo_goOn_74 fl_Mo_148 (mr0 ha) (by rfl) ?_
    rw [h20]
    refine rx_iconst (v := 5) d_Mo_goOn_77 (by decide) ?_
    refine rx_cV d_Mo_goOn_78 (by rfl) ml_Mo_90 im_Mo_has se_Mo_has (by exact c9_Mo_has) (mr0 ha) (by rfl) (by exact Nat.le_of_ble_eq_true rfl) (k_has ha hN hv (b := b) (k := 5) (by omega) (by omega)) ?_
    rw [hbn_1 hbn, hVa]
    refine rx_if_eq (tgt := 93) d_Mo_goOn_81 (by rfl) (fun c81 => ?_) (fun c81 => ?_)
    · have c81 : hb Va 5 b = false := bi_0.mp c81
      first | exact e93 (fun z => c69 (ite_1.mpr ⟨z.2.1, z.2.2.1⟩)) | exact e93 (fun z => absurd z.2.2.2 (by rw [c81]; decide)) | exact e93 (fun z => absurd z.1 (by rw [c88]; decide))
    · have c81 : hb Va 5 b = true := bi_1.mp c81
      refine rx_aload_nr d_Mo_goOn_84 (by rfl) ?_
      refine rx_getfield d_Mo_goOn_85 fl_Mo_155 (mr0 ha) (by rfl) ?_
      rw [h21]
      refine rx_if_ne (tgt := 93) d_Mo_goOn_88 (by rfl) (fun c88 => ?_) (fun c88 => ?_)
      · have c88 : ag = true := bi_1.mp c88
        first | exact e93 (fun z => c69 (ite_1.mpr ⟨z.2.1, z.2.2.1⟩)) | exact e93 (fun z => absurd z.2.2.2 (by rw [c81]; decide)) | exact e93 (fun z => absurd z.1 (by rw [c88]; decide))
      · have c88 : ag = false := bi_0.mp c88
        refine rx_iconst (v := 0) d_Mo_goOn_91 (by decide) ?_
        refine rx_zreturn d_Mo_goOn_92 (by rfl) (by rfl) ?_
        rw [show wn2 n Va u b ag = (u, none) from if_pos ⟨c88, (ite_1.mp c69).1, (ite_1.mp c69).2, c81⟩]
        exact ⟨rfl, S, rfl, mE.refl, rfl, rfl⟩
theorem k_goOn (ha : a = V.2.1 + h1.length) (hN : mN n S) (hVa : S.2.2 4 = Va) (M : mapOk n Va s g) (R : mR S s g) (hp : mP S s u.1) (hpr : ∀ r, r < s.1 → 1 ≤ u.1 r ∧ u.1 r ≤ cn s r) (hj : mJ (S.1 22) u) (hw : S.1 23 = bi u.2.2.1) (h20 : S.1 20 = nI b) (hbn : b < n) (h21 : S.1 21 = bi ag) (hk : S.1 24 = nI k9) (hk4 : k9 < 400) (hco : u.2.1 = true → u.2.2.2.1 = 2 → ∃ y, y < n ∧ hb Va 4 y = true) : rx_C V (d + 5) kc ks m_Mo_goOn [.ref a] (mw V h1 a S h2) (goP V h1 a S h2 n Va s g k9 (wnx n Va s u b ag)) := by
  obtain ⟨M1, M2, M3, M4, M5, M6⟩ := id M
  have I := M4.1
  have hs1 := I.1
  have hfx : fix (fun q => inm (S.2.2 12 q) b) 0 s.1 = gO s b := mM_fix (fun q hq => (R.2 q hq).2.1) (fun q z => (I.2.2.2.2.2.2.1 b q z).1) (by omega)
  have htk := mJ_tk hj
  cases eO : gO s b with
  | none =>
    rw [show wnx n Va s u b ag = wn2 n Va u b ag by unfold wnx; rw [eO]]
    refine rx_aload_nr d_Mo_goOn_0 (by rfl) ?_
    refine rx_aload_nr d_Mo_goOn_1 (by rfl) ?_
    refine rx_getfield d_Mo_goOn_2 fl_Mo_148 (mr0 ha) (by rfl) ?_
    rw [h20]
    refine rx_cV d_Mo_goOn_5 (by rfl) ml_Mo_168 im_Mo_withEnd se_Mo_withEnd (by exact c9_Mo_withEnd) (mr0 ha) (by rfl) (by exact Nat.le_of_ble_eq_true rfl) (k_withEnd ha R.1 (by omega) (by omega)) ?_
    rw [hfx, eO]
    refine rx_istore_n d_Mo_goOn_8 (Nat.le_of_ble_eq_true rfl) ?_
    refine rx_iload_n d_Mo_goOn_9 (by rfl) ?_
    refine rx_if_lt (tgt := 64) d_Mo_goOn_10 (by rfl) (fun c10 => ?_) (fun z => absurd (show onx none < 0 by decide) z)
    exact l_goOn64 ha hN hVa M R hp hpr hj hw h20 hbn h21 hk hk4 hco
  | some r =>
    have hO := I.2.2.2.2.2.2.1 b r eO
    have hr := hO.1
    obtain ⟨j1, j2, j3, j4⟩ := R.2 r hr
    have hc4 := M4.2.2 r hr
    have hr2 := hpr r hr
    have jj := I.2.2.2.2.1 r hr
    refine rx_aload_nr d_Mo_goOn_0 (by rfl) ?_
    refine rx_aload_nr d_Mo_goOn_1 (by rfl) ?_
    refine rx_getfield d_Mo_goOn_2 fl_Mo_148 (mr0 ha) (by rfl) ?_
    rw [h20]
    refine rx_cV d_Mo_goOn_5 (by rfl) ml_Mo_168 im_Mo_withEnd se_Mo_withEnd (by exact c9_Mo_withEnd) (mr0 ha) (by rfl) (by exact Nat.le_of_ble_eq_true rfl) (k_withEnd ha R.1 (by omega) (by omega)) ?_
    rw [hfx, eO, show onx (some r) = nI r from rfl]
    refine rx_istore_n d_Mo_goOn_8 (Nat.le_of_ble_eq_true rfl) ?_
    refine rx_iload_n d_Mo_goOn_9 (by rfl) ?_
    refine rx_if_lt (tgt := 64) d_Mo_goOn_10 (by rfl) (fun z => absurd z (i_nlt (by rw [i_le, i_0, i_n (by omega)]; omega))) (fun c10 => ?_)
    refine rx_aload_nr d_Mo_goOn_13 (by rfl) ?_
    refine rx_cV d_Mo_goOn_14 (by rfl) ml_Mo_151 im_Mo_takes se_Mo_takes (by exact c9_Mo_takes) (mr0 ha) (by rfl) (by exact Nat.le_of_ble_eq_true rfl) (k_takes ha) ?_
    rw [htk]
    refine rx_if_eq (tgt := 64) d_Mo_goOn_17 (by rfl) (fun c17 => ?_) (fun c17 => ?_)
    · have c17 : u.2.2.2.2 = false := bi_0.mp c17
      rw [show wnx n Va s u b ag = wn2 n Va u b ag by unfold wnx; rw [eO]; exact if_neg (by rw [c17]; decide)]
      first
        | exact l_goOn64 ha hN hVa M R hp hpr hj hw h20 hbn h21 hk hk4 hco
        | exact rx_cons (l_goOn64 (S := sA S 15 r 1) (u := (up u.1 r 1, u.2)) ha hN hVa M (R.o rfl (fun j h1 h2 => up_o (show j ≠ 15 by omega))) (fun q hq => by
            show up (S.2.2 15) r 1 q = nI (up u.1 r 1 q)
            by_cases e : q = r
            · subst e; rw [up_s, up_s]; rfl
            · rw [up_o e, up_o e]; exact hp q hq) (fun q hq => by
            show 1 ≤ up u.1 r 1 q ∧ up u.1 r 1 q ≤ cn s q
            by_cases e : q = r
            · subst e; rw [up_s]; omega
            · rw [up_o e]; exact hpr q hq) hj hw h20 hbn h21 hk hk4 hco) (fun r9 h9 z => z.b (mE.sA mE.refl (by decide)) rfl rfl)
    · have c17 : u.2.2.2.2 = true := bi_1.mp c17
      refine rx_aload_nr d_Mo_goOn_20 (by rfl) ?_
      refine rx_getfield d_Mo_goOn_21 fl_Mo_53 (mr0 ha) (by rfl) ?_
      refine rx_iload_n d_Mo_goOn_24 (by rfl) ?_
      refine m_ial (j := 15) ha d_Mo_goOn_25 (by rfl) (by omega) (by decide) ?_
      rw [hp r hr]
      refine rx_aload_nr d_Mo_goOn_26 (by rfl) ?_
      refine rx_getfield d_Mo_goOn_27 fl_Mo_50 (mr0 ha) (by rfl) ?_
      refine rx_iload_n d_Mo_goOn_30 (by rfl) ?_
      refine m_ial (j := 14) ha d_Mo_goOn_31 (by rfl) (by omega) (by decide) ?_
      rw [j4.trans hc4.1]
      refine rx_icmp_ge (tgt := 57) d_Mo_goOn_32 (by rfl) (fun c32 => ?_) (fun c32 => ?_)
      · have c32 : ¬ u.1 r < cn s r := by rw [i_le, i_n (by omega), i_n (by omega)] at c32; omega
        rw [show wnx n Va s u b ag = wn2 n Va (up u.1 r 1, u.2) b ag by unfold wnx; rw [eO]; exact (if_pos c17).trans (if_neg c32)]
        refine rx_aload_nr d_Mo_goOn_57 (by rfl) ?_
        refine rx_getfield d_Mo_goOn_58 fl_Mo_53 (mr0 ha) (by rfl) ?_
        refine rx_iload_n d_Mo_goOn_61 (by rfl) ?_
        refine rx_iconst (v := 1) d_Mo_goOn_62 (by decide) ?_
        refine m_ias (j := 15) ha d_Mo_goOn_63 (by rfl) (by omega) (by decide) (by rfl) (by decide) ?_
        first
          | exact l_goOn64 ha hN hVa M R hp hpr hj hw h20 hbn h21 hk hk4 hco
          | exact rx_cons (l_goOn64 (S := sA S 15 r 1) (u := (up u.1 r 1, u.2)) ha hN hVa M (R.o rfl (fun j h1 h2 => up_o (show j ≠ 15 by omega))) (fun q hq => by
              show up (S.2.2 15) r 1 q = nI (up u.1 r 1 q)
              by_cases e : q = r
              · subst e; rw [up_s, up_s]; rfl
              · rw [up_o e, up_o e]; exact hp q hq) (fun q hq => by
              show 1 ≤ up u.1 r 1 q ∧ up u.1 r 1 q ≤ cn s q
              by_cases e : q = r
              · subst e; rw [up_s]; omega
              · rw [up_o e]; exact hpr q hq) hj hw h20 hbn h21 hk hk4 hco) (fun r9 h9 z => z.b (mE.sA mE.refl (by decide)) rfl rfl)
      · have c32 : u.1 r < cn s r := by rw [i_le, i_n (by omega), i_n (by omega)] at c32; omega
        refine rx_aload_nr d_Mo_goOn_35 (by rfl) ?_
        refine rx_getfield d_Mo_goOn_36 fl_Mo_53 (mr0 ha) (by rfl) ?_
        refine rx_iload_n d_Mo_goOn_39 (by rfl) ?_
        refine rx_dup2 d_Mo_goOn_40 (by rfl) (by rfl) ?_
        refine m_ial (j := 15) ha d_Mo_goOn_41 (by rfl) (by omega) (by decide) ?_
        rw [hp r hr]
        refine rx_iconst (v := 1) d_Mo_goOn_42 (by decide) ?_
        refine rx_iadd d_Mo_goOn_43 ?_
        rw [nI_1]
        refine m_ias (j := 15) ha d_Mo_goOn_44 (by rfl) (by omega) (by decide) (by rfl) (by decide) ?_
        refine rx_aload_nr d_Mo_goOn_45 (by rfl) ?_
        refine rx_aload_nr d_Mo_goOn_46 (by rfl) ?_
        refine rx_getfield d_Mo_goOn_47 fl_Mo_41 (mr0 ha) (by rfl) ?_
        refine rx_iload_n d_Mo_goOn_50 (by rfl) ?_
        refine m_ial (j := 11) ha d_Mo_goOn_51 (by rfl) (by omega) (by decide) ?_
        rw [show ∀ x, (sA S 15 r x).2.2 11 r = nI (gF s r) from fun _ => j1]
        refine rx_pV d_Mo_goOn_52 (by rfl) ml_Mo_165 im_Mo_come se_Mo_come (by exact c9_Mo_come) (mr0 ha) (by rfl) (by exact Nat.le_of_ble_eq_true rfl) (k_come (S := sA S 15 r (nI (u.1 r + 1))) (d := d + 2) (u := (up u.1 r (u.1 r + 1), u.2)) ha hN hVa M (R.o rfl (fun j h1 h2 => up_o (show j ≠ 15 by omega))) (fun q hq => by
          show up (S.2.2 15) r (nI (u.1 r + 1)) q = nI (up u.1 r (u.1 r + 1) q)
          by_cases e : q = r
          · subst e; rw [up_s, up_s]
          · rw [up_o e, up_o e]; exact hp q hq) (fun q hq => by
          show 1 ≤ up u.1 r (u.1 r + 1) q ∧ up u.1 r (u.1 r + 1) q ≤ cn s q
          by_cases e : q = r
          · subst e; rw [up_s]; omega
          · rw [up_o e]; exact hpr q hq) hj hw hk hk4 (c := gF s r) (by omega)) ?_
        intro hx z9
        have z8 := z9
        refine rx_iconst (v := 1) d_Mo_goOn_55 (by decide) ?_
        refine rx_zreturn d_Mo_goOn_56 (by rfl) (by rfl) ?_
        rw [show wnx n Va s u b ag = ((up u.1 r (u.1 r + 1), u.2), some (gF s r)) by unfold wnx; rw [eO]; exact (if_pos c17).trans (if_pos c32)]
        exact ⟨rfl, z8.b (mE.sA mE.refl (by decide)) rfl⟩
theorem wlv_m2 {w : wT} : (wlv Va s g w b).2 = w.2 := by
  unfold wlv
  cases g b with
  | none => rfl
  | some r =>
    show (if bt Va b (cn s r) = true then (up w.1 r 1, w.2) else w).2 = w.2
    by_cases c : bt Va b (cn s r) = true
    · rw [if_pos c]
    · rw [if_neg c]
theorem wlv_p {w : wT} (G : gN n Va s g) (h : ∀ r, r < s.1 → 1 ≤ w.1 r ∧ w.1 r ≤ cn s r) : ∀ r, r < s.1 → 1 ≤ (wlv Va s g w b).1 r ∧ (wlv Va s g w b).1 r ≤ cn s r := by
  intro q hq
  unfold wlv
  cases g b with
  | none => exact h q hq
  | some r =>
    show 1 ≤ (if bt Va b (cn s r) = true then (up w.1 r 1, w.2) else w).1 q ∧ (if bt Va b (cn s r) = true then (up w.1 r 1, w.2) else w).1 q ≤ cn s q
    by_cases c : bt Va b (cn s r) = true
    · rw [if_pos c]
      show 1 ≤ up w.1 r 1 q ∧ up w.1 r 1 q ≤ cn s q
      by_cases e : q = r
      · subst e; rw [up_s]; have := G.2.2 q hq; omega
      · rw [up_o e]; exact h q hq
    · rw [if_neg c]; exact h q hq
theorem mJ_2 {j : Int32} {w w' : wT} (h : mJ j w) (e : w'.2 = w.2) : mJ j w' := by
  unfold mJ at *
  rw [e]; exact h
/-- the walk's state behind k bars -/
def mWI (n : Nat) (Va : Nat → Int32) (s : gT) (g : Nat → Option Nat) (S0 : mT) (k : Nat) (S : mT) : Prop :=
  ∃ c, (wsq n Va s g k).2 = some c ∧ mE S0 S ∧ mR S s g ∧ mP S s (wlv Va s g (wsq n Va s g k).1 (win n Va s g (wsq n Va s g k).1 c)).1 ∧ mJ (S.1 22) (wsq n Va s g k).1 ∧ S.1 23 = bi (wsq n Va s g k).1.2.2.1 ∧ S.1 20 = nI (win n Va s g (wsq n Va s g k).1 c) ∧ S.1 21 = bi (wag s (wsq n Va s g k).1 (win n Va s g (wsq n Va s g k).1 c)) ∧ S.1 24 = nI (k + 1) ∧ ∀ j, j < k + 1 → S.2.2 16 j = nI (wbr n Va s g j)
theorem wbr_k {k c : Nat} (h : (wsq n Va s g k).2 = some c) : wbr n Va s g k = win n Va s g (wsq n Va s g k).1 c := by
  unfold wbr; rw [h]
theorem l_mwalk (ha : a = V.2.1 + h1.length) (hN : mN n S0) (hVa : S0.2.2 4 = Va) (M : mapOk n Va s g) {N : Nat} (hN4 : N ≤ 240) (h0 : (wsq n Va s g N).2 = none) (h1N : ∀ k, k < N → ∃ c, (wsq n Va s g k).2 = some c) :
    ∀ (m k : Nat) (S : mT), k + 1 + m = N → mWI n Va s g S0 k S → rx_W V (d + 6) kc ks m_Mo_walk 35 [some (.ref a), some (.int 1)] [] (mw V h1 a S h2) (fun r9 h' => r9 = .inl (some (.int 1)) ∧ ∃ S', h' = mw V h1 a S' h2 ∧ mE S0 S' ∧ S'.1 24 = nI N ∧ ∀ j, j < N → S'.2.2 16 j = nI (wbr n Va s g j)) := by
  obtain ⟨M1, M2, M3, M4, M5, M6⟩ := id M
  intro m
  induction m with
  | zero =>
    intro k S hk H
    obtain ⟨c, q1, q2, q3, q4, q5, q6, q7, q8, q9, q10⟩ := H
    have Wk := WI_k M2 M1 M4 M6 k
    have hcn := Wk.2.1 c q1
    have hbn := (win_ran (Va := Va) (s := s) (w := (wsq n Va s g k).1) (fun x r z => (M5 x r z).2.1) hcn).2
    have enx : wnx n Va s (wlv Va s g (wsq n Va s g k).1 (win n Va s g (wsq n Va s g k).1 c)) (win n Va s g (wsq n Va s g k).1 c) (wag s (wsq n Va s g k).1 (win n Va s g (wsq n Va s g k).1 c)) = wsq n Va s g (k + 1) := by
      show _ = wsp n Va s g (wsq n Va s g k)
      unfold wsp
      rw [q1]
    have G1 := k_goOn (d := d) (kc := 0) (ks := 0) (h1 := h1) (h2 := h2) (a := a) (k9 := k + 1) ha (q2.mN hN) (q2.va.trans hVa) M q3 q4 (wlv_p M4 Wk.1) (mJ_2 q5 wlv_m2) (by rw [wlv_m2]; exact q6) q7 hbn q8 q9 (by omega) (by rw [wlv_m2]; exact Wk.2.2)
    rw [enx] at G1
    have G2 := rx_cons (Q := fun r9 h' => r9 = .inl (some (.int 0)) ∧ ∃ S', h' = mw V h1 a S' h2 ∧ mE S S' ∧ S'.1 24 = S.1 24 ∧ S'.2.2 16 = S.2.2 16) G1 (fun r9 h9 z => by
      unfold goP at z
      rw [show k + 1 = N by omega, h0] at z
      exact z)
    refine rx_iload_n d_Mo_walk_35 (by rfl) ?_
    refine rx_if_eq (tgt := 47) d_Mo_walk_36 (by rfl) (fun z => absurd z (by decide)) (fun _ => ?_)
    refine rx_aload_nr d_Mo_walk_39 (by rfl) ?_
    refine rx_pV d_Mo_walk_40 (by rfl) ml_Mo_180 im_Mo_goOn se_Mo_goOn (by exact c9_Mo_goOn) (mr0 ha) (by rfl) (by exact Nat.le_of_ble_eq_true rfl) G2 ?_
    intro hx z9
    obtain ⟨S2, rfl, E2, e24, e16⟩ := z9
    refine rx_istore_n d_Mo_walk_43 (Nat.le_of_ble_eq_true rfl) ?_
    refine rx_goto (tgt := 35) d_Mo_walk_44 (by rfl) ?_
    refine rx_iload_n d_Mo_walk_35 (by rfl) ?_
    refine rx_if_eq (tgt := 47) d_Mo_walk_36 (by rfl) (fun _ => ?_) (fun z => absurd z (by decide))
    refine rx_iconst (v := 1) d_Mo_walk_47 (by decide) ?_
    refine rx_zreturn d_Mo_walk_48 (by rfl) (by rfl) ?_
    exact ⟨rfl, S2, rfl, q2.trans E2, by rw [e24, q9, show k + 1 = N by omega], fun j hj => by rw [e16]; exact q10 j (by omega)⟩
  | succ m ih =>
    intro k S hk H
    obtain ⟨c, q1, q2, q3, q4, q5, q6, q7, q8, q9, q10⟩ := H
    have Wk := WI_k M2 M1 M4 M6 k
    have hcn := Wk.2.1 c q1
    have hbn := (win_ran (Va := Va) (s := s) (w := (wsq n Va s g k).1) (fun x r z => (M5 x r z).2.1) hcn).2
    have enx : wnx n Va s (wlv Va s g (wsq n Va s g k).1 (win n Va s g (wsq n Va s g k).1 c)) (win n Va s g (wsq n Va s g k).1 c) (wag s (wsq n Va s g k).1 (win n Va s g (wsq n Va s g k).1 c)) = wsq n Va s g (k + 1) := by
      show _ = wsp n Va s g (wsq n Va s g k)
      unfold wsp
      rw [q1]
    have G1 := k_goOn (d := d) (kc := 0) (ks := 0) (h1 := h1) (h2 := h2) (a := a) (k9 := k + 1) ha (q2.mN hN) (q2.va.trans hVa) M q3 q4 (wlv_p M4 Wk.1) (mJ_2 q5 wlv_m2) (by rw [wlv_m2]; exact q6) q7 hbn q8 q9 (by omega) (by rw [wlv_m2]; exact Wk.2.2)
    rw [enx] at G1
    obtain ⟨c2, hc2⟩ := h1N (k + 1) (by omega)
    have G2 := rx_cons (Q := fun r9 h' => r9 = .inl (some (.int 1)) ∧ gPo V h1 a S h2 n Va s g (k + 1) (wsq n Va s g (k + 1)).1 c2 h') G1 (fun r9 h9 z => by
      unfold goP at z
      rw [hc2] at z
      exact z)
    refine rx_iload_n d_Mo_walk_35 (by rfl) ?_
    refine rx_if_eq (tgt := 47) d_Mo_walk_36 (by rfl) (fun z => absurd z (by decide)) (fun _ => ?_)
    refine rx_aload_nr d_Mo_walk_39 (by rfl) ?_
    refine rx_pV d_Mo_walk_40 (by rfl) ml_Mo_180 im_Mo_goOn se_Mo_goOn (by exact c9_Mo_goOn) (mr0 ha) (by rfl) (by exact Nat.le_of_ble_eq_true rfl) G2 ?_
    intro hx z9
    obtain ⟨S2, rfl, p2, p3, p4, p5, p6, p7, p8, p9, p10⟩ := z9
    refine rx_istore_n d_Mo_walk_43 (Nat.le_of_ble_eq_true rfl) ?_
    refine rx_goto (tgt := 35) d_Mo_walk_44 (by rfl) ?_
    refine ih (k + 1) S2 (by omega) ⟨c2, hc2, q2.trans p2, p3, p4, p5, p6, p7, p8, p9, fun j hj => ?_⟩
    rw [p10]
    by_cases e : j = k + 1
    · subst e; rw [up_s, wbr_k hc2]
    · rw [up_o e]; exact q10 j (by omega)
theorem flt_pos {n : Nat} {Va : Nat → Int32} (hn : n ≤ 20) : flt n Va ≤ 0 ↔ flt n Va = 0 := by
  have := lst_z (F := FT n Va (gst Va n) (gGn n Va)) hn
  rw [i_le, i_0]
  constructor
  · intro z
    have e : (flt n Va).toInt = 0 := by
      have : 0 ≤ (flt n Va).toInt := this
      omega
    exact i_of (j := 0) (by omega) e
  · intro z; rw [z]; decide
theorem mapOk_of {n : Nat} {Va : Nat → Int32} (h0 : 0 < n) (hn : n ≤ 20) (hv : vok n Va) (hz : flt n Va = 0) : mapOk n Va (gst Va n) (gGn n Va) := ⟨h0, hn, hv, vok_gN hv, gGn_K n Va, lst_0 hn hz⟩
/-- how walk ends -/
def wkP (V : rx_V) (h1 : List va_E) (a : Nat) (S : mT) (h2 : List va_E) (n : Nat) (h' : List va_E) : Prop := ∃ S', h' = mw V h1 a S' h2 ∧ mE S S' ∧ (flt n (S.2.2 4) = 0 → S'.1 24 = nI (pN n (S.2.2 4)) ∧ ∀ j, j < pN n (S.2.2 4) → S'.2.2 16 j = wf n (S.2.2 4) j)
theorem k_walk (ha : a = V.2.1 + h1.length) (hN : mN n S) (hv : vok n (S.2.2 4)) : rx_C V (d + 6) kc ks m_Mo_walk [.ref a] (mw V h1 a S h2) (fun r9 h' => r9 = .inl (some (.int (if flt n (S.2.2 4) = 0 then 1 else 0))) ∧ wkP V h1 a S h2 n h') := by
  refine rx_aload_nr d_Mo_walk_0 (by rfl) ?_
  refine rx_pV d_Mo_walk_1 (by rfl) ml_Mo_141 im_Mo_findFault se_Mo_findFault (by exact c9_Mo_findFault) (mr0 ha) (by rfl) (by exact Nat.le_of_ble_eq_true rfl) (k_findFault ha hN hv) ?_
  intro hx z9
  obtain ⟨S1, rfl, E1, R1⟩ := z9
  refine rx_if_le (tgt := 9) d_Mo_walk_4 (by rfl) (fun c4 => ?_) (fun c4 => ?_)
  · have hz := (flt_pos hN.2.2).mp c4
    rw [if_pos hz]
    have M := mapOk_of hN.2.1 hN.2.2 hv hz
    have hs1 := M.2.2.2.1.1.1
    have hn := hN.2
    have pk := pN_ok hn.2 hn.1 hv hz
    refine rx_aload_nr d_Mo_walk_9 (by rfl) ?_
    refine rx_iconst (v := 0) d_Mo_walk_10 (by decide) ?_
    refine m_putI (k9 := 24) ha d_Mo_walk_11 (fw_Mo_159 rfl) (by rfl) (by rfl) (by rfl) ?_
    refine rx_aload_nr d_Mo_walk_14 (by rfl) ?_
    refine rx_iconst (v := -1) d_Mo_walk_15 (by decide) ?_
    refine m_putI (k9 := 22) ha d_Mo_walk_16 (fw_Mo_145 rfl) (by rfl) (by rfl) (by rfl) ?_
    refine rx_aload_nr d_Mo_walk_19 (by rfl) ?_
    refine rx_iconst (v := 0) d_Mo_walk_20 (by decide) ?_
    refine m_putI (k9 := 23) ha d_Mo_walk_21 (fw_Mo_174 rfl) (by rfl) (by rfl) (by rfl) ?_
    refine rx_aload_nr d_Mo_walk_24 (by rfl) ?_
    refine rx_pV d_Mo_walk_25 (by rfl) ml_Mo_162 im_Mo_resetPasses se_Mo_resetPasses (by exact c9_Mo_resetPasses) (mr0 ha) (by rfl) (by exact Nat.le_of_ble_eq_true rfl) (k_resetPasses ha (show (sS (sS (sS S1 24 0) 22 (-1)) 23 0).1 13 = nI (gst (S.2.2 4) n).1 from R1.1) (by omega)) ?_
    intro hy z9
    obtain ⟨f, rfl, hf⟩ := z9
    refine rx_aload_nr d_Mo_walk_28 (by rfl) ?_
    refine rx_iconst (v := 0) d_Mo_walk_29 (by decide) ?_
    refine rx_pV d_Mo_walk_30 (by rfl) ml_Mo_165 im_Mo_come se_Mo_come (by exact c9_Mo_come) (mr0 ha) (by rfl) (by exact Nat.le_of_ble_eq_true rfl) (k_come (S := sF (sS (sS (sS S1 24 0) 22 (-1)) 23 0) 15 f) (d := d + 3) (u := (wsq n (S.2.2 4) (gst (S.2.2 4) n) (gGn n (S.2.2 4)) 0).1) (c := 0) (k9 := 0) ha (E1.mN hN) E1.va M (R1.o rfl (fun j h1 h2 => up_o (show j ≠ 15 by omega))) (fun r hr => hf r hr) (fun r hr => ⟨Nat.le_refl _, by have := M.2.2.2.1.2.2 r hr; show 1 ≤ cn _ r; omega⟩) (Or.inl ⟨rfl, rfl, rfl⟩) rfl rfl (by omega) hn.1) ?_
    intro hw z9
    obtain ⟨S2, rfl, p2, p3, p4, p5, p6, p7, p8, p9, p10⟩ := z9
    refine rx_iconst (v := 1) d_Mo_walk_33 (by decide) ?_
    refine rx_istore_n d_Mo_walk_34 (Nat.le_of_ble_eq_true rfl) ?_
    refine rx_cons (l_mwalk (S0 := S) (n := n) (h1 := h1) (h2 := h2) ha hN rfl M (N := pN n (S.2.2 4)) (by have := pk.1; omega) pk.2.1 pk.2.2.1 (pN n (S.2.2 4) - 1) 0 S2 (by have := pk.2.2.2; omega) ⟨0, rfl, E1.trans (mE.trans (S1 := sF (sS (sS (sS S1 24 0) 22 (-1)) 23 0) 15 f) ⟨rfl, rfl, rfl, fun j hj => up_o (show j ≠ 15 by omega)⟩ p2), p3, p4, p5, p6, p7, p8, p9, fun j hj => ?_⟩) (fun r9 h9 z => ?_)
    · rw [p10, show j = 0 by omega, up_s, wbr_k (c := 0) rfl]
    · obtain ⟨z1, S', z2, z3, z4, z5⟩ := z
      exact ⟨z1, S', z2, z3, fun _ => ⟨z4, z5⟩⟩
  · refine rx_iconst (v := 0) d_Mo_walk_7 (by decide) ?_
    refine rx_zreturn d_Mo_walk_8 (by rfl) (by rfl) ?_
    exact ⟨by rw [if_neg (fun z => c4 ((flt_pos hN.2.2).mpr z))], S1, rfl, E1, fun z => absurd ((flt_pos hN.2.2).mpr z) c4⟩
end GO
