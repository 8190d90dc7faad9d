/-! each call of the class beside the reference's -/
/-- what a class's call leaves -/
def cPr (V : rx_V) (h : List va_E) (A ra na : Nat → Nat) (n num : Nat) (na' : Nat → Nat) (Le' Te' Va' : Nat → Int32) (num' : Nat) (NS' : Nat → Nat → Int32) (h' : List va_E) : Prop := (∃ kn kp, is_cl V h' A ra na' n Le' Te' Va' num' NS' kn kp) ∧ rx_gr V h h' (fp_c A ra na n num) ∧ h'.length ≤ h.length + 1
/-- how a wrapper ends -/
def WP (V : rx_V) (h : List va_E) (A ra na : Nat → Nat) (n num aO : Nat) (code : Int32) (x : Int64) (na' : Nat → Nat) (Le' Te' Va' : Nat → Int32) (num' : Nat) (NS' : Nat → Nat → Int32) : rx_R → List va_E → Prop := fun r h' => r = .inl (some (.int code)) ∧ ∃ h1, cPr V h A ra na n num na' Le' Te' Va' num' NS' h1 ∧ ((code ≠ 0 ∧ h' = h1) ∨ (code = 0 ∧ ∃ c, outc V x c ∧ h' = rx_wr V h1 aO c))
/-- how a call of the reference ends -/
def MP (V : rx_V) (h1 : List va_E) (a : Nat) (h2 : List va_E) (r0 : rx_R) (code : Int32) (n : Nat) (Le' Te' Va' : Nat → Int32) (num' : Nat) (NS' : Nat → Nat → Int32) : rx_R → List va_E → Prop := fun r h' => r = r0 ∧ ∃ S', h' = mw V h1 a S' h2 ∧ S'.1 1 = code ∧ mA n Le' Te' Va' num' NS' S'
section PA
variable {V : rx_V} {d a l1 l2 : Nat} {h : List va_E} {A ra na : Nat → Nat} {n num : Nat} {Le Te Va fl fm : Nat → Int32} {NS : Nat → Nat → Int32} {kn : Bool} {kp : Int32} {S : mT} {fo : Nat → Int64}
theorem wpE {y : rx_T} {As : List Value} {code : Int32} {x : Int64} {na' : Nat → Nat} {Le' Te' Va' : Nat → Int32} {num' : Nat} {NS' : Nat → Nat → Int32} {aO : Nat} (hc : code ≠ 0) (K : rx_C V d 1 6 y As h (fun r h' => r = .inl (some (.int code)) ∧ cPr V h A ra na n num na' Le' Te' Va' num' NS' h')) : rx_C V d 1 6 y As h (WP V h A ra na n num aO code x na' Le' Te' Va' num' NS') :=
  rx_cons K (fun r h' z => ⟨z.1, h', z.2, Or.inl ⟨hc, rfl⟩⟩)
theorem wp0 {y : rx_T} {As : List Value} {x : Int64} {na' : Nat → Nat} {Le' Te' Va' : Nat → Int32} {num' : Nat} {NS' : Nat → Nat → Int32} {aO : Nat} (K : rx_C V d 1 6 y As h (fun r h' => r = .inl (some (.int 0)) ∧ ∃ h1 c, cPr V h A ra na n num na' Le' Te' Va' num' NS' h1 ∧ h' = rx_wr V h1 aO c ∧ outc V x c)) : rx_C V d 1 6 y As h (WP V h A ra na n num aO 0 x na' Le' Te' Va' num' NS') :=
  rx_cons K (fun r h' z => by
    obtain ⟨z1, h1, c, z2, z3, z4⟩ := z
    exact ⟨z1, h1, z2, Or.inr ⟨rfl, c, z4, z3⟩⟩)
theorem mpE {y : rx_T} {As : List Value} {code : Int32} {r0 : rx_R} {h1 h2 : List va_E} {kc ks : Nat} (m : mA n Le Te Va num NS S) (K : rx_C V d kc ks y As (mw V h1 a S h2) (mPo V h1 a S h2 r0 code)) : rx_C V d kc ks y As (mw V h1 a S h2) (MP V h1 a h2 r0 code n Le Te Va num NS) :=
  rx_cons K (fun r h' z => by
    obtain ⟨z1, S', z2, z3, z4⟩ := z
    exact ⟨z1, S', z2, z4, m.e2 z3⟩)
theorem mpX {y : rx_T} {As : List Value} {code : Int32} {r0 : rx_R} {h1 h2 : List va_E} {S' : mT} {Le' Te' Va' : Nat → Int32} {num' : Nat} {NS' : Nat → Nat → Int32} {kc ks : Nat} (m : mA n Le' Te' Va' num' NS' S') (hc : S'.1 1 = code) (K : rx_C V d kc ks y As (mw V h1 a S h2) (rx_X r0 (mw V h1 a S' h2))) : rx_C V d kc ks y As (mw V h1 a S h2) (MP V h1 a h2 r0 code n Le' Te' Va' num' NS') :=
  rx_cons K (fun r h' z => ⟨z.1, S', z.2, hc, m⟩)
theorem oO (ho : rx_rd V h (a + 17) = some (.inl (V.2.2.2.1 1, 1, .inr (.inl fo)))) (hd9 : ∀ q, fp_c A ra na n num q → q < a ∨ a + 17 < q) {na' : Nat → Nat} {Le' Te' Va' : Nat → Int32} {num' : Nat} {NS' : Nat → Nat → Int32} : ∀ h', cPr V h A ra na n num na' Le' Te' Va' num' NS' h' → rx_rd V h' (a + 17) = some (.inl (V.2.2.2.1 1, 1, .inr (.inl fo))) := fun h' z => z.2.1.2 _ _ (fun y => by have := hd9 _ y; omega) ho
theorem mA.q {n num : Nat} {Le Te Va : Nat → Int32} {NS : Nat → Nat → Int32} {S : mT} (m : mA n Le Te Va num NS S) : mQ n num S := by
  obtain ⟨-, -, -, -, -, ⟨σ, B⟩, -⟩ := m
  exact B.1
theorem mA.v (m : mA n Le Te Va num NS S) : vok n (S.2.2 4) := by rw [m.2.2.1]; exact m.2.1
theorem p_bar (htr : V.1.stackTraces = false) (C : is_cl V h A ra na n Le Te Va num NS kn kp) (m : mA n Le Te Va num NS S) (p0 p1 p2 : Int32) : ∃ code Le' Te', rx_C V (d + 9) 1 6 m_La_bar [.ref (A 0), .int p0, .int p1, .int p2] h (fun r h' => r = .inl (some (.int code)) ∧ cPr V h A ra na n num na Le' Te' Va num NS h') ∧ ∀ h1 h2, a = V.2.1 + h1.length → rx_C V (d + 8) 0 0 m_Mo_bar [.ref a, .int p0, .int p1, .int p2] (mw V h1 a S h2) (MP V h1 a h2 (.inl none) code n Le' Te' Va num NS) := by
  obtain ⟨fs, c0⟩ := C.c0
  have hn := m.1.2
  by_cases hx : pgh n p0 = 0 ∨ iwn p1 1 32 = 0 ∨ iwn p2 1 1000 = 0
  · exact ⟨1, Le, Te, w_bar1 p0 p1 p2 c0 (x_bar1 htr C hx), fun h1 h2 ha => mpE m (k_bar1 ha m.1 m.q hx)⟩
  · have hl : ¬ p1 < 0 := by
      have := (iwn_ge (fun z => hx (Or.inr (Or.inl z)))).1
      rw [show (1 : Int32).toInt = 1 from by decide] at this
      rw [i_lt, i_0]; omega
    by_cases hy : p1 < nei NS num p0
    · exact ⟨2, Le, Te, w_bar2 p0 p1 p2 c0 (x_bar2 htr C hx hy), fun h1 h2 ha => mpE m (k_bar2 ha m.1 m.q hx ((m.bad hl).mp hy))⟩
    · obtain ⟨b, hb9, rfl⟩ := pgh_b hn.2 (fun z => hx (Or.inl z))
      have hx2 : ¬ (iwn p1 1 32 = 0 ∨ iwn p2 1 1000 = 0) := fun z => hx (Or.inr z)
      exact ⟨0, up Le b p1, up Te b p2, w_bar0 (nI b) p1 p2 c0 (c_bar C hb9 hx2 hy), fun h1 h2 ha => mpX (m.bar hb9 hx2 hy) rfl (k_bar0 ha m.1 m.q hb9 hx2 (Bool.eq_false_iff.mpr (fun z => hy ((m.bad hl).mpr z))))⟩
theorem p_sign (htr : V.1.stackTraces = false) (C : is_cl V h A ra na n Le Te Va num NS kn kp) (m : mA n Le Te Va num NS S) (ho : rx_rd V h (a + 17) = some (.inl (V.2.2.2.1 1, 1, .inr (.inl fo)))) (hd9 : ∀ q, fp_c A ra na n num q → q < a ∨ a + 17 < q) (e1 : V.2.2.2.2[1]? = some (l1, 10, fl)) (e2 : V.2.2.2.2[2]? = some (l2, 10, fm)) (f1 : ∀ k, k < 10 → fl k = lsF k) (f2 : ∀ k, k < 10 → fm k = msF k) (p0 p1 p2 : Int32) : ∃ code v Va', rx_C V (d + 9) 1 6 m_La_sign [.ref (A 0), .int p0, .int p1, .int p2, .ref (a + 17)] h (WP V h A ra na n num (a + 17) code (if v = true then 1 else 0) na Le Te Va' num NS) ∧ ∀ h1 h2, a = V.2.1 + h1.length → rx_C V (d + 8) 0 0 m_Mo_sign [.ref a, .int p0, .int p1, .int p2] (mw V h1 a S h2) (MP V h1 a h2 (.inl (some (.int (bi v)))) code n Le Te Va' num NS) := by
  obtain ⟨fs, c0⟩ := C.c0
  have hn := m.1.2
  by_cases hb0 : pgh n p0 = 0
  · exact ⟨1, false, Va, wpE (by decide) (w_sign1 p0 p1 p2 c0 (x_sign1 htr C e1 e2 (Or.inl hb0))), fun h1 h2 ha => mpE m (k_sign1 ha m.1 (Or.inl hb0))⟩
  · by_cases hk0 : iwn p1 0 9 = 0
    · exact ⟨1, false, Va, wpE (by decide) (w_sign1 p0 p1 p2 c0 (x_sign1 htr C e1 e2 (Or.inr (Or.inl hk0)))), fun h1 h2 ha => mpE m (k_sign1 ha m.1 (Or.inr hk0))⟩
    · obtain ⟨b, hb9, rfl⟩ := pgh_b hn.2 hb0
      obtain ⟨k, hk9, rfl⟩ := iwn_k hk0
      have ek : (nI k).toNatClampNeg = k := i_cl (by omega)
      have eq9 : (p2 = 0 ∨ (¬ iwn (nI k) 0 9 = 0 ∧ ¬ iwn p2 (fl (nI k).toNatClampNeg) (fm (nI k).toNatClampNeg) = 0)) ↔ (p2 = 0 ∨ ¬ iwn p2 (lsF k) (msF k) = 0) := by
        rw [ek, f1 k hk9, f2 k hk9]
        exact ⟨fun z => z.imp id (fun y => y.2), fun z => z.imp id (fun y => ⟨hk0, y⟩)⟩
      by_cases hx : p2 = 0 ∨ ¬ iwn p2 (lsF k) (msF k) = 0
      · have ev : S.2.2 4 = Va := m.2.2.1
        by_cases he : p2 = Va (10 * b + k)
        · exact ⟨0, false, Va, wp0 (w_sign0 (nI b) (nI k) p2 (v := false) c0 (oO ho hd9) (c_sign0 C e1 e2 hb9 hk9 (eq9.mpr hx) he)), fun h1 h2 ha => mpE m (k_signE ha m.1 m.2.2.2.2.1 hb9 hk9 hx (by rw [ev]; exact he))⟩
        · by_cases hv0 : p2 = 0 ∨ Va (10 * b + k) = 0
          · refine ⟨0, true, up Va (10 * b + k) p2, wp0 (w_sign0 (nI b) (nI k) p2 (v := true) c0 (oO ho hd9) (c_sign1 C e1 e2 hb9 hk9 (eq9.mpr hx) he hv0)), fun h1 h2 ha => mpX (m.sign hb9 hk9 hx) rfl (k_sign0 ha m.1 m.2.2.2.2.1 hb9 hk9 hx (by rw [ev]; exact he) (fun z => ?_))⟩
            rw [ev] at z
            obtain y | y := hv0
            · rw [y] at z; exact absurd z.2 (by decide)
            · rw [y] at z; exact absurd z.1 (by decide)
          · have hv1 : p2 ≠ 0 := fun z => hv0 (Or.inl z)
            have hv2 : Va (10 * b + k) ≠ 0 := fun z => hv0 (Or.inr z)
            refine ⟨2, false, Va, wpE (by decide) (w_sign2 (nI b) (nI k) p2 c0 (x_sign2 htr C e1 e2 hb9 hk9 (eq9.mpr hx) hv1 hv2 he)), fun h1 h2 ha => mpE m (k_sign2 ha m.1 m.2.2.2.2.1 hb9 hk9 hx (by rw [ev]; exact he) ?_ ?_)⟩
            · rw [ev]
              refine Decidable.not_not.mp (fun z => hv2 ((vok_pos m.2.1 hb9 hk9).mp ?_))
              rw [i_lt] at z; rw [i_le]; omega
            · have z1 := (iwn_ge (hx.resolve_left hv1)).1
              have z2 : 1 ≤ (lsF k).toInt := by
                unfold lsF
                by_cases c : k = 1
                · rw [if_pos c]; decide
                · rw [if_neg c]; decide
              rw [i_lt, i_0]; omega
      · exact ⟨1, false, Va, wpE (by decide) (w_sign1 (nI b) (nI k) p2 c0 (x_sign1 htr C e1 e2 (Or.inr (Or.inr (fun z => hx (eq9.mp z)))))), fun h1 h2 ha => mpE m (k_signV ha m.1 m.2.2.2.2.1 hb9 hk9 hx)⟩
theorem p_note (htr : V.1.stackTraces = false) (C : is_cl V h A ra na n Le Te Va num NS kn kp) (m : mA n Le Te Va num NS S) (ho : rx_rd V h (a + 17) = some (.inl (V.2.2.2.1 1, 1, .inr (.inl fo)))) (hd9 : ∀ q, fp_c A ra na n num q → q < a ∨ a + 17 < q) (hna : ∀ i, i < num → a + 17 < na i) (hl9 : a + 17 < V.2.1 + h.length) (p0 p1 p2 p3 p4 : Int32) (y : Bool) : ∃ code v na' num' NS', rx_C V (d + 9) 1 6 m_La_note [.ref (A 0), .int p0, .int p1, .int p2, .int p3, .int p4, .int (bi y), .ref (a + 17)] h (WP V h A ra na n num (a + 17) code v.toInt64 na' Le Te Va num' NS') ∧ (∀ i, i < num' → a + 17 < na' i) ∧ ∀ h1 h2, a = V.2.1 + h1.length → rx_C V (d + 8) 0 0 m_Mo_note [.ref a, .int p0, .int p1, .int p2, .int p3, .int p4, .int (bi y)] (mw V h1 a S h2) (MP V h1 a h2 (.inl (some (.int v))) code n Le Te Va num' NS') := by
  obtain ⟨fs, c0⟩ := C.c0
  have hn := m.1.2
  have hle : ∀ x, x < n → 1 ≤ (S.2.2 2 x).toInt ∧ (S.2.2 2 x).toInt ≤ 32 := fun x hx => by
    have := m.2.2.2.1 x hx
    rw [this.1.1]; exact ⟨this.2.1, this.2.2.1⟩
  by_cases hp : iwn p0 0 2 = 0
  · exact ⟨1, 0, na, num, NS, wpE (by decide) (w_note1 p0 p1 p2 p3 p4 y c0 (x_note1 htr C hp p1 p2 p3 p4 y)), hna, fun h1 h2 ha => mpE m (k_note1 ha m.1 (Or.inl hp))⟩
  · by_cases hx : pgh n p1 = 0 ∨ iwn p4 0 127 = 0 ∨ p2 < 0 ∨ p3 < 1 ∨ pgl n Le p1 - p2 < p3
    · exact ⟨1, 0, na, num, NS, wpE (by decide) (w_note1 p0 p1 p2 p3 p4 y c0 (x_note2 htr C hp hx y)), hna, fun h1 h2 ha => mpE m (k_note1 ha m.1 (Or.inr (by rw [m.L]; exact hx)))⟩
    · obtain ⟨b, hb9, rfl⟩ := pgh_b hn.2 (fun z => hx (Or.inl z))
      have hx2 : ¬ (iwn p0 0 2 = 0 ∨ pgh n (nI b) = 0 ∨ iwn p4 0 127 = 0 ∨ p2 < 0 ∨ p3 < 1 ∨ pgl n (S.2.2 2) (nI b) - p2 < p3) := by
        rw [m.L]
        exact fun z => z.elim hp hx
      by_cases hy : num = 40 ∨ (fix (fun i => decide (NS i 0 = p0 ∧ NS i 1 = nI b ∧ NS i 2 = p2 ∧ NS i 4 = p4)) 0 num) ≠ none
      · refine ⟨2, 0, na, num, NS, wpE (by decide) (w_note2 p0 (nI b) p2 p3 p4 y c0 (x_note3 htr C hp hx hy y)), hna, fun h1 h2 ha => mpE m (k_note2 ha m.1 hle m.q hb9 hx2 (hy.imp id (fun z => ?_)))⟩
        rw [m.twin]
        exact Option.isSome_iff_ne_none.mpr z
      · have h40 : num ≠ 40 := fun z => hy (Or.inl z)
        have htw : (fix (fun i => decide (NS i 0 = p0 ∧ NS i 1 = nI b ∧ NS i 2 = p2 ∧ NS i 4 = p4)) 0 num) = none := Classical.byContradiction (fun z => hy (Or.inr z))
        refine ⟨0, nI (num + 1), _, num + 1, _, wp0 (w_note0 p0 (nI b) p2 p3 p4 y c0 (oO ho hd9) (c_note C hp hx h40 htw y)), fun i hi => ?_, fun h1 h2 ha => mpX (m.note hb9 hx h40 htw) rfl (k_note0 ha m.1 hle m.q hb9 hx2 h40 (by rw [m.twin, htw]; rfl))⟩
        have pl1 := plc_le (NS := NS) (X := nx p0 (nI b) p2 p3 p4 (bi y)) num
        generalize plc NS (nx p0 (nI b) p2 p3 p4 (bi y)) num = pl at *
        by_cases d1 : i < pl
        · rw [ins_l d1]; exact hna i (by omega)
        · by_cases d2 : i = pl
          · subst d2; rw [ins_e]; exact hl9
          · rw [ins_g (by omega)]; exact hna (i - 1) (by omega)
theorem p_transpose (htr : V.1.stackTraces = false) (C : is_cl V h A ra na n Le Te Va num NS kn kp) (m : mA n Le Te Va num NS S) (ho : rx_rd V h (a + 17) = some (.inl (V.2.2.2.1 1, 1, .inr (.inl fo)))) (hd9 : ∀ q, fp_c A ra na n num q → q < a ∨ a + 17 < q) (p0 p1 : Int32) : ∃ code v NS', rx_C V (d + 9) 1 6 m_La_transpose [.ref (A 0), .int p0, .int p1, .ref (a + 17)] h (WP V h A ra na n num (a + 17) code v.toInt64 na Le Te Va num NS') ∧ ∀ h1 h2, a = V.2.1 + h1.length → rx_C V (d + 8) 0 0 m_Mo_transpose [.ref a, .int p0, .int p1] (mw V h1 a S h2) (MP V h1 a h2 (.inl (some (.int v))) code n Le Te Va num NS') := by
  obtain ⟨fs, c0⟩ := C.c0
  by_cases hp : iwn p0 0 2 = 0
  · exact ⟨1, 0, NS, wpE (by decide) (w_transpose1 p0 p1 c0 (x_trans1 htr C hp p1)), fun h1 h2 ha => mpE m (k_trans1 ha hp p1)⟩
  · by_cases hx : ncs NS num p0 p1
    · exact ⟨1, 0, NS, wpE (by decide) (w_transpose1 p0 p1 c0 (x_trans2 htr C hp hx)), fun h1 h2 ha => mpE m (k_trans2 ha m.q hp (m.ncs.mpr hx))⟩
    · exact ⟨0, ffo (ctp NS p0) 0 0 num, _, wp0 (w_transpose0 p0 p1 c0 (oO ho hd9) (c_trans C hp hx)), fun h1 h2 ha => mpX (m.trans hx) rfl (by rw [m.2.2.2.2.2.2 p0]; exact k_trans0 ha m.q hp (Bool.eq_false_iff.mpr (fun z => hx (m.ncs.mp z))))⟩
theorem in_n {N : Nat} {i : Int32} (hN : N ≤ 1000) (h : ¬ iwn i 0 (nI N - 1) = 0) : ∃ j, j < N ∧ i = nI j := by
  obtain ⟨j, j1, j2, -⟩ := brf_1 (f := fun _ => 0) hN h
  exact ⟨j, j1, j2⟩
theorem in_n1 {N : Nat} {i : Int32} (hN : N ≤ 1000) (h : ¬ iwn i 0 (nI N) = 0) : ∃ j, j ≤ N ∧ i = nI j := by
  have := iwn_ge h
  rw [i_0, i_n (by omega)] at this
  exact ⟨i.toInt.toNat, by omega, i_of (by omega) (by omega)⟩
theorem p_played (htr : V.1.stackTraces = false) (C : is_cl V h A ra na n Le Te Va num NS kn kp) (m : mA n Le Te Va num NS S) (ho : rx_rd V h (a + 17) = some (.inl (V.2.2.2.1 1, 1, .inr (.inl fo)))) (hd9 : ∀ q, fp_c A ra na n num q → q < a ∨ a + 17 < q) (p0 : Int32) : ∃ code v, rx_C V (d + 9) 1 6 m_La_played [.ref (A 0), .int p0, .ref (a + 17)] h (WP V h A ra na n num (a + 17) code (Int32.toInt64 v) na Le Te Va num NS) ∧ ∀ h1 h2, a = V.2.1 + h1.length → rx_C V (d + 8) 0 0 m_Mo_played [.ref a, .int p0] (mw V h1 a S h2) (MP V h1 a h2 (.inl (some (.int v))) code n Le Te Va num NS) := by
  obtain ⟨fs, c0⟩ := C.c0
  have ev : S.2.2 4 = Va := m.2.2.1
  have hn := m.1.2
  have hv := m.2.1
  by_cases hz : flt n Va = 0
  · have pk := (pN_ok hn.2 hn.1 hv hz).1
    by_cases hi : iwn p0 0 (nI (pN n Va) - 1) = 0
    · exact ⟨2, 0, wpE (by decide) (w_played2 p0 c0 (x_played2 htr hv C hz hi)), fun h1 h2 ha => mpE m (k_played2 ha m.1 m.v (by rw [ev]; exact hz) (by rw [ev]; exact hi))⟩
    · obtain ⟨j, j1, rfl⟩ := in_n (by omega) hi
      refine ⟨0, wf n Va j, wp0 (w_played0 (nI j) c0 (oO ho hd9) (c_played hv C hz j1)), fun h1 h2 ha => mpE m ?_⟩
      have z := k_played0 (d := d) (kc := 0) (ks := 0) (h2 := h2) ha m.1 m.v (by rw [ev]; exact hz) (i := j) (by rw [ev]; exact j1)
      rw [ev] at z
      exact z
  · exact ⟨1, 0, wpE (by decide) (w_played1 p0 c0 (x_played1 htr hv C hz p0)), fun h1 h2 ha => mpE m (k_played1 ha m.1 m.v (by rw [ev]; exact hz) p0)⟩
theorem p_time (htr : V.1.stackTraces = false) (C : is_cl V h A ra na n Le Te Va num NS kn kp) (m : mA n Le Te Va num NS S) (ho : rx_rd V h (a + 17) = some (.inl (V.2.2.2.1 1, 1, .inr (.inl fo)))) (hd9 : ∀ q, fp_c A ra na n num q → q < a ∨ a + 17 < q) (p0 : Int32) : ∃ code v, rx_C V (d + 9) 1 6 m_La_time [.ref (A 0), .int p0, .ref (a + 17)] h (WP V h A ra na n num (a + 17) code (Int32.toInt64 v) na Le Te Va num NS) ∧ ∀ h1 h2, a = V.2.1 + h1.length → rx_C V (d + 8) 0 0 m_Mo_time [.ref a, .int p0] (mw V h1 a S h2) (MP V h1 a h2 (.inl (some (.int v))) code n Le Te Va num NS) := by
  obtain ⟨fs, c0⟩ := C.c0
  have ev : S.2.2 4 = Va := m.2.2.1
  have hn := m.1.2
  have hv := m.2.1
  by_cases hz : flt n Va = 0
  · have pk := (pN_ok hn.2 hn.1 hv hz).1
    by_cases hi : iwn p0 0 (nI (pN n Va) - 1) = 0
    · exact ⟨2, 0, wpE (by decide) (w_time2 p0 c0 (x_time2 htr hv C hz hi)), fun h1 h2 ha => mpE m (k_time2 ha m.1 m.v (by rw [ev]; exact hz) (by rw [ev]; exact hi))⟩
    · obtain ⟨j, j1, rfl⟩ := in_n (by omega) hi
      refine ⟨0, ffo (ctf (wf n Va) (wf n Va j)) 0 0 (j + 1), wp0 (w_time0 (nI j) c0 (oO ho hd9) (c_time hv C hz j1)), fun h1 h2 ha => mpE m ?_⟩
      have z := k_time0 (d := d) (kc := 0) (ks := 0) (h2 := h2) ha m.1 m.v (by rw [ev]; exact hz) (i := j) (by rw [ev]; exact j1)
      rw [ev] at z
      exact z
  · exact ⟨1, 0, wpE (by decide) (w_time1 p0 c0 (x_time1 htr hv C hz p0)), fun h1 h2 ha => mpE m (k_time1 ha m.1 m.v (by rw [ev]; exact hz) p0)⟩
theorem p_find (htr : V.1.stackTraces = false) (C : is_cl V h A ra na n Le Te Va num NS kn kp) (m : mA n Le Te Va num NS S) (ho : rx_rd V h (a + 17) = some (.inl (V.2.2.2.1 1, 1, .inr (.inl fo)))) (hd9 : ∀ q, fp_c A ra na n num q → q < a ∨ a + 17 < q) (p0 p1 : Int32) : ∃ code v, rx_C V (d + 9) 1 6 m_La_find [.ref (A 0), .int p0, .int p1, .ref (a + 17)] h (WP V h A ra na n num (a + 17) code (Int32.toInt64 v) na Le Te Va num NS) ∧ ∀ h1 h2, a = V.2.1 + h1.length → rx_C V (d + 8) 0 0 m_Mo_find [.ref a, .int p0, .int p1] (mw V h1 a S h2) (MP V h1 a h2 (.inl (some (.int v))) code n Le Te Va num NS) := by
  obtain ⟨fs, c0⟩ := C.c0
  have ev : S.2.2 4 = Va := m.2.2.1
  have hv := m.2.1
  by_cases hz : flt n Va = 0
  · refine ⟨0, ixf (wf n Va) p0 p1 0 0 (pN n Va), wp0 (w_find0 p0 p1 c0 (oO ho hd9) (c_find hv C hz p0 p1)), fun h1 h2 ha => mpE m ?_⟩
    have z := k_find0 (d := d) (kc := 0) (ks := 0) (h2 := h2) ha m.1 m.v (by rw [ev]; exact hz) p0 p1
    rw [ev] at z
    exact z
  · exact ⟨1, 0, wpE (by decide) (w_find1 p0 p1 c0 (x_find htr hv C hz p0 p1)), fun h1 h2 ha => mpE m (k_find1 ha m.1 m.v (by rw [ev]; exact hz) p0 p1)⟩
theorem p_tick (htr : V.1.stackTraces = false) (C : is_cl V h A ra na n Le Te Va num NS kn kp) (m : mA n Le Te Va num NS S) (ho : rx_rd V h (a + 17) = some (.inl (V.2.2.2.1 1, 1, .inr (.inl fo)))) (hd9 : ∀ q, fp_c A ra na n num q → q < a ∨ a + 17 < q) (p0 : Int32) : ∃ code v, rx_C V (d + 9) 1 6 m_La_tick [.ref (A 0), .int p0, .ref (a + 17)] h (WP V h A ra na n num (a + 17) code v na Le Te Va num NS) ∧ ∀ h1 h2, a = V.2.1 + h1.length → rx_C V (d + 8) 0 0 m_Mo_tick [.ref a, .int p0] (mw V h1 a S h2) (MP V h1 a h2 (.inl (some (.long v))) code n Le Te Va num NS) := by
  obtain ⟨fs, c0⟩ := C.c0
  have ev : S.2.2 4 = Va := m.2.2.1
  have hn := m.1.2
  have hv := m.2.1
  by_cases hz : flt n Va = 0
  · have pk := (pN_ok hn.2 hn.1 hv hz).1
    by_cases hi : iwn p0 0 (nI (pN n Va)) = 0
    · exact ⟨2, 0, wpE (by decide) (w_tick2 p0 c0 (x_tick2 htr hv C hz hi)), fun h1 h2 ha => mpE m (k_tick2 ha m.1 m.v (by rw [ev]; exact hz) (by rw [ev]; exact hi))⟩
    · obtain ⟨j, j1, rfl⟩ := in_n1 (by omega) hi
      refine ⟨0, ffo (tks n Le Te (wf n Va)) 0 0 j, wp0 (w_tick0 (nI j) c0 (oO ho hd9) (c_tick hv C hz j1)), fun h1 h2 ha => mpE m ?_⟩
      have z := k_tick0 (d := d) (kc := 0) (ks := 0) (h2 := h2) ha m.1 m.v (by rw [ev]; exact hz) (i := j) (by rw [ev]; exact j1)
      rw [ev, m.tks] at z
      exact z
  · exact ⟨1, 0, wpE (by decide) (w_tick1 p0 c0 (x_tick1 htr hv C hz p0)), fun h1 h2 ha => mpE m (k_tick1 ha m.1 m.v (by rw [ev]; exact hz) p0)⟩
theorem p_at (htr : V.1.stackTraces = false) (C : is_cl V h A ra na n Le Te Va num NS kn kp) (m : mA n Le Te Va num NS S) (ho : rx_rd V h (a + 17) = some (.inl (V.2.2.2.1 1, 1, .inr (.inl fo)))) (hd9 : ∀ q, fp_c A ra na n num q → q < a ∨ a + 17 < q) (t : Int64) : ∃ code v, rx_C V (d + 9) 1 6 m_La_at [.ref (A 0), .long t, .ref (a + 17)] h (WP V h A ra na n num (a + 17) code (Int32.toInt64 v) na Le Te Va num NS) ∧ ∀ h1 h2, a = V.2.1 + h1.length → rx_C V (d + 8) 0 0 m_Mo_at [.ref a, .long t] (mw V h1 a S h2) (MP V h1 a h2 (.inl (some (.int v))) code n Le Te Va num NS) := by
  obtain ⟨fs, c0⟩ := C.c0
  have ev : S.2.2 4 = Va := m.2.2.1
  have hn := m.1.2
  have hv := m.2.1
  by_cases hz : flt n Va = 0
  · have pk := (pN_ok hn.2 hn.1 hv hz).1
    refine ⟨0, (if t < 0 then -1 else iaf n Le Te (wf n Va) t 0 0 (pN n Va)), wp0 (w_at0 t c0 (oO ho hd9) (c_at hv C hz t)), fun h1 h2 ha => mpE m ?_⟩
    have z := k_at0 (d := d) (kc := 0) (ks := 0) (h2 := h2) ha m.1 m.v (by rw [ev]; exact hz) t
    rw [ev, m.tks] at z
    have r := at_rel (n := n) (Le := Le) (Te := Te) (N := pN n Va) (fb := wbr n Va (gst Va n) (gGn n Va)) (fun b hb => (m.2.2.2.1 b hb).2) hn.2 (fun j _ => wbr_lt hn.2 hn.1 hv hz j) (by omega) t
    have r : Int32.ofInt (lwf (fun i => decide (¬ t < ffo (tks n Le Te (wf n Va)) 0 0 i ∧ t < ffo (tks n Le Te (wf n Va)) 0 0 (i + 1))) 0 (pN n Va)) = if t < 0 then -1 else iaf n Le Te (wf n Va) t 0 0 (pN n Va) := r
    rw [r] at z
    exact z
  · exact ⟨1, 0, wpE (by decide) (w_at1 t c0 (x_at htr hv C hz t)), fun h1 h2 ha => mpE m (k_at1 ha m.1 m.v (by rw [ev]; exact hz) t)⟩
theorem p_sounds (htr : V.1.stackTraces = false) (C : is_cl V h A ra na n Le Te Va num NS kn kp) (m : mA n Le Te Va num NS S) (ho : rx_rd V h (a + 17) = some (.inl (V.2.2.2.1 1, 1, .inr (.inl fo)))) (hd9 : ∀ q, fp_c A ra na n num q → q < a ∨ a + 17 < q) (p0 : Int32) : ∃ code v, rx_C V (d + 9) 1 6 m_La_sounds [.ref (A 0), .int p0, .ref (a + 17)] h (WP V h A ra na n num (a + 17) code (Int32.toInt64 v) na Le Te Va num NS) ∧ ∀ h1 h2, a = V.2.1 + h1.length → rx_C V (d + 8) 0 0 m_Mo_sounds [.ref a, .int p0] (mw V h1 a S h2) (MP V h1 a h2 (.inl (some (.int v))) code n Le Te Va num NS) := by
  obtain ⟨fs, c0⟩ := C.c0
  have ev : S.2.2 4 = Va := m.2.2.1
  have hv := m.2.1
  obtain ⟨σ, B⟩ := m.2.2.2.2.2.1
  by_cases hp : iwn p0 0 2 = 0
  · exact ⟨1, 0, wpE (by decide) (w_sounds1 p0 c0 (x_sounds1 htr C hp)), fun h1 h2 ha => mpE m (k_sounds1 ha hp)⟩
  · by_cases hz : flt n Va = 0
    · refine ⟨0, nI (sdc n Le Va num NS p0).length, wp0 (w_sounds0 p0 c0 (oO ho hd9) (c_sounds hv C hp hz)), fun h1 h2 ha => mpE m ?_⟩
      have z := k_sounds0 (d := d) (kc := 0) (ks := 0) (h2 := h2) ha m.1 m.v B hp (by rw [ev]; exact hz)
      rw [ev, sdc_L m.L] at z
      exact z
    · exact ⟨2, 0, wpE (by decide) (w_sounds2 p0 c0 (x_sounds2 htr hv C hp hz)), fun h1 h2 ha => mpE m (k_sounds2 ha m.1 m.v hp (by rw [ev]; exact hz))⟩
theorem sgl_lt {ok : Nat → Bool} {i : Nat} : ∀ (m k : Nat) (x : Nat × Nat), x ∈ sgl ok i k m → x.1 < k + m := by
  intro m
  induction m with
  | zero => intro k x hx; cases hx
  | succ m ih =>
    intro k x hx
    have hx : x ∈ (if ok k = true then (k, i) :: sgl ok i (k + 1) m else sgl ok i (k + 1) m) := hx
    by_cases c : ok k = true
    · rw [if_pos c] at hx
      obtain e | e := List.mem_cons.mp hx
      · rw [e]; show k < k + (m + 1); omega
      · have := ih (k + 1) x e; omega
    · rw [if_neg c] at hx
      have := ih (k + 1) x hx; omega
theorem sll_lt {ok : Nat → Nat → Bool} {num : Nat} : ∀ (m i : Nat) (x : Nat × Nat), x ∈ sll ok num i m → x.1 < num := by
  intro m
  induction m with
  | zero => intro i x hx; cases hx
  | succ m ih =>
    intro i x hx
    obtain e | e := List.mem_append.mp hx
    · have := sgl_lt num 0 x e; omega
    · exact ih (i + 1) x e
theorem p_sound (htr : V.1.stackTraces = false) (C : is_cl V h A ra na n Le Te Va num NS kn kp) (m : mA n Le Te Va num NS S) (ho : rx_rd V h (a + 17) = some (.inl (V.2.2.2.1 1, 1, .inr (.inl fo)))) (hd9 : ∀ q, fp_c A ra na n num q → q < a ∨ a + 17 < q) (p0 p1 p2 : Int32) : ∃ code v, rx_C V (d + 9) 1 6 m_La_sound [.ref (A 0), .int p0, .int p1, .int p2, .ref (a + 17)] h (WP V h A ra na n num (a + 17) code v na Le Te Va num NS) ∧ ∀ h1 h2, a = V.2.1 + h1.length → rx_C V (d + 8) 0 0 m_Mo_sound [.ref a, .int p0, .int p1, .int p2] (mw V h1 a S h2) (MP V h1 a h2 (.inl (some (.long v))) code n Le Te Va num NS) := by
  obtain ⟨fs, c0⟩ := C.c0
  have ev : S.2.2 4 = Va := m.2.2.1
  have hn := m.1.2
  have hv := m.2.1
  obtain ⟨σ, B⟩ := m.2.2.2.2.2.1
  by_cases hp : iwn p0 0 2 = 0
  · exact ⟨1, 0, wpE (by decide) (w_sound1 p0 p1 p2 c0 (x_sound1 htr C hp p1 p2)), fun h1 h2 ha => mpE m (k_sound1 ha hp p1 p2)⟩
  · by_cases hz : flt n Va = 0
    · have hz2 : flt n (S.2.2 4) = 0 := by rw [ev]; exact hz
      have hlen : (sdc n Le Va num NS p0).length ≤ 480 := sdc_len hn.2 hn.1 hv hz m.q.2.1
      have esd : sdc n (S.2.2 2) (S.2.2 4) num NS p0 = sdc n Le Va num NS p0 := by rw [ev, sdc_L m.L]
      by_cases hi : iwn p1 0 (nI (sdc n Le Va num NS p0).length - 1) = 0
      · refine ⟨0, -1, wp0 (w_sound0 p0 p1 p2 c0 (oO ho hd9) (c_sound0 hv C hp hz hi p2)), fun h1 h2 ha => mpE m (k_soundN ha m.1 m.v B hp hz2 (i := p1) ?_ (by rw [esd]; omega) p2)⟩
        rw [esd]
        have := (out_0 (by omega)).mp hi
        rw [show p1 - 0 = p1 from Int32.sub_zero _, i_lt, i_0, i_le, i_n (by omega)] at this
        exact this
      · obtain ⟨j, j1, rfl⟩ := in_n (by omega) hi
        have hx : (sdc n Le Va num NS p0)[j]? = some (((sdc n Le Va num NS p0)[j]).1, ((sdc n Le Va num NS p0)[j]).2) := List.getElem?_eq_getElem j1
        have hmem : (sdc n Le Va num NS p0)[j] ∈ sdc n Le Va num NS p0 := List.getElem_mem j1
        have hc : ((sdc n Le Va num NS p0)[j]).1 < num := sll_lt _ _ _ hmem
        generalize ((sdc n Le Va num NS p0)[j]).1 = c at hx hc
        generalize ((sdc n Le Va num NS p0)[j]).2 = i0 at hx
        have hx2 : (sdc n (S.2.2 2) (S.2.2 4) num NS p0)[j]? = some (c, i0) := by rw [esd]; exact hx
        have hl2 : (sdc n (S.2.2 2) (S.2.2 4) num NS p0).length ≤ 1000 := by rw [esd]; omega
        by_cases w0 : p2 = nI 0
        · subst w0
          refine ⟨0, _, wp0 (w_sound0 p0 (nI j) (nI 0) c0 (oO ho hd9) (c_soundA0 hv C hp hz hx)), fun h1 h2 ha => mpE m ?_⟩
          have z := k_soundA0 (d := d) (kc := 0) (ks := 0) (h2 := h2) ha m.1 m.v B hp hz2 hl2 hx2 hc
          rw [ev, m.tks, m.T] at z
          exact z
        · by_cases w1 : p2 = nI 1
          · subst w1
            exact ⟨0, _, wp0 (w_sound0 p0 (nI j) (nI 1) c0 (oO ho hd9) (c_soundA1 hv C hp hz hx)), fun h1 h2 ha => mpE m (k_soundA1 ha m.1 m.v B hp hz2 hl2 hx2 hc)⟩
          · by_cases w2 : p2 = nI 2
            · subst w2
              refine ⟨0, _, wp0 (w_sound0 p0 (nI j) (nI 2) c0 (oO ho hd9) (c_soundA2 hv C hp hz hx)), fun h1 h2 ha => mpE m ?_⟩
              have z := k_soundA2 (d := d) (kc := 0) (ks := 0) (h2 := h2) ha m.1 m.v B hp hz2 hl2 hx2 hc
              rw [ev, slf_L m.L m.T] at z
              exact z
            · by_cases w3 : p2 = nI 3
              · subst w3
                refine ⟨0, _, wp0 (w_sound0 p0 (nI j) (nI 3) c0 (oO ho hd9) (c_soundA3 hv C hp hz hx)), fun h1 h2 ha => mpE m ?_⟩
                have z := k_soundA3 (d := d) (kc := 0) (ks := 0) (h2 := h2) ha m.1 m.v B hp hz2 hl2 hx2 hc
                rw [ev, slf_L m.L m.T] at z
                exact z
              · have hw : p2.toInt < 0 ∨ 3 < p2.toInt := by
                  refine Decidable.byContradiction (fun z => ?_)
                  have e : p2 = nI p2.toInt.toNat := i_of (by omega) (by omega)
                  have : p2.toInt.toNat = 0 ∨ p2.toInt.toNat = 1 ∨ p2.toInt.toNat = 2 ∨ p2.toInt.toNat = 3 := by omega
                  obtain y | y | y | y := this
                  · exact w0 (by rw [e, y])
                  · exact w1 (by rw [e, y])
                  · exact w2 (by rw [e, y])
                  · exact w3 (by rw [e, y])
                refine ⟨0, -1, wp0 (w_sound0 p0 (nI j) p2 c0 (oO ho hd9) (c_soundA9 hv C hp hz hx hw)), fun h1 h2 ha => mpE m (k_soundA9 ha m.1 m.v B hp hz2 hl2 hx2 hc ?_)⟩
                unfold iwn
                rw [ite10, i_le, i_0, i_le, show (3 : Int32).toInt = 3 from by decide]
                omega
    · exact ⟨2, 0, wpE (by decide) (w_sound2 p0 p1 p2 c0 (x_sound2 htr hv C hp hz p1 p2)), fun h1 h2 ha => mpE m (k_sound2 ha m.1 m.v hp (by rw [ev]; exact hz) p1 p2)⟩
theorem p_rest (htr : V.1.stackTraces = false) (C : is_cl V h A ra na n Le Te Va num NS kn kp) (m : mA n Le Te Va num NS S) (ho : rx_rd V h (a + 17) = some (.inl (V.2.2.2.1 1, 1, .inr (.inl fo)))) (hd9 : ∀ q, fp_c A ra na n num q → q < a ∨ a + 17 < q) (p0 p1 : Int32) : ∃ code v, rx_C V (d + 9) 1 6 m_La_rest [.ref (A 0), .int p0, .int p1, .ref (a + 17)] h (WP V h A ra na n num (a + 17) code (Int32.toInt64 v) na Le Te Va num NS) ∧ ∀ h1 h2, a = V.2.1 + h1.length → rx_C V (d + 8) 0 0 m_Mo_rest [.ref a, .int p0, .int p1] (mw V h1 a S h2) (MP V h1 a h2 (.inl (some (.int v))) code n Le Te Va num NS) := by
  obtain ⟨fs, c0⟩ := C.c0
  by_cases hp : iwn p0 0 2 = 0
  · exact ⟨1, 0, wpE (by decide) (w_rest1 p0 p1 c0 (x_rest htr C hp p1)), fun h1 h2 ha => mpE m (k_rest1 ha hp p1)⟩
  · refine ⟨0, rsf n (rsB NS num p0) (goB n Le Va NS num p0) p1 0 0 n, wp0 (w_rest0 p0 p1 c0 (oO ho hd9) (c_rest C hp p1)), fun h1 h2 ha => mpE m ?_⟩
    have z := k_rest0 (d := d) (kc := 0) (ks := 0) (h2 := h2) ha m.1 m.v m.q hp p1
    rw [m.rs, m.go] at z
    exact z
end PA
