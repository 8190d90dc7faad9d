/-! Repeats.gather -/
def gG (n : Nat) (Va : Nat → Int32) (s : gT) : Nat → Nat → Option Nat
  | 0 => fun _ => none
  | r + 1 => gEs n Va s (gG n Va s r) r
theorem gEs_o {n : Nat} {Va : Nat → Int32} {s : gT} {g : Nat → Option Nat} {r r' x : Nat} (e : r' ≠ r) : gEs n Va s g r x = some r' ↔ g x = some r' := by
  unfold gEs
  by_cases c : gAny n Va s g r = true
  · rw [if_pos c]
    have key : ∀ (g : Nat → Option Nat) (i : Nat), gB n Va s g r i x = some r' ↔ g x = some r' := by
      intro g i
      unfold gB
      by_cases c : g x = none ∧ hb Va 2 x = true ∧ x < n ∧ 1 ≤ x ∧ gE s r < x ∧ x ≤ i ∧ gO s (x - 1) = some r
      · rw [if_pos c, c.1]
        exact ⟨fun z => absurd (Option.some.inj z).symm e, fun z => nomatch z⟩
      · rw [if_neg c]
    rw [key]
    unfold gA
    by_cases c : g x = none ∧ hb Va 2 x = true ∧ x < n ∧ gF s r ≤ x ∧ x < gE s r + 1
    · rw [if_pos c, c.1]
      exact ⟨fun z => absurd (Option.some.inj z).symm e, fun z => nomatch z⟩
    · rw [if_neg c]
  · rw [if_neg c]
theorem gG_lt {n : Nat} {Va : Nat → Int32} {s : gT} : ∀ {r x q : Nat}, gG n Va s r x = some q → q < r := by
  intro r
  induction r with
  | zero => intro x q h; cases h
  | succ r ih =>
    intro x q h
    by_cases e : q = r
    · omega
    · exact Nat.lt_succ_of_lt (ih ((gEs_o e).mp h))
theorem isF_c {g g' : Nat → Option Nat} {r : Nat} {v : Int32} (h : isF g r v) (hc : ∀ x, g' x = some r ↔ g x = some r) : isF g' r v := by
  obtain ⟨h1, h2⟩ | ⟨x, h1, h2, h3, h4⟩ := h
  · exact Or.inl ⟨h1, fun x z => h2 x ((hc x).mp z)⟩
  · exact Or.inr ⟨x, h1, h2, (hc x).mpr h3, fun y z => h4 y ((hc y).mp z)⟩
theorem isL_c {g g' : Nat → Option Nat} {r : Nat} {v : Int32} (h : isL g r v) (hc : ∀ x, g' x = some r ↔ g x = some r) : isL g' r v := by
  obtain ⟨h1, h2⟩ | ⟨x, h1, h2, h3, h4⟩ := h
  · exact Or.inl ⟨h1, fun x z => h2 x ((hc x).mp z)⟩
  · exact Or.inr ⟨x, h1, h2, (hc x).mpr h3, fun y z => h4 y ((hc y).mp z)⟩
/-- what the Repeat objects hold, endings below i gathered -/
def roI (s : gT) (g : Nat → Option Nat) (i : Nat) (R : Nat → Nat → Int32) : Prop := ∀ r, r < s.1 → R r 0 = nI (gF s r) ∧ R r 1 = nI (gE s r) ∧ R r 2 = nI (gL s r) ∧ R r 5 = gC s r ∧ (r < i → isF g r (R r 3) ∧ isL g r (R r 4)) ∧ (i ≤ r → R r 3 = -1 ∧ R r 4 = -1)
def roG (s : gT) (g : Nat → Option Nat) (R : Nat → Nat → Int32) : Prop := ∀ r, r < s.1 → R r 0 = nI (gF s r) ∧ R r 1 = nI (gE s r) ∧ R r 2 = nI (gL s r) ∧ R r 5 = gC s r ∧ isF g r (R r 3) ∧ isL g r (R r 4)
section GH
variable {V : rx_V} {d kc ks a n aA aE aG num q aP al at_ av : Nat} {h : List va_E} {fA fE fG : Nat → Option Nat} {ra : Nat → Nat} {R : Nat → Nat → Int32} {Le Te Va : Nat → Int32} {Q : rx_R → List va_E → Prop} {g : Nat → Option Nat}
theorem l_gather2 (hD : aA ≠ aE ∧ aA ≠ aG ∧ aE ≠ aG) (hp : is_pg V h aP n al at_ av Le Te Va) {num0 : Nat} {fE0 fG0 : Nat → Option Nat} {R0 : Nat → Nat → Int32} (H0 : is_rp V h a n aA aE aG num0 fA fE0 fG0 ra R0) : ∀ (m i : Nat) (h1 : List va_E) (R1 : Nat → Nat → Int32), i + m = (gst Va n).1 → is_rp V h1 a n aA aE aG (gst Va n).1 fA (fun x => (gO (gst Va n) x).map ra) (fun x => (gG n Va (gst Va n) i x).map ra) ra R1 → roI (gst Va n) (gG n Va (gst Va n) i) i R1 → rx_fr V h h1 (fp_g a n aE aG ra) →
    rx_W V (d + 4) kc ks m_Repeats_gather 43 [some (.ref a), some (.ref aP), some (.int (nI i))] [] h1 (fun r9 h' => r9 = .inl none ∧ ∃ R', is_rp V h' a n aA aE aG (gst Va n).1 fA (fun x => (gO (gst Va n) x).map ra) (fun x => (gG n Va (gst Va n) (gst Va n).1 x).map ra) ra R' ∧ roG (gst Va n) (gG n Va (gst Va n) (gst Va n).1) R' ∧ rx_fr V h h' (fp_g a n aE aG ra)) := by
  intro m
  induction m with
  | zero =>
    intro i h1 R1 hi H hr hf
    have hi9 : i = (gst Va n).1 := by omega
    subst hi9
    refine rx_iload_n d_Repeats_gather_43 (by rfl) ?_
    refine rx_aload_nr d_Repeats_gather_44 (by rfl) ?_
    refine rx_getfield d_Repeats_gather_45 fl_Repeats_24 H.1 (by rfl) ?_
    refine rx_icmp_ge (tgt := 68) d_Repeats_gather_48 (by rfl) (fun c48 => ?_) (fun z => absurd (Int32.le_refl _) z)
    refine rx_vreturn d_Repeats_gather_68 (by rfl) ?_
    exact ⟨rfl, R1, H, fun r hlt => ⟨(hr r hlt).1, (hr r hlt).2.1, (hr r hlt).2.2.1, (hr r hlt).2.2.2.1, (hr r hlt).2.2.2.2.1 hlt⟩, hf⟩
  | succ m ih =>
    intro i h1 R1 hi H hr hf
    have hn := H.n20
    have I := gI_b Va n
    have hlt : i < (gst Va n).1 := by omega
    have hin : i < n := Nat.lt_of_lt_of_le hlt I.1
    have hp1 := hp.frg H0 hf
    obtain ⟨q0, q1, q2, q5, -, q34⟩ := hr i hlt
    obtain ⟨q3, q4⟩ := q34 (Nat.le_refl _)
    have hle := I.2.2.2.2.1 i hlt
    refine rx_iload_n d_Repeats_gather_43 (by rfl) ?_
    refine rx_aload_nr d_Repeats_gather_44 (by rfl) ?_
    refine rx_getfield d_Repeats_gather_45 fl_Repeats_24 H.1 (by rfl) ?_
    refine rx_icmp_ge (tgt := 68) d_Repeats_gather_48 (by rfl) (fun z => absurd z (nI_ge hlt (by have := I.1; omega))) (fun c48 => ?_)
    refine rx_aload_nr d_Repeats_gather_51 (by rfl) ?_
    refine rx_aload_nr d_Repeats_gather_52 (by rfl) ?_
    refine rx_aload_nr d_Repeats_gather_53 (by rfl) ?_
    refine rx_getfield d_Repeats_gather_54 fl_Repeats_11 H.1 (by rfl) ?_
    refine rx_iload_n d_Repeats_gather_57 (by rfl) ?_
    refine rx_aaload d_Repeats_gather_58 (by rfl) H.2.1 (vp_in_nI hin (by omega)) ?_
    rw [i_cl (by omega), H.2.2.2.2.1 i hin]
    refine rx_pV d_Repeats_gather_59 (by rfl) ml_Repeats_32 im_Repeats_gatherEndings se_Repeats_gatherEndings (by exact c9_Repeats_gatherEndings) H.1 (by rfl) (by exact Nat.le_of_ble_eq_true rfl) (c_gatherEndings hD hp1 H hin q0 q1 q2 q3 q4 ⟨hle.1, hle.2.1, Nat.lt_of_lt_of_le hle.2.2.1 I.2.1⟩ (fun x r z => Nat.lt_of_lt_of_le (I.2.2.2.2.2.2.1 x r z).1 I.1) (fun x z => Nat.lt_irrefl _ (gG_lt z))) ?_
    intro h2 z9
    obtain ⟨R2, H2, o2, k2, F2, L2, f2⟩ := z9
    refine rx_iinc (v := nI (i + 1)) d_Repeats_gather_62 (by rfl) (i_inc i) ?_
    refine rx_goto (tgt := 43) d_Repeats_gather_65 (by rfl) ?_
    refine ih (i + 1) h2 R2 (by omega) H2 (fun r hl => ?_) (hf.tr f2)
    obtain ⟨p0, p1, p2, p5, pa, pb⟩ := hr r hl
    by_cases e : r = i
    · subst e
      exact ⟨(k2 0 (by omega) (by omega)).trans p0, (k2 1 (by omega) (by omega)).trans p1, (k2 2 (by omega) (by omega)).trans p2, (k2 5 (by omega) (by omega)).trans p5, fun _ => ⟨F2, L2⟩, fun z => by omega⟩
    · rw [o2 r e]
      refine ⟨p0, p1, p2, p5, fun z => ?_, fun z => pb (by omega)⟩
      have w := pa (by omega)
      exact ⟨isF_c w.1 (fun x => gEs_o e), isL_c w.2 (fun x => gEs_o e)⟩
theorem l_gather1 (hD : aA ≠ aE ∧ aA ≠ aG ∧ aE ≠ aG) (hp : is_pg V h aP n al at_ av Le Te Va) {num0 : Nat} {fE0 fG0 : Nat → Option Nat} {R0 : Nat → Nat → Int32} (H0 : is_rp V h a n aA aE aG num0 fA fE0 fG0 ra R0) (hE0 : ∀ x, n ≤ x → fE0 x = none) (hG0 : ∀ x, n ≤ x → fG0 x = none) : ∀ (m i : Nat) (h1 : List va_E) (fE1 fG1 : Nat → Option Nat), i + m = n → is_rp V h1 a n aA aE aG 0 fA fE1 fG1 ra R0 → (∀ x, fE1 x = if x < i then none else fE0 x) → (∀ x, fG1 x = if x < i then none else fG0 x) → rx_fr V h h1 (fp_g a n aE aG ra) →
    rx_W V (d + 4) kc ks m_Repeats_gather 7 [some (.ref a), some (.ref aP), some (.int (nI i))] [] h1 (fun r9 h' => r9 = .inl none ∧ ∃ R', is_rp V h' a n aA aE aG (gst Va n).1 fA (fun x => (gO (gst Va n) x).map ra) (fun x => (gG n Va (gst Va n) (gst Va n).1 x).map ra) ra R' ∧ roG (gst Va n) (gG n Va (gst Va n) (gst Va n).1) R' ∧ rx_fr V h h' (fp_g a n aE aG ra)) := by
  intro m
  induction m with
  | zero =>
    intro i h1 fE1 fG1 hi H hE hG hf
    have hi9 : i = n := by omega
    subst hi9
    have eE : fE1 = fun _ => none := by
      funext x
      rw [hE x]
      by_cases c : x < i
      · rw [if_pos c]
      · rw [if_neg c]; exact hE0 x (by omega)
    have eG : fG1 = fun _ => none := by
      funext x
      rw [hG x]
      by_cases c : x < i
      · rw [if_pos c]
      · rw [if_neg c]; exact hG0 x (by omega)
    subst eE eG
    have hp1 := hp.frg H0 hf
    refine rx_iload_n d_Repeats_gather_7 (by rfl) ?_
    refine rx_aload_nr d_Repeats_gather_8 (by rfl) ?_
    refine rx_getfield d_Repeats_gather_9 fl_Repeats_17 H.1 (by rfl) ?_
    refine rx_alen d_Repeats_gather_12 (by rfl) H.2.2.1 ?_
    refine rx_icmp_ge (tgt := 36) d_Repeats_gather_13 (by rfl) (fun c13 => ?_) (fun z => absurd (Int32.le_refl _) z)
    refine rx_aload_nr d_Repeats_gather_36 (by rfl) ?_
    refine rx_aload_nr d_Repeats_gather_37 (by rfl) ?_
    refine rx_pV d_Repeats_gather_38 (by rfl) ml_Repeats_28 im_Repeats_gatherEnds se_Repeats_gatherEnds (by exact c9_Repeats_gatherEnds) H.1 (by rfl) (by exact Nat.le_of_ble_eq_true rfl) (c_gatherEnds hD hp1 H) ?_
    intro h2 z9
    obtain ⟨R2, H2, o2, f2⟩ := z9
    refine rx_iconst (v := 0) d_Repeats_gather_41 (by decide) ?_
    refine rx_istore_n d_Repeats_gather_42 (Nat.le_of_ble_eq_true rfl) ?_
    exact l_gather2 hD hp H0 (gst Va i).1 0 h2 R2 (by omega) H2 (fun r hl => ⟨(o2 r hl).1, (o2 r hl).2.1, (o2 r hl).2.2.1, (o2 r hl).2.2.2.2.2, fun z => absurd z (Nat.not_lt_zero _), fun _ => ⟨(o2 r hl).2.2.2.1, (o2 r hl).2.2.2.2.1⟩⟩) (hf.tr f2)
  | succ m ih =>
    intro i h1 fE1 fG1 hi H hE hG hf
    have hn := H.n20
    have hin : i < n := by omega
    refine rx_iload_n d_Repeats_gather_7 (by rfl) ?_
    refine rx_aload_nr d_Repeats_gather_8 (by rfl) ?_
    refine rx_getfield d_Repeats_gather_9 fl_Repeats_17 H.1 (by rfl) ?_
    refine rx_alen d_Repeats_gather_12 (by rfl) H.2.2.1 ?_
    refine rx_icmp_ge (tgt := 36) d_Repeats_gather_13 (by rfl) (fun z => absurd z (nI_ge hin (by omega))) (fun c13 => ?_)
    refine rx_aload_nr d_Repeats_gather_16 (by rfl) ?_
    refine rx_getfield d_Repeats_gather_17 fl_Repeats_17 H.1 (by rfl) ?_
    refine rx_iload_n d_Repeats_gather_20 (by rfl) ?_
    refine rx_null d_Repeats_gather_21 ?_
    refine rx_aastoreN d_Repeats_gather_22 (by rfl) H.2.2.1 (vp_in_nI hin (by omega)) ?_
    rw [i_cl (by omega)]
    have H2 := H.setE (f' := va_up fE1 i none) hD.1 (Ne.symm hD.2.2)
    refine rx_aload_nr d_Repeats_gather_23 (by rfl) ?_
    refine rx_getfield d_Repeats_gather_24 fl_Repeats_20 H2.1 (by rfl) ?_
    refine rx_iload_n d_Repeats_gather_27 (by rfl) ?_
    refine rx_null d_Repeats_gather_28 ?_
    refine rx_aastoreN d_Repeats_gather_29 (by rfl) H2.2.2.2.1 (vp_in_nI hin (by omega)) ?_
    rw [i_cl (by omega)]
    refine rx_iinc (v := nI (i + 1)) d_Repeats_gather_30 (by rfl) (i_inc i) ?_
    refine rx_goto (tgt := 7) d_Repeats_gather_33 (by rfl) ?_
    refine ih (i + 1) _ _ _ (by omega) (H2.setG hD.2.1 hD.2.2) (fun x => ?_) (fun x => ?_) (hf.tr ((rx_fr.wr H.2.2.1 (Or.inr (Or.inl rfl))).tr (rx_fr.wr H2.2.2.2.1 (Or.inr (Or.inr (Or.inl rfl))))))
    · rw [up_va]
      by_cases e : x = i
      · subst e; rw [up_s, if_pos (by omega)]
      · rw [up_o e, hE x]
        by_cases c : x < i
        · rw [if_pos c, if_pos (by omega)]
        · rw [if_neg c, if_neg (by omega)]
    · rw [up_va]
      by_cases e : x = i
      · subst e; rw [up_s, if_pos (by omega)]
      · rw [up_o e, hG x]
        by_cases c : x < i
        · rw [if_pos c, if_pos (by omega)]
        · rw [if_neg c, if_neg (by omega)]
theorem c_gather (hD : aA ≠ aE ∧ aA ≠ aG ∧ aE ≠ aG) (hp : is_pg V h aP n al at_ av Le Te Va) (H : is_rp V h a n aA aE aG num fA fE fG ra R) (hE0 : ∀ x, n ≤ x → fE x = none) (hG0 : ∀ x, n ≤ x → fG x = none) : rx_C V (d + 4) kc ks m_Repeats_gather [.ref a, .ref aP] h (fun r9 h' => r9 = .inl none ∧ ∃ R', is_rp V h' a n aA aE aG (gst Va n).1 fA (fun x => (gO (gst Va n) x).map ra) (fun x => (gG n Va (gst Va n) (gst Va n).1 x).map ra) ra R' ∧ roG (gst Va n) (gG n Va (gst Va n) (gst Va n).1) R' ∧ rx_fr V h h' (fp_g a n aE aG ra)) := by
  refine rx_aload_nr d_Repeats_gather_0 (by rfl) ?_
  refine rx_iconst (v := 0) d_Repeats_gather_1 (by decide) ?_
  refine rx_putfield d_Repeats_gather_2 (fw_Repeats_24 rfl) H.1 (Nat.le_of_ble_eq_true rfl) (by rfl) (by rfl) ?_
  refine rx_iconst (v := 0) d_Repeats_gather_5 (by decide) ?_
  refine rx_istore_n d_Repeats_gather_6 (Nat.le_of_ble_eq_true rfl) ?_
  have H2 := H.num (num' := 0) (Nat.zero_le _)
  exact l_gather1 hD hp H hE0 hG0 n 0 _ fE fG (by omega) H2 (fun x => (if_neg (Nat.not_lt_zero x)).symm) (fun x => (if_neg (Nat.not_lt_zero x)).symm) (rx_fr.wr H.1 (Or.inl rfl))
end GH
