/-! Repeats.takeEnding, gatherEndings, gather -/
theorem fix_iff {Pr : Nat → Bool} : ∀ {m i : Nat}, (fix Pr i m).isSome = true ↔ ∃ x, i ≤ x ∧ x < i + m ∧ Pr x = true := by
  intro m
  induction m with
  | zero => intro i; exact ⟨fun z => (nomatch z), fun ⟨x, h1, h2, _⟩ => by omega⟩
  | succ m ih =>
    intro i
    cases hp : Pr i with
    | true => rw [fix_yes hp]; exact ⟨fun _ => ⟨i, Nat.le_refl _, by omega, hp⟩, fun _ => rfl⟩
    | false =>
      rw [fix_no hp, ih]
      constructor
      · rintro ⟨x, h1, h2, h3⟩; exact ⟨x, by omega, by omega, h3⟩
      · rintro ⟨x, h1, h2, h3⟩
        by_cases e : x = i
        · rw [e, hp] at h3; cases h3
        · exact ⟨x, by omega, by omega, h3⟩
/-- first and last bar whose ending belongs to r -/
def isF (g : Nat → Option Nat) (r : Nat) (v : Int32) : Prop := (v = -1 ∧ ∀ x, g x ≠ some r) ∨ ∃ x, v = nI x ∧ x < 20 ∧ g x = some r ∧ ∀ y, g y = some r → x ≤ y
def isL (g : Nat → Option Nat) (r : Nat) (v : Int32) : Prop := (v = -1 ∧ ∀ x, g x ≠ some r) ∨ ∃ x, v = nI x ∧ x < 20 ∧ g x = some r ∧ ∀ y, g y = some r → y ≤ x
theorem nI_m1 {x : Nat} (h : x ≤ 1000000) : nI x ≠ -1 := by
  intro z
  have := congrArg Int32.toInt z
  rw [i_n h, i_m1] at this
  omega
def gtk (n : Nat) (Va : Nat → Int32) (r : Nat) (g : Nat → Option Nat) (b : Nat) : Nat → Option Nat := if b < n ∧ hb Va 2 b = true ∧ g b = none then up g b (some r) else g
theorem isF_1 {g : Nat → Option Nat} {r b : Nat} {v : Int32} (h : isF g r v) (hv : v = -1) (hb20 : b < 20) : isF (up g b (some r)) r (nI b) := by
  obtain ⟨-, h2⟩ | ⟨x, h1, h2, h3, h4⟩ := h
  · refine Or.inr ⟨b, rfl, hb20, up_s, fun y hy => ?_⟩
    by_cases e : y = b
    · omega
    · rw [up_o e] at hy; exact absurd hy (h2 y)
  · exact absurd (h1.symm.trans hv) (nI_m1 (by omega))
theorem isF_2 {g : Nat → Option Nat} {r b : Nat} {v : Int32} (h : isF g r v) (hv : v ≠ -1) (ha : ∀ y, g y = some r → y < b) : isF (up g b (some r)) r v := by
  obtain ⟨h1, -⟩ | ⟨x, h1, h2, h3, h4⟩ := h
  · exact absurd h1 hv
  · have hx := ha x h3
    refine Or.inr ⟨x, h1, h2, by rw [up_o (by omega)]; exact h3, fun y hy => ?_⟩
    by_cases e : y = b
    · omega
    · rw [up_o e] at hy; exact h4 y hy
theorem isL_1 {g : Nat → Option Nat} {r b : Nat} (hb20 : b < 20) (ha : ∀ y, g y = some r → y < b) : isL (up g b (some r)) r (nI b) := by
  refine Or.inr ⟨b, rfl, hb20, up_s, fun y hy => ?_⟩
  by_cases e : y = b
  · omega
  · rw [up_o e] at hy; exact Nat.le_of_lt (ha y hy)
theorem is_rp.cell {V : rx_V} {h : List va_E} {a n aA aE aG num : Nat} {fA fE fG : Nat → Option Nat} {ra : Nat → Nat} {R : Nat → Nat → Int32} (H : is_rp V h a n aA aE aG num fA fE fG ra R) {r : Nat} (hr : r < n) : rx_rd V h (ra r) = some (rcl (R r)) := H.2.2.2.2.2.1 r hr
theorem is_rp.n20 {V : rx_V} {h : List va_E} {a n aA aE aG num : Nat} {fA fE fG : Nat → Option Nat} {ra : Nat → Nat} {R : Nat → Nat → Int32} (H : is_rp V h a n aA aE aG num fA fE fG ra R) : n ≤ 20 := H.2.2.2.2.2.2.2.2
theorem is_rp.set1 {V : rx_V} {h : List va_E} {a n aA aE aG num : Nat} {fA fE fG : Nat → Option Nat} {ra : Nat → Nat} {R : Nat → Nat → Int32} (H : is_rp V h a n aA aE aG num fA fE fG ra R) {r k : Nat} {v : Int32} (hr : r < n) : is_rp V (rx_wr V h (ra r) (rcl (upd (R r) k v))) a n aA aE aG num fA fE fG ra (rup R r k v) :=
  H.set hr (fun k _ => by rw [rup_u]) (fun r' e => rup_o e)
theorem rx_acmp_ne_r {V : rx_V} {d kc ks : Nat} {M : rx_T} {pc : Nat} {L : rx_L} {S : List Value} {h : List va_E} {Q : rx_R → List va_E → Prop} {rx : Option Nat} {q : Nat} {off : Int} {tgt : Nat} (hd : decode M.2.1 pc = .ok (.if_acmp .ne off, 3)) (ht : (pc : Int) + off = (tgt : Int)) (kt : ¬ rx = some q → rx_W V d kc ks M tgt L S h Q) (kf : rx = some q → rx_W V d kc ks M (pc + 3) L S h Q) : rx_W V d kc ks M pc L (.ref q :: va_rf rx :: S) h Q := rx_acmp_ne (ry := some q) hd ht kt kf
theorem rx_acmp_eq_r {V : rx_V} {d kc ks : Nat} {M : rx_T} {pc : Nat} {L : rx_L} {S : List Value} {h : List va_E} {Q : rx_R → List va_E → Prop} {rx : Option Nat} {q : Nat} {off : Int} {tgt : Nat} (hd : decode M.2.1 pc = .ok (.if_acmp .eq off, 3)) (ht : (pc : Int) + off = (tgt : Int)) (kt : rx = some q → rx_W V d kc ks M tgt L S h Q) (kf : ¬ rx = some q → rx_W V d kc ks M (pc + 3) L S h Q) : rx_W V d kc ks M pc L (.ref q :: va_rf rx :: S) h Q := rx_acmp_eq (ry := some q) hd ht kt kf
theorem is_rp.inj {V : rx_V} {h : List va_E} {a n aA aE aG num : Nat} {fA fE fG : Nat → Option Nat} {ra : Nat → Nat} {R : Nat → Nat → Int32} (H : is_rp V h a n aA aE aG num fA fE fG ra R) {o : Option Nat} {r : Nat} (hr : r < n) (ho : ∀ x, o = some x → x < n) : o.map ra = some (ra r) ↔ o = some r := by
  cases o with
  | none => exact ⟨fun z => (nomatch z), fun z => (nomatch z)⟩
  | some x => exact ⟨fun z => by rw [H.2.2.2.2.2.2.1 x r (ho x rfl) hr (Option.some.inj z)], fun z => by rw [z]; rfl⟩
section GG
variable {V : rx_V} {d kc ks a n aA aE aG num q aP al at_ av : Nat} {h : List va_E} {fA fE fG : Nat → Option Nat} {ra : Nat → Nat} {R : Nat → Nat → Int32} {Le Te Va : Nat → Int32} {Q : rx_R → List va_E → Prop} {g : Nat → Option Nat}
theorem c_takeEnding (hD : aA ≠ aE ∧ aA ≠ aG ∧ aE ≠ aG) (hp : is_pg V h aP n al at_ av Le Te Va) (H : is_rp V h a n aA aE aG num fA fE (fun x => (g x).map ra) ra R) {r b : Nat} (hr : r < n) (hb9 : b ≤ n) (hF : isF g r (R r 3)) (hL : isL g r (R r 4)) (ha : ∀ y, g y = some r → y < b) : rx_C V (d + 2) kc ks m_Repeats_takeEnding [.ref a, .ref aP, .ref (ra r), .int (nI b)] h (fun r9 h' => r9 = .inl none ∧ ∃ R', is_rp V h' a n aA aE aG num fA fE (fun x => (gtk n Va r g b x).map ra) ra R' ∧ (∀ r', r' ≠ r → R' r' = R r') ∧ (∀ k, k ≠ 3 → k ≠ 4 → R' r k = R r k) ∧ isF (gtk n Va r g b) r (R' r 3) ∧ isL (gtk n Va r g b) r (R' r 4) ∧ rx_fr V h h' (fp_g a n aE aG ra)) := by
  have hn := H.n20
  by_cases hT : b < n ∧ hb Va 2 b = true
  · obtain ⟨hbn, hT⟩ := hT
    have hv : pgv n Va (nI b) 2 = Va (10 * b + 2) := pgv_k hn hbn (by omega) rfl
    have hv0 : ¬ Va (10 * b + 2) = 0 := hb_t.mp hT
    cases hg : g b with
    | some r1 =>
      rw [show gtk n Va r g b = g from if_neg (fun z => by rw [hg] at z; cases z.2.2)]
      refine rx_aload_nr d_Repeats_takeEnding_0 (by rfl) ?_
      refine rx_iload_n d_Repeats_takeEnding_1 (by rfl) ?_
      refine rx_iconst (v := 2) d_Repeats_takeEnding_2 (by decide) ?_
      refine rx_cV d_Repeats_takeEnding_3 (by rfl) ml_Repeats_36 im_Page_has se_Page_has (by exact c9_Page_has) hp.1 (by rfl) (by exact Nat.le_of_ble_eq_true rfl) (c_has hp (nI b) 2) ?_
      rw [hv, if_neg hv0]
      refine rx_if_eq (tgt := 42) d_Repeats_takeEnding_6 (by rfl) (fun z => absurd z (by decide)) (fun c6 => ?_)
      refine rx_aload_nr d_Repeats_takeEnding_9 (by rfl) ?_
      refine rx_getfield d_Repeats_takeEnding_10 fl_Repeats_20 H.1 (by rfl) ?_
      refine rx_iload_n d_Repeats_takeEnding_13 (by rfl) ?_
      refine rx_aaload d_Repeats_takeEnding_14 (by rfl) H.2.2.2.1 (vp_in_nI hbn (by omega)) ?_
      rw [i_cl (by omega), hg]
      refine rx_ifnonnull_r (tgt := 42) d_Repeats_takeEnding_15 (by rfl) ?_
      refine rx_vreturn d_Repeats_takeEnding_42 (by rfl) ?_
      exact ⟨rfl, R, H, fun _ _ => rfl, fun _ _ _ => rfl, hF, hL, rx_fr.rf⟩
    | none =>
      rw [show gtk n Va r g b = up g b (some r) from if_pos ⟨hbn, hT, hg⟩]
      refine rx_aload_nr d_Repeats_takeEnding_0 (by rfl) ?_
      refine rx_iload_n d_Repeats_takeEnding_1 (by rfl) ?_
      refine rx_iconst (v := 2) d_Repeats_takeEnding_2 (by decide) ?_
      refine rx_cV d_Repeats_takeEnding_3 (by rfl) ml_Repeats_36 im_Page_has se_Page_has (by exact c9_Page_has) hp.1 (by rfl) (by exact Nat.le_of_ble_eq_true rfl) (c_has hp (nI b) 2) ?_
      rw [hv, if_neg hv0]
      refine rx_if_eq (tgt := 42) d_Repeats_takeEnding_6 (by rfl) (fun z => absurd z (by decide)) (fun c6 => ?_)
      refine rx_aload_nr d_Repeats_takeEnding_9 (by rfl) ?_
      refine rx_getfield d_Repeats_takeEnding_10 fl_Repeats_20 H.1 (by rfl) ?_
      refine rx_iload_n d_Repeats_takeEnding_13 (by rfl) ?_
      refine rx_aaload d_Repeats_takeEnding_14 (by rfl) H.2.2.2.1 (vp_in_nI hbn (by omega)) ?_
      rw [i_cl (by omega), hg]
      refine rx_ifnonnull_N (tgt := 42) d_Repeats_takeEnding_15 (by rfl) ?_
      refine rx_aload_nr d_Repeats_takeEnding_18 (by rfl) ?_
      refine rx_getfield d_Repeats_takeEnding_19 fl_Repeats_20 H.1 (by rfl) ?_
      refine rx_iload_n d_Repeats_takeEnding_22 (by rfl) ?_
      refine rx_aload_nr d_Repeats_takeEnding_23 (by rfl) ?_
      refine rx_aastore (r := ("ScoreRoads$Repeat", F_Repeat, 7)) d_Repeats_takeEnding_24 (by rfl) H.2.2.2.1 (H.cell hr) (by rfl) (vp_in_nI hbn (by omega)) ?_
      rw [i_cl (by omega), up_va, show (some (ra r) : Option Nat) = (some r).map ra from rfl, up_map]
      have H2 := H.setG (f' := fun x => (up g b (some r) x).map ra) hD.2.1 hD.2.2
      have f2 : rx_fr V h _ (fp_g a n aE aG ra) := rx_fr.wr (e := .inl (V.2.2.2.1 3, n, .inr (.inr (.inr (.inr (fun x => (up g b (some r) x).map ra)))))) H.2.2.2.1 (Or.inr (Or.inr (Or.inl rfl)))
      refine rx_aload_nr d_Repeats_takeEnding_25 (by rfl) ?_
      refine rx_iload_n d_Repeats_takeEnding_26 (by rfl) ?_
      refine rx_putfield d_Repeats_takeEnding_27 (fw_Repeats_66 rfl) (H2.cell hr) (Nat.le_of_ble_eq_true rfl) (by rfl) (by rfl) ?_
      have H3 := H2.set1 (k := 4) (v := nI b) hr
      have f3 := f2.tr (rx_fr.wr (e := rcl (upd (R r) 4 (nI b))) (H2.cell hr) (fp_g_ra _ ⟨r, hr, rfl⟩))
      refine rx_aload_nr d_Repeats_takeEnding_30 (by rfl) ?_
      refine rx_cV d_Repeats_takeEnding_31 (by rfl) ml_Repeats_80 im_Repeat_hasEndings se_Repeat_hasEndings (by exact c9_Repeat_hasEndings) (H3.cell hr) (by rfl) (by exact Nat.le_of_ble_eq_true rfl) (c_hasEndings (H3.cell hr)) ?_
      rw [rup_k (show 3 ≠ 4 by omega)]
      refine rx_if_ne (tgt := 42) d_Repeats_takeEnding_34 (by rfl) (fun c34 => ?_) (fun c34 => ?_)
      · have hm : R r 3 ≠ -1 := fun z => c34 (if_pos z)
        refine rx_vreturn d_Repeats_takeEnding_42 (by rfl) ?_
        first
        | exact ⟨rfl, _, H4, fun r' e => by rw [rup_o e, rup_o e], fun k e1 e2 => by rw [rup_k e1, rup_k e2], by rw [rup_s]; exact isF_1 hF hm (by omega), by rw [rup_k (by omega), rup_s]; exact isL_1 (by omega) ha, f4⟩
        | exact ⟨rfl, _, H3, fun r' e => by rw [rup_o e], fun k e1 e2 => by rw [rup_k e2], by rw [rup_k (by omega)]; exact isF_2 hF hm ha, by rw [rup_s]; exact isL_1 (by omega) ha, f3⟩
      · have hm : R r 3 = -1 := by by_cases z : R r 3 = -1; exact z; exact absurd ((if_neg z).symm.trans c34) (by decide)
        refine rx_aload_nr d_Repeats_takeEnding_37 (by rfl) ?_
        refine rx_iload_n d_Repeats_takeEnding_38 (by rfl) ?_
        refine rx_putfield d_Repeats_takeEnding_39 (fw_Repeats_63 rfl) (H3.cell hr) (Nat.le_of_ble_eq_true rfl) (by rfl) (by rfl) ?_
        have H4 := H3.set1 (k := 3) (v := nI b) hr
        have f4 := f3.tr (rx_fr.wr (e := rcl (upd (rup R r 4 (nI b) r) 3 (nI b))) (H3.cell hr) (fp_g_ra _ ⟨r, hr, rfl⟩))
        refine rx_vreturn d_Repeats_takeEnding_42 (by rfl) ?_
        first
        | exact ⟨rfl, _, H4, fun r' e => by rw [rup_o e, rup_o e], fun k e1 e2 => by rw [rup_k e1, rup_k e2], by rw [rup_s]; exact isF_1 hF hm (by omega), by rw [rup_k (by omega), rup_s]; exact isL_1 (by omega) ha, f4⟩
        | exact ⟨rfl, _, H3, fun r' e => by rw [rup_o e], fun k e1 e2 => by rw [rup_k e2], by rw [rup_k (by omega)]; exact isF_2 hF hm ha, by rw [rup_s]; exact isL_1 (by omega) ha, f3⟩
  · have hv : pgv n Va (nI b) 2 = 0 := by
      by_cases hbn : b < n
      · rw [pgv_k (k := 2) (kk := 2) hn hbn (by omega) rfl]
        exact Decidable.not_not.mp (fun z => hT ⟨hbn, hb_t.mpr z⟩)
      · exact pgv_b1 hn (nI_le (by omega) (by omega))
    rw [show gtk n Va r g b = g from if_neg (fun z => hT ⟨z.1, z.2.1⟩)]
    refine rx_aload_nr d_Repeats_takeEnding_0 (by rfl) ?_
    refine rx_iload_n d_Repeats_takeEnding_1 (by rfl) ?_
    refine rx_iconst (v := 2) d_Repeats_takeEnding_2 (by decide) ?_
    refine rx_cV d_Repeats_takeEnding_3 (by rfl) ml_Repeats_36 im_Page_has se_Page_has (by exact c9_Page_has) hp.1 (by rfl) (by exact Nat.le_of_ble_eq_true rfl) (c_has hp (nI b) 2) ?_
    rw [hv, if_pos rfl]
    refine rx_if_eq (tgt := 42) d_Repeats_takeEnding_6 (by rfl) (fun c6 => ?_) (fun z => absurd rfl z)
    refine rx_vreturn d_Repeats_takeEnding_42 (by rfl) ?_
    exact ⟨rfl, R, H, fun _ _ => rfl, fun _ _ _ => rfl, hF, hL, rx_fr.rf⟩
/-- the endings of r among its first bars below i -/
def gA (n : Nat) (Va : Nat → Int32) (s : gT) (g : Nat → Option Nat) (r i : Nat) : Nat → Option Nat := fun x => if g x = none ∧ hb Va 2 x = true ∧ x < n ∧ gF s r ≤ x ∧ x < i then some r else g x
def gB (n : Nat) (Va : Nat → Int32) (s : gT) (g : Nat → Option Nat) (r i : Nat) : Nat → Option Nat := fun x => if g x = none ∧ hb Va 2 x = true ∧ x < n ∧ 1 ≤ x ∧ gE s r < x ∧ x ≤ i ∧ gO s (x - 1) = some r then some r else g x
theorem gtk_A {s : gT} {r i : Nat} (h1 : gF s r ≤ i) : gtk n Va r (gA n Va s g r i) i = gA n Va s g r (i + 1) := by
  have hi : gA n Va s g r i i = g i := if_neg (fun z => by omega)
  unfold gtk
  rw [hi]
  by_cases h : i < n ∧ hb Va 2 i = true ∧ g i = none
  · rw [if_pos h]
    funext x
    by_cases e : x = i
    · subst e
      rw [up_s]
      exact (if_pos ⟨h.2.2, h.2.1, h.1, h1, by omega⟩).symm
    · rw [up_o e]
      unfold gA
      by_cases c : g x = none ∧ hb Va 2 x = true ∧ x < n ∧ gF s r ≤ x ∧ x < i
      · rw [if_pos c, if_pos ⟨c.1, c.2.1, c.2.2.1, c.2.2.2.1, by omega⟩]
      · rw [if_neg c, if_neg (fun z => c ⟨z.1, z.2.1, z.2.2.1, z.2.2.2.1, by omega⟩)]
  · rw [if_neg h]
    funext x
    unfold gA
    by_cases c : g x = none ∧ hb Va 2 x = true ∧ x < n ∧ gF s r ≤ x ∧ x < i
    · rw [if_pos c, if_pos ⟨c.1, c.2.1, c.2.2.1, c.2.2.2.1, by omega⟩]
    · rw [if_neg c, if_neg (fun z => ?_)]
      by_cases e : x = i
      · subst e; exact h ⟨z.2.2.1, z.2.1, z.1⟩
      · exact c ⟨z.1, z.2.1, z.2.2.1, z.2.2.2.1, by omega⟩
theorem gB_y {s : gT} {r i : Nat} (h1 : gE s r ≤ i) (h2 : gO s i = some r) : gtk n Va r (gB n Va s g r i) (i + 1) = gB n Va s g r (i + 1) := by
  have hi : gB n Va s g r i (i + 1) = g (i + 1) := if_neg (fun z => by omega)
  unfold gtk
  rw [hi]
  by_cases h : i + 1 < n ∧ hb Va 2 (i + 1) = true ∧ g (i + 1) = none
  · rw [if_pos h]
    funext x
    by_cases e : x = i + 1
    · subst e
      rw [up_s]
      exact (if_pos ⟨h.2.2, h.2.1, h.1, by omega, by omega, by omega, h2⟩).symm
    · rw [up_o e]
      unfold gB
      by_cases c : g x = none ∧ hb Va 2 x = true ∧ x < n ∧ 1 ≤ x ∧ gE s r < x ∧ x ≤ i ∧ gO s (x - 1) = some r
      · rw [if_pos c, if_pos ⟨c.1, c.2.1, c.2.2.1, c.2.2.2.1, c.2.2.2.2.1, by omega, c.2.2.2.2.2.2⟩]
      · rw [if_neg c, if_neg (fun z => c ⟨z.1, z.2.1, z.2.2.1, z.2.2.2.1, z.2.2.2.2.1, by omega, z.2.2.2.2.2.2⟩)]
  · rw [if_neg h]
    funext x
    unfold gB
    by_cases c : g x = none ∧ hb Va 2 x = true ∧ x < n ∧ 1 ≤ x ∧ gE s r < x ∧ x ≤ i ∧ gO s (x - 1) = some r
    · rw [if_pos c, if_pos ⟨c.1, c.2.1, c.2.2.1, c.2.2.2.1, c.2.2.2.2.1, by omega, c.2.2.2.2.2.2⟩]
    · rw [if_neg c, if_neg (fun z => ?_)]
      by_cases e : x = i + 1
      · subst e; exact h ⟨z.2.2.1, z.2.1, z.1⟩
      · exact c ⟨z.1, z.2.1, z.2.2.1, z.2.2.2.1, z.2.2.2.2.1, by omega, z.2.2.2.2.2.2⟩
theorem gB_n {s : gT} {r i : Nat} (h2 : gO s i ≠ some r) : gB n Va s g r (i + 1) = gB n Va s g r i := by
  funext x
  unfold gB
  by_cases c : g x = none ∧ hb Va 2 x = true ∧ x < n ∧ 1 ≤ x ∧ gE s r < x ∧ x ≤ i ∧ gO s (x - 1) = some r
  · rw [if_pos c, if_pos ⟨c.1, c.2.1, c.2.2.1, c.2.2.2.1, c.2.2.2.2.1, by omega, c.2.2.2.2.2.2⟩]
  · rw [if_neg c, if_neg (fun z => ?_)]
    by_cases e : x = i + 1
    · subst e; exact h2 z.2.2.2.2.2.2
    · exact c ⟨z.1, z.2.1, z.2.2.1, z.2.2.2.1, z.2.2.2.2.1, by omega, z.2.2.2.2.2.2⟩
/-- whether r has an ending among its first bars -/
def gAny (n : Nat) (Va : Nat → Int32) (s : gT) (g : Nat → Option Nat) (r : Nat) : Bool := (fix (fun x => decide (g x = none ∧ hb Va 2 x = true ∧ x < n)) (gF s r) (gE s r + 1 - gF s r)).isSome
def gEs (n : Nat) (Va : Nat → Int32) (s : gT) (g : Nat → Option Nat) (r : Nat) : Nat → Option Nat := if gAny n Va s g r = true then gB n Va s (gA n Va s g r (gE s r + 1)) r (gL s r + 1) else g
theorem gAny_iff {s : gT} {r : Nat} (h : gF s r ≤ gE s r) : gAny n Va s g r = true ↔ ∃ x, g x = none ∧ hb Va 2 x = true ∧ x < n ∧ gF s r ≤ x ∧ x ≤ gE s r := by
  unfold gAny
  rw [fix_iff]
  constructor
  · rintro ⟨x, h1, h2, h3⟩
    have h4 := of_decide_eq_true h3
    exact ⟨x, h4.1, h4.2.1, h4.2.2, h1, by omega⟩
  · rintro ⟨x, h1, h2, h3, h4, h5⟩
    exact ⟨x, h4, by omega, decide_eq_true ⟨h1, h2, h3⟩⟩
theorem l_geB (hD : aA ≠ aE ∧ aA ≠ aG ∧ aE ≠ aG) (hp : is_pg V h aP n al at_ av Le Te Va) {s : gT} {num0 r : Nat} {fE0 fG0 : Nat → Option Nat} {R0 : Nat → Nat → Int32} (H0 : is_rp V h a n aA aE aG num0 fA fE0 fG0 ra R0) (hr : r < n) (q0 : R0 r 0 = nI (gF s r)) (q1 : R0 r 1 = nI (gE s r)) (q2 : R0 r 2 = nI (gL s r)) (hle : gF s r ≤ gE s r ∧ gE s r ≤ gL s r ∧ gL s r < n) (hgO : ∀ x r, gO s x = some r → r < n) : ∀ (m i : Nat) (h1 : List va_E) (R1 : Nat → Nat → Int32), i + m = gL s r + 1 → gE s r ≤ i → is_rp V h1 a n aA aE aG num0 fA (fun x => (gO s x).map ra) (fun x => (gB n Va s g r i x).map ra) ra R1 → (∀ r', r' ≠ r → R1 r' = R0 r') → (∀ k, k ≠ 3 → k ≠ 4 → R1 r k = R0 r k) → isF (gB n Va s g r i) r (R1 r 3) → isL (gB n Va s g r i) r (R1 r 4) → (∀ y, gB n Va s g r i y = some r → y < i + 1) → rx_fr V h h1 (fp_g a n aE aG ra) →
    rx_W V (d + 3) kc ks m_Repeats_gatherEndings 39 [some (.ref a), some (.ref aP), some (.ref (ra r)), some (.int (nI i))] [] h1 (fun r9 h' => r9 = .inl none ∧ ∃ R', is_rp V h' a n aA aE aG num0 fA (fun x => (gO s x).map ra) (fun x => (gB n Va s g r (gL s r + 1) x).map ra) ra R' ∧ (∀ r', r' ≠ r → R' r' = R0 r') ∧ (∀ k, k ≠ 3 → k ≠ 4 → R' r k = R0 r k) ∧ isF (gB n Va s g r (gL s r + 1)) r (R' r 3) ∧ isL (gB n Va s g r (gL s r + 1)) r (R' r 4) ∧ rx_fr V h h' (fp_g a n aE aG ra)) := by
  intro m
  induction m with
  | zero =>
    intro i h1 R1 hi hE H hO hK hF hL hA hf
    have hn := H.n20
    have hi9 : i = gL s r + 1 := by omega
    have e2 : R1 r 2 = nI (gL s r) := by rw [hK 2 (by omega) (by omega), q2]
    refine rx_iload_n d_Repeats_gatherEndings_39 (by rfl) ?_
    refine rx_aload_nr d_Repeats_gatherEndings_40 (by rfl) ?_
    refine rx_getfield d_Repeats_gatherEndings_41 fl_Repeats_46 (H.cell hr) (by rfl) ?_
    rw [e2]
    refine rx_icmp_gt (tgt := 71) d_Repeats_gatherEndings_44 (by rfl) (fun c44 => ?_) (fun z => absurd (nI_lt (by omega) (by omega)) z)
    refine rx_vreturn d_Repeats_gatherEndings_71 (by rfl) ?_
    rw [← hi9]
    exact ⟨rfl, R1, H, hO, hK, hF, hL, hf⟩
  | succ m ih =>
    intro i h1 R1 hi hE H hO hK hF hL hA hf
    have hn := H.n20
    have hp1 := hp.frg H0 hf
    have hin : i < n := by omega
    have e2 : R1 r 2 = nI (gL s r) := by rw [hK 2 (by omega) (by omega), q2]
    by_cases hg : gO s i = some r
    · show rx_W V (d + 3) kc ks m_Repeats_gatherEndings 39 _ [] h1 _
      refine rx_iload_n d_Repeats_gatherEndings_39 (by rfl) ?_
      refine rx_aload_nr d_Repeats_gatherEndings_40 (by rfl) ?_
      refine rx_getfield d_Repeats_gatherEndings_41 fl_Repeats_46 (H.cell hr) (by rfl) ?_
      rw [e2]
      refine rx_icmp_gt (tgt := 71) d_Repeats_gatherEndings_44 (by rfl) (fun z => absurd z (nI_nlt (by omega) (by omega))) (fun c44 => ?_)
      refine rx_aload_nr d_Repeats_gatherEndings_47 (by rfl) ?_
      refine rx_iload_n d_Repeats_gatherEndings_48 (by rfl) ?_
      refine rx_cV d_Repeats_gatherEndings_49 (by rfl) ml_Repeats_84 im_Repeats_ofEnd se_Repeats_ofEnd (by exact c9_Repeats_ofEnd) H.1 (by rfl) (by exact Nat.le_of_ble_eq_true rfl) (c_ofEnd H (nI i)) ?_
      rw [ogt_nn (by omega) hin, hg]
      refine rx_aload_nr d_Repeats_gatherEndings_52 (by rfl) ?_
      refine rx_acmp_ne_r (tgt := 65) d_Repeats_gatherEndings_53 (by rfl) (fun z => absurd rfl z) (fun c53 => ?_)
      refine rx_aload_nr d_Repeats_gatherEndings_56 (by rfl) ?_
      refine rx_aload_nr d_Repeats_gatherEndings_57 (by rfl) ?_
      refine rx_aload_nr d_Repeats_gatherEndings_58 (by rfl) ?_
      refine rx_iload_n d_Repeats_gatherEndings_59 (by rfl) ?_
      refine rx_iconst (v := 1) d_Repeats_gatherEndings_60 (by decide) ?_
      refine rx_iadd d_Repeats_gatherEndings_61 ?_
      rw [nI_1]
      refine rx_pV d_Repeats_gatherEndings_62 (by rfl) ml_Repeats_76 im_Repeats_takeEnding se_Repeats_takeEnding (by exact c9_Repeats_takeEnding) H.1 (by rfl) (by exact Nat.le_of_ble_eq_true rfl) (c_takeEnding hD hp1 H hr (by omega) hF hL hA) ?_
      intro h2 z9
      obtain ⟨R2, H2, o2, k2, F2, L2, f2⟩ := z9
      refine rx_iinc (v := nI (i + 1)) d_Repeats_gatherEndings_65 (by rfl) (i_inc i) ?_
      refine rx_goto (tgt := 39) d_Repeats_gatherEndings_68 (by rfl) ?_
      rw [gB_y hE hg] at H2 F2 L2
      refine ih (i + 1) h2 R2 (by omega) (by omega) H2 (fun r' e => (o2 r' e).trans (hO r' e)) (fun k e1 e3 => (k2 k e1 e3).trans (hK k e1 e3)) F2 L2 (fun y hy => ?_) (hf.tr f2)
      unfold gB at hy
      by_cases c : g y = none ∧ hb Va 2 y = true ∧ y < n ∧ 1 ≤ y ∧ gE s r < y ∧ y ≤ i + 1 ∧ gO s (y - 1) = some r
      · omega
      · rw [if_neg c] at hy
        exact Nat.lt_succ_of_lt (hA y ((if_neg (fun z => c ⟨z.1, z.2.1, z.2.2.1, z.2.2.2.1, z.2.2.2.2.1, by omega, z.2.2.2.2.2.2⟩)).trans hy))
    · have hne : ¬ (gO s i).map ra = some (ra r) := fun z => hg ((H.inj hr (hgO i)).mp z)
      refine rx_iload_n d_Repeats_gatherEndings_39 (by rfl) ?_
      refine rx_aload_nr d_Repeats_gatherEndings_40 (by rfl) ?_
      refine rx_getfield d_Repeats_gatherEndings_41 fl_Repeats_46 (H.cell hr) (by rfl) ?_
      rw [e2]
      refine rx_icmp_gt (tgt := 71) d_Repeats_gatherEndings_44 (by rfl) (fun z => absurd z (nI_nlt (by omega) (by omega))) (fun c44 => ?_)
      refine rx_aload_nr d_Repeats_gatherEndings_47 (by rfl) ?_
      refine rx_iload_n d_Repeats_gatherEndings_48 (by rfl) ?_
      refine rx_cV d_Repeats_gatherEndings_49 (by rfl) ml_Repeats_84 im_Repeats_ofEnd se_Repeats_ofEnd (by exact c9_Repeats_ofEnd) H.1 (by rfl) (by exact Nat.le_of_ble_eq_true rfl) (c_ofEnd H (nI i)) ?_
      rw [ogt_nn (by omega) hin]
      refine rx_aload_nr d_Repeats_gatherEndings_52 (by rfl) ?_
      refine rx_acmp_ne_r (tgt := 65) d_Repeats_gatherEndings_53 (by rfl) (fun c53 => ?_) (fun z => absurd z hne)
      refine rx_iinc (v := nI (i + 1)) d_Repeats_gatherEndings_65 (by rfl) (i_inc i) ?_
      refine rx_goto (tgt := 39) d_Repeats_gatherEndings_68 (by rfl) ?_
      rw [← gB_n hg] at H hF hL
      refine ih (i + 1) h1 R1 (by omega) (by omega) H hO hK hF hL (fun y hy => ?_) hf
      rw [gB_n hg] at hy
      exact Nat.lt_succ_of_lt (hA y hy)
theorem l_geA (hD : aA ≠ aE ∧ aA ≠ aG ∧ aE ≠ aG) (hp : is_pg V h aP n al at_ av Le Te Va) {s : gT} {num0 r : Nat} {fE0 fG0 : Nat → Option Nat} {R0 : Nat → Nat → Int32} (H0 : is_rp V h a n aA aE aG num0 fA fE0 fG0 ra R0) (hr : r < n) (q0 : R0 r 0 = nI (gF s r)) (q1 : R0 r 1 = nI (gE s r)) (q2 : R0 r 2 = nI (gL s r)) (hle : gF s r ≤ gE s r ∧ gE s r ≤ gL s r ∧ gL s r < n) (hgO : ∀ x r, gO s x = some r → r < n) (hg0 : ∀ x, g x ≠ some r) : ∀ (m i : Nat) (h1 : List va_E) (R1 : Nat → Nat → Int32), i + m = gE s r + 1 → gF s r ≤ i → is_rp V h1 a n aA aE aG num0 fA (fun x => (gO s x).map ra) (fun x => (gA n Va s g r i x).map ra) ra R1 → (∀ r', r' ≠ r → R1 r' = R0 r') → (∀ k, k ≠ 3 → k ≠ 4 → R1 r k = R0 r k) → isF (gA n Va s g r i) r (R1 r 3) → isL (gA n Va s g r i) r (R1 r 4) → (∀ y, gA n Va s g r i y = some r → y < i) → rx_fr V h h1 (fp_g a n aE aG ra) →
    rx_W V (d + 3) kc ks m_Repeats_gatherEndings 5 [some (.ref a), some (.ref aP), some (.ref (ra r)), some (.int (nI i))] [] h1 (fun r9 h' => r9 = .inl none ∧ ∃ R', is_rp V h' a n aA aE aG num0 fA (fun x => (gO s x).map ra) (fun x => (gEs n Va s g r x).map ra) ra R' ∧ (∀ r', r' ≠ r → R' r' = R0 r') ∧ (∀ k, k ≠ 3 → k ≠ 4 → R' r k = R0 r k) ∧ isF (gEs n Va s g r) r (R' r 3) ∧ isL (gEs n Va s g r) r (R' r 4) ∧ rx_fr V h h' (fp_g a n aE aG ra)) := by
  intro m
  induction m with
  | zero =>
    intro i h1 R1 hi hE H hO hK hF hL hA hf
    have hn := H.n20
    have hi9 : i = gE s r + 1 := by omega
    subst hi9
    have e1 : R1 r 1 = nI (gE s r) := by rw [hK 1 (by omega) (by omega), q1]
    have an : gAny n Va s g r = true ↔ R1 r 3 ≠ -1 := by
      rw [gAny_iff hle.1]
      constructor
      · rintro ⟨x, x1, x2, x3, x4, x5⟩
        obtain ⟨-, z⟩ | ⟨y, y1, y2, -, -⟩ := hF
        · exact absurd (if_pos ⟨x1, x2, x3, x4, by omega⟩) (z x)
        · rw [y1]; exact nI_m1 (by omega)
      · intro z
        obtain ⟨z1, -⟩ | ⟨y, y1, y2, y3, -⟩ := hF
        · exact absurd z1 z
        · unfold gA at y3
          by_cases c : g y = none ∧ hb Va 2 y = true ∧ y < n ∧ gF s r ≤ y ∧ y < gE s r + 1
          · exact ⟨y, c.1, c.2.1, c.2.2.1, c.2.2.2.1, by omega⟩
          · rw [if_neg c] at y3; exact absurd y3 (hg0 y)
    refine rx_iload_n d_Repeats_gatherEndings_5 (by rfl) ?_
    refine rx_aload_nr d_Repeats_gatherEndings_6 (by rfl) ?_
    refine rx_getfield d_Repeats_gatherEndings_7 fl_Repeats_60 (H.cell hr) (by rfl) ?_
    rw [e1]
    refine rx_icmp_gt (tgt := 26) d_Repeats_gatherEndings_10 (by rfl) (fun c10 => ?_) (fun z => absurd (nI_lt (by omega) (by omega)) z)
    refine rx_aload_nr d_Repeats_gatherEndings_26 (by rfl) ?_
    refine rx_cV d_Repeats_gatherEndings_27 (by rfl) ml_Repeats_80 im_Repeat_hasEndings se_Repeat_hasEndings (by exact c9_Repeat_hasEndings) (H.cell hr) (by rfl) (by exact Nat.le_of_ble_eq_true rfl) (c_hasEndings (H.cell hr)) ?_
    refine rx_if_ne (tgt := 34) d_Repeats_gatherEndings_30 (by rfl) (fun c30 => ?_) (fun c30 => ?_)
    · have hm : R1 r 3 ≠ -1 := fun z => c30 (if_pos z)
      refine rx_aload_nr d_Repeats_gatherEndings_34 (by rfl) ?_
      refine rx_getfield d_Repeats_gatherEndings_35 fl_Repeats_60 (H.cell hr) (by rfl) ?_
      rw [e1]
      refine rx_istore_n d_Repeats_gatherEndings_38 (Nat.le_of_ble_eq_true rfl) ?_
      rw [show gEs n Va s g r = gB n Va s (gA n Va s g r (gE s r + 1)) r (gL s r + 1) from if_pos (an.mpr hm)]
      have e : gB n Va s (gA n Va s g r (gE s r + 1)) r (gE s r) = gA n Va s g r (gE s r + 1) := by
        funext x
        exact if_neg (fun z => by omega)
      exact l_geB hD hp H0 hr q0 q1 q2 hle hgO (gL s r + 1 - gE s r) (gE s r) h1 R1 (by omega) (Nat.le_refl _) (by rw [e]; exact H) hO hK (by rw [e]; exact hF) (by rw [e]; exact hL) (by rw [e]; exact hA) hf
    · have hm : R1 r 3 = -1 := by by_cases z : R1 r 3 = -1; exact z; exact absurd ((if_neg z).symm.trans c30) (by decide)
      refine rx_vreturn d_Repeats_gatherEndings_33 (by rfl) ?_
      have hne : ¬ gAny n Va s g r = true := fun z => an.mp z hm
      have e : gA n Va s g r (gE s r + 1) = g := by
        funext x
        refine if_neg (fun z => hne ((gAny_iff hle.1).mpr ⟨x, z.1, z.2.1, z.2.2.1, z.2.2.2.1, by omega⟩))
      rw [show gEs n Va s g r = g from if_neg hne]
      rw [e] at H hF hL
      exact ⟨rfl, R1, H, hO, hK, hF, hL, hf⟩
  | succ m ih =>
    intro i h1 R1 hi hE H hO hK hF hL hA hf
    have hn := H.n20
    have hp1 := hp.frg H0 hf
    have hin : i < n := by omega
    have e1 : R1 r 1 = nI (gE s r) := by rw [hK 1 (by omega) (by omega), q1]
    refine rx_iload_n d_Repeats_gatherEndings_5 (by rfl) ?_
    refine rx_aload_nr d_Repeats_gatherEndings_6 (by rfl) ?_
    refine rx_getfield d_Repeats_gatherEndings_7 fl_Repeats_60 (H.cell hr) (by rfl) ?_
    rw [e1]
    refine rx_icmp_gt (tgt := 26) d_Repeats_gatherEndings_10 (by rfl) (fun z => absurd z (nI_nlt (by omega) (by omega))) (fun c10 => ?_)
    refine rx_aload_nr d_Repeats_gatherEndings_13 (by rfl) ?_
    refine rx_aload_nr d_Repeats_gatherEndings_14 (by rfl) ?_
    refine rx_aload_nr d_Repeats_gatherEndings_15 (by rfl) ?_
    refine rx_iload_n d_Repeats_gatherEndings_16 (by rfl) ?_
    refine rx_pV d_Repeats_gatherEndings_17 (by rfl) ml_Repeats_76 im_Repeats_takeEnding se_Repeats_takeEnding (by exact c9_Repeats_takeEnding) H.1 (by rfl) (by exact Nat.le_of_ble_eq_true rfl) (c_takeEnding hD hp1 H hr (by omega) hF hL hA) ?_
    intro h2 z9
    obtain ⟨R2, H2, o2, k2, F2, L2, f2⟩ := z9
    refine rx_iinc (v := nI (i + 1)) d_Repeats_gatherEndings_20 (by rfl) (i_inc i) ?_
    refine rx_goto (tgt := 5) d_Repeats_gatherEndings_23 (by rfl) ?_
    rw [gtk_A hE] at H2 F2 L2
    refine ih (i + 1) h2 R2 (by omega) (by omega) H2 (fun r' e => (o2 r' e).trans (hO r' e)) (fun k e1 e3 => (k2 k e1 e3).trans (hK k e1 e3)) F2 L2 (fun y hy => ?_) (hf.tr f2)
    unfold gA at hy
    by_cases c : g y = none ∧ hb Va 2 y = true ∧ y < n ∧ gF s r ≤ y ∧ y < i + 1
    · omega
    · rw [if_neg c] at hy; exact absurd hy (hg0 y)
theorem c_gatherEndings (hD : aA ≠ aE ∧ aA ≠ aG ∧ aE ≠ aG) (hp : is_pg V h aP n al at_ av Le Te Va) {s : gT} {r : Nat} (H : is_rp V h a n aA aE aG num fA (fun x => (gO s x).map ra) (fun x => (g x).map ra) ra R) (hr : r < n) (h0 : R r 0 = nI (gF s r)) (h1 : R r 1 = nI (gE s r)) (h2 : R r 2 = nI (gL s r)) (h3 : R r 3 = -1) (h4 : R r 4 = -1) (hle : gF s r ≤ gE s r ∧ gE s r ≤ gL s r ∧ gL s r < n) (hgO : ∀ x r, gO s x = some r → r < n) (hg0 : ∀ x, g x ≠ some r) : rx_C V (d + 3) kc ks m_Repeats_gatherEndings [.ref a, .ref aP, .ref (ra r)] h (fun r9 h' => r9 = .inl none ∧ ∃ R', is_rp V h' a n aA aE aG num fA (fun x => (gO s x).map ra) (fun x => (gEs n Va s g r x).map ra) ra R' ∧ (∀ r', r' ≠ r → R' r' = R r') ∧ (∀ k, k ≠ 3 → k ≠ 4 → R' r k = R r k) ∧ isF (gEs n Va s g r) r (R' r 3) ∧ isL (gEs n Va s g r) r (R' r 4) ∧ rx_fr V h h' (fp_g a n aE aG ra)) := by
  have e : gA n Va s g r (gF s r) = g := by
    funext x
    exact if_neg (fun z => by omega)
  refine rx_aload_nr d_Repeats_gatherEndings_0 (by rfl) ?_
  refine rx_getfield d_Repeats_gatherEndings_1 fl_Repeats_57 (H.cell hr) (by rfl) ?_
  rw [h0]
  refine rx_istore_n d_Repeats_gatherEndings_4 (Nat.le_of_ble_eq_true rfl) ?_
  exact l_geA hD hp H hr h0 h1 h2 hle hgO hg0 (gE s r + 1 - gF s r) (gF s r) h R (by omega) (Nat.le_refl _) (by rw [e]; exact H) (fun _ _ => rfl) (fun _ _ _ => rfl) (by rw [e]; exact Or.inl ⟨h3, hg0⟩) (by rw [e]; exact Or.inl ⟨h4, hg0⟩) (by rw [e]; exact fun y hy => absurd hy (hg0 y)) rx_fr.rf
end GG
