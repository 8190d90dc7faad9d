/-! calls that make nothing, with an open end -/
section RXP
variable {V : rx_V} {d kc ks : Nat} {M y : rx_T} {pc : Nat} {L : rx_L} {S Sr As : List Value} {h : List va_E} {Q : rx_R → List va_E → Prop} {P9 : List va_E → Prop} {index : Nat} {v0 : Option Value}
theorem rx_pk {v0 : Option Value} (k : ∀ h1, P9 h1 → rx_W V (d + 1) kc ks M (pc + 3) L (v0.toList ++ Sr) h1 Q) : ∀ v h1, (.inl v : rx_R) = .inl v0 ∧ P9 h1 → rx_W V (d + 1) kc ks M (pc + 3) L (v.toList ++ Sr) h1 Q := fun v h1 z => by
  obtain ⟨z1, z2⟩ := z
  cases z1
  exact k h1 z2
theorem rx_pV {b ci : Nat} {fs : List Value} {r : vw_C} (hd : decode M.2.1 pc = .ok (.invokevirtual index, 3)) (hc : rx_cl[ci]? = some r) (w1 : Cond.methodLink M.1.cls index y.1 ∈ rx_tbl) (w2 : Cond.instanceMethod y.1 ∈ rx_tbl) (w3 : Cond.selects r.1 y.1 y.1 ∈ rx_tbl) (hcl : rx_cl9 y As.length (lg_sl (.ref b :: As)).length)
    (he : rx_rd V h b = some (.inr (ci, fs))) (hS : S = As.reverse ++ .ref b :: Sr) (hw8 : (Sr.map fun v => v.category).sum ≤ 8) (K : rx_C V d 0 0 y (.ref b :: As) h (fun r h' => r = .inl v0 ∧ P9 h')) (k : ∀ h1, P9 h1 → rx_W V (d + 1) kc ks M (pc + 3) L (v0.toList ++ Sr) h1 Q) : rx_W V (d + 1) kc ks M pc L S h Q := by
  have z := rx_callV (mc := 0) (ms := 0) hd hc w1 w2 w3 hcl he hS hw8 K (fun _ _ z => nomatch z.1) (rx_pk k)
  rw [Nat.zero_add, Nat.zero_add] at z
  exact z
theorem rx_pS (hd : decode M.2.1 pc = .ok (.invokestatic index, 3)) (w1 : Cond.methodLink M.1.cls index y.1 ∈ rx_tbl) (w2 : Cond.static y.1 ∈ rx_tbl) (hcl : rx_cl9 y As.length (lg_sl As).length)
    (hS : S = As.reverse ++ Sr) (hw8 : (Sr.map fun v => v.category).sum ≤ 8) (K : rx_C V d 0 0 y As h (fun r h' => r = .inl v0 ∧ P9 h')) (k : ∀ h1, P9 h1 → rx_W V (d + 1) kc ks M (pc + 3) L (v0.toList ++ Sr) h1 Q) : rx_W V (d + 1) kc ks M pc L S h Q := by
  have z := rx_callS (mc := 0) (ms := 0) hd w1 w2 hcl hS hw8 K (fun _ _ z => nomatch z.1) (rx_pk k)
  rw [Nat.zero_add, Nat.zero_add] at z
  exact z
theorem rx_pSN {host : String} (hd : decode M.2.1 pc = .ok (.invokestatic index, 3)) (w1 : Cond.methodLinkNest M.1.cls index y.1 host ∈ rx_tbl) (w2 : Cond.static y.1 ∈ rx_tbl) (hcl : rx_cl9 y As.length (lg_sl As).length)
    (hS : S = As.reverse ++ Sr) (hw8 : (Sr.map fun v => v.category).sum ≤ 8) (K : rx_C V d 0 0 y As h (fun r h' => r = .inl v0 ∧ P9 h')) (k : ∀ h1, P9 h1 → rx_W V (d + 1) kc ks M (pc + 3) L (v0.toList ++ Sr) h1 Q) : rx_W V (d + 1) kc ks M pc L S h Q := by
  have z := rx_callSN (mc := 0) (ms := 0) hd w1 w2 hcl hS hw8 K (fun _ _ z => nomatch z.1) (rx_pk k)
  rw [Nat.zero_add, Nat.zero_add] at z
  exact z
end RXP
/-! the repeats of a page, as values -/
def up {α : Type} (f : Nat → α) (i : Nat) (v : α) : Nat → α := fun j => if j = i then v else f j
theorem up_s {α : Type} {f : Nat → α} {i : Nat} {v : α} : up f i v i = v := if_pos rfl
theorem up_o {α : Type} {f : Nat → α} {i j : Nat} {v : α} (h : j ≠ i) : up f i v j = f j := if_neg h
theorem up_va {f : Nat → Option Nat} {i : Nat} {v : Option Nat} : va_up f i v = up f i v := rfl
theorem up_upd {f : Nat → Int32} {i : Nat} {v : Int32} : upd f i v = up f i v := rfl
theorem up_map {f : Nat → Option Nat} {i : Nat} {v : Option Nat} {g : Nat → Nat} : up (fun x => (f x).map g) i (v.map g) = fun x => (up f i v x).map g := by
  funext x
  unfold up
  by_cases e : x = i
  · rw [if_pos e, if_pos e]
  · rw [if_neg e, if_neg e]
/-- whether a bar has a sign -/
def hb (Va : Nat → Int32) (k b : Nat) : Bool := decide (Va (10 * b + k) ≠ 0)
theorem hb_t {Va : Nat → Int32} {k b : Nat} : hb Va k b = true ↔ Va (10 * b + k) ≠ 0 := decide_eq_true_iff
theorem hb_f {Va : Nat → Int32} {k b : Nat} : hb Va k b = false ↔ Va (10 * b + k) = 0 := by
  unfold hb
  rw [decide_eq_false_iff_not, Decidable.not_not]
/-- number, behind, firsts, first ENDs, last ENDs, counts, whose END -/
abbrev gT : Type := Nat × Nat × (Nat → Nat) × (Nat → Nat) × (Nat → Nat) × (Nat → Int32) × (Nat → Option Nat)
def gF (s : gT) : Nat → Nat := s.2.2.1
def gE (s : gT) : Nat → Nat := s.2.2.2.1
def gL (s : gT) : Nat → Nat := s.2.2.2.2.1
def gC (s : gT) : Nat → Int32 := s.2.2.2.2.2.1
def gO (s : gT) : Nat → Option Nat := s.2.2.2.2.2.2
/-- the first bar of a new repeat -/
def gfi (Va : Nat → Int32) (be b : Nat) : Nat := if lwf (hb Va 0) be (b + 1) = -1 then be else (lwf (hb Va 0) be (b + 1)).toNat
def gne (Va : Nat → Int32) (s : gT) (b : Nat) : gT := (s.1 + 1, b + 1, up (gF s) s.1 (gfi Va s.2.1 b), up (gE s) s.1 b, up (gL s) s.1 b, up (gC s) s.1 (Va (10 * b + 1)), up (gO s) b (some s.1))
def ggo (s : gT) (b : Nat) : gT := (s.1, b + 1, gF s, gE s, up (gL s) (s.1 - 1) b, gC s, up (gO s) b (some (s.1 - 1)))
/-- whether an END at b goes on -/
def gon (Va : Nat → Int32) (be b : Nat) : Bool := hb Va 2 be && decide (lwf (hb Va 0) be (b + 1) = -1)
def gsn (Va : Nat → Int32) (s : gT) (b : Nat) : gT := if hb Va 1 b then (if s.1 = 0 ∨ gon Va s.2.1 b = false then gne Va s b else ggo s b) else s
def gst (Va : Nat → Int32) : Nat → gT
  | 0 => (0, 0, fun _ => 0, fun _ => 0, fun _ => 0, fun _ => 0, fun _ => none)
  | b + 1 => gsn Va (gst Va b) b
theorem gsn_0 {Va : Nat → Int32} {s : gT} {b : Nat} (h : hb Va 1 b = false) : gsn Va s b = s := by
  unfold gsn; rw [h]; rfl
theorem gsn_n {Va : Nat → Int32} {s : gT} {b : Nat} (h : hb Va 1 b = true) (h2 : s.1 = 0 ∨ gon Va s.2.1 b = false) : gsn Va s b = gne Va s b := by
  unfold gsn; rw [h, if_pos rfl, if_pos h2]
theorem gsn_g {Va : Nat → Int32} {s : gT} {b : Nat} (h : hb Va 1 b = true) (h1 : s.1 ≠ 0) (h2 : gon Va s.2.1 b = true) : gsn Va s b = ggo s b := by
  unfold gsn; rw [h, if_pos rfl, if_neg (by rw [h2]; simp [h1])]
theorem lwf_ran (Pr : Nat → Bool) (lo : Int) (m : Nat) : lwf Pr lo m = -1 ∨ ∃ j : Nat, lwf Pr lo m = j ∧ lo ≤ j ∧ j < m ∧ Pr j = true := by
  induction m with
  | zero => exact Or.inl rfl
  | succ m ih =>
    by_cases h1 : (m : Int) < lo
    · exact Or.inl (lwf_out h1)
    · cases h2 : Pr m with
      | true => exact Or.inr ⟨m, lwf_yes h1 h2, by omega, by omega, h2⟩
      | false =>
        rw [lwf_no h1 h2]
        obtain ih | ⟨j, e1, e2, e3, e4⟩ := ih
        · exact Or.inl ih
        · exact Or.inr ⟨j, e1, e2, by omega, e4⟩
theorem gfi_ran {Va : Nat → Int32} {be b : Nat} (h : be ≤ b) : be ≤ gfi Va be b ∧ gfi Va be b ≤ b := by
  unfold gfi
  obtain e | ⟨j, e1, e2, e3, e4⟩ := lwf_ran (hb Va 0) be (b + 1)
  · rw [if_pos e]; exact ⟨Nat.le_refl _, h⟩
  · rw [e1, if_neg (by omega)]; omega
/-- what holds after b bars -/
def gI (Va : Nat → Int32) (b : Nat) (s : gT) : Prop :=
  s.1 ≤ b ∧ s.2.1 ≤ b ∧ (s.1 = 0 → s.2.1 = 0) ∧ (∀ r, s.1 = r + 1 → s.2.1 = gL s r + 1) ∧
  (∀ r, r < s.1 → gF s r ≤ gE s r ∧ gE s r ≤ gL s r ∧ gL s r < s.2.1 ∧ gC s r = Va (10 * gE s r + 1) ∧ gO s (gE s r) = some r ∧ gO s (gL s r) = some r) ∧
  (∀ r r', r < r' → r' < s.1 → gL s r < gF s r') ∧
  (∀ x r, gO s x = some r → r < s.1 ∧ gE s r ≤ x ∧ x ≤ gL s r ∧ hb Va 1 x = true) ∧
  (∀ x, x < b → hb Va 1 x = true → ∃ r, gO s x = some r) ∧
  (∀ x r, gO s x = some r → x ≠ gE s r → ∃ y, y < x ∧ gO s y = some r ∧ hb Va 2 (y + 1) = true)
theorem gI_0 (Va : Nat → Int32) : gI Va 0 (gst Va 0) :=
  ⟨Nat.le_refl _, Nat.le_refl _, fun _ => rfl, fun r h => (nomatch h), fun r h => absurd h (Nat.not_lt_zero _), fun r r' _ h => absurd h (Nat.not_lt_zero _), fun x r h => (nomatch h), fun x h => absurd h (Nat.not_lt_zero _), fun x r h => nomatch h⟩
theorem gI_n {Va : Nat → Int32} {b : Nat} {s : gT} (I : gI Va b s) (h : hb Va 1 b = true) : gI Va (b + 1) (gne Va s b) := by
  obtain ⟨i1, i2, i3, i4, i5, i6, i7, i8, i9⟩ := I
  have hg := gfi_ran (Va := Va) i2
  have lo : ∀ r, r < s.1 → gL s r < b := fun r hr => Nat.lt_of_lt_of_le (i5 r hr).2.2.1 i2
  refine ⟨by show s.1 + 1 ≤ b + 1; omega, Nat.le_refl _, fun z => (nomatch z), fun r hr => ?_, fun r hr => ?_, fun r r' h1 h2 => ?_, fun x r hx => ?_, fun x hx h1 => ?_, fun x r hx hne => ?_⟩
  · have e : r = s.1 := by have : s.1 + 1 = r + 1 := hr; omega
    subst e
    show b + 1 = up (gL s) s.1 b s.1 + 1
    rw [up_s]
  · show up (gF s) s.1 (gfi Va s.2.1 b) r ≤ up (gE s) s.1 b r ∧ up (gE s) s.1 b r ≤ up (gL s) s.1 b r ∧ up (gL s) s.1 b r < b + 1 ∧ up (gC s) s.1 (Va (10 * b + 1)) r = Va (10 * (up (gE s) s.1 b r) + 1) ∧ up (gO s) b (some s.1) (up (gE s) s.1 b r) = some r ∧ up (gO s) b (some s.1) (up (gL s) s.1 b r) = some r
    have hr' : r < s.1 + 1 := hr
    by_cases e : r = s.1
    · subst e
      rw [up_s, up_s, up_s, up_s, up_s]
      exact ⟨hg.2, Nat.le_refl _, Nat.lt_succ_self _, rfl, rfl, rfl⟩
    · have l := lo r (by omega)
      obtain ⟨j1, j2, j3, j4, j5, j6⟩ := i5 r (by omega)
      rw [up_o e, up_o e, up_o e, up_o e, up_o (by omega), up_o (by omega)]
      exact ⟨j1, j2, by omega, j4, j5, j6⟩
  · show up (gL s) s.1 b r < up (gF s) s.1 (gfi Va s.2.1 b) r'
    have h2' : r' < s.1 + 1 := h2
    rw [up_o (by omega)]
    by_cases e : r' = s.1
    · subst e
      rw [up_s]
      have := (i5 r h1).2.2.1
      omega
    · rw [up_o e]
      exact i6 r r' h1 (by omega)
  · have hx' : up (gO s) b (some s.1) x = some r := hx
    show r < s.1 + 1 ∧ up (gE s) s.1 b r ≤ x ∧ x ≤ up (gL s) s.1 b r ∧ _
    by_cases e : x = b
    · subst e
      rw [up_s] at hx'
      cases hx'
      rw [up_s, up_s]
      exact ⟨Nat.lt_succ_self _, Nat.le_refl _, Nat.le_refl _, h⟩
    · rw [up_o e] at hx'
      obtain ⟨j1, j2, j3, j4⟩ := i7 x r hx'
      rw [up_o (by omega), up_o (by omega)]
      exact ⟨by omega, j2, j3, j4⟩
  · show ∃ r, up (gO s) b (some s.1) x = some r
    by_cases e : x = b
    · subst e
      exact ⟨_, up_s⟩
    · rw [up_o e]
      exact i8 x (by omega) h1
  · have hx' : up (gO s) b (some s.1) x = some r := hx
    have hne' : x ≠ up (gE s) s.1 b r := hne
    show ∃ y, y < x ∧ up (gO s) b (some s.1) y = some r ∧ _
    by_cases e : x = b
    · subst e
      rw [up_s] at hx'
      cases hx'
      rw [up_s] at hne'
      exact absurd rfl hne'
    · rw [up_o e] at hx'
      obtain ⟨j1, j2, j3, j4⟩ := i7 x r hx'
      rw [up_o (by omega)] at hne'
      obtain ⟨y, y1, y2, y3⟩ := i9 x r hx' hne'
      have := lo r j1
      exact ⟨y, y1, by rw [up_o (by omega)]; exact y2, y3⟩
theorem gI_g {Va : Nat → Int32} {b : Nat} {s : gT} (I : gI Va b s) (h : hb Va 1 b = true) (h0 : s.1 ≠ 0) (h2 : gon Va s.2.1 b = true) : gI Va (b + 1) (ggo s b) := by
  obtain ⟨i1, i2, i3, i4, i5, i6, i7, i8, i9⟩ := I
  have lo : ∀ r, r < s.1 → gL s r < b := fun r hr => Nat.lt_of_lt_of_le (i5 r hr).2.2.1 i2
  obtain ⟨q, hq⟩ : ∃ q, s.1 = q + 1 := ⟨s.1 - 1, by omega⟩
  have hq1 : s.1 - 1 = q := by omega
  have h2' : hb Va 2 s.2.1 = true := by
    unfold gon at h2
    cases z : hb Va 2 s.2.1 with
    | true => rfl
    | false => rw [z] at h2; cases h2
  refine ⟨by show s.1 ≤ b + 1; omega, Nat.le_refl _, fun z => absurd z h0, fun r hr => ?_, fun r hr => ?_, fun r r' h1 h2 => ?_, fun x r hx => ?_, fun x hx h1 => ?_, fun x r hx hne => ?_⟩
  · have e : r = s.1 - 1 := by have : s.1 = r + 1 := hr; omega
    subst e
    show b + 1 = up (gL s) (s.1 - 1) b (s.1 - 1) + 1
    rw [up_s]
  · show gF s r ≤ gE s r ∧ gE s r ≤ up (gL s) (s.1 - 1) b r ∧ up (gL s) (s.1 - 1) b r < b + 1 ∧ _ ∧ up (gO s) b (some (s.1 - 1)) (gE s r) = some r ∧ up (gO s) b (some (s.1 - 1)) (up (gL s) (s.1 - 1) b r) = some r
    have hr' : r < s.1 := hr
    have l := lo r hr'
    obtain ⟨j1, j2, j3, j4, j5, j6⟩ := i5 r hr'
    rw [up_o (f := gO s) (show gE s r ≠ b by omega)]
    by_cases e : r = s.1 - 1
    · subst e
      rw [up_s, up_s]
      exact ⟨j1, by omega, Nat.lt_succ_self _, j4, j5, rfl⟩
    · rw [up_o e, up_o (by omega)]
      exact ⟨j1, j2, by omega, j4, j5, j6⟩
  · show up (gL s) (s.1 - 1) b r < gF s r'
    have h2' : r' < s.1 := h2
    rw [up_o (by omega)]
    exact i6 r r' h1 h2'
  · have hx' : up (gO s) b (some (s.1 - 1)) x = some r := hx
    show r < s.1 ∧ gE s r ≤ x ∧ x ≤ up (gL s) (s.1 - 1) b r ∧ _
    by_cases e : x = b
    · subst e
      rw [up_s] at hx'
      cases hx'
      rw [up_s]
      have l := lo (s.1 - 1) (by omega)
      have j := (i5 (s.1 - 1) (by omega)).2.1
      exact ⟨by omega, by omega, Nat.le_refl _, h⟩
    · rw [up_o e] at hx'
      obtain ⟨j1, j2, j3, j4⟩ := i7 x r hx'
      refine ⟨j1, j2, ?_, j4⟩
      by_cases e2 : r = s.1 - 1
      · subst e2
        rw [up_s]
        have l := lo (s.1 - 1) j1
        omega
      · rw [up_o e2]
        exact j3
  · show ∃ r, up (gO s) b (some (s.1 - 1)) x = some r
    by_cases e : x = b
    · subst e
      exact ⟨_, up_s⟩
    · rw [up_o e]
      exact i8 x (by omega) h1
  · have hx' : up (gO s) b (some (s.1 - 1)) x = some r := hx
    show ∃ y, y < x ∧ up (gO s) b (some (s.1 - 1)) y = some r ∧ _
    by_cases e : x = b
    · subst e
      rw [up_s] at hx'
      cases hx'
      have l := lo (s.1 - 1) (by omega)
      refine ⟨gL s (s.1 - 1), l, ?_, ?_⟩
      · rw [up_o (by omega)]
        exact (i5 (s.1 - 1) (by omega)).2.2.2.2.2
      · rw [← i4 (s.1 - 1) (by omega)]
        exact h2'
    · rw [up_o e] at hx'
      obtain ⟨j1, j2, j3, j4⟩ := i7 x r hx'
      obtain ⟨y, y1, y2, y3⟩ := i9 x r hx' hne
      have := lo r j1
      exact ⟨y, y1, by rw [up_o (by omega)]; exact y2, y3⟩
theorem gI_b (Va : Nat → Int32) : ∀ b, gI Va b (gst Va b) := by
  intro b
  induction b with
  | zero => exact gI_0 Va
  | succ b ih =>
    show gI Va (b + 1) (gsn Va (gst Va b) b)
    cases h : hb Va 1 b with
    | false =>
      rw [gsn_0 h]
      obtain ⟨i1, i2, i3, i4, i5, i6, i7, i8, i9⟩ := ih
      refine ⟨by omega, by omega, i3, i4, i5, i6, i7, fun x hx h1 => ?_, i9⟩
      by_cases e : x = b
      · rw [e, h] at h1; cases h1
      · exact i8 x (by omega) h1
    | true =>
      by_cases h2 : (gst Va b).1 = 0 ∨ gon Va (gst Va b).2.1 b = false
      · rw [gsn_n h h2]
        exact gI_n ih h
      · rw [gsn_g h (fun z => h2 (Or.inl z)) (by cases z : gon Va (gst Va b).2.1 b with | true => rfl | false => exact absurd (Or.inr z) h2)]
        exact gI_g ih h (fun z => h2 (Or.inl z)) (by cases z : gon Va (gst Va b).2.1 b with | true => rfl | false => exact absurd (Or.inr z) h2)

