/-! the endings: what holds of them; maps without a fault -/
/-- what holds of the endings' map -/
def gK (n : Nat) (Va : Nat → Int32) (s : gT) (g : Nat → Option Nat) : Prop := ∀ x r, g x = some r → r < s.1 ∧ x < n ∧ hb Va 2 x = true ∧ gF s r ≤ x ∧ x ≤ gL s r + 1 ∧ (x ≤ gE s r ∨ (gE s r < x ∧ gO s (x - 1) = some r ∧ ∃ z, z ≤ gE s r ∧ g z = some r))
theorem gEs_mono {n : Nat} {Va : Nat → Int32} {s : gT} {g : Nat → Option Nat} {r x y : Nat} (h : g x = some y) : gEs n Va s g r x = some y := by
  unfold gEs
  by_cases c : gAny n Va s g r = true
  · rw [if_pos c]
    have e1 : gA n Va s g r (gE s r + 1) x = some y := (if_neg (fun z => by rw [h] at z; cases z.1)).trans h
    exact (if_neg (fun z => by rw [e1] at z; cases z.1)).trans e1
  · rw [if_neg c]; exact h
theorem gEs_K {n : Nat} {Va : Nat → Int32} {s : gT} {g : Nat → Option Nat} {r : Nat} (I : gI Va n s) (hr : r < s.1) (K : gK n Va s g) (hlt : ∀ x, g x ≠ some r) : gK n Va s (gEs n Va s g r) := by
  intro x q hx
  by_cases e : q = r
  · subst e
    have j := I.2.2.2.2.1 q hr
    unfold gEs at hx
    by_cases c : gAny n Va s g q = true
    · rw [if_pos c] at hx
      obtain ⟨z, z1, z2, z3, z4, z5⟩ := (gAny_iff j.1).mp c
      have ez : gEs n Va s g q z = some q := by
        unfold gEs
        rw [if_pos c]
        have e1 : gA n Va s g q (gE s q + 1) z = some q := if_pos ⟨z1, z2, z3, z4, by omega⟩
        exact (if_neg (fun w => by rw [e1] at w; cases w.1)).trans e1
      by_cases c1 : gA n Va s g q (gE s q + 1) x = none ∧ hb Va 2 x = true ∧ x < n ∧ 1 ≤ x ∧ gE s q < x ∧ x ≤ gL s q + 1 ∧ gO s (x - 1) = some q
      · exact ⟨hr, c1.2.2.1, c1.2.1, by omega, c1.2.2.2.2.2.1, Or.inr ⟨c1.2.2.2.2.1, c1.2.2.2.2.2.2, z, z5, ez⟩⟩
      · unfold gB at hx
        rw [if_neg c1] at hx
        unfold gA at hx
        by_cases c2 : g x = none ∧ hb Va 2 x = true ∧ x < n ∧ gF s q ≤ x ∧ x < gE s q + 1
        · exact ⟨hr, c2.2.2.1, c2.2.1, c2.2.2.2.1, by omega, Or.inl (by omega)⟩
        · rw [if_neg c2] at hx
          exact absurd hx (hlt x)
    · rw [if_neg c] at hx
      exact absurd hx (hlt x)
  · have hx' := (gEs_o e).mp hx
    obtain ⟨k1, k2, k3, k4, k5, k6⟩ := K x q hx'
    refine ⟨k1, k2, k3, k4, k5, k6.elim Or.inl (fun ⟨w1, w2, z, w3, w4⟩ => Or.inr ⟨w1, w2, z, w3, gEs_mono w4⟩)⟩
theorem gG_K {n : Nat} {Va : Nat → Int32} {s : gT} (I : gI Va n s) : ∀ r, r ≤ s.1 → gK n Va s (gG n Va s r) := by
  intro r
  induction r with
  | zero => intro _ x q h; cases h
  | succ r ih => exact fun h => gEs_K I (by omega) (ih (by omega)) (fun x z => Nat.lt_irrefl _ (gG_lt z))
def gGn (n : Nat) (Va : Nat → Int32) : Nat → Option Nat := gG n Va (gst Va n) (gst Va n).1
theorem gGn_K (n : Nat) (Va : Nat → Int32) : gK n Va (gst Va n) (gGn n Va) := gG_K (gI_b Va n) _ (Nat.le_refl _)
/-- the values that signs may have -/
def vlo (k : Nat) : Int := if k = 1 then 2 else 1
def vhi (k : Nat) : Int := if k = 1 then 4 else if k = 2 then 15 else if k = 7 then 12 else 1
def vok (n : Nat) (Va : Nat → Int32) : Prop := ∀ b k, b < n → k < 10 → Va (10 * b + k) = 0 ∨ (vlo k ≤ (Va (10 * b + k)).toInt ∧ (Va (10 * b + k)).toInt ≤ vhi k)
theorem vok_gN {n : Nat} {Va : Nat → Int32} (hv : vok n Va) : gN n Va (gst Va n) (gGn n Va) := by
  have I := gI_b Va n
  refine ⟨I, fun x r h => ⟨(gGn_K n Va x r h).1, (gGn_K n Va x r h).2.1, (gGn_K n Va x r h).2.2.2.1⟩, fun r hr => ?_⟩
  obtain ⟨j1, j2, j3, j4, j5, j6⟩ := I.2.2.2.2.1 r hr
  have hE : gE (gst Va n) r < n := by have := I.2.1; omega
  have hb1 := (I.2.2.2.2.2.2.1 _ r j5).2.2.2
  have e : ∃ c : Nat, gC (gst Va n) r = nI c ∧ 2 ≤ c ∧ c ≤ 4 := by
    rw [j4]
    obtain z | ⟨z1, z2⟩ := hv (gE (gst Va n) r) 1 hE (by omega)
    · exact absurd z (hb_t.mp hb1)
    · have e1 : vlo 1 = 2 := rfl
      have e2 : vhi 1 = 4 := rfl
      rw [e1] at z1
      rw [e2] at z2
      exact ⟨(Va (10 * gE (gst Va n) r + 1)).toInt.toNat, i_of (by omega) (by omega), by omega, by omega⟩
  obtain ⟨c, c1, c2, c3⟩ := e
  have e3 : cn (gst Va n) r = c := by unfold cn; rw [c1, i_cl (by omega)]
  rw [e3]
  exact ⟨c1, c2, c3⟩
theorem lst_0 {n : Nat} {F : Nat → Nat → Prop} (hn : n ≤ 20) (h : lst n F = 0) : ∀ k b, 1 ≤ k → k ≤ 7 → b < n → ¬ F k b := by
  intro k b h1 h2 h3 h4
  have e1 : (100 * k + b) / 100 = k := by omega
  have e2 : (100 * k + b) % 100 = b := by omega
  have hp : ftB n F (100 * k + b) = true := pB_t.mpr (by rw [e1, e2]; exact ⟨h1, h2, h3, h4⟩)
  unfold lst at h
  cases e : fix (ftB n F) 0 800 with
  | none =>
    have := fix_n e (100 * k + b) (Nat.zero_le _) (by omega)
    rw [hp] at this; cases this
  | some c =>
    rw [e] at h
    obtain ⟨-, j2, j3, -⟩ := fix_s e
    have j4 := pB_t.mp j3
    have h : nI c = 0 := h
    have : c = 0 := (nI_eq (b := 0) (by omega) (by omega)).mp h
    omega
theorem lst_1 {n : Nat} {F : Nat → Nat → Prop} (h : ∀ k b, 1 ≤ k → k ≤ 7 → b < n → ¬ F k b) : lst n F = 0 := by
  unfold lst
  rw [fix_0 (Pr := ftB n F) (fun y hy => pB_f.mpr (fun z => h _ _ z.1 z.2.1 z.2.2.1 z.2.2.2))]
theorem lst_z {n : Nat} {F : Nat → Nat → Prop} (hn : n ≤ 20) : 0 ≤ (lst n F).toInt := by
  unfold lst
  cases e : fix (ftB n F) 0 800 with
  | none => decide
  | some c =>
    obtain ⟨-, j2, -, -⟩ := fix_s e
    show 0 ≤ (nI c).toInt
    rw [i_n (by omega)]; omega
/-- two endings that share a pass clash -/
theorem bit_sh : ∀ j : Fin 16, ∀ k : Fin 16, ∀ c : Fin 5, 1 ≤ c.val → nI j.val &&& (1 <<< ((nI c.val - 1) &&& 31)) ≠ 0 → nI k.val &&& (1 <<< ((nI c.val - 1) &&& 31)) ≠ 0 → nI j.val &&& nI k.val ≠ 0 := by decide +kernel
theorem or_0 : ∀ x : Fin 16, ∀ j : Fin 16, ∀ k : Fin 16, (nI x.val ||| nI j.val) &&& nI k.val = 0 → nI x.val &&& nI k.val = 0 ∧ nI j.val &&& nI k.val = 0 ∧ ∃ y : Fin 16, nI x.val ||| nI j.val = nI y.val := by decide +kernel
theorem or_16 : ∀ x : Fin 16, ∀ j : Fin 16, ∃ y : Fin 16, nI x.val ||| nI j.val = nI y.val := by decide +kernel
theorem vok_2 {n b : Nat} {Va : Nat → Int32} (hv : vok n Va) (hb9 : b < n) : ∃ j : Fin 16, Va (10 * b + 2) = nI j.val := by
  obtain z | ⟨z1, z2⟩ := hv b 2 hb9 (by omega)
  · exact ⟨⟨0, by omega⟩, z⟩
  · have e1 : vlo 2 = 1 := rfl
    have e2 : vhi 2 = 15 := rfl
    rw [e1] at z1
    rw [e2] at z2
    exact ⟨⟨(Va (10 * b + 2)).toInt.toNat, by omega⟩, i_of (by omega) (by show _ = (((Va (10 * b + 2)).toInt.toNat : Nat) : Int); omega)⟩
/-- no clash: what is seen shares nothing with later endings, nor do two endings -/
theorem pwf_nc {n : Nat} {Va : Nat → Int32} {g : Nat → Option Nat} {r : Nat} (hv : vok n Va) : ∀ (m i : Nat) (x : Fin 16) (z : Int32), i + m ≤ n → pwf Va g r (nI x.val) i m = some z → (∀ y, i ≤ y → y < i + m → g y = some r → nI x.val &&& Va (10 * y + 2) = 0) ∧ (∀ y u, i ≤ y → y < u → u < i + m → g y = some r → g u = some r → Va (10 * y + 2) &&& Va (10 * u + 2) = 0) := by
  intro m
  induction m with
  | zero => intro i x z _ _; exact ⟨fun y h1 h2 => by omega, fun y u h1 h2 h3 => by omega⟩
  | succ m ih =>
    intro i x z hm h
    by_cases c : g i = some r
    · by_cases c2 : nI x.val &&& Va (10 * i + 2) = 0
      · rw [pwf_m c c2] at h
        obtain ⟨j, hj⟩ := vok_2 hv (show i < n by omega)
        obtain ⟨y0, hy0⟩ := or_16 x j
        rw [hj, hy0] at h
        obtain ⟨k1, k2⟩ := ih (i + 1) y0 z (by omega) h
        have k3 : ∀ y, i + 1 ≤ y → y < i + (m + 1) → g y = some r → nI x.val &&& Va (10 * y + 2) = 0 ∧ nI j.val &&& Va (10 * y + 2) = 0 := by
          intro y h1 h2 h3
          have w := k1 y h1 (by omega) h3
          obtain ⟨u, hu⟩ := vok_2 hv (show y < n by omega)
          rw [hu, ← hy0] at w
          rw [hu]
          exact ⟨(or_0 x j u w).1, (or_0 x j u w).2.1⟩
        refine ⟨fun y h1 h2 h3 => ?_, fun y u h1 h2 h3 h4 h5 => ?_⟩
        · by_cases e : y = i
          · rw [e]; exact c2
          · exact (k3 y (by omega) h2 h3).1
        · by_cases e : y = i
          · rw [e, hj]; exact (k3 u (by omega) h3 h5).2
          · exact k2 y u (by omega) h2 (by omega) h4 h5
      · rw [pwf_c c c2] at h; cases h
    · rw [pwf_o c] at h
      obtain ⟨k1, k2⟩ := ih (i + 1) x z (by omega) h
      refine ⟨fun y h1 h2 h3 => ?_, fun y u h1 h2 h3 h4 h5 => ?_⟩
      · by_cases e : y = i
        · rw [e] at h3; exact absurd h3 c
        · exact k1 y (by omega) (by omega) h3
      · by_cases e : y = i
        · rw [e] at h4; exact absurd h4 c
        · exact k2 y u (by omega) h2 (by omega) h4 h5
/-- of a map without a fault: the last ending lies right behind the last END, and it alone has the last pass -/
theorem nfQ {n : Nat} {Va : Nat → Int32} {s : gT} {g : Nat → Option Nat} (hv : vok n Va) (G : gN n Va s g) (K : gK n Va s g) (F : NF n Va s g) {r y : Nat} (hy : g y = some r) : g (gL s r + 1) = some r ∧ bt Va (gL s r + 1) (cn s r) = true ∧ (∀ x, g x = some r → bt Va x (cn s r) = true → x = gL s r + 1) := by
  have I := G.1
  obtain ⟨hr, -, -, -, -, -⟩ := K y r hy
  obtain ⟨j1, j2, j3, j4, j5, j6⟩ := I.2.2.2.2.1 r hr
  have hLn : gL s r < n := by have := I.2.1; omega
  have h1 : g (gL s r + 1) = some r := by
    by_cases c : g (gL s r + 1) = some r
    · exact c
    · exact absurd ⟨(I.2.2.2.2.2.2.1 _ r j6).2.2.2, r, j6, ⟨y, hy⟩, Or.inr c⟩ (F 3 (gL s r) (by omega) (by omega) hLn)
  have hmx : ∀ x, g x = some r → x ≤ gL s r + 1 := fun x hx => (K x r hx).2.2.2.2.1
  have h1n := (K _ r h1).2.1
  have nw : ¬ pww Va s g r (gL s r + 1) := fun w => F 4 (gF s r) (by omega) (by omega) (by omega) ⟨r, gL s r + 1, hr, rfl, h1, hmx, w⟩
  unfold pww at nw
  obtain ⟨z, nw⟩ := Classical.not_forall.mp nw
  obtain ⟨z1, nw⟩ := Classical.not_imp.mp nw
  have z2 : Va (10 * (gL s r + 1) + 2) &&& (1 <<< ((nI (cn s r) - 1) &&& 31)) ≠ 0 := by
    rw [← (G.2.2 r hr).1]
    exact fun w => nw (Or.inr w)
  have h2 : bt Va (gL s r + 1) (cn s r) = true := bt_t.mpr z2
  refine ⟨h1, h2, fun x hx hbx => ?_⟩
  by_cases e : x = gL s r + 1
  · exact e
  · have k := (pwf_nc hv _ _ ⟨0, by omega⟩ z (by omega) z1).2 x (gL s r + 1) (K x r hx).2.2.2.1 (by have := hmx x hx; omega) (by omega) hx h1
    obtain ⟨a, ha⟩ := vok_2 hv (K x r hx).2.1
    obtain ⟨b, hb9⟩ := vok_2 hv h1n
    have hc := G.2.2 r hr
    rw [bt_t, ha] at hbx
    rw [hb9] at z2
    rw [ha, hb9] at k
    exact absurd k (bit_sh a b ⟨cn s r, by omega⟩ (by show 1 ≤ cn s r; omega) hbx z2)
/-- a repeat with more than one END has an ending among its first bars -/
theorem nfE {n : Nat} {Va : Nat → Int32} {s : gT} {g : Nat → Option Nat} (G : gN n Va s g) (K : gK n Va s g) (F : NF n Va s g) {r : Nat} (hr : r < s.1) (hne : gE s r < gL s r) : ∃ z, z ≤ gE s r ∧ g z = some r := by
  have I := G.1
  obtain ⟨j1, j2, j3, j4, j5, j6⟩ := I.2.2.2.2.1 r hr
  have hLn : gL s r < n := by have := I.2.1; omega
  obtain ⟨y, y1, y2, y3⟩ := I.2.2.2.2.2.2.2.2 (gL s r) r j6 (by omega)
  have hyE := (I.2.2.2.2.2.2.1 y r y2).2.1
  have f2 := F 2 (y + 1) (by omega) (by omega) (by omega)
  cases e : g (y + 1) with
  | none => exact absurd ⟨y3, fun r' w => by rw [e] at w; cases w⟩ f2
  | some q =>
    obtain ⟨k1, k2, k3, k4, k5, k6⟩ := K (y + 1) q e
    obtain k6 | ⟨k6, k7, z, k8, k9⟩ := k6
    · have jq := I.2.2.2.2.1 q k1
      have e2 := I.dis (x := y + 1) hr k1 (by omega) (by omega) k4 (by omega)
      subst e2
      omega
    · rw [Nat.add_sub_cancel, y2] at k7
      have e2 : r = q := Option.some.inj k7
      subst e2
      exact ⟨z, k8, k9⟩

