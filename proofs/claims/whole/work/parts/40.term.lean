/-! the walk ends: each bar comes at most twelve times -/
/-- the pass a repeat counts as being in -/
noncomputable def wep (s : gT) (g : Nat → Option Nat) (w : wT) (r c : Nat) : Nat := @ite _ (w.1 r = cn s r ∧ ∃ y, y < c ∧ g y = some r) (Classical.propDecidable _) 1 (w.1 r)
def wre (s : gT) (x : Nat) : Option Nat := fix (fun r => decide (gF s r ≤ x ∧ x ≤ gL s r)) 0 s.1
noncomputable def wp1 (s : gT) (g : Nat → Option Nat) (w : wT) (x c : Nat) : Nat := match wre s x with
  | none => if c ≤ x then 1 else 0
  | some r => if c < gF s r then 4 else if gL s r < c then 0 else (4 - wep s g w r c) + (if c ≤ x then 1 else 0)
noncomputable def wpp (s : gT) (g : Nat → Option Nat) (w : wT) (x c : Nat) : Nat := if w.2.2.2.2 = true then wp1 s g w x c else (if c ≤ x then 1 else 0)
def wph (w : wT) : Nat := if w.2.1 = false then 8 else if w.2.2.1 = false then 4 else 0
/-- how often a bar may still come -/
noncomputable def wPh (s : gT) (g : Nat → Option Nat) (x : Nat) (z : wT × Option Nat) : Nat := match z.2 with
  | none => 0
  | some c => wph z.1 + wpp s g z.1 x c
section TM
variable {n : Nat} {Va : Nat → Int32} {s : gT} {g : Nat → Option Nat} {w : wT} {x c b r : Nat}
theorem wre_s (h : wre s x = some r) : r < s.1 ∧ gF s r ≤ x ∧ x ≤ gL s r := by
  obtain ⟨-, j2, j3, -⟩ := fix_s h
  have := of_decide_eq_true j3
  exact ⟨by omega, this⟩
theorem wre_n (h : wre s x = none) (hr : r < s.1) : ¬ (gF s r ≤ x ∧ x ≤ gL s r) := of_decide_eq_false (fix_n h r (Nat.zero_le _) (by omega))
theorem wep_1 (h1 : w.1 r = cn s r) (h2 : ∃ y, y < c ∧ g y = some r) : wep s g w r c = 1 := if_pos ⟨h1, h2⟩
theorem wep_p (h : ¬ (w.1 r = cn s r ∧ ∃ y, y < c ∧ g y = some r)) : wep s g w r c = w.1 r := if_neg h
theorem wp1_n (h : wre s x = none) : wp1 s g w x c = if c ≤ x then 1 else 0 := by unfold wp1; rw [h]
theorem wp1_s (h : wre s x = some r) : wp1 s g w x c = if c < gF s r then 4 else if gL s r < c then 0 else (4 - wep s g w r c) + (if c ≤ x then 1 else 0) := by unfold wp1; rw [h]
theorem wep_ge (G : gN n Va s g) (hp : ∀ r, r < s.1 → 1 ≤ w.1 r ∧ w.1 r ≤ cn s r) (hr : r < s.1) : 1 ≤ wep s g w r c ∧ wep s g w r c ≤ 4 := by
  by_cases z : w.1 r = cn s r ∧ ∃ y, y < c ∧ g y = some r
  · rw [wep_1 z.1 z.2]; omega
  · rw [wep_p z]; have := hp r hr; have := G.2.2 r hr; omega
theorem wp1_le (G : gN n Va s g) (hp : ∀ r, r < s.1 → 1 ≤ w.1 r ∧ w.1 r ≤ cn s r) : wp1 s g w x c ≤ 4 := by
  cases e : wre s x with
  | none => rw [wp1_n e]; split <;> omega
  | some r =>
    rw [wp1_s e]
    have := wep_ge (c := c) G hp (wre_s e).1
    split
    · omega
    · split
      · omega
      · split <;> omega
theorem wpp_le (G : gN n Va s g) (hp : ∀ r, r < s.1 → 1 ≤ w.1 r ∧ w.1 r ≤ cn s r) : wpp s g w x c ≤ 4 := by
  unfold wpp
  split
  · exact wp1_le G hp
  · split <;> omega
/-- a bar that is played counts at least once -/
theorem wpp_pos (h : x = b) : 1 ≤ wpp s g w x b := by
  subst h
  unfold wpp
  split
  · cases e : wre s x with
    | none => rw [wp1_n e, if_pos (Nat.le_refl _)]; exact Nat.le_refl _
    | some r =>
      have := wre_s e
      rw [wp1_s e, if_neg (by omega), if_neg (by omega), if_pos (Nat.le_refl _)]
      omega
  · rw [if_pos (Nat.le_refl _)]; exact Nat.le_refl _
/-- the bar that comes instead, in the last pass, lies behind the repeat -/
theorem win_last (hv : vok n Va) (G : gN n Va s g) (K : gK n Va s g) (F : NF n Va s g) (ht : w.2.2.2.2 = true) (hcn : c < n) (hg : g (win n Va s g w c) = some r) (hp : w.1 r = cn s r) : win n Va s g w c = gL s r + 1 := by
  unfold win at hg ⊢
  cases e : g c with
  | none =>
    rw [e] at hg
    have hg : g c = some r := hg
    rw [e] at hg; cases hg
  | some q =>
    rw [e] at hg
    have hg : g (wif n Va g q (wdu s w q) c) = some r := hg
    show wif n Va g q (wdu s w q) c = gL s r + 1
    have hd : ∀ q, wdu s w q = w.1 q := fun q => if_pos ht
    rw [hd] at hg ⊢
    obtain ⟨q1, q2, q3⟩ := nfQ hv G K F e
    have hl : lsg n g q = gL s q + 1 := lsg_eq q1 (K _ q q1).2.1 (fun y hy => (K y q hy).2.2.2.2.1)
    unfold wif at hg ⊢
    cases e2 : fix (fun e => decide (g e = some q) && bt Va e (w.1 q)) c (n - c) with
    | none =>
      rw [e2] at hg
      have hg : g (lsg n g q) = some r := hg
      show lsg n g q = _
      rw [hl] at hg ⊢
      rw [q1] at hg
      cases hg
      rfl
    | some x =>
      rw [e2] at hg
      have hg : g x = some r := hg
      show x = _
      obtain ⟨-, -, j3, -⟩ := fix_s e2
      rw [Bool.and_eq_true] at j3
      have e3 := of_decide_eq_true j3.1
      rw [hg] at e3
      cases e3
      exact q3 x hg (by rw [← hp]; exact j3.2)
/-- an ending's bar comes instead of another ending of the same repeat -/
theorem win_same (hcn : c < n) (hg : ∀ x r, g x = some r → x < n) (h : g c = some r) : g (win n Va s g w c) = some r := by
  unfold win
  rw [h]
  show g (wif n Va g r (wdu s w r) c) = some r
  unfold wif
  cases e2 : fix (fun e => decide (g e = some r) && bt Va e (wdu s w r)) c (n - c) with
  | some x =>
    obtain ⟨-, -, j3, -⟩ := fix_s e2
    rw [Bool.and_eq_true] at j3
    exact of_decide_eq_true j3.1
  | none =>
    show g (lsg n g r) = some r
    unfold lsg
    obtain e | ⟨j, e1, e2, e3, e4⟩ := lwf_ran (fun e => decide (g e = some r)) 0 n
    · exact absurd ((lwf_m1.mp e c (by omega) hcn).symm.trans (decide_eq_true h)) (by decide)
    · rw [e1]; exact of_decide_eq_true e4
theorem wpp_win (hv : vok n Va) (G : gN n Va s g) (K : gK n Va s g) (F : NF n Va s g) (hp : ∀ r, r < s.1 → 1 ≤ w.1 r ∧ w.1 r ≤ cn s r) (hcn : c < n) : wpp s g w x (win n Va s g w c) ≤ wpp s g w x c := by
  obtain ⟨hle, hbn⟩ := win_ran (Va := Va) (s := s) (w := w) (fun y r z => (G.2.1 y r z).2.1) hcn
  have I := G.1
  unfold wpp
  by_cases ht : w.2.2.2.2 = true
  · rw [if_pos ht, if_pos ht]
    cases e : g c with
    | none =>
      have e1 : win n Va s g w c = c := by unfold win; rw [e]
      rw [e1]; exact Nat.le_refl _
    | some q =>
      have hgb := win_same (Va := Va) (s := s) (w := w) hcn (fun x r z => (G.2.1 x r z).2.1) e
      obtain ⟨k1, k2, k3, k4, k5, k6⟩ := K c q e
      obtain ⟨m1, m2, m3, m4, m5, m6⟩ := K _ q hgb
      have wl := fun hq => win_last hv G K F ht hcn hgb (hp := hq)
      generalize win n Va s g w c = b at *
      by_cases hcL : c = gL s q + 1
      · have : b = c := by omega
        rw [this]; exact Nat.le_refl _
      · cases e2 : wre s x with
        | none =>
          rw [wp1_n e2, wp1_n e2]
          split <;> split <;> omega
        | some r =>
          obtain ⟨r1, r2, r3⟩ := wre_s e2
          rw [wp1_s e2, wp1_s e2]
          have w4 := wep_ge (c := b) G hp r1
          by_cases c1 : c < gF s r
          · rw [if_pos c1]
            split
            · omega
            · split
              · omega
              · split <;> omega
          · rw [if_neg c1, if_neg (show ¬ b < gF s r by omega)]
            by_cases c2 : gL s r < c
            · rw [if_pos c2, if_pos (show gL s r < b by omega)]; exact Nat.le_refl _
            · rw [if_neg c2]
              by_cases c3 : gL s r < b
              · rw [if_pos c3]; omega
              · rw [if_neg c3]
                have e3 := I.dis (x := c) r1 k1 (by omega) (by omega) k4 (by omega)
                subst e3
                have hpc : ¬ w.1 r = cn s r := fun z => by have := wl z; omega
                rw [wep_p (fun z => hpc z.1), wep_p (fun z => hpc z.1)]
                split <;> split <;> omega
  · rw [if_neg ht, if_neg ht]
    split <;> split <;> omega
end TM

