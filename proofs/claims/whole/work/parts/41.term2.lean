/-! the walk ends, second half -/
section TN
variable {n : Nat} {Va : Nat → Int32} {s : gT} {g : Nat → Option Nat} {w : wT} {x c b r : Nat} {ag : Bool}
theorem wlv_2 : (wlv Va s g w b).2 = w.2 := by unfold wlv; split; rfl; split; rfl; rfl
theorem wlv_1 (hv : vok n Va) (G : gN n Va s g) (K : gK n Va s g) (F : NF n Va s g) (r : Nat) : (wlv Va s g w b).1 r = w.1 r ∨ (b = gL s r + 1 ∧ (wlv Va s g w b).1 r = 1) := by
  unfold wlv
  cases e : g b with
  | none => exact Or.inl rfl
  | some q =>
    by_cases c : bt Va b (cn s q) = true
    · show (if bt Va b (cn s q) = true then (up w.1 q 1, w.2) else w).1 r = w.1 r ∨ (b = gL s r + 1 ∧ (if bt Va b (cn s q) = true then (up w.1 q 1, w.2) else w).1 r = 1)
      rw [if_pos c]
      show up w.1 q 1 r = w.1 r ∨ (b = gL s r + 1 ∧ up w.1 q 1 r = 1)
      by_cases e2 : r = q
      · subst e2
        exact Or.inr ⟨(nfQ hv G K F e).2.2 b e c, up_s⟩
      · exact Or.inl (up_o e2)
    · show (if bt Va b (cn s q) = true then (up w.1 q 1, w.2) else w).1 r = w.1 r ∨ (b = gL s r + 1 ∧ (if bt Va b (cn s q) = true then (up w.1 q 1, w.2) else w).1 r = 1)
      rw [if_neg c]
      exact Or.inl rfl
theorem wnd2 {w2 : wT} (G : gN n Va s g) (e2 : w2.2 = w.2) (hp : ∀ r, r < s.1 → 1 ≤ w.1 r ∧ w.1 r ≤ cn s r) (hp2 : ∀ r, r < s.1 → 1 ≤ w2.1 r ∧ w2.1 r ≤ cn s r) (hC : w.2.2.2.2 = true → ∀ r, r < s.1 → gF s r ≤ b → b + 1 ≤ gL s r → wep s g w r b ≤ wep s g w2 r (b + 1)) : wPh s g x (wn2 n Va w2 b ag) + (if x = b then 1 else 0) ≤ wph w + wpp s g w x b := by
  have hx : (if x = b then 1 else 0) ≤ wpp s g w x b := by
    by_cases e : x = b
    · rw [if_pos e]; exact wpp_pos e
    · rw [if_neg e]; exact Nat.zero_le _
  have x1 : (if x = b then 1 else 0) ≤ 1 := by split <;> omega
  unfold wn2
  by_cases c1 : ag = false ∧ w2.2.1 = true ∧ w2.2.2.2.1 = 1 ∧ hb Va 5 b = true
  · rw [if_pos c1]
    show 0 + _ ≤ _
    omega
  · rw [if_neg c1]
    by_cases c2 : ag = false ∧ w2.2.1 = true ∧ w2.2.2.2.1 = 2 ∧ w2.2.2.1 = false ∧ hb Va 6 b = true
    · rw [if_pos c2]
      show wph (w2.1, w2.2.1, true, w2.2.2.2.1, w2.2.2.2.2) + wpp s g (w2.1, w2.2.1, true, w2.2.2.2.1, w2.2.2.2.2) x (wco n Va) + _ ≤ _
      have a1 : wph (w2.1, w2.2.1, true, w2.2.2.2.1, w2.2.2.2.2) = 0 := by
        unfold wph
        show (if w2.2.1 = false then 8 else if true = false then 4 else 0) = 0
        rw [c2.2.1]; rfl
      have a2 : wph w = 4 := by
        unfold wph
        rw [← e2, c2.2.1, c2.2.2.2.1]; rfl
      have a3 := wpp_le (w := (w2.1, w2.2.1, true, w2.2.2.2.1, w2.2.2.2.2)) (x := x) (c := wco n Va) G hp2
      omega
    · rw [if_neg c2]
      by_cases c3 : ag = false ∧ w2.2.1 = false ∧ hb Va 7 b = true
      · rw [if_pos c3]
        show wph (wju Va w2 b) + wpp s g (wju Va w2 b) x (wta Va b) + _ ≤ _
        have a1 : wph (wju Va w2 b) ≤ 4 := by
          unfold wph wju
          show (if true = false then 8 else if w2.2.2.1 = false then 4 else 0) ≤ 4
          rw [if_neg (by decide)]
          split <;> omega
        have a2 : wph w = 8 := by
          unfold wph
          rw [← e2, c3.2.1]; rfl
        have a3 := wpp_le (w := wju Va w2 b) (x := x) (c := wta Va b) G (fun r hr => by show 1 ≤ 1 ∧ 1 ≤ cn s r; have := G.2.2 r hr; omega)
        omega
      · rw [if_neg c3]
        by_cases c4 : b + 1 < n
        · rw [if_pos c4]
          show wph w2 + wpp s g w2 x (b + 1) + _ ≤ _
          have a1 : wph w2 = wph w := by unfold wph; rw [e2]
          rw [a1]
          have a2 : wpp s g w2 x (b + 1) + (if x = b then 1 else 0) ≤ wpp s g w x b := by
            unfold wpp
            rw [show w2.2.2.2.2 = w.2.2.2.2 from by rw [e2]]
            by_cases ht : w.2.2.2.2 = true
            · rw [if_pos ht, if_pos ht]
              cases e : wre s x with
              | none =>
                rw [wp1_n e, wp1_n e]
                split <;> split <;> split <;> omega
              | some r =>
                obtain ⟨r1, r2, r3⟩ := wre_s e
                rw [wp1_s e, wp1_s e]
                have v1 := wep_ge (w := w2) (c := b + 1) G hp2 r1
                have v2 := wep_ge (w := w) (c := b) G hp r1
                by_cases d1 : b < gF s r
                · rw [if_pos d1]
                  have : ¬ x = b := by omega
                  rw [if_neg this]
                  split
                  · omega
                  · split
                    · omega
                    · split <;> omega
                · rw [if_neg d1, if_neg (show ¬ b + 1 < gF s r by omega)]
                  by_cases d2 : gL s r < b
                  · rw [if_pos d2, if_pos (by omega), if_neg (show ¬ x = b by omega)]; exact Nat.le_refl _
                  · rw [if_neg d2]
                    by_cases d3 : gL s r < b + 1
                    · rw [if_pos d3]
                      split <;> split <;> omega
                    · rw [if_neg d3]
                      have := hC ht r r1 (by omega) (by omega)
                      split <;> split <;> split <;> omega
            · rw [if_neg ht, if_neg ht]
              split <;> split <;> split <;> omega
          omega
        · rw [if_neg c4]
          show 0 + _ ≤ _
          omega
theorem wnd (hv : vok n Va) (G : gN n Va s g) (K : gK n Va s g) (F : NF n Va s g) (hp : ∀ r, r < s.1 → 1 ≤ w.1 r ∧ w.1 r ≤ cn s r) (hl : w.2.2.2.2 = true → ∀ r, g b = some r → w.1 r = cn s r → b = gL s r + 1) : wPh s g x (wnx n Va s (wlv Va s g w b) b ag) + (if x = b then 1 else 0) ≤ wph w + wpp s g w x b := by
  have I := G.1
  have e2 := wlv_2 (Va := Va) (s := s) (g := g) (w := w) (b := b)
  have e1 := fun r => wlv_1 (w := w) (b := b) hv G K F r
  generalize wlv Va s g w b = w1 at e1 e2
  have hp1 : ∀ r, r < s.1 → 1 ≤ w1.1 r ∧ w1.1 r ≤ cn s r := by
    intro r hr
    obtain z | ⟨-, z⟩ := e1 r
    · rw [z]; exact hp r hr
    · rw [z]; have := G.2.2 r hr; omega
  have same : ∀ r, gF s r ≤ b → b ≤ gL s r → w1.1 r = w.1 r := by
    intro r h1 h2
    obtain z | ⟨z, -⟩ := e1 r
    · exact z
    · omega
  have hC : w.2.2.2.2 = true → ∀ r, r < s.1 → gF s r ≤ b → b + 1 ≤ gL s r → wep s g w r b ≤ wep s g w1 r (b + 1) := by
    intro ht r hr h1 h2
    have e3 := same r h1 (by omega)
    by_cases z : w.1 r = cn s r ∧ ∃ y, y < b ∧ g y = some r
    · rw [wep_1 z.1 z.2]
      exact (wep_ge (c := b + 1) G hp1 hr).1
    · rw [wep_p z, wep_p, e3]
      · exact Nat.le_refl _
      · rintro ⟨z1, y, z2, z3⟩
        rw [e3] at z1
        by_cases e4 : y = b
        · subst e4
          have := hl ht r z3 z1
          omega
        · exact z ⟨z1, y, by omega, z3⟩
  unfold wnx
  cases e : gO s b with
  | none => exact wnd2 G e2 hp hp1 hC
  | some r =>
    obtain ⟨r1, r2, r3, -⟩ := I.2.2.2.2.2.2.1 b r e
    have j := I.2.2.2.2.1 r r1
    show wPh s g x (if w1.2.2.2.2 = true then (if w1.1 r < cn s r then ((up w1.1 r (w1.1 r + 1), w1.2), some (gF s r)) else wn2 n Va (up w1.1 r 1, w1.2) b ag) else wn2 n Va w1 b ag) + _ ≤ _
    by_cases ht : w1.2.2.2.2 = true
    · rw [if_pos ht]
      have ht' : w.2.2.2.2 = true := by rw [← e2]; exact ht
      by_cases hlt : w1.1 r < cn s r
      · rw [if_pos hlt]
        show wph (up w1.1 r (w1.1 r + 1), w1.2) + wpp s g (up w1.1 r (w1.1 r + 1), w1.2) x (gF s r) + _ ≤ _
        have a1 : wph (up w1.1 r (w1.1 r + 1), w1.2) = wph w := by
          show (if w1.2.1 = false then 8 else if w1.2.2.1 = false then 4 else 0) = wph w
          rw [e2]; rfl
        rw [a1]
        have e3 := same r (by omega) r3
        have hpr := hp r r1
        have hcr := G.2.2 r r1
        have a2 : wpp s g (up w1.1 r (w1.1 r + 1), w1.2) x (gF s r) + (if x = b then 1 else 0) ≤ wpp s g w x b := by
          unfold wpp
          rw [if_pos (show (up w1.1 r (w1.1 r + 1), w1.2).2.2.2.2 = true from ht), if_pos ht']
          cases e4 : wre s x with
          | none =>
            rw [wp1_n e4, wp1_n e4]
            have := wre_n e4 r1
            have : ¬ x = b := by omega
            rw [if_neg this]
            split <;> split <;> omega
          | some q =>
            obtain ⟨q1, q2, q3⟩ := wre_s e4
            rw [wp1_s e4, wp1_s e4]
            by_cases eq : q = r
            · subst eq
              have v1 : wep s g (up w1.1 q (w1.1 q + 1), w1.2) q (gF s q) = w.1 q + 1 := by
                rw [wep_p]
                · show up w1.1 q (w1.1 q + 1) q = _
                  rw [up_s, e3]
                · rintro ⟨-, y, y1, y2⟩
                  have := (K y q y2).2.2.2.1
                  omega
              have v2 : wep s g w q b = w.1 q := wep_p (fun z => by rw [e3] at hlt; omega)
              rw [v1, v2, if_neg (Nat.lt_irrefl _), if_neg (show ¬ gL s q < gF s q by omega), if_pos q2, if_neg (show ¬ b < gF s q by omega), if_neg (show ¬ gL s q < b by omega)]
              rw [e3] at hlt
              split <;> split <;> omega
            · have nb : ¬ (gF s q ≤ b ∧ b ≤ gL s q) := fun z => eq (I.dis (x := b) q1 r1 z.1 z.2 (by omega) r3)
              have nx : ¬ x = b := fun z => nb (z ▸ ⟨q2, q3⟩)
              rw [if_neg nx]
              by_cases d1 : b < gF s q
              · rw [if_pos d1, if_pos (show gF s r < gF s q by omega)]; exact Nat.le_refl _
              · have d2 : gL s q < b := by omega
                have d3 : gL s q < gF s r := by
                  by_cases c6 : q < r
                  · exact I.2.2.2.2.2.1 q r c6 r1
                  · have := I.2.2.2.2.2.1 r q (by omega) q1; omega
                rw [if_neg d1, if_pos d2, if_neg (show ¬ gF s r < gF s q by omega), if_pos d3]
                exact Nat.le_refl _
        omega
      · rw [if_neg hlt]
        refine wnd2 (w2 := (up w1.1 r 1, w1.2)) G e2 hp (fun q hq => ?_) (fun _ q hq h1 h2 => ?_)
        · show 1 ≤ up w1.1 r 1 q ∧ up w1.1 r 1 q ≤ cn s q
          by_cases e5 : q = r
          · rw [e5, up_s]; have := G.2.2 r r1; omega
          · rw [up_o e5]; exact hp1 q hq
        · have e3 := same q h1 (by omega)
          by_cases e5 : q = r
          · subst e5
            have hpq := hp1 q hq
            have pc : w.1 q = cn s q := by rw [← e3]; omega
            obtain ⟨z, z1, z2⟩ := nfE G K F hq (show gE s q < gL s q by omega)
            have : z ≠ b := fun y => by subst y; have := hl ht' q z2 pc; omega
            rw [wep_1 pc ⟨z, by omega, z2⟩]
            refine (wep_ge (w := (up w1.1 q 1, w1.2)) (c := b + 1) G (fun q' hq' => ?_) hq).1
            show 1 ≤ up w1.1 q 1 q' ∧ up w1.1 q 1 q' ≤ cn s q'
            by_cases e6 : q' = q
            · rw [e6, up_s]; have := G.2.2 q hq; omega
            · rw [up_o e6]; exact hp1 q' hq'
          · exact absurd (I.dis (x := b) hq r1 h1 (by omega) (by omega) r3) e5
    · rw [if_neg ht]
      exact wnd2 G e2 hp hp1 hC
/-- how often a bar came -/
def wct (n : Nat) (Va : Nat → Int32) (s : gT) (g : Nat → Option Nat) (x : Nat) : Nat → Nat
  | 0 => 0
  | k + 1 => wct n Va s g x k + (if x = wbr n Va s g k then 1 else 0)
theorem wct_le (hn : n ≤ 20) (h0 : 0 < n) (hv : vok n Va) (G : gN n Va s g) (K : gK n Va s g) (F : NF n Va s g) : ∀ k, (∀ j, j < k → ∃ c, (wsq n Va s g j).2 = some c) → wct n Va s g x k + wPh s g x (wsq n Va s g k) ≤ 12 := by
  intro k
  induction k with
  | zero =>
    intro _
    show 0 + (8 + wpp s g (fun _ => 1, false, false, 0, true) x 0) ≤ 12
    have := wpp_le (w := (fun _ => 1, false, false, 0, true)) (x := x) (c := 0) G (fun r hr => by show 1 ≤ 1 ∧ 1 ≤ cn s r; have := G.2.2 r hr; omega)
    omega
  | succ k ih =>
    intro h
    have i := ih (fun j hj => h j (by omega))
    obtain ⟨c, hc⟩ := h k (by omega)
    obtain ⟨W1, W2, W3⟩ := WI_k hn h0 G F k
    have hcn := W2 c hc
    have ebr : wbr n Va s g k = win n Va s g (wsq n Va s g k).1 c := by unfold wbr; rw [hc]
    have enx : wsq n Va s g (k + 1) = wnx n Va s (wlv Va s g (wsq n Va s g k).1 (wbr n Va s g k)) (wbr n Va s g k) (wag s (wsq n Va s g k).1 (wbr n Va s g k)) := by
      rw [ebr]
      show wsp n Va s g (wsq n Va s g k) = _
      unfold wsp
      rw [hc]
    have d1 := wnd (x := x) (w := (wsq n Va s g k).1) (b := wbr n Va s g k) (ag := wag s (wsq n Va s g k).1 (wbr n Va s g k)) hv G K F W1 (fun ht r hg hp => by rw [ebr] at hg ⊢; exact win_last hv G K F ht hcn hg hp)
    rw [← enx] at d1
    have d2 := wpp_win (x := x) (w := (wsq n Va s g k).1) hv G K F W1 hcn
    rw [← ebr] at d2
    have d3 : wPh s g x (wsq n Va s g k) = wph (wsq n Va s g k).1 + wpp s g (wsq n Va s g k).1 x c := by unfold wPh; rw [hc]
    show wct n Va s g x k + (if x = wbr n Va s g k then 1 else 0) + _ ≤ 12
    omega
def smf (f : Nat → Nat) : Nat → Nat
  | 0 => 0
  | m + 1 => smf f m + f m
theorem smf_le {f : Nat → Nat} {m k : Nat} (h : ∀ x, x < m → f x ≤ k) : smf f m ≤ m * k := by
  induction m with
  | zero => exact Nat.zero_le _
  | succ m ih =>
    have i := ih (fun x hx => h x (by omega))
    have j := h m (by omega)
    show smf f m + f m ≤ _
    rw [Nat.succ_mul]
    omega
theorem smf_1 {f : Nat → Nat} {b : Nat} : ∀ m, smf (fun x => f x + (if x = b then 1 else 0)) m = smf f m + (if b < m then 1 else 0) := by
  intro m
  induction m with
  | zero => rfl
  | succ m ih =>
    show smf _ m + (f m + (if m = b then 1 else 0)) = smf f m + f m + _
    rw [ih]
    by_cases c : b < m
    · rw [if_pos c, if_neg (by omega), if_pos (by omega)]; omega
    · by_cases c2 : m = b
      · rw [if_neg c, if_pos c2, if_pos (by omega)]; omega
      · rw [if_neg c, if_neg c2, if_neg (by omega)]; omega
theorem smf_0 : ∀ m, smf (fun _ => 0) m = 0 := by
  intro m
  induction m with
  | zero => rfl
  | succ m ih => show smf _ m + 0 = 0; rw [ih]
theorem wct_sum (hn : n ≤ 20) (h0 : 0 < n) (G : gN n Va s g) (F : NF n Va s g) : ∀ k, (∀ j, j < k → ∃ c, (wsq n Va s g j).2 = some c) → smf (fun x => wct n Va s g x k) n = k := by
  intro k
  induction k with
  | zero => intro _; exact smf_0 n
  | succ k ih =>
    intro h
    have i := ih (fun j hj => h j (by omega))
    obtain ⟨c, hc⟩ := h k (by omega)
    obtain ⟨W1, W2, W3⟩ := WI_k hn h0 G F k
    have ebr : wbr n Va s g k = win n Va s g (wsq n Va s g k).1 c := by unfold wbr; rw [hc]
    have hbn := (win_ran (Va := Va) (s := s) (w := (wsq n Va s g k).1) (fun y r z => (G.2.1 y r z).2.1) (W2 c hc)).2
    rw [← ebr] at hbn
    show smf (fun x => wct n Va s g x k + (if x = wbr n Va s g k then 1 else 0)) n = k + 1
    rw [smf_1, i, if_pos hbn]
/-- the number of bars played -/
def pNn (n : Nat) (Va : Nat → Int32) (s : gT) (g : Nat → Option Nat) : Nat := (fix (fun k => (wsq n Va s g k).2.isNone) 0 (n * 12 + 1)).getD 0
theorem pNn_ok (hn : n ≤ 20) (h0 : 0 < n) (hv : vok n Va) (G : gN n Va s g) (K : gK n Va s g) (F : NF n Va s g) : pNn n Va s g ≤ n * 12 ∧ (wsq n Va s g (pNn n Va s g)).2 = none ∧ (∀ k, k < pNn n Va s g → ∃ c, (wsq n Va s g k).2 = some c) ∧ 0 < pNn n Va s g := by
  have sm : ∀ k, (wsq n Va s g k).2.isNone = false → ∃ c, (wsq n Va s g k).2 = some c := by
    intro k h
    cases e : (wsq n Va s g k).2 with
    | none => rw [e] at h; cases h
    | some c => exact ⟨c, rfl⟩
  unfold pNn
  cases e : fix (fun k => (wsq n Va s g k).2.isNone) 0 (n * 12 + 1) with
  | none =>
    have all : ∀ j, j < n * 12 + 1 → ∃ c, (wsq n Va s g j).2 = some c := fun j hj => sm j (fix_n e j (Nat.zero_le _) (by omega))
    have s1 := wct_sum hn h0 G F (n * 12 + 1) all
    have s2 := smf_le (f := fun x => wct n Va s g x (n * 12 + 1)) (m := n) (k := 12) (fun x _ => by have := wct_le (x := x) hn h0 hv G K F (n * 12 + 1) all; omega)
    omega
  | some N =>
    obtain ⟨-, j2, j3, j4⟩ := fix_s e
    refine ⟨by show N ≤ _; omega, ?_, fun k hk => sm k (j4 k (Nat.zero_le _) hk), ?_⟩
    · show (wsq n Va s g N).2 = none
      cases e2 : (wsq n Va s g N).2 with
      | none => rfl
      | some c => rw [e2] at j3; cases j3
    · show 0 < N
      cases N with
      | zero => cases j3
      | succ N => exact Nat.succ_pos _
end TN

