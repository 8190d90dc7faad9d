/-! masks; the reference's findRepeats -/
theorem bv_one {y : BitVec 32} : y &&& 1#32 = 1#32 ↔ y.getLsbD 0 = true := by
  constructor
  · intro z
    have := congrArg (fun v => BitVec.getLsbD v 0) z
    simpa using this
  · intro z
    apply BitVec.eq_of_getLsbD_eq
    intro i hi
    by_cases c : i = 0
    · subst c; simp [z]
    · simp [c]
theorem sh_e : ∀ b : Fin 32, (nI b.val &&& 31).toBitVec.smod 32 = BitVec.ofNat 32 b.val := by decide
theorem inm_bit (m : Int32) {b : Nat} (hb : b ≤ 31) : inm m b = m.toBitVec.getLsbD b := by
  have e := sh_e ⟨b, by omega⟩
  unfold inm
  have e1 : ((m >>> (nI b &&& 31)) &&& 1 = 1) ↔ m.toBitVec.getLsbD b = true := by
    rw [← Int32.toBitVec_inj, Int32.toBitVec_and, Int32.toBitVec_shiftRight]
    rw [e]
    show _ &&& 1#32 = 1#32 ↔ _
    rw [bv_one, BitVec.sshiftRight', BitVec.getLsbD_sshiftRight, BitVec.toNat_ofNat, show b % 2 ^ 32 = b by omega]
    simp [show b < 32 by omega]
  cases z : m.toBitVec.getLsbD b with
  | true => exact decide_eq_true (e1.mpr z)
  | false => exact decide_eq_false (fun w => by rw [e1.mp w] at z; exact absurd z (by decide))
theorem sl_e : ∀ b : Fin 32, ∀ i : Fin 32, ((1 : Int32) <<< (nI b.val &&& 31)).toBitVec.getLsbD i.val = decide (i.val = b.val) := by decide +kernel
theorem inm_or {m : Int32} {x b : Nat} (hx : x ≤ 31) (hb : b ≤ 31) : inm (m ||| (1 <<< (nI x &&& 31))) b = (inm m b || decide (b = x)) := by
  rw [inm_bit _ hb, inm_bit _ hb, Int32.toBitVec_or, BitVec.getLsbD_or, sl_e ⟨x, by omega⟩ ⟨b, by omega⟩]
theorem inm_0 {b : Nat} (hb : b ≤ 31) : inm 0 b = false := by
  rw [inm_bit _ hb]; simp
theorem inm_e {m : Int32} (h : ∀ b, b ≤ 31 → inm m b = false) : m = 0 := by
  apply Int32.toBitVec_inj.mp
  apply BitVec.eq_of_getLsbD_eq
  intro i hi
  rw [← inm_bit _ (by omega), h i (by omega)]
  simp
/-- the mask of the places that a map sends to r -/
def mM (m : Int32) (g : Nat → Option Nat) (r : Nat) : Prop := ∀ b, b ≤ 31 → inm m b = decide (g b = some r)
theorem mM_c {m : Int32} {g g' : Nat → Option Nat} {r : Nat} (h : mM m g r) (hc : ∀ b, b ≤ 31 → (g' b = some r ↔ g b = some r)) : mM m g' r := fun b hb => (h b hb).trans (decide_eq_decide.mpr (hc b hb).symm)
theorem mM_0 {r : Nat} : mM 0 (fun _ => none) r := fun b hb => by rw [inm_0 hb]; rfl
theorem mM_u {m : Int32} {g : Nat → Option Nat} {r x : Nat} (h : mM m g r) (hx : x ≤ 31) : mM (m ||| (1 <<< (nI x &&& 31))) (up g x (some r)) r := by
  intro b hbm
  rw [inm_or hx hbm, h b hbm]
  by_cases c : b = x
  · subst c; rw [up_s]; simp
  · rw [up_o c, decide_eq_false c, Bool.or_false]
theorem mM_o {m : Int32} {g : Nat → Option Nat} {r q x : Nat} (h : mM m g r) (hq : q ≠ r) (hg : g x ≠ some r) : mM m (up g x (some q)) r := mM_c h (fun b _ => by
  by_cases c : b = x
  · subst c; rw [up_s]; exact ⟨fun z => absurd (Option.some.inj z) hq, fun z => absurd z hg⟩
  · rw [up_o c])
theorem mM_z {m : Int32} {g : Nat → Option Nat} {r : Nat} (h : mM m g r) : m = 0 ↔ ∀ b, b ≤ 31 → g b ≠ some r := by
  constructor
  · intro z b hbm c
    subst z
    have := h b hbm
    rw [inm_0 hbm, decide_eq_true c] at this
    exact absurd this (by decide)
  · exact fun z => inm_e (fun b hb => (h b hb).trans (decide_eq_false (z b hb)))
theorem mM_fix {f : Nat → Int32} {G : Nat → Option Nat} {m b : Nat} (h : ∀ q, q < m → mM (f q) G q) (hG : ∀ q, G b = some q → q < m) (hb : b ≤ 31) : fix (fun q => inm (f q) b) 0 m = G b := by
  cases e : G b with
  | none => exact fix_0 (fun y hy => (h y hy b hb).trans (decide_eq_false (by rw [e]; exact fun z => nomatch z)))
  | some q =>
    have hq := hG q e
    exact fix_at (fun y hy => (h y (by omega) b hb).trans (decide_eq_false (fun z => by rw [e] at z; have := Option.some.inj z; omega))) ((h q hq b hb).trans (decide_eq_true e)) hq
theorem onx_lt {x : Option Nat} (h : ∀ j, x = some j → j ≤ 1000) : onx x < 0 ↔ x = none := by
  cases x with
  | none => exact ⟨fun _ => rfl, fun _ => by decide⟩
  | some j => exact ⟨fun z => absurd z (i_nlt (by rw [i_le, i_0, show (onx (some j)) = nI j from rfl, i_n (by have := h j rfl; omega)]; omega)), fun z => nomatch z⟩
theorem onx_ge {x : Option Nat} (h : ∀ j, x = some j → j ≤ 1000) : 0 ≤ onx x ↔ x ≠ none := by
  rw [i_le, show (0 : Int32).toInt = 0 from by decide]
  have := onx_lt h
  rw [i_lt, show (0 : Int32).toInt = 0 from by decide] at this
  rw [Ne, ← this]
  omega
theorem ofI_lt {x : Int} (h : x = -1 ∨ ∃ j : Nat, x = j ∧ j ≤ 1000) : Int32.ofInt x < 0 ↔ x = -1 := by
  obtain e | ⟨j, e, hj⟩ := h
  · subst e; exact ⟨fun _ => rfl, fun _ => by decide⟩
  · subst e
    rw [i_ofI, i_lt, i_0, i_n (by omega)]
    omega
/-- what the calls that read do not touch -/
def mE (S0 S : mT) : Prop := S.1 1 = S0.1 1 ∧ S.1 2 = S0.1 2 ∧ S.1 6 = S0.1 6 ∧ ∀ j, j ≤ 10 → S.2.2 j = S0.2.2 j
theorem mE.refl {S : mT} : mE S S := ⟨rfl, rfl, rfl, fun _ _ => rfl⟩
theorem mE.trans {S S1 S2 : mT} (h : mE S S1) (h2 : mE S1 S2) : mE S S2 := ⟨h2.1.trans h.1, h2.2.1.trans h.2.1, h2.2.2.1.trans h.2.2.1, fun j hj => (h2.2.2.2 j hj).trans (h.2.2.2 j hj)⟩
theorem mE.sS {S0 S : mT} {k : Nat} {v : Int32} (h : mE S0 S) (h1 : 1 ≠ k) (h2 : 2 ≠ k) (h6 : 6 ≠ k) : mE S0 (sS S k v) := ⟨(up_o h1).trans h.1, (up_o h2).trans h.2.1, (up_o h6).trans h.2.2.1, h.2.2.2⟩
theorem mE.sL {S0 S : mT} {k : Nat} {v : Int64} (h : mE S0 S) : mE S0 (sL S k v) := h
theorem mE.sA {S0 S : mT} {j i : Nat} {v : Int32} (h : mE S0 S) (hj : 10 < j) : mE S0 (sA S j i v) := ⟨h.1, h.2.1, h.2.2.1, fun q hq => (up_o (show q ≠ j by omega)).trans (h.2.2.2 q hq)⟩
theorem mE.mN {S0 S : mT} {n : Nat} (h : mE S0 S) (hN : mN n S0) : mN n S := ⟨h.2.1.trans hN.1, hN.2⟩
theorem mE.va {S0 S : mT} (h : mE S0 S) : S.2.2 4 = S0.2.2 4 := h.2.2.2 4 (by omega)
/-- the repeats, as the reference keeps them -/
def mR (S : mT) (s : gT) (G : Nat → Option Nat) : Prop := S.1 13 = nI s.1 ∧ ∀ r, r < s.1 → S.2.2 11 r = nI (gF s r) ∧ mM (S.2.2 12 r) (gO s) r ∧ mM (S.2.2 13 r) G r ∧ S.2.2 14 r = gC s r
theorem gO_b {Va : Nat → Int32} {b : Nat} {s : gT} (I : gI Va b s) (x : Nat) (hx : b ≤ x) : gO s x = none := by
  cases e : gO s x with
  | none => rfl
  | some r =>
    have h1 := I.2.2.2.2.2.2.1 x r e
    have h2 := I.2.2.2.2.1 r h1.1
    have := I.2.1
    omega
theorem mR_n {S : mT} {Va : Nat → Int32} {b : Nat} {x0 x1 : Int32} {s : gT} (I : gI Va b s) (h : mR S s (fun _ => none)) (hb : b ≤ 20) (e0 : x0 = nI (gfi Va s.2.1 b)) (e1 : x1 = 0) : mR (sA (sS (sA (sA (sA (sA (sA S 11 s.1 x0) 12 s.1 0) 13 s.1 0) 14 s.1 (Va (10 * b + 1))) 15 s.1 1) 13 (nI (s.1 + 1))) 12 s.1 (x1 ||| (1 <<< (nI b &&& 31)))) (gne Va s b) (fun _ => none) := by
  subst e1
  refine ⟨rfl, fun r hr => ?_⟩
  show up (S.2.2 11) s.1 x0 r = nI (up (gF s) s.1 _ r) ∧ mM (up (up (S.2.2 12) s.1 0) s.1 _ r) (up (gO s) b (some s.1)) r ∧ mM (up (S.2.2 13) s.1 0 r) _ r ∧ up (S.2.2 14) s.1 _ r = up (gC s) s.1 _ r
  have hgb := gO_b I b (Nat.le_refl _)
  by_cases e : r = s.1
  · subst e
    rw [up_s, up_s, up_s, up_s, up_s, up_s]
    refine ⟨e0, ?_, mM_0, rfl⟩
    refine mM_u (fun x hx => ?_) (by omega)
    rw [inm_0 hx]
    exact (decide_eq_false (fun z => Nat.lt_irrefl _ (I.2.2.2.2.2.2.1 x _ z).1)).symm
  · have hr' : r < s.1 := by have : r < s.1 + 1 := hr; omega
    obtain ⟨j1, j2, j3, j4⟩ := h.2 r hr'
    rw [up_o e, up_o e, up_o e, up_o e, up_o e, up_o e, up_o e]
    exact ⟨j1, mM_o j2 (Ne.symm e) (by rw [hgb]; exact fun z => nomatch z), j3, j4⟩
theorem mR_g {S : mT} {Va : Nat → Int32} {b : Nat} {s : gT} (I : gI Va b s) (h : mR S s (fun _ => none)) (hb : b ≤ 20) (h0 : s.1 ≠ 0) : mR (sA S 12 (s.1 - 1) (S.2.2 12 (s.1 - 1) ||| (1 <<< (nI b &&& 31)))) (ggo s b) (fun _ => none) := by
  refine ⟨h.1, fun r hr => ?_⟩
  show S.2.2 11 r = nI (gF s r) ∧ mM (up (S.2.2 12) (s.1 - 1) _ r) (up (gO s) b (some (s.1 - 1))) r ∧ mM (S.2.2 13 r) _ r ∧ S.2.2 14 r = gC s r
  have hgb := gO_b I b (Nat.le_refl _)
  obtain ⟨j1, j2, j3, j4⟩ := h.2 r hr
  refine ⟨j1, ?_, j3, j4⟩
  by_cases e : r = s.1 - 1
  · subst e
    rw [up_s]
    exact mM_u j2 (by omega)
  · rw [up_o e]
    exact mM_o j2 (Ne.symm e) (by rw [hgb]; exact fun z => nomatch z)
/-- one more ending -/
theorem mR_t {S : mT} {s : gT} {G : Nat → Option Nat} {r b : Nat} (h : mR S s G) (hb : b ≤ 31) (hr : r < s.1) (hG : G b = none) : mR (sA S 13 r (S.2.2 13 r ||| (1 <<< (nI b &&& 31)))) s (up G b (some r)) := by
  refine ⟨h.1, fun q hq => ?_⟩
  show S.2.2 11 q = nI (gF s q) ∧ mM (S.2.2 12 q) (gO s) q ∧ mM (up (S.2.2 13) r _ q) _ q ∧ S.2.2 14 q = gC s q
  obtain ⟨j1, j2, j3, j4⟩ := h.2 q hq
  refine ⟨j1, j2, ?_, j4⟩
  by_cases e : q = r
  · subst e
    rw [up_s]
    exact mM_u j3 hb
  · rw [up_o e]
    exact mM_o j3 (Ne.symm e) (by rw [hG]; exact fun z => nomatch z)
theorem mR_k {S : mT} {s : gT} {G : Nat → Option Nat} {r : Nat} (h : mR S s G) : mR (sA S 13 r (S.2.2 13 r)) s G := by
  refine ⟨h.1, fun q hq => ?_⟩
  show S.2.2 11 q = nI (gF s q) ∧ mM (S.2.2 12 q) (gO s) q ∧ mM (up (S.2.2 13) r _ q) _ q ∧ S.2.2 14 q = gC s q
  obtain ⟨j1, j2, j3, j4⟩ := h.2 q hq
  refine ⟨j1, j2, ?_, j4⟩
  by_cases e : q = r
  · subst e; rw [up_s]; exact j3
  · rw [up_o e]; exact j3
theorem gB_lim {n : Nat} {Va : Nat → Int32} {s : gT} {g : Nat → Option Nat} {r i : Nat} (I : gI Va n s) (hi : n ≤ i + 1) : gB n Va s g r i = gB n Va s g r (gL s r + 1) := by
  funext x
  unfold gB
  by_cases c : g x = none ∧ hb Va 2 x = true ∧ x < n ∧ 1 ≤ x ∧ gE s r < x ∧ x ≤ i ∧ gO s (x - 1) = some r
  · have := (I.2.2.2.2.2.2.1 _ r c.2.2.2.2.2.2).2.2.1
    rw [if_pos c, if_pos ⟨c.1, c.2.1, c.2.2.1, c.2.2.2.1, c.2.2.2.2.1, by omega, c.2.2.2.2.2.2⟩]
  · rw [if_neg c, if_neg (fun z => c ⟨z.1, z.2.1, z.2.2.1, z.2.2.2.1, z.2.2.2.2.1, by omega, z.2.2.2.2.2.2⟩)]
theorem gB_0 {n : Nat} {Va : Nat → Int32} {s : gT} {g : Nat → Option Nat} {r : Nat} : gB n Va s g r 0 = g := by
  funext x
  unfold gB
  exact if_neg (fun z => by omega)
/-- behind an END of r no bar is another's ending -/
theorem gB_free {n : Nat} {Va : Nat → Int32} {s : gT} {r b : Nat} (I : gI Va n s) (hr : r < s.1) (h1 : 1 ≤ b) (hO : gO s (b - 1) = some r) : gB n Va s (gA n Va s (gG n Va s r) r (gE s r + 1)) r (b - 1) b = none := by
  have j := I.2.2.2.2.2.2.1 _ r hO
  unfold gB
  rw [if_neg (fun z => by omega)]
  unfold gA
  rw [if_neg (fun z => by omega)]
  cases e : gG n Va s r b with
  | none => rfl
  | some q =>
    have hq := gG_lt e
    obtain ⟨k1, k2, k3, k4, k5, k6⟩ := gG_K I r (by omega) b q e
    have j2 := I.2.2.2.2.1 q k1
    have j3 := I.2.2.2.2.1 r hr
    have j4 := I.2.2.2.2.2.1 q r hq hr
    obtain k6 | ⟨-, k6, -⟩ := k6
    · omega
    · rw [hO] at k6; have := Option.some.inj k6; omega
theorem gA_0 {n : Nat} {Va : Nat → Int32} {s : gT} {g : Nat → Option Nat} {r : Nat} : gA n Va s g r (gF s r) = g := by
  funext x
  unfold gA
  exact if_neg (fun z => by omega)
theorem gA_any {n : Nat} {Va : Nat → Int32} {s : gT} {r : Nat} (I : gI Va n s) (hr : r < s.1) (hn : n ≤ 20) : (∀ b, b ≤ 31 → gA n Va s (gG n Va s r) r (gE s r + 1) b ≠ some r) ↔ gAny n Va s (gG n Va s r) r = false := by
  have j := I.2.2.2.2.1 r hr
  constructor
  · intro z
    cases e : gAny n Va s (gG n Va s r) r with
    | false => rfl
    | true =>
      obtain ⟨x, x1, x2, x3, x4, x5⟩ := (gAny_iff j.1).mp e
      exact absurd (show gA n Va s (gG n Va s r) r (gE s r + 1) x = some r from if_pos ⟨x1, x2, x3, x4, by omega⟩) (z x (by omega))
  · intro z b hbm c
    unfold gA at c
    by_cases e : gG n Va s r b = none ∧ hb Va 2 b = true ∧ b < n ∧ gF s r ≤ b ∧ b < gE s r + 1
    · rw [(gAny_iff j.1).mpr ⟨b, e.1, e.2.1, e.2.2.1, e.2.2.2.1, by omega⟩] at z; cases z
    · rw [if_neg e] at c
      exact Nat.lt_irrefl _ (gG_lt c)
theorem gA_none {n : Nat} {Va : Nat → Int32} {s : gT} {r : Nat} (I : gI Va n s) (hr : r < s.1) (h : gAny n Va s (gG n Va s r) r = false) : gA n Va s (gG n Va s r) r (gE s r + 1) = gG n Va s r := by
  have j := I.2.2.2.2.1 r hr
  funext x
  unfold gA
  refine if_neg (fun e => ?_)
  rw [(gAny_iff j.1).mpr ⟨x, e.1, e.2.1, e.2.2.1, e.2.2.2.1, by omega⟩] at h
  cases h
section FR
variable {V : rx_V} {d kc ks : Nat} {h h1 h2 : List va_E} {a n : Nat} {S S0 : mT} {Va : Nat → Int32} {Q : rx_R → List va_E → Prop}
/-- the endings behind r's ENDs -/
theorem l_frB (ha : a = V.2.1 + h1.length) (hN : mN n S0) (hv : vok n Va) (hVa : S0.2.2 4 = Va) {s : gT} (I : gI Va n s) {r : Nat} (hr : r < s.1) (K : ∀ (S : mT) (y5 : Option Value), mE S0 S → mR S s (gB n Va s (gA n Va s (gG n Va s r) r (gE s r + 1)) r (gL s r + 1)) → rx_W V (d + 4) kc ks m_Mo_findRepeats 340 [some (.ref a), some (.int (nI s.2.1 - 1)), some (.int (nI r)), some (.int (nI (gE s r))), some (.int 1), y5] [] (mw V h1 a S h2) Q) :
    ∀ (m b : Nat) (S : mT), b + 1 + m = n → mE S0 S → mR S s (gB n Va s (gA n Va s (gG n Va s r) r (gE s r + 1)) r b) → rx_W V (d + 4) kc ks m_Mo_findRepeats 268 [some (.ref a), some (.int (nI s.2.1 - 1)), some (.int (nI r)), some (.int (nI (gE s r))), some (.int 1), some (.int (nI (b + 1)))] [] (mw V h1 a S h2) Q := by
  have hn := hN.2
  have hs1 := I.1
  intro m
  induction m with
  | zero =>
    intro b S hbm E R
    have N := E.mN hN
    refine rx_iload d_Mo_findRepeats_268 (by rfl) ?_
    refine rx_aload_nr d_Mo_findRepeats_270 (by rfl) ?_
    refine rx_getfield d_Mo_findRepeats_271 fl_Mo_59 (mr0 ha) (by rfl) ?_
    rw [show S.1 2 = nI n from N.1]
    refine rx_icmp_ge (tgt := 340) d_Mo_findRepeats_274 (by rfl) (fun c274 => ?_) (fun z => absurd (show nI n ≤ nI (b + 1) by rw [show n = b + 1 by omega]; exact Int32.le_refl _) z)
    exact K S _ E (by rw [gB_lim I (by omega)] at R; exact R)
  | succ m ih =>
    intro b S hbm E R
    have N := E.mN hN
    have ev : S.2.2 4 = Va := E.va.trans hVa
    have hv2 : vok n (S.2.2 4) := by rw [ev]; exact hv
    obtain ⟨j1, j2, j3, j4⟩ := R.2 r hr
    refine rx_iload d_Mo_findRepeats_268 (by rfl) ?_
    refine rx_aload_nr d_Mo_findRepeats_270 (by rfl) ?_
    refine rx_getfield d_Mo_findRepeats_271 fl_Mo_59 (mr0 ha) (by rfl) ?_
    rw [show S.1 2 = nI n from N.1]
    refine rx_icmp_ge (tgt := 340) d_Mo_findRepeats_274 (by rfl) (fun z => absurd z (nI_ge (by omega) (by omega))) (fun c274 => ?_)
    refine rx_iload d_Mo_findRepeats_277 (by rfl) ?_
    refine rx_if_eq (tgt := 340) d_Mo_findRepeats_279 (by rfl) (fun z => absurd z (by decide)) (fun _ => ?_)
    refine rx_aload_nr d_Mo_findRepeats_282 (by rfl) ?_
    refine rx_getfield d_Mo_findRepeats_283 fl_Mo_47 (mr0 ha) (by rfl) ?_
    refine rx_iload_n d_Mo_findRepeats_286 (by rfl) ?_
    refine rx_aload_nr d_Mo_findRepeats_287 (by rfl) ?_
    refine rx_getfield d_Mo_findRepeats_288 fl_Mo_44 (mr0 ha) (by rfl) ?_
    refine rx_iload_n d_Mo_findRepeats_291 (by rfl) ?_
    refine m_ial (j := 12) ha d_Mo_findRepeats_292 (by rfl) (by omega) (by decide) ?_
    refine rx_iload d_Mo_findRepeats_293 (by rfl) ?_
    refine rx_iconst (v := 1) d_Mo_findRepeats_295 (by decide) ?_
    refine rx_isub d_Mo_findRepeats_296 ?_
    rw [show nI (b + 1) - 1 = nI b from nI_pred b]
    refine rx_cS d_Mo_findRepeats_297 ml_Mo_94 st_Mo_in (by exact c9_Mo_in) (by rfl) (by exact Nat.le_of_ble_eq_true rfl) (k_in _ (b := b) (by omega)) ?_
    rw [j2 b (by omega)]
    refine rx_if_eq (tgt := 327) d_Mo_findRepeats_300 (by rfl) (fun c300 => ?_) (fun c300 => ?_)
    · have c300 : ¬ gO s b = some r := of_decide_eq_false (bi_0.mp c300)
      refine rx_aload_nr d_Mo_findRepeats_327 (by rfl) ?_
      refine rx_getfield d_Mo_findRepeats_328 fl_Mo_47 (mr0 ha) (by rfl) ?_
      refine rx_iload_n d_Mo_findRepeats_331 (by rfl) ?_
      refine m_ial (j := 13) ha d_Mo_findRepeats_332 (by rfl) (by omega) (by decide) ?_
      refine m_ias (j := 13) ha d_Mo_findRepeats_333 (by rfl) (by omega) (by decide) (by rfl) (by decide) ?_
      refine rx_iinc (v := nI (b + 1 + 1)) d_Mo_findRepeats_334 (by rfl) (i_inc (b + 1)) ?_
      refine rx_goto (tgt := 268) d_Mo_findRepeats_337 (by rfl) ?_
      refine ih (b + 1) _ (by omega) (mE.sA E (by decide)) ?_
      rw [gB_n c300]
      exact mR_k R
    · have c300 : gO s b = some r := of_decide_eq_true (bi_1.mp c300)
      refine rx_aload_nr d_Mo_findRepeats_303 (by rfl) ?_
      refine rx_iload d_Mo_findRepeats_304 (by rfl) ?_
      refine rx_iconst (v := 2) d_Mo_findRepeats_306 (by decide) ?_
      refine rx_cV d_Mo_findRepeats_307 (by rfl) ml_Mo_90 im_Mo_has se_Mo_has (by exact c9_Mo_has) (mr0 ha) (by rfl) (by exact Nat.le_of_ble_eq_true rfl) (k_has ha N hv2 (b := b + 1) (k := 2) (by omega) (by omega)) ?_
      rw [hbn_1 (show b + 1 < n by omega), ev]
      refine rx_if_eq (tgt := 327) d_Mo_findRepeats_310 (by rfl) (fun c310 => ?_) (fun c310 => ?_)
      · have c310 : hb Va 2 (b + 1) = false := bi_0.mp c310
        refine rx_aload_nr d_Mo_findRepeats_327 (by rfl) ?_
        refine rx_getfield d_Mo_findRepeats_328 fl_Mo_47 (mr0 ha) (by rfl) ?_
        refine rx_iload_n d_Mo_findRepeats_331 (by rfl) ?_
        refine m_ial (j := 13) ha d_Mo_findRepeats_332 (by rfl) (by omega) (by decide) ?_
        refine m_ias (j := 13) ha d_Mo_findRepeats_333 (by rfl) (by omega) (by decide) (by rfl) (by decide) ?_
        refine rx_iinc (v := nI (b + 1 + 1)) d_Mo_findRepeats_334 (by rfl) (i_inc (b + 1)) ?_
        refine rx_goto (tgt := 268) d_Mo_findRepeats_337 (by rfl) ?_
        refine ih (b + 1) _ (by omega) (mE.sA E (by decide)) ?_
        rw [← gB_y (show gE s r ≤ b from (I.2.2.2.2.2.2.1 _ r c300).2.1) c300, show gtk n Va r (gB n Va s (gA n Va s (gG n Va s r) r (gE s r + 1)) r b) (b + 1) = gB n Va s (gA n Va s (gG n Va s r) r (gE s r + 1)) r b from if_neg (fun z => by rw [c310] at z; exact absurd z.2.1 (by decide))]
        exact mR_k R
      · have c310 : hb Va 2 (b + 1) = true := bi_1.mp c310
        refine rx_aload_nr d_Mo_findRepeats_313 (by rfl) ?_
        refine rx_getfield d_Mo_findRepeats_314 fl_Mo_47 (mr0 ha) (by rfl) ?_
        refine rx_iload_n d_Mo_findRepeats_317 (by rfl) ?_
        refine m_ial (j := 13) ha d_Mo_findRepeats_318 (by rfl) (by omega) (by decide) ?_
        refine rx_iconst (v := 1) d_Mo_findRepeats_319 (by decide) ?_
        refine rx_iload d_Mo_findRepeats_320 (by rfl) ?_
        refine rx_ishl d_Mo_findRepeats_322 ?_
        refine rx_ior d_Mo_findRepeats_323 ?_
        refine rx_goto (tgt := 333) d_Mo_findRepeats_324 (by rfl) ?_
        refine m_ias (j := 13) ha d_Mo_findRepeats_333 (by rfl) (by omega) (by decide) (by rfl) (by decide) ?_
        refine rx_iinc (v := nI (b + 1 + 1)) d_Mo_findRepeats_334 (by rfl) (i_inc (b + 1)) ?_
        refine rx_goto (tgt := 268) d_Mo_findRepeats_337 (by rfl) ?_
        refine ih (b + 1) _ (by omega) (mE.sA E (by decide)) ?_
        have hf := gB_free I hr (b := b + 1) (by omega) c300
        rw [← gB_y (show gE s r ≤ b from (I.2.2.2.2.2.2.1 _ r c300).2.1) c300, show gtk n Va r (gB n Va s (gA n Va s (gG n Va s r) r (gE s r + 1)) r b) (b + 1) = up (gB n Va s (gA n Va s (gG n Va s r) r (gE s r + 1)) r b) (b + 1) (some r) from if_pos ⟨by omega, c310, hf⟩]
        exact mR_t R (by omega) hr hf
/-- the endings among r's first bars -/
theorem l_frA (ha : a = V.2.1 + h1.length) (hN : mN n S0) (hv : vok n Va) (hVa : S0.2.2 4 = Va) {s : gT} (I : gI Va n s) {r : Nat} (hr : r < s.1) {y5 : Option Value} (K : ∀ (S : mT) (y4 : Option Value), mE S0 S → mR S s (gA n Va s (gG n Va s r) r (gE s r + 1)) → rx_W V (d + 4) kc ks m_Mo_findRepeats 249 [some (.ref a), some (.int (nI s.2.1 - 1)), some (.int (nI r)), some (.int (nI (gE s r))), y4, y5] [] (mw V h1 a S h2) Q) :
    ∀ (m b : Nat) (S : mT), b + m = gE s r + 1 → gF s r ≤ b → mE S0 S → mR S s (gA n Va s (gG n Va s r) r b) → rx_W V (d + 4) kc ks m_Mo_findRepeats 192 [some (.ref a), some (.int (nI s.2.1 - 1)), some (.int (nI r)), some (.int (nI (gE s r))), some (.int (nI b)), y5] [] (mw V h1 a S h2) Q := by
  have hn := hN.2
  have hs1 := I.1
  have hs2 := I.2.1
  have jj := I.2.2.2.2.1 r hr
  intro m
  induction m with
  | zero =>
    intro b S hbm hb2 E R
    have N := E.mN hN
    refine rx_iload d_Mo_findRepeats_192 (by rfl) ?_
    refine rx_iload_n d_Mo_findRepeats_194 (by rfl) ?_
    refine rx_icmp_gt (tgt := 249) d_Mo_findRepeats_195 (by rfl) (fun c195 => ?_) (fun z => absurd (nI_lt (by omega) (by omega)) z)
    exact K S _ E (by rw [show b = gE s r + 1 by omega] at R; exact R)
  | succ m ih =>
    intro b S hbm hb2 E R
    have N := E.mN hN
    have ev : S.2.2 4 = Va := E.va.trans hVa
    have hv2 : vok n (S.2.2 4) := by rw [ev]; exact hv
    have hGl : ∀ q, gA n Va s (gG n Va s r) r b b = some q → q < s.1 := fun q z => by
      unfold gA at z
      rw [if_neg (fun w => by omega)] at z
      have := gG_lt z; omega
    have hfx : fix (fun q => inm (S.2.2 13 q) b) 0 s.1 = gA n Va s (gG n Va s r) r b b := mM_fix (fun q hq => (R.2 q hq).2.2.1) hGl (by omega)
    refine rx_iload d_Mo_findRepeats_192 (by rfl) ?_
    refine rx_iload_n d_Mo_findRepeats_194 (by rfl) ?_
    refine rx_icmp_gt (tgt := 249) d_Mo_findRepeats_195 (by rfl) (fun z => absurd z (nI_nlt (by omega) (by omega))) (fun c195 => ?_)
    refine rx_aload_nr d_Mo_findRepeats_198 (by rfl) ?_
    refine rx_getfield d_Mo_findRepeats_199 fl_Mo_47 (mr0 ha) (by rfl) ?_
    refine rx_iload_n d_Mo_findRepeats_202 (by rfl) ?_
    refine rx_aload_nr d_Mo_findRepeats_203 (by rfl) ?_
    refine rx_iload d_Mo_findRepeats_204 (by rfl) ?_
    refine rx_iconst (v := 2) d_Mo_findRepeats_206 (by decide) ?_
    refine rx_cV d_Mo_findRepeats_207 (by rfl) ml_Mo_90 im_Mo_has se_Mo_has (by exact c9_Mo_has) (mr0 ha) (by rfl) (by exact Nat.le_of_ble_eq_true rfl) (k_has ha N hv2 (b := b) (k := 2) (by omega) (by omega)) ?_
    rw [hbn_1 (show b < n by omega), ev]
    refine rx_if_eq (tgt := 236) d_Mo_findRepeats_210 (by rfl) (fun c210 => ?_) (fun c210 => ?_)
    · have c210 : hb Va 2 b = false := bi_0.mp c210
      refine rx_aload_nr d_Mo_findRepeats_236 (by rfl) ?_
      refine rx_getfield d_Mo_findRepeats_237 fl_Mo_47 (mr0 ha) (by rfl) ?_
      refine rx_iload_n d_Mo_findRepeats_240 (by rfl) ?_
      refine m_ial (j := 13) ha d_Mo_findRepeats_241 (by rfl) (by omega) (by decide) ?_
      refine m_ias (j := 13) ha d_Mo_findRepeats_242 (by rfl) (by omega) (by decide) (by rfl) (by decide) ?_
      refine rx_iinc (v := nI (b + 1)) d_Mo_findRepeats_243 (by rfl) (i_inc b) ?_
      refine rx_goto (tgt := 192) d_Mo_findRepeats_246 (by rfl) ?_
      refine ih (b + 1) _ (by omega) (by omega) (mE.sA E (by decide)) ?_
      rw [← gtk_A hb2, show gtk n Va r (gA n Va s (gG n Va s r) r b) b = gA n Va s (gG n Va s r) r b from if_neg (fun z => by rw [c210] at z; exact absurd z.2.1 (by decide))]
      exact mR_k R
    · have c210 : hb Va 2 b = true := bi_1.mp c210
      refine rx_aload_nr d_Mo_findRepeats_213 (by rfl) ?_
      refine rx_iload d_Mo_findRepeats_214 (by rfl) ?_
      refine rx_cV d_Mo_findRepeats_216 (by rfl) ml_Mo_106 im_Mo_withEnding se_Mo_withEnding (by exact c9_Mo_withEnding) (mr0 ha) (by rfl) (by exact Nat.le_of_ble_eq_true rfl) (k_withEnding ha R.1 (by omega) (by omega)) ?_
      rw [hfx]
      refine rx_if_ge (tgt := 236) d_Mo_findRepeats_219 (by rfl) (fun c219 => ?_) (fun c219 => ?_)
      · have c219 := (onx_ge (fun j z => by have := hGl j z; omega)).mp c219
        refine rx_aload_nr d_Mo_findRepeats_236 (by rfl) ?_
        refine rx_getfield d_Mo_findRepeats_237 fl_Mo_47 (mr0 ha) (by rfl) ?_
        refine rx_iload_n d_Mo_findRepeats_240 (by rfl) ?_
        refine m_ial (j := 13) ha d_Mo_findRepeats_241 (by rfl) (by omega) (by decide) ?_
        refine m_ias (j := 13) ha d_Mo_findRepeats_242 (by rfl) (by omega) (by decide) (by rfl) (by decide) ?_
        refine rx_iinc (v := nI (b + 1)) d_Mo_findRepeats_243 (by rfl) (i_inc b) ?_
        refine rx_goto (tgt := 192) d_Mo_findRepeats_246 (by rfl) ?_
        refine ih (b + 1) _ (by omega) (by omega) (mE.sA E (by decide)) ?_
        rw [← gtk_A hb2, show gtk n Va r (gA n Va s (gG n Va s r) r b) b = gA n Va s (gG n Va s r) r b from if_neg (fun z => c219 z.2.2)]
        exact mR_k R
      · have c219 := (onx_lt (fun j z => by have := hGl j z; omega)).mp (Decidable.not_not.mp (fun z => c219 (i_nle' z)))
        refine rx_aload_nr d_Mo_findRepeats_222 (by rfl) ?_
        refine rx_getfield d_Mo_findRepeats_223 fl_Mo_47 (mr0 ha) (by rfl) ?_
        refine rx_iload_n d_Mo_findRepeats_226 (by rfl) ?_
        refine m_ial (j := 13) ha d_Mo_findRepeats_227 (by rfl) (by omega) (by decide) ?_
        refine rx_iconst (v := 1) d_Mo_findRepeats_228 (by decide) ?_
        refine rx_iload d_Mo_findRepeats_229 (by rfl) ?_
        refine rx_ishl d_Mo_findRepeats_231 ?_
        refine rx_ior d_Mo_findRepeats_232 ?_
        refine rx_goto (tgt := 242) d_Mo_findRepeats_233 (by rfl) ?_
        refine m_ias (j := 13) ha d_Mo_findRepeats_242 (by rfl) (by omega) (by decide) (by rfl) (by decide) ?_
        refine rx_iinc (v := nI (b + 1)) d_Mo_findRepeats_243 (by rfl) (i_inc b) ?_
        refine rx_goto (tgt := 192) d_Mo_findRepeats_246 (by rfl) ?_
        refine ih (b + 1) _ (by omega) (by omega) (mE.sA E (by decide)) ?_
        rw [← gtk_A hb2, show gtk n Va r (gA n Va s (gG n Va s r) r b) b = up (gA n Va s (gG n Va s r) r b) b (some r) from if_pos ⟨by omega, c210, c219⟩]
        exact mR_t R (by omega) hr c219
theorem l_fr2 (ha : a = V.2.1 + h1.length) (hN : mN n S0) (hv : vok n Va) (hVa : S0.2.2 4 = Va) {s : gT} (I : gI Va n s) (K : ∀ (S : mT), mE S0 S → mR S s (gG n Va s s.1) → Q (.inl none) (mw V h1 a S h2)) :
    ∀ (m r : Nat) (S : mT) (y3 y4 y5 : Option Value), r + m = s.1 → mE S0 S → mR S s (gG n Va s r) → rx_W V (d + 4) kc ks m_Mo_findRepeats 165 [some (.ref a), some (.int (nI s.2.1 - 1)), some (.int (nI r)), y3, y4, y5] [] (mw V h1 a S h2) Q := by
  have hn := hN.2
  have hs1 := I.1
  have hs2 := I.2.1
  intro m
  induction m with
  | zero =>
    intro r S y3 y4 y5 hr E R
    have e : r = s.1 := by omega
    subst e
    refine rx_iload_n d_Mo_findRepeats_165 (by rfl) ?_
    refine rx_aload_nr d_Mo_findRepeats_166 (by rfl) ?_
    refine rx_getfield d_Mo_findRepeats_167 fl_Mo_97 (mr0 ha) (by rfl) ?_
    rw [show S.1 13 = nI s.1 from R.1]
    refine rx_icmp_ge (tgt := 346) d_Mo_findRepeats_170 (by rfl) (fun c170 => ?_) (fun z => absurd (Int32.le_refl _) z)
    refine rx_vreturn d_Mo_findRepeats_346 (by rfl) ?_
    exact K S E R
  | succ m ih =>
    intro r S y3 y4 y5 hr9 E R
    have hr : r < s.1 := by omega
    have jj := I.2.2.2.2.1 r hr
    obtain ⟨j1, j2, j3, j4⟩ := R.2 r hr
    have low1 : inm (S.2.2 12 r) (gE s r) = true := (j2 _ (by omega)).trans (decide_eq_true jj.2.2.2.2.1)
    have low2 : ∀ y, y < gE s r → inm (S.2.2 12 r) y = false := fun y hy => (j2 y (by omega)).trans (decide_eq_false (fun z => by have := (I.2.2.2.2.2.2.1 y r z).2.1; omega))
    have e340 : ∀ (S : mT) (y3 y4 y5 : Option Value), mE S0 S → mR S s (gEs n Va s (gG n Va s r) r) → rx_W V (d + 4) kc ks m_Mo_findRepeats 340 [some (.ref a), some (.int (nI s.2.1 - 1)), some (.int (nI r)), y3, y4, y5] [] (mw V h1 a S h2) Q := by
      intro S y3 y4 y5 E R
      refine rx_iinc (v := nI (r + 1)) d_Mo_findRepeats_340 (by rfl) (i_inc r) ?_
      refine rx_goto (tgt := 165) d_Mo_findRepeats_343 (by rfl) ?_
      exact ih (r + 1) S _ _ _ (by omega) E R
    have e268 : ∀ (S : mT) (y3 : Option Value), mE S0 S → mR S s (gEs n Va s (gG n Va s r) r) → rx_W V (d + 4) kc ks m_Mo_findRepeats 268 [some (.ref a), some (.int (nI s.2.1 - 1)), some (.int (nI r)), y3, some (.int 0), some (.int 1)] [] (mw V h1 a S h2) Q := by
      intro S y3 E R
      have N := E.mN hN
      refine rx_iload d_Mo_findRepeats_268 (by rfl) ?_
      refine rx_aload_nr d_Mo_findRepeats_270 (by rfl) ?_
      refine rx_getfield d_Mo_findRepeats_271 fl_Mo_59 (mr0 ha) (by rfl) ?_
      rw [show S.1 2 = nI n from N.1]
      refine rx_icmp_ge (tgt := 340) d_Mo_findRepeats_274 (by rfl) (fun c274 => ?_) (fun c274 => ?_)
      · exact e340 S _ _ _ E R
      · refine rx_iload d_Mo_findRepeats_277 (by rfl) ?_
        refine rx_if_eq (tgt := 340) d_Mo_findRepeats_279 (by rfl) (fun _ => ?_) (fun z => absurd z (by decide))
        exact e340 S _ _ _ E R
    have e249 : ∀ (S : mT) (y4 : Option Value), mE S0 S → mR S s (gA n Va s (gG n Va s r) r (gE s r + 1)) → rx_W V (d + 4) kc ks m_Mo_findRepeats 249 [some (.ref a), some (.int (nI s.2.1 - 1)), some (.int (nI r)), some (.int (nI (gE s r))), y4, y5] [] (mw V h1 a S h2) Q := by
      intro S y4 E R
      have N := E.mN hN
      obtain ⟨j1, j2, j3, j4⟩ := R.2 r hr
      have hz := (mM_z j3).trans (gA_any I hr hn.2)
      refine rx_aload_nr d_Mo_findRepeats_249 (by rfl) ?_
      refine rx_getfield d_Mo_findRepeats_250 fl_Mo_47 (mr0 ha) (by rfl) ?_
      refine rx_iload_n d_Mo_findRepeats_253 (by rfl) ?_
      refine m_ial (j := 13) ha d_Mo_findRepeats_254 (by rfl) (by omega) (by decide) ?_
      refine rx_if_eq (tgt := 262) d_Mo_findRepeats_255 (by rfl) (fun c255 => ?_) (fun c255 => ?_)
      · have c255 := hz.mp c255
        refine rx_iconst (v := 0) d_Mo_findRepeats_262 (by decide) ?_
        refine rx_istore d_Mo_findRepeats_263 (Nat.le_of_ble_eq_true rfl) ?_
        refine rx_iconst (v := 1) d_Mo_findRepeats_265 (by decide) ?_
        refine rx_istore d_Mo_findRepeats_266 (Nat.le_of_ble_eq_true rfl) ?_
        first | exact e268 S _ E (by rw [gA_none I hr c255] at R; rw [show gEs n Va s (gG n Va s r) r = gG n Va s r from if_neg (by rw [c255]; decide)]; exact R) | exact l_frB ha hN hv hVa I hr (fun S y5 E R => e340 S _ _ _ E (by rw [show gEs n Va s (gG n Va s r) r = _ from if_pos c255]; exact R)) (n - 1) 0 S (by omega) E (by rw [gB_0]; exact R)
      · have c255 : gAny n Va s (gG n Va s r) r = true := by
          cases z : gAny n Va s (gG n Va s r) r with
          | true => rfl
          | false => exact absurd (hz.mpr z) c255
        refine rx_iconst (v := 1) d_Mo_findRepeats_258 (by decide) ?_
        refine rx_goto (tgt := 263) d_Mo_findRepeats_259 (by rfl) ?_
        refine rx_istore d_Mo_findRepeats_263 (Nat.le_of_ble_eq_true rfl) ?_
        refine rx_iconst (v := 1) d_Mo_findRepeats_265 (by decide) ?_
        refine rx_istore d_Mo_findRepeats_266 (Nat.le_of_ble_eq_true rfl) ?_
        first | exact e268 S _ E (by rw [gA_none I hr c255] at R; rw [show gEs n Va s (gG n Va s r) r = gG n Va s r from if_neg (by rw [c255]; decide)]; exact R) | exact l_frB ha hN hv hVa I hr (fun S y5 E R => e340 S _ _ _ E (by rw [show gEs n Va s (gG n Va s r) r = _ from if_pos c255]; exact R)) (n - 1) 0 S (by omega) E (by rw [gB_0]; exact R)
    have e192 := l_frA ha hN hv hVa I hr e249 (gE s r + 1 - gF s r) (gF s r)
    refine rx_iload_n d_Mo_findRepeats_165 (by rfl) ?_
    refine rx_aload_nr d_Mo_findRepeats_166 (by rfl) ?_
    refine rx_getfield d_Mo_findRepeats_167 fl_Mo_97 (mr0 ha) (by rfl) ?_
    rw [show S.1 13 = nI s.1 from R.1]
    refine rx_icmp_ge (tgt := 346) d_Mo_findRepeats_170 (by rfl) (fun z => absurd z (nI_ge (by omega) (by omega))) (fun c170 => ?_)
    refine rx_aload_nr d_Mo_findRepeats_173 (by rfl) ?_
    refine rx_aload_nr d_Mo_findRepeats_174 (by rfl) ?_
    refine rx_getfield d_Mo_findRepeats_175 fl_Mo_44 (mr0 ha) (by rfl) ?_
    refine rx_iload_n d_Mo_findRepeats_178 (by rfl) ?_
    refine m_ial (j := 12) ha d_Mo_findRepeats_179 (by rfl) (by omega) (by decide) ?_
    refine rx_cV d_Mo_findRepeats_180 (by rfl) ml_Mo_103 im_Mo_lowest se_Mo_lowest (by exact c9_Mo_lowest) (mr0 ha) (by rfl) (by exact Nat.le_of_ble_eq_true rfl) (k_lowest (x := gE s r) (by omega) low1 low2) ?_
    refine rx_istore_n d_Mo_findRepeats_183 (Nat.le_of_ble_eq_true rfl) ?_
    refine rx_aload_nr d_Mo_findRepeats_184 (by rfl) ?_
    refine rx_getfield d_Mo_findRepeats_185 fl_Mo_41 (mr0 ha) (by rfl) ?_
    refine rx_iload_n d_Mo_findRepeats_188 (by rfl) ?_
    refine m_ial (j := 11) ha d_Mo_findRepeats_189 (by rfl) (by omega) (by decide) ?_
    rw [j1]
    refine rx_istore d_Mo_findRepeats_190 (Nat.le_of_ble_eq_true rfl) ?_
    exact e192 S (by omega) (Nat.le_refl _) E (by rw [gA_0]; exact R)
theorem nI_sa {x : Nat} : nI x - 1 + 1 = nI x := Int32.sub_add_cancel _ _
theorem be0 {x : Nat} (h : x ≤ 1000) : nI x - 1 < 0 ↔ x = 0 := by
  cases x with
  | zero => exact ⟨fun _ => rfl, fun _ => by decide⟩
  | succ j => rw [show nI (j + 1) - 1 = nI j from nI_pred j, i_lt, i_0, i_n (by omega)]; omega
theorem sA_1 {S : mT} {j i : Nat} {v : Int32} : (sA S j i v).1 = S.1 := rfl
theorem lwf_20 {Pr : Nat → Bool} {lo : Int} {m : Nat} (h : m ≤ 1000) : lwf Pr lo m = -1 ∨ ∃ j : Nat, lwf Pr lo m = j ∧ j ≤ 1000 := by
  obtain e | ⟨j, e1, e2, e3, e4⟩ := lwf_ran Pr lo m
  · exact Or.inl e
  · exact Or.inr ⟨j, e1, by omega⟩
theorem l_fr129 (ha : a = V.2.1 + h1.length) {r b : Nat} (hr : r < 20) (hb9 : b < 20) (h13 : S.1 13 = nI (r + 1)) {y1 y3 : Option Value} (K : rx_W V (d + 4) kc ks m_Mo_findRepeats 9 [some (.ref a), some (.int (nI b)), some (.int (nI (b + 1))), y3, none, none] [] (mw V h1 a (sA S 12 r (S.2.2 12 r ||| (1 <<< (nI b &&& 31)))) h2) Q) : rx_W V (d + 4) kc ks m_Mo_findRepeats 129 [some (.ref a), y1, some (.int (nI b)), y3, none, none] [] (mw V h1 a S h2) Q := by
  refine rx_aload_nr d_Mo_findRepeats_129 (by rfl) ?_
  refine rx_getfield d_Mo_findRepeats_130 fl_Mo_44 (mr0 ha) (by rfl) ?_
  refine rx_aload_nr d_Mo_findRepeats_133 (by rfl) ?_
  refine rx_getfield d_Mo_findRepeats_134 fl_Mo_97 (mr0 ha) (by rfl) ?_
  rw [h13]
  refine rx_iconst (v := 1) d_Mo_findRepeats_137 (by decide) ?_
  refine rx_isub d_Mo_findRepeats_138 ?_
  rw [show nI (r + 1) - 1 = nI r from nI_pred r]
  refine rx_aload_nr d_Mo_findRepeats_139 (by rfl) ?_
  refine rx_getfield d_Mo_findRepeats_140 fl_Mo_44 (mr0 ha) (by rfl) ?_
  refine rx_aload_nr d_Mo_findRepeats_143 (by rfl) ?_
  refine rx_getfield d_Mo_findRepeats_144 fl_Mo_97 (mr0 ha) (by rfl) ?_
  rw [h13]
  refine rx_iconst (v := 1) d_Mo_findRepeats_147 (by decide) ?_
  refine rx_isub d_Mo_findRepeats_148 ?_
  rw [show nI (r + 1) - 1 = nI r from nI_pred r]
  refine m_ial (j := 12) ha d_Mo_findRepeats_149 (by rfl) (by omega) (by decide) ?_
  refine rx_iconst (v := 1) d_Mo_findRepeats_150 (by decide) ?_
  refine rx_iload_n d_Mo_findRepeats_151 (by rfl) ?_
  refine rx_ishl d_Mo_findRepeats_152 ?_
  refine rx_ior d_Mo_findRepeats_153 ?_
  refine m_ias (j := 12) ha d_Mo_findRepeats_154 (by rfl) (by omega) (by decide) (by rfl) (by decide) ?_
  refine rx_iload_n d_Mo_findRepeats_155 (by rfl) ?_
  refine rx_istore_n d_Mo_findRepeats_156 (Nat.le_of_ble_eq_true rfl) ?_
  refine rx_iinc (v := nI (b + 1)) d_Mo_findRepeats_157 (by rfl) (i_inc b) ?_
  refine rx_goto (tgt := 9) d_Mo_findRepeats_160 (by rfl) ?_
  exact K
theorem l_fr1 (ha : a = V.2.1 + h1.length) (hN : mN n S0) (hv : vok n Va) (hVa : S0.2.2 4 = Va) (K : ∀ (S : mT) (y3 : Option Value), mE S0 S → mR S (gst Va n) (fun _ => none) → rx_W V (d + 4) kc ks m_Mo_findRepeats 163 [some (.ref a), some (.int (nI (gst Va n).2.1 - 1)), some (.int (nI n)), y3, none, none] [] (mw V h1 a S h2) Q) :
    ∀ (m b : Nat) (S : mT) (y3 : Option Value), b + m = n → mE S0 S → mR S (gst Va b) (fun _ => none) → rx_W V (d + 4) kc ks m_Mo_findRepeats 9 [some (.ref a), some (.int (nI (gst Va b).2.1 - 1)), some (.int (nI b)), y3, none, none] [] (mw V h1 a S h2) Q := by
  have hn := hN.2
  intro m
  induction m with
  | zero =>
    intro b S y3 hbm E R
    have e : b = n := by omega
    subst e
    have N := E.mN hN
    refine rx_iload_n d_Mo_findRepeats_9 (by rfl) ?_
    refine rx_aload_nr d_Mo_findRepeats_10 (by rfl) ?_
    refine rx_getfield d_Mo_findRepeats_11 fl_Mo_59 (mr0 ha) (by rfl) ?_
    rw [show S.1 2 = nI b from N.1]
    refine rx_icmp_ge (tgt := 163) d_Mo_findRepeats_14 (by rfl) (fun c14 => ?_) (fun z => absurd (Int32.le_refl _) z)
    exact K S _ E R
  | succ m ih =>
    intro b S y3 hbm E R
    have N := E.mN hN
    have ev : S.2.2 4 = Va := E.va.trans hVa
    have hv2 : vok n (S.2.2 4) := by rw [ev]; exact hv
    have I := gI_b Va b
    have gs : gst Va (b + 1) = gsn Va (gst Va b) b := rfl
    have ih1 := ih (b + 1)
    rw [gs] at ih1
    generalize gst Va b = s at *
    have hs1 := I.1
    have hs2 := I.2.1
    have e54 : gsn Va s b = gne Va s b → rx_W V (d + 4) kc ks m_Mo_findRepeats 54 [some (.ref a), some (.int (nI s.2.1 - 1)), some (.int (nI b)), some (.int (Int32.ofInt (lwf (hb Va 0) s.2.1 (b + 1)))), none, none] [] (mw V h1 a S h2) Q := by
      intro eg
      rw [eg, show nI (gne Va s b).2.1 - 1 = nI b from nI_pred b] at ih1
      refine rx_aload_nr d_Mo_findRepeats_54 (by rfl) ?_
      refine rx_getfield d_Mo_findRepeats_55 fl_Mo_41 (mr0 ha) (by rfl) ?_
      refine rx_aload_nr d_Mo_findRepeats_58 (by rfl) ?_
      refine rx_getfield d_Mo_findRepeats_59 fl_Mo_97 (mr0 ha) (by rfl) ?_
      rw [R.1]
      refine rx_iload_n d_Mo_findRepeats_62 (by rfl) ?_
      refine rx_if_ge (tgt := 72) d_Mo_findRepeats_63 (by rfl) (fun c63 => ?_) (fun c63 => ?_)
      · have e0 : Int32.ofInt (lwf (hb Va 0) s.2.1 (b + 1)) = nI (gfi Va s.2.1 b) := by
          unfold gfi
          obtain z | ⟨j, z, -⟩ := lwf_20 (Pr := hb Va 0) (lo := s.2.1) (m := b + 1) (by omega)
          · exact absurd c63 (by rw [z]; decide)
          · rw [z, if_neg (by omega)]; exact i_ofI j
        refine rx_iload_n d_Mo_findRepeats_72 (by rfl) ?_
        refine m_ias (j := 11) ha d_Mo_findRepeats_73 (by rfl) (by omega) (by decide) (by rfl) (by decide) ?_
        refine rx_aload_nr d_Mo_findRepeats_74 (by rfl) ?_
        refine rx_getfield d_Mo_findRepeats_75 fl_Mo_44 (mr0 ha) (by rfl) ?_
        refine rx_aload_nr d_Mo_findRepeats_78 (by rfl) ?_
        refine rx_getfield d_Mo_findRepeats_79 fl_Mo_97 (mr0 ha) (by rfl) ?_
        simp only [sA_1, R.1]
        refine rx_iconst (v := 0) d_Mo_findRepeats_82 (by decide) ?_
        refine m_ias (j := 12) ha d_Mo_findRepeats_83 (by rfl) (by omega) (by decide) (by rfl) (by decide) ?_
        refine rx_aload_nr d_Mo_findRepeats_84 (by rfl) ?_
        refine rx_getfield d_Mo_findRepeats_85 fl_Mo_47 (mr0 ha) (by rfl) ?_
        refine rx_aload_nr d_Mo_findRepeats_88 (by rfl) ?_
        refine rx_getfield d_Mo_findRepeats_89 fl_Mo_97 (mr0 ha) (by rfl) ?_
        simp only [sA_1, R.1]
        refine rx_iconst (v := 0) d_Mo_findRepeats_92 (by decide) ?_
        refine m_ias (j := 13) ha d_Mo_findRepeats_93 (by rfl) (by omega) (by decide) (by rfl) (by decide) ?_
        refine rx_aload_nr d_Mo_findRepeats_94 (by rfl) ?_
        refine rx_getfield d_Mo_findRepeats_95 fl_Mo_50 (mr0 ha) (by rfl) ?_
        refine rx_aload_nr d_Mo_findRepeats_98 (by rfl) ?_
        refine rx_getfield d_Mo_findRepeats_99 fl_Mo_97 (mr0 ha) (by rfl) ?_
        simp only [sA_1, R.1]
        refine rx_aload_nr d_Mo_findRepeats_102 (by rfl) ?_
        refine rx_iload_n d_Mo_findRepeats_103 (by rfl) ?_
        refine rx_iconst (v := 1) d_Mo_findRepeats_104 (by decide) ?_
        refine rx_cV d_Mo_findRepeats_105 (by rfl) ml_Mo_70 im_Mo_signOf se_Mo_signOf (by exact c9_Mo_signOf) (mr0 ha) (by rfl) (by exact Nat.le_of_ble_eq_true rfl) (k_signOf ha (mE.mN (mE.sA (mE.sA (mE.sA E (by decide)) (by decide)) (by decide)) hN) (b := b) (k := 1) (by omega) (by omega)) ?_
        rw [sgn_1 (show b < n by omega), show ∀ x y z i j, (sA (sA (sA S 11 i x) 12 j y) 13 j z).2.2 4 = Va from fun _ _ _ _ _ => ev]
        refine m_ias (j := 14) ha d_Mo_findRepeats_108 (by rfl) (by omega) (by decide) (by rfl) (by decide) ?_
        refine rx_aload_nr d_Mo_findRepeats_109 (by rfl) ?_
        refine rx_getfield d_Mo_findRepeats_110 fl_Mo_53 (mr0 ha) (by rfl) ?_
        refine rx_aload_nr d_Mo_findRepeats_113 (by rfl) ?_
        refine rx_getfield d_Mo_findRepeats_114 fl_Mo_97 (mr0 ha) (by rfl) ?_
        simp only [sA_1, R.1]
        refine rx_iconst (v := 1) d_Mo_findRepeats_117 (by decide) ?_
        refine m_ias (j := 15) ha d_Mo_findRepeats_118 (by rfl) (by omega) (by decide) (by rfl) (by decide) ?_
        refine rx_aload_nr d_Mo_findRepeats_119 (by rfl) ?_
        refine rx_dup d_Mo_findRepeats_120 (by rfl) ?_
        refine rx_getfield d_Mo_findRepeats_121 fl_Mo_97 (mr0 ha) (by rfl) ?_
        simp only [sA_1, R.1]
        refine rx_iconst (v := 1) d_Mo_findRepeats_124 (by decide) ?_
        refine rx_iadd d_Mo_findRepeats_125 ?_
        rw [nI_1]
        refine m_putI (k9 := 13) ha d_Mo_findRepeats_126 (fw_Mo_97 rfl) (by rfl) (by rfl) (by rfl) ?_
        refine l_fr129 ha (r := s.1) (by omega) (by omega) rfl ?_
        refine ih1 _ _ (by omega) ?_ ?_
        · exact mE.sA (mE.sS (mE.sA (mE.sA (mE.sA (mE.sA (mE.sA E (by decide)) (by decide)) (by decide)) (by decide)) (by decide)) (by decide) (by decide) (by decide)) (by decide)
        · exact mR_n I R (by omega) e0 (by simp [sS, sA, up])
      · have z9 : lwf (hb Va 0) s.2.1 (b + 1) = -1 := (ofI_lt (lwf_20 (by omega))).mp (Decidable.not_not.mp (fun z => c63 (i_nle' z)))
        have e0 : nI s.2.1 = nI (gfi Va s.2.1 b) := by unfold gfi; rw [if_pos z9]
        refine rx_iload_n d_Mo_findRepeats_66 (by rfl) ?_
        refine rx_iconst (v := 1) d_Mo_findRepeats_67 (by decide) ?_
        refine rx_iadd d_Mo_findRepeats_68 ?_
        rw [nI_sa]
        refine rx_goto (tgt := 73) d_Mo_findRepeats_69 (by rfl) ?_
        refine m_ias (j := 11) ha d_Mo_findRepeats_73 (by rfl) (by omega) (by decide) (by rfl) (by decide) ?_
        refine rx_aload_nr d_Mo_findRepeats_74 (by rfl) ?_
        refine rx_getfield d_Mo_findRepeats_75 fl_Mo_44 (mr0 ha) (by rfl) ?_
        refine rx_aload_nr d_Mo_findRepeats_78 (by rfl) ?_
        refine rx_getfield d_Mo_findRepeats_79 fl_Mo_97 (mr0 ha) (by rfl) ?_
        simp only [sA_1, R.1]
        refine rx_iconst (v := 0) d_Mo_findRepeats_82 (by decide) ?_
        refine m_ias (j := 12) ha d_Mo_findRepeats_83 (by rfl) (by omega) (by decide) (by rfl) (by decide) ?_
        refine rx_aload_nr d_Mo_findRepeats_84 (by rfl) ?_
        refine rx_getfield d_Mo_findRepeats_85 fl_Mo_47 (mr0 ha) (by rfl) ?_
        refine rx_aload_nr d_Mo_findRepeats_88 (by rfl) ?_
        refine rx_getfield d_Mo_findRepeats_89 fl_Mo_97 (mr0 ha) (by rfl) ?_
        simp only [sA_1, R.1]
        refine rx_iconst (v := 0) d_Mo_findRepeats_92 (by decide) ?_
        refine m_ias (j := 13) ha d_Mo_findRepeats_93 (by rfl) (by omega) (by decide) (by rfl) (by decide) ?_
        refine rx_aload_nr d_Mo_findRepeats_94 (by rfl) ?_
        refine rx_getfield d_Mo_findRepeats_95 fl_Mo_50 (mr0 ha) (by rfl) ?_
        refine rx_aload_nr d_Mo_findRepeats_98 (by rfl) ?_
        refine rx_getfield d_Mo_findRepeats_99 fl_Mo_97 (mr0 ha) (by rfl) ?_
        simp only [sA_1, R.1]
        refine rx_aload_nr d_Mo_findRepeats_102 (by rfl) ?_
        refine rx_iload_n d_Mo_findRepeats_103 (by rfl) ?_
        refine rx_iconst (v := 1) d_Mo_findRepeats_104 (by decide) ?_
        refine rx_cV d_Mo_findRepeats_105 (by rfl) ml_Mo_70 im_Mo_signOf se_Mo_signOf (by exact c9_Mo_signOf) (mr0 ha) (by rfl) (by exact Nat.le_of_ble_eq_true rfl) (k_signOf ha (mE.mN (mE.sA (mE.sA (mE.sA E (by decide)) (by decide)) (by decide)) hN) (b := b) (k := 1) (by omega) (by omega)) ?_
        rw [sgn_1 (show b < n by omega), show ∀ x y z i j, (sA (sA (sA S 11 i x) 12 j y) 13 j z).2.2 4 = Va from fun _ _ _ _ _ => ev]
        refine m_ias (j := 14) ha d_Mo_findRepeats_108 (by rfl) (by omega) (by decide) (by rfl) (by decide) ?_
        refine rx_aload_nr d_Mo_findRepeats_109 (by rfl) ?_
        refine rx_getfield d_Mo_findRepeats_110 fl_Mo_53 (mr0 ha) (by rfl) ?_
        refine rx_aload_nr d_Mo_findRepeats_113 (by rfl) ?_
        refine rx_getfield d_Mo_findRepeats_114 fl_Mo_97 (mr0 ha) (by rfl) ?_
        simp only [sA_1, R.1]
        refine rx_iconst (v := 1) d_Mo_findRepeats_117 (by decide) ?_
        refine m_ias (j := 15) ha d_Mo_findRepeats_118 (by rfl) (by omega) (by decide) (by rfl) (by decide) ?_
        refine rx_aload_nr d_Mo_findRepeats_119 (by rfl) ?_
        refine rx_dup d_Mo_findRepeats_120 (by rfl) ?_
        refine rx_getfield d_Mo_findRepeats_121 fl_Mo_97 (mr0 ha) (by rfl) ?_
        simp only [sA_1, R.1]
        refine rx_iconst (v := 1) d_Mo_findRepeats_124 (by decide) ?_
        refine rx_iadd d_Mo_findRepeats_125 ?_
        rw [nI_1]
        refine m_putI (k9 := 13) ha d_Mo_findRepeats_126 (fw_Mo_97 rfl) (by rfl) (by rfl) (by rfl) ?_
        refine l_fr129 ha (r := s.1) (by omega) (by omega) rfl ?_
        refine ih1 _ _ (by omega) ?_ ?_
        · exact mE.sA (mE.sS (mE.sA (mE.sA (mE.sA (mE.sA (mE.sA E (by decide)) (by decide)) (by decide)) (by decide)) (by decide)) (by decide) (by decide) (by decide)) (by decide)
        · exact mR_n I R (by omega) e0 (by simp [sS, sA, up])
    refine rx_iload_n d_Mo_findRepeats_9 (by rfl) ?_
    refine rx_aload_nr d_Mo_findRepeats_10 (by rfl) ?_
    refine rx_getfield d_Mo_findRepeats_11 fl_Mo_59 (mr0 ha) (by rfl) ?_
    rw [show S.1 2 = nI n from N.1]
    refine rx_icmp_ge (tgt := 163) d_Mo_findRepeats_14 (by rfl) (fun z => absurd z (nI_ge (by omega) (by omega))) (fun c14 => ?_)
    refine rx_aload_nr d_Mo_findRepeats_17 (by rfl) ?_
    refine rx_iload_n d_Mo_findRepeats_18 (by rfl) ?_
    refine rx_iconst (v := 1) d_Mo_findRepeats_19 (by decide) ?_
    refine rx_cV d_Mo_findRepeats_20 (by rfl) ml_Mo_90 im_Mo_has se_Mo_has (by exact c9_Mo_has) (mr0 ha) (by rfl) (by exact Nat.le_of_ble_eq_true rfl) (k_has ha N hv2 (b := b) (k := 1) (by omega) (by omega)) ?_
    rw [hbn_1 (show b < n by omega), ev]
    refine rx_if_eq (tgt := 157) d_Mo_findRepeats_23 (by rfl) (fun c23 => ?_) (fun c23 => ?_)
    · have c23 : hb Va 1 b = false := bi_0.mp c23
      rw [gsn_0 c23] at ih1
      refine rx_iinc (v := nI (b + 1)) d_Mo_findRepeats_157 (by rfl) (i_inc b) ?_
      refine rx_goto (tgt := 9) d_Mo_findRepeats_160 (by rfl) ?_
      exact ih1 S _ (by omega) E R
    · have c23 : hb Va 1 b = true := bi_1.mp c23
      refine rx_aload_nr d_Mo_findRepeats_26 (by rfl) ?_
      refine rx_iload_n d_Mo_findRepeats_27 (by rfl) ?_
      refine rx_iconst (v := 1) d_Mo_findRepeats_28 (by decide) ?_
      refine rx_iadd d_Mo_findRepeats_29 ?_
      rw [nI_sa]
      refine rx_iload_n d_Mo_findRepeats_30 (by rfl) ?_
      refine rx_cV d_Mo_findRepeats_31 (by rfl) ml_Mo_100 im_Mo_lastStart se_Mo_lastStart (by exact c9_Mo_lastStart) (mr0 ha) (by rfl) (by exact Nat.le_of_ble_eq_true rfl) (k_lastStart ha N hv2 (f := s.2.1) (t := b) (by omega) (by omega)) ?_
      rw [ev]
      refine rx_istore_n d_Mo_findRepeats_34 (Nat.le_of_ble_eq_true rfl) ?_
      refine rx_iload_n d_Mo_findRepeats_35 (by rfl) ?_
      refine rx_if_lt (tgt := 54) d_Mo_findRepeats_36 (by rfl) (fun c36 => ?_) (fun c36 => ?_)
      · have c36 := (be0 (by omega)).mp c36
        have c36 : s.1 = 0 := by
          cases z : s.1 with
          | zero => rfl
          | succ r => have := I.2.2.2.1 r z; omega
        first | exact e54 (gsn_n c23 (Or.inl c36)) | exact e54 (gsn_n c23 (Or.inr (by unfold gon; rw [decide_eq_false c40, Bool.and_false]))) | exact e54 (gsn_n c23 (Or.inr (by unfold gon; rw [c51, Bool.false_and])))
      · have c36 : ¬ s.1 = 0 := fun z => c36 ((be0 (by omega)).mpr (I.2.2.1 z))
        refine rx_iload_n d_Mo_findRepeats_39 (by rfl) ?_
        refine rx_if_ge (tgt := 54) d_Mo_findRepeats_40 (by rfl) (fun c40 => ?_) (fun c40 => ?_)
        · have c40 : lwf (hb Va 0) s.2.1 (b + 1) ≠ -1 := fun z => by rw [z] at c40; exact absurd c40 (by decide)
          first | exact e54 (gsn_n c23 (Or.inl c36)) | exact e54 (gsn_n c23 (Or.inr (by unfold gon; rw [decide_eq_false c40, Bool.and_false]))) | exact e54 (gsn_n c23 (Or.inr (by unfold gon; rw [c51, Bool.false_and])))
        · have c40 : lwf (hb Va 0) s.2.1 (b + 1) = -1 := (ofI_lt (lwf_20 (by omega))).mp (Decidable.not_not.mp (fun z => c40 (i_nle' z)))
          refine rx_aload_nr d_Mo_findRepeats_43 (by rfl) ?_
          refine rx_iload_n d_Mo_findRepeats_44 (by rfl) ?_
          refine rx_iconst (v := 1) d_Mo_findRepeats_45 (by decide) ?_
          refine rx_iadd d_Mo_findRepeats_46 ?_
          rw [nI_sa]
          refine rx_iconst (v := 2) d_Mo_findRepeats_47 (by decide) ?_
          refine rx_cV d_Mo_findRepeats_48 (by rfl) ml_Mo_90 im_Mo_has se_Mo_has (by exact c9_Mo_has) (mr0 ha) (by rfl) (by exact Nat.le_of_ble_eq_true rfl) (k_has ha N hv2 (b := s.2.1) (k := 2) (by omega) (by omega)) ?_
          rw [hbn_1 (show s.2.1 < n by omega), ev]
          refine rx_if_ne (tgt := 129) d_Mo_findRepeats_51 (by rfl) (fun c51 => ?_) (fun c51 => ?_)
          · have c51 : hb Va 2 s.2.1 = true := bi_1.mp c51
            rw [gsn_g c23 c36 (show gon Va s.2.1 b = true by unfold gon; rw [c51, decide_eq_true c40]; rfl), show nI (ggo s b).2.1 - 1 = nI b from nI_pred b] at ih1
            refine l_fr129 ha (r := s.1 - 1) (by omega) (by omega) (by rw [show s.1 - 1 + 1 = s.1 by omega]; exact R.1) ?_
            exact ih1 _ _ (by omega) (mE.sA E (by decide)) (mR_g I R (by omega) c36)
          · have c51 : hb Va 2 s.2.1 = false := bi_0.mp c51
            first | exact e54 (gsn_n c23 (Or.inl c36)) | exact e54 (gsn_n c23 (Or.inr (by unfold gon; rw [decide_eq_false c40, Bool.and_false]))) | exact e54 (gsn_n c23 (Or.inr (by unfold gon; rw [c51, Bool.false_and])))
theorem k_findRepeats (ha : a = V.2.1 + h1.length) (hN : mN n S) (hv : vok n (S.2.2 4)) : rx_C V (d + 4) kc ks m_Mo_findRepeats [.ref a] (mw V h1 a S h2) (fun r9 h' => r9 = .inl none ∧ ∃ S', h' = mw V h1 a S' h2 ∧ mE S S' ∧ mR S' (gst (S.2.2 4) n) (gGn n (S.2.2 4))) := by
  refine rx_aload_nr d_Mo_findRepeats_0 (by rfl) ?_
  refine rx_iconst (v := 0) d_Mo_findRepeats_1 (by decide) ?_
  refine m_putI (k9 := 13) ha d_Mo_findRepeats_2 (fw_Mo_97 rfl) (by rfl) (by rfl) (by rfl) ?_
  refine rx_iconst (v := -1) d_Mo_findRepeats_5 (by decide) ?_
  refine rx_istore_n d_Mo_findRepeats_6 (Nat.le_of_ble_eq_true rfl) ?_
  refine rx_iconst (v := 0) d_Mo_findRepeats_7 (by decide) ?_
  refine rx_istore_n d_Mo_findRepeats_8 (Nat.le_of_ble_eq_true rfl) ?_
  refine l_fr1 ha hN hv rfl (fun S' y3 E R => ?_) n 0 _ _ (by omega) (mE.sS mE.refl (by decide) (by decide) (by decide)) ⟨rfl, fun r hr => absurd hr (Nat.not_lt_zero _)⟩
  refine rx_iconst (v := 0) d_Mo_findRepeats_163 (by decide) ?_
  refine rx_istore_n d_Mo_findRepeats_164 (Nat.le_of_ble_eq_true rfl) ?_
  exact l_fr2 ha hN hv rfl (gI_b _ n) (fun S2 E R => ⟨rfl, S2, rfl, E, R⟩) _ 0 S' _ _ _ (Nat.zero_add _) E R
end FR
