/-! class and reference stand for one state: reads -/
def mA (n : Nat) (Le Te Va : Nat → Int32) (num : Nat) (NS : Nat → Nat → Int32) (S : mT) : Prop :=
  mN n S ∧ vok n Va ∧ S.2.2 4 = Va ∧ (∀ b, b < n → (S.2.2 2 b = Le b ∧ S.2.2 3 b = Te b) ∧ 1 ≤ (Le b).toInt ∧ (Le b).toInt ≤ 32 ∧ 1 ≤ (Te b).toInt ∧ (Te b).toInt ≤ 1000) ∧ (∀ i, i < 10 → S.2.2 1 i = msF i) ∧ (∃ σ, mB n num NS σ S) ∧ ∀ p, ffo (ctp NS p) 0 0 num = ffo (ctp (MS S) p) 0 0 num
section BR
variable {n num : Nat} {Le Te Va : Nat → Int32} {NS : Nat → Nat → Int32} {S S' : mT}
theorem mA.e2 (h : mA n Le Te Va num NS S) (e : mE2 S S') : mA n Le Te Va num NS S' := by
  obtain ⟨h1, h2, h3, h4, h5, ⟨σ, h6⟩, h7⟩ := h
  refine ⟨⟨e.1.trans h1.1, h1.2⟩, h2, (e.2.2 4 (by omega)).trans h3, ?_, ?_, ⟨σ, h6.e2 e⟩, fun p => (h7 p).trans (ffo_c _ _ _ (fun x j _ _ => ?_))⟩
  · rw [e.2.2 2 (by omega), e.2.2 3 (by omega)]; exact h4
  · rw [e.2.2 1 (by omega)]; exact h5
  · unfold ctp
    rw [e.ms (show 0 < 6 by omega)]
theorem pgl_c {L L' : Nat → Int32} (h : ∀ b, b < n → L b = L' b) : pgl n L = pgl n L' := by
  funext b
  unfold pgl
  by_cases z : 0 ≤ b.toInt ∧ b.toInt < n
  · rw [if_pos z, if_pos z, h _ (by omega)]
  · rw [if_neg z, if_neg z]
theorem mA.L (h : mA n Le Te Va num NS S) : pgl n (S.2.2 2) = pgl n Le := pgl_c (fun b hb => (h.2.2.2.1 b hb).1.1)
theorem mA.T (h : mA n Le Te Va num NS S) : pgl n (S.2.2 3) = pgl n Te := pgl_c (fun b hb => (h.2.2.2.1 b hb).1.2)
theorem mA.tks (h : mA n Le Te Va num NS S) (f : Nat → Int32) : tks n (S.2.2 2) (S.2.2 3) f = tks n Le Te f := by
  funext x j
  unfold _root_.Jvm.Pilot.CScoreRoadsLaw_law_r1126_624f06.tks tkf
  rw [h.L, h.T]
theorem sgo_L {L L' f : Nat → Int32} {N i k : Nat} (h : pgl n L = pgl n L') : sgo n L N f num NS i k = sgo n L' N f num NS i k := by
  unfold sgo
  rw [h]
theorem sdc_L {L L' : Nat → Int32} {p : Int32} (h : pgl n L = pgl n L') : sdc n L Va num NS p = sdc n L' Va num NS p := by
  unfold sdc sds
  have : sok n L (pN n Va) (wf n Va) num NS p = sok n L' (pN n Va) (wf n Va) num NS p := by
    funext i k
    unfold sok
    rw [sgo_L h]
  rw [this]
theorem snx_L {L L' f : Nat → Int32} {N k i : Nat} (h : pgl n L = pgl n L') : snx n L N f num NS k i = snx n L' N f num NS k i := by
  unfold snx
  rw [h]
theorem slf_L {L L' T T' f : Nat → Int32} {N : Nat} {t : Bool} (h : pgl n L = pgl n L') (h2 : pgl n T = pgl n T') : ∀ (m i : Nat) (x : Int64) (k : Option Nat), slf n L T N f num NS t x k i m = slf n L' T' N f num NS t x k i m := by
  intro m
  induction m with
  | zero => intro i x k; cases k <;> rfl
  | succ m ih =>
    intro i x k
    cases k with
    | none => rfl
    | some c =>
      show slf n L T N f num NS t (x + slw n T NS t c) (snx n L N f num NS c i) (i + 1) m = slf n L' T' N f num NS t (x + slw n T' NS t c) (snx n L' N f num NS c i) (i + 1) m
      rw [snx_L h, ih]
      unfold slw
      rw [h2]
theorem mA.rs (h : mA n Le Te Va num NS S) (p : Int32) : rsB (MS S) num p = rsB NS num p := by
  obtain ⟨-, -, -, -, -, ⟨σ, B⟩, -⟩ := h
  funext b
  unfold rsB
  rw [some_rel B.2.1 (T := fun N => decide (N 0 = p ∧ N 1 = nI b)) (fun A C z => by
    show decide _ = decide _
    rw [z 0 (by omega), z 1 (by omega)])]
theorem mA.go (h : mA n Le Te Va num NS S) (p : Int32) : goB n (S.2.2 2) (S.2.2 4) (MS S) num p = goB n Le Va NS num p := by
  funext b
  unfold goB
  rw [h.rs p, h.L, h.2.2.1]
/-- a bar too short for a note -/
theorem nei_lt {b l : Int32} : ∀ (m i : Nat) (e : Int32), l < ffo (fun (e : Int32) i => if NS i 1 = b then (if e < NS i 2 + NS i 3 then NS i 2 + NS i 3 else e) else e) e i m ↔ (l < e ∨ ∃ j, i ≤ j ∧ j < i + m ∧ NS j 1 = b ∧ l < NS j 2 + NS j 3) := by
  intro m
  induction m with
  | zero => exact fun i e => ⟨Or.inl, fun z => z.elim id (fun ⟨j, h1, h2, _⟩ => by omega)⟩
  | succ m ih =>
    intro i e
    show l < ffo _ (if NS i 1 = b then (if e < NS i 2 + NS i 3 then NS i 2 + NS i 3 else e) else e) (i + 1) m ↔ _
    rw [ih]
    have step : (l < (if NS i 1 = b then (if e < NS i 2 + NS i 3 then NS i 2 + NS i 3 else e) else e)) ↔ (l < e ∨ (NS i 1 = b ∧ l < NS i 2 + NS i 3)) := by
      by_cases c : NS i 1 = b
      · rw [if_pos c]
        by_cases c2 : e < NS i 2 + NS i 3
        · rw [if_pos c2]
          exact ⟨fun z => Or.inr ⟨c, z⟩, fun z => z.elim (fun y => Int32.lt_trans y c2) (fun y => y.2)⟩
        · rw [if_neg c2]
          refine ⟨Or.inl, fun z => z.elim id (fun y => ?_)⟩
          have y2 := y.2
          rw [i_lt] at c2 y2 ⊢
          omega
      · rw [if_neg c]
        exact ⟨Or.inl, fun z => z.elim id (fun y => absurd y.1 c)⟩
    rw [step]
    constructor
    · rintro ((z | z) | ⟨j, h1, h2, h3⟩)
      · exact Or.inl z
      · exact Or.inr ⟨i, by omega, by omega, z⟩
      · exact Or.inr ⟨j, by omega, by omega, h3⟩
    · rintro (z | ⟨j, h1, h2, h3⟩)
      · exact Or.inl (Or.inl z)
      · by_cases e9 : j = i
        · subst e9; exact Or.inl (Or.inr h3)
        · exact Or.inr ⟨j, by omega, by omega, h3⟩
theorem mA.bad (h : mA n Le Te Va num NS S) {b l : Int32} (hl : ¬ l < 0) : l < nei NS num b ↔ (fix (fun k => decide (MS S k 1 = b ∧ l < MS S k 2 + MS S k 3)) 0 num).isSome = true := by
  obtain ⟨-, -, -, -, -, ⟨σ, B⟩, -⟩ := h
  unfold nei
  rw [nei_lt, some_rel B.2.1 (T := fun N => decide (N 1 = b ∧ l < N 2 + N 3)) (fun A C z => by
    show decide _ = decide _
    rw [z 1 (by omega), z 2 (by omega), z 3 (by omega)]), fix_iff]
  constructor
  · rintro (z | ⟨j, h1, h2, h3⟩)
    · exact absurd z hl
    · exact ⟨j, h1, h2, decide_eq_true h3⟩
  · rintro ⟨j, h1, h2, h3⟩
    exact Or.inr ⟨j, h1, h2, of_decide_eq_true h3⟩
theorem mA.twin (h : mA n Le Te Va num NS S) {p b s t : Int32} : (fix (fun i => decide (MS S i 0 = p ∧ MS S i 1 = b ∧ MS S i 2 = s ∧ MS S i 4 = t)) 0 num).isSome = (fix (fun i => decide (NS i 0 = p ∧ NS i 1 = b ∧ NS i 2 = s ∧ NS i 4 = t)) 0 num).isSome := by
  obtain ⟨-, -, -, -, -, ⟨σ, B⟩, -⟩ := h
  exact some_rel B.2.1 (T := fun N => decide (N 0 = p ∧ N 1 = b ∧ N 2 = s ∧ N 4 = t)) (fun A C z => by
    show decide _ = decide _
    rw [z 0 (by omega), z 1 (by omega), z 2 (by omega), z 4 (by omega)])
theorem mA.ncs (h : mA n Le Te Va num NS S) {p st : Int32} : (fix (fun i => decide (MS S i 0 = p ∧ ((MS S i 4).toInt64 + st.toInt64 < 0 ∨ 127 < (MS S i 4).toInt64 + st.toInt64))) 0 num).isSome = true ↔ _root_.Jvm.Pilot.CScoreRoadsLaw_law_r1126_624f06.ncs NS num p st := by
  obtain ⟨-, -, -, -, -, ⟨σ, B⟩, -⟩ := h
  unfold _root_.Jvm.Pilot.CScoreRoadsLaw_law_r1126_624f06.ncs
  rw [some_rel B.2.1 (T := fun N => decide (N 0 = p ∧ ((N 4).toInt64 + st.toInt64 < 0 ∨ 127 < (N 4).toInt64 + st.toInt64))) (fun A C z => by
    show decide _ = decide _
    rw [z 0 (by omega), z 4 (by omega)])]
/-! the bar that sounds at a tick -/
theorem tkf_i {b : Nat} {x y : Int32} (hx : 1 ≤ x.toInt) (hx2 : x.toInt ≤ 32) (hy : 1 ≤ y.toInt) (hy2 : y.toInt ≤ 1000) : 1 ≤ (x.toInt64 * y.toInt64).toInt ∧ (x.toInt64 * y.toInt64).toInt ≤ 32000 := by
  have h1 : 1 * 1 ≤ x.toInt * y.toInt := Int.mul_le_mul hx hy (by omega) (by omega)
  have h2 : x.toInt * y.toInt ≤ 32 * 1000 := Int.mul_le_mul hx2 hy2 (by omega) (by omega)
  rw [Int64.toInt_mul, Int32.toInt_toInt64, Int32.toInt_toInt64, Int.bmod_eq_of_le (by omega) (by omega)]
  omega
theorem tb_i {N : Nat} {fb : Nat → Nat} (hL : ∀ b, b < n → 1 ≤ (Le b).toInt ∧ (Le b).toInt ≤ 32 ∧ 1 ≤ (Te b).toInt ∧ (Te b).toInt ≤ 1000) (hn : n ≤ 20) (hf : ∀ j, j < N → fb j < n) (hN : N ≤ 240) : ∀ i, i ≤ N → 0 ≤ (ffo (tks n Le Te (fun j => nI (fb j))) 0 0 i).toInt ∧ (ffo (tks n Le Te (fun j => nI (fb j))) 0 0 i).toInt ≤ 32000 * i ∧ (i < N → (ffo (tks n Le Te (fun j => nI (fb j))) 0 0 i).toInt < (ffo (tks n Le Te (fun j => nI (fb j))) 0 0 (i + 1)).toInt) := by
  have st : ∀ i, i < N → 0 ≤ (ffo (tks n Le Te (fun j => nI (fb j))) 0 0 i).toInt → (ffo (tks n Le Te (fun j => nI (fb j))) 0 0 i).toInt ≤ 32000 * i → (ffo (tks n Le Te (fun j => nI (fb j))) 0 0 i).toInt < (ffo (tks n Le Te (fun j => nI (fb j))) 0 0 (i + 1)).toInt ∧ (ffo (tks n Le Te (fun j => nI (fb j))) 0 0 (i + 1)).toInt ≤ 32000 * (i + 1 : Nat) := by
    intro i hi h1 h2
    have hb := hL _ (hf i hi)
    rw [ffo_s]
    generalize ffo (tks n Le Te (fun j => nI (fb j))) 0 0 i = x at *
    unfold tks
    rw [tkf_nI hn (hf i hi)]
    have k := tkf_i (b := 0) hb.1 hb.2.1 hb.2.2.1 hb.2.2.2
    rw [Int64.toInt_add, Int.bmod_eq_of_le (by omega) (by omega)]
    omega
  intro i
  induction i with
  | zero =>
    intro _
    have e : (ffo (tks n Le Te (fun j => nI (fb j))) 0 0 0).toInt = 0 := by
      show (0 : Int64).toInt = 0
      decide
    exact ⟨by omega, by omega, fun z => (st 0 z (by omega) (by omega)).1⟩
  | succ i ih =>
    intro hi
    obtain ⟨h1, h2, h3⟩ := ih (by omega)
    have s1 := st i (by omega) h1 h2
    exact ⟨by omega, s1.2, fun z => (st (i + 1) z (by omega) s1.2).1⟩
theorem l_lt {a b : Int64} : a < b ↔ a.toInt < b.toInt := Int64.lt_iff_toInt_lt
theorem at_rel {N : Nat} {fb : Nat → Nat} (hL : ∀ b, b < n → 1 ≤ (Le b).toInt ∧ (Le b).toInt ≤ 32 ∧ 1 ≤ (Te b).toInt ∧ (Te b).toInt ≤ 1000) (hn : n ≤ 20) (hf : ∀ j, j < N → fb j < n) (hN : N ≤ 240) (t : Int64) : Int32.ofInt (lwf (fun i => decide (¬ t < ffo (tks n Le Te (fun j => nI (fb j))) 0 0 i ∧ t < ffo (tks n Le Te (fun j => nI (fb j))) 0 0 (i + 1))) 0 N) = if t < 0 then -1 else iaf n Le Te (fun j => nI (fb j)) t 0 0 N := by
  have ti := tb_i hL hn hf hN
  have mono : ∀ m i, i + m ≤ N → (ffo (tks n Le Te (fun j => nI (fb j))) 0 0 i).toInt ≤ (ffo (tks n Le Te (fun j => nI (fb j))) 0 0 (i + m)).toInt := by
    intro m
    induction m with
    | zero => exact fun i _ => Int.le_refl _
    | succ m ih =>
      intro i hi
      have := ih i (by omega)
      have := (ti (i + m) (by omega)).2.2 (by omega)
      rw [← Nat.add_assoc]
      omega
  rw [lwf_fix (fun i j hi hj z1 z2 => by
    have z1 := of_decide_eq_true z1
    have z2 := of_decide_eq_true z2
    rw [l_lt, l_lt] at z1 z2
    by_cases c : i < j
    · have := mono (j - (i + 1)) (i + 1) (by omega)
      rw [show i + 1 + (j - (i + 1)) = j by omega] at this
      omega
    · by_cases c2 : j < i
      · have := mono (i - (j + 1)) (j + 1) (by omega)
        rw [show j + 1 + (i - (j + 1)) = i by omega] at this
        omega
      · omega)]
  by_cases c : t < 0
  · rw [if_pos c, fix_0 (fun j hj => decide_eq_false (fun z => z.1 (by
      have := (ti j (by omega)).1
      rw [l_lt, show (0 : Int64).toInt = 0 from by decide] at c
      rw [l_lt]; omega)))]
    rfl
  · rw [if_neg c]
    have key : ∀ m i, i + m = N → ¬ t < ffo (tks n Le Te (fun j => nI (fb j))) 0 0 i → iaf n Le Te (fun j => nI (fb j)) t (ffo (tks n Le Te (fun j => nI (fb j))) 0 0 i) i m = onx (fix (fun i => decide (¬ t < ffo (tks n Le Te (fun j => nI (fb j))) 0 0 i ∧ t < ffo (tks n Le Te (fun j => nI (fb j))) 0 0 (i + 1))) i m) := by
      intro m
      induction m with
      | zero => exact fun i _ _ => rfl
      | succ m ih =>
        intro i hi hb
        have es : ffo (tks n Le Te (fun j => nI (fb j))) 0 0 (i + 1) = ffo (tks n Le Te (fun j => nI (fb j))) 0 0 i + tkf n Le Te (nI (fb i)) := ffo_s
        show (if t < ffo (tks n Le Te (fun j => nI (fb j))) 0 0 i + tkf n Le Te (nI (fb i)) then nI i else iaf n Le Te (fun j => nI (fb j)) t (ffo (tks n Le Te (fun j => nI (fb j))) 0 0 i + tkf n Le Te (nI (fb i))) (i + 1) m) = _
        rw [← es]
        by_cases c1 : t < ffo (tks n Le Te (fun j => nI (fb j))) 0 0 (i + 1)
        · rw [if_pos c1, fix_yes (Pr := fun i => decide (¬ t < ffo (tks n Le Te (fun j => nI (fb j))) 0 0 i ∧ t < ffo (tks n Le Te (fun j => nI (fb j))) 0 0 (i + 1))) (decide_eq_true ⟨hb, c1⟩)]
          rfl
        · rw [if_neg c1, fix_no (Pr := fun i => decide (¬ t < ffo (tks n Le Te (fun j => nI (fb j))) 0 0 i ∧ t < ffo (tks n Le Te (fun j => nI (fb j))) 0 0 (i + 1))) (decide_eq_false (fun z => c1 z.2))]
          exact ih (i + 1) (by omega) c1
    exact (key N 0 (by omega) c).symm
end BR
