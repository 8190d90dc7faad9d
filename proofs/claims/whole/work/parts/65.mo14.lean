/-! notes of class and reference; the reference's follow -/
/-- the class's row is the reference's, in another order -/
def nRel (num : Nat) (NS Mf : Nat → Nat → Int32) (σ : Nat → Nat) : Prop := (∀ c, c < num → σ c < num ∧ ∀ t, t < 6 → NS c t = Mf (σ c) t) ∧ (∀ q, q < num → ∃ c, c < num ∧ σ c = q) ∧ (∀ c c', c < num → c' < num → σ c = σ c' → c = c')
def nSo (num : Nat) (NS : Nat → Nat → Int32) : Prop := ∀ c c', c < c' → c' < num → nbh (NS c') (NS c)
def nOk (n num : Nat) (Le : Nat → Int32) (NS : Nat → Nat → Int32) : Prop := ∀ c, c < num → (∃ b, b < n ∧ NS c 1 = nI b ∧ (NS c 2).toInt + (NS c 3).toInt ≤ (Le b).toInt ∧ (Le b).toInt ≤ 32) ∧ 0 ≤ (NS c 2).toInt ∧ 1 ≤ (NS c 3).toInt ∧ 0 ≤ (NS c 4).toInt ∧ (NS c 4).toInt ≤ 127
theorem nbh_ne {N N2 : Nat → Int32} (h : nbh N N2) (h0 : N 0 = N2 0) (h1 : N 1 = N2 1) : N2 2 < N 2 ∨ (N2 2 = N 2 ∧ N2 4 < N 4) := by
  unfold nbh at h
  rw [if_neg (fun z => z h0), if_neg (fun z => z h1)] at h
  by_cases c : N 2 ≠ N2 2
  · rw [if_pos c] at h; exact Or.inl h
  · rw [if_neg c] at h; exact Or.inr ⟨(Decidable.not_not.mp c).symm, h⟩
theorem nky_i {N : Nat → Int32} (h1 : 0 ≤ (N 2).toInt) (h2 : (N 2).toInt ≤ 32) (h3 : 0 ≤ (N 4).toInt) (h4 : (N 4).toInt ≤ 127) : (nky N).toInt = 128 * (N 2).toInt + (N 4).toInt := by
  have e1 : N 2 = nI (N 2).toInt.toNat := i_of (by omega) (by omega)
  have e2 : N 4 = nI (N 4).toInt.toNat := i_of (by omega) (by omega)
  have e : nky N = nI (128 * (N 2).toInt.toNat + (N 4).toInt.toNat) := by
    unfold nky
    rw [show (128 : Int32) = nI 128 from rfl]
    conv => lhs; rw [e1, e2]
    rw [pk_mul, nI_add]
  rw [e, i_n (by omega)]
  omega
theorem nOk.b {n num : Nat} {Le : Nat → Int32} {NS : Nat → Nat → Int32} (h : nOk n num Le NS) {c : Nat} (hc : c < num) : 0 ≤ (NS c 2).toInt ∧ (NS c 2).toInt ≤ 32 ∧ 0 ≤ (NS c 4).toInt ∧ (NS c 4).toInt ≤ 127 := by
  obtain ⟨⟨b, b1, b2, b3, b4⟩, h2, h3, h4, h5⟩ := h c hc
  omega
theorem nky_lt {n num : Nat} {Le : Nat → Int32} {NS : Nat → Nat → Int32} (so : nSo num NS) (ok : nOk n num Le NS) {c c' : Nat} (h : c < c') (hc' : c' < num) (h0 : NS c' 0 = NS c 0) (h1 : NS c' 1 = NS c 1) : nky (NS c) < nky (NS c') := by
  have b1 := ok.b (c := c) (by omega)
  have b2 := ok.b hc'
  rw [i_lt, nky_i b1.1 b1.2.1 b1.2.2.1 b1.2.2.2, nky_i b2.1 b2.2.1 b2.2.2.1 b2.2.2.2]
  obtain z | ⟨z1, z2⟩ := nbh_ne (so c c' h hc') h0 h1
  · rw [i_lt] at z; omega
  · rw [i_lt] at z2
    rw [z1]; omega
theorem nDi {num : Nat} {NS : Nat → Nat → Int32} (so : nSo num NS) {c c' : Nat} (hc : c < num) (hc' : c' < num) (h0 : NS c 0 = NS c' 0) (h1 : NS c 1 = NS c' 1) (h2 : NS c 2 = NS c' 2) (h4 : NS c 4 = NS c' 4) : c = c' := by
  have key : ∀ {x y : Nat}, x < y → y < num → NS x 0 = NS y 0 → NS x 1 = NS y 1 → NS x 2 = NS y 2 → NS x 4 = NS y 4 → False := by
    intro x y hxy hy e0 e1 e2 e4
    obtain z | ⟨z1, z2⟩ := nbh_ne (so x y hxy hy) e0.symm e1.symm
    · rw [e2] at z; exact Int32.lt_irrefl z
    · rw [e4] at z2; exact Int32.lt_irrefl z2
  by_cases a1 : c < c'
  · exact (key a1 hc' h0 h1 h2 h4).elim
  · by_cases a2 : c' < c
    · exact (key a2 hc h0.symm h1.symm h2.symm h4.symm).elim
    · omega
theorem nRel.key {num : Nat} {NS Mf : Nat → Nat → Int32} {σ : Nat → Nat} (R : nRel num NS Mf σ) {c : Nat} (hc : c < num) : nky (Mf (σ c)) = nky (NS c) := by
  unfold nky
  rw [(R.1 c hc).2 2 (by omega), (R.1 c hc).2 4 (by omega)]
/-- the first note with a property, class and reference -/
theorem fix_rel {num : Nat} {NS Mf : Nat → Nat → Int32} {σ : Nat → Nat} (R : nRel num NS Mf σ) {T : (Nat → Int32) → Bool} (hT : ∀ N N' : Nat → Int32, (∀ t, t < 6 → N t = N' t) → T N = T N') (uq : ∀ c c', c < num → c' < num → T (NS c) = true → T (NS c') = true → c = c') : fix (fun i => T (Mf i)) 0 num = (fix (fun i => T (NS i)) 0 num).map σ := by
  cases e : fix (fun i => T (NS i)) 0 num with
  | none =>
    refine fix_0 (fun q hq => ?_)
    obtain ⟨c, hc, rfl⟩ := R.2.1 q hq
    rw [← hT _ _ (R.1 c hc).2]
    exact fix_n e c (by omega) (by omega)
  | some c =>
    obtain ⟨-, e2, e3, e4⟩ := fix_s e
    have hc : c < num := by omega
    refine fix_at (fun q hq => ?_) ((hT _ _ (R.1 c hc).2).symm.trans e3) (R.1 c hc).1
    cases z : T (Mf q) with
    | false => rfl
    | true =>
      have hq2 := (R.1 c hc).1
      obtain ⟨c', hc', e5⟩ := R.2.1 q (by omega)
      have z2 : T (NS c') = true := by rw [hT _ _ (R.1 c' hc').2, e5]; exact z
      have := uq c c' hc hc' e3 z2
      subst this
      omega
theorem some_rel {num : Nat} {NS Mf : Nat → Nat → Int32} {σ : Nat → Nat} (R : nRel num NS Mf σ) {T : (Nat → Int32) → Bool} (hT : ∀ N N' : Nat → Int32, (∀ t, t < 6 → N t = N' t) → T N = T N') : (fix (fun i => T (Mf i)) 0 num).isSome = (fix (fun i => T (NS i)) 0 num).isSome := by
  rw [Bool.eq_iff_iff, fix_iff, fix_iff]
  constructor
  · rintro ⟨q, h1, h2, h3⟩
    obtain ⟨c, hc, rfl⟩ := R.2.1 q (by omega)
    exact ⟨c, by omega, by omega, (hT _ _ (R.1 c hc).2).trans h3⟩
  · rintro ⟨c, h1, h2, h3⟩
    have hc : c < num := by omega
    exact ⟨σ c, by omega, by have := (R.1 c hc).1; omega, (hT _ _ (R.1 c hc).2).symm.trans h3⟩
theorem lwf_fix {Pr : Nat → Bool} {m : Nat} (uq : ∀ i j, i < m → j < m → Pr i = true → Pr j = true → i = j) : Int32.ofInt (lwf Pr 0 m) = onx (fix Pr 0 m) := by
  obtain e | ⟨j, e1, e2, e3, e4⟩ := lwf_ran Pr 0 m
  · rw [e, fix_0 (fun y hy => lwf_m1.mp e y (by omega) hy)]; rfl
  · rw [e1, fix_at (fun y hy => by
      cases z : Pr y with
      | false => rfl
      | true => have := uq y j (by omega) e3 z e4; omega) e4 e3, i_ofI]; rfl
/-- candidates for the next note -/
def nca (S : mT) (p b be : Int32) (k : Nat) : Prop := MS S k 0 = p ∧ MS S k 1 = b ∧ be < nky (MS S k)
theorem nns_inv {S : mT} {p b be : Int32} {num : Nat} (hn : num ≤ 40) : ∀ i, i ≤ num → ((ffo (nns S p b be) (-1) 0 i = -1 ∧ ∀ k, k < i → ¬ nca S p b be k) ∨ ∃ k, k < i ∧ ffo (nns S p b be) (-1) 0 i = nI k ∧ nca S p b be k ∧ ∀ k', k' < i → nca S p b be k' → ¬ nky (MS S k') < nky (MS S k)) := by
  intro i
  induction i with
  | zero => exact fun _ => Or.inl ⟨rfl, fun k hk => absurd hk (Nat.not_lt_zero _)⟩
  | succ i ih =>
    intro hi
    rw [ffo_s]
    obtain ⟨e1, e2⟩ | ⟨k, k1, k2, k3, k4⟩ := ih (by omega)
    · rw [e1]
      by_cases c : nca S p b be i
      · refine Or.inr ⟨i, by omega, if_pos ⟨c, Or.inl (by decide)⟩, c, fun k' hk' c' => ?_⟩
        by_cases e : k' = i
        · subst e; exact Int32.lt_irrefl
        · exact absurd c' (e2 k' (by omega))
      · refine Or.inl ⟨if_neg (fun z => c z.1), fun k hk => ?_⟩
        by_cases e : k = i
        · subst e; exact c
        · exact e2 k (by omega)
    · rw [k2]
      have hk0 : ¬ nI k < 0 := i_nlt (by rw [i_le, i_0, i_n (by omega)]; omega)
      have hcl : (nI k).toNatClampNeg = k := i_cl (by omega)
      by_cases c : nca S p b be i ∧ nky (MS S i) < nky (MS S k)
      · refine Or.inr ⟨i, by omega, if_pos ⟨c.1, Or.inr (by rw [hcl]; exact c.2)⟩, c.1, fun k' hk' c' => ?_⟩
        by_cases e : k' = i
        · subst e; exact Int32.lt_irrefl
        · intro z
          exact k4 k' (by omega) c' (Int32.lt_trans z c.2)
      · refine Or.inr ⟨k, by omega, if_neg (fun z => z.2.elim hk0 (fun y => c ⟨z.1, by rw [hcl] at y; exact y⟩)), k3, fun k' hk' c' => ?_⟩
        by_cases e : k' = i
        · subst e; exact fun z => c ⟨c', z⟩
        · exact k4 k' (by omega) c'
/-- the reference's next note is the class's next -/
theorem nn_next {n num : Nat} {Le : Nat → Int32} {NS : Nat → Nat → Int32} {S : mT} {σ : Nat → Nat} (R : nRel num NS (MS S) σ) (so : nSo num NS) (ok : nOk n num Le NS) (hn : num ≤ 40) {p b be : Int32} {c m : Nat} (hc : c + m = num) (h1 : ∀ c', c' < c → NS c' 0 = p → NS c' 1 = b → ¬ be < nky (NS c')) (h2 : ∀ c', c ≤ c' → c' < num → NS c' 0 = p → NS c' 1 = b → be < nky (NS c')) : ffo (nns S p b be) (-1) 0 num = onx ((fix (fun c => decide (NS c 0 = p ∧ NS c 1 = b)) c m).map σ) := by
  have hca : ∀ c', c' < num → (nca S p b be (σ c') ↔ (NS c' 0 = p ∧ NS c' 1 = b ∧ be < nky (NS c'))) := by
    intro c' hc'
    unfold nca
    rw [R.key hc', ← (R.1 c' hc').2 0 (by omega), ← (R.1 c' hc').2 1 (by omega)]
  cases e : fix (fun c => decide (NS c 0 = p ∧ NS c 1 = b)) c m with
  | none =>
    have en := fix_n e
    obtain ⟨x1, x2⟩ | ⟨k, k1, k2, k3, k4⟩ := nns_inv (S := S) (p := p) (b := b) (be := be) hn num (Nat.le_refl _)
    · exact x1
    · obtain ⟨c', hc', rfl⟩ := R.2.1 k k1
      obtain ⟨y1, y2, y3⟩ := (hca c' hc').mp k3
      by_cases a1 : c' < c
      · exact absurd y3 (h1 c' a1 y1 y2)
      · exact absurd ⟨y1, y2⟩ (of_decide_eq_false (en c' (by omega) (by omega)))
  | some c0 =>
    obtain ⟨e1, e2, e3, e4⟩ := fix_s e
    have e3 : NS c0 0 = p ∧ NS c0 1 = b := of_decide_eq_true e3
    have hc0 : c0 < num := by omega
    have ca0 : nca S p b be (σ c0) := (hca c0 hc0).mpr ⟨e3.1, e3.2, h2 c0 e1 hc0 e3.1 e3.2⟩
    obtain ⟨x1, x2⟩ | ⟨k, k1, k2, k3, k4⟩ := nns_inv (S := S) (p := p) (b := b) (be := be) hn num (Nat.le_refl _)
    · exact absurd ca0 (x2 _ (R.1 c0 hc0).1)
    · rw [k2]
      show nI k = nI (σ c0)
      obtain ⟨c', hc', rfl⟩ := R.2.1 k k1
      obtain ⟨y1, y2, y3⟩ := (hca c' hc').mp k3
      have q1 : ¬ c' < c := fun a1 => absurd y3 (h1 c' a1 y1 y2)
      have q2 : ¬ c' < c0 := fun a1 => absurd ⟨y1, y2⟩ (of_decide_eq_false (e4 c' (by omega) a1))
      by_cases q3 : c0 < c'
      · have := nky_lt so ok q3 hc' (y1.trans e3.1.symm) (y2.trans e3.2.symm)
        have k5 := k4 (σ c0) (R.1 c0 hc0).1 ca0
        rw [R.key hc0, R.key hc'] at k5
        exact absurd this k5
      · rw [show c' = c0 by omega]
section MFO
variable {V : rx_V} {d kc ks : Nat} {h h1 h2 : List va_E} {a n num N : Nat} {S S0 : mT} {Q : rx_R → List va_E → Prop}
def mDi (num : Nat) (S : mT) : Prop := ∀ i j, i < num → j < num → MS S i 0 = MS S j 0 → MS S i 1 = MS S j 1 → MS S i 2 = MS S j 2 → MS S i 4 = MS S j 4 → i = j
theorem brf_o {f : Nat → Int32} {N j : Nat} (hN : N ≤ 1000) (h : N ≤ j) (hj : j ≤ 1000) : brf N f (nI j) = -1 := by
  unfold brf
  rw [i_n (by omega), if_neg (by omega)]
theorem sS_27 {S : mT} {x y z : Int64} : sL (sL S 27 x) 28 y = (S.1, up (up S.2.1 27 x) 28 y, S.2.2) := rfl
theorem sL_u {S : mT} {x y x' : Int64} : sL (sL (sL S 27 x) 28 y) 27 x' = sL (sL S 27 x') 28 y := by
  unfold sL
  have : up (up (up S.2.1 27 x) 28 y) 27 x' = up (up S.2.1 27 x') 28 y := by
    funext j
    by_cases e : j = 27
    · subst e; rw [up_s, up_o (by decide), up_s]
    · by_cases e2 : j = 28
      · subst e2; rw [up_o (by decide), up_s, up_s]
      · rw [up_o e, up_o e2, up_o e, up_o e2, up_o e]
  show (S.1, up (up (up S.2.1 27 x) 28 y) 27 x', S.2.2) = _
  rw [this]
theorem sL_v {S : mT} {x y y' : Int64} : sL (sL (sL S 27 x) 28 y) 28 y' = sL (sL S 27 x) 28 y' := by
  unfold sL
  have : up (up (up S.2.1 27 x) 28 y) 28 y' = up (up S.2.1 27 x) 28 y' := by
    funext j
    by_cases e2 : j = 28
    · subst e2; rw [up_s, up_s]
    · rw [up_o e2, up_o e2, up_o e2]
  show (S.1, up (up (up S.2.1 27 x) 28 y) 28 y', S.2.2) = _
  rw [this]
theorem l_follow (ha : a = V.2.1 + h1.length) (q : mQ n num S) (D : mDi num S) (h24 : S.1 24 = nI N) {fb : Nat → Nat} (hf : ∀ j, j < N → S.2.2 16 j = nI (fb j) ∧ fb j < n) (hN4 : N ≤ 240) {m0 i0 : Nat} (hm0 : m0 < num) {x1 y1 : Int64} :
    ∀ (m j : Nat) (kk : Option Nat) (x y : Int64), j + m = N → (∀ k, kk = some k → k < num ∧ MS S k 0 = MS S m0 0 ∧ MS S k 4 = MS S m0 4 ∧ j < N) → x1 = (slf n (S.2.2 2) (S.2.2 3) N (fun j => nI (fb j)) num (MS S) false x kk j m) → y1 = (slf n (S.2.2 2) (S.2.2 3) N (fun j => nI (fb j)) num (MS S) true y kk j m) → rx_W V (d + 1) kc ks m_Mo_follow 45 [some (.ref a), some (.int (nI m0)), some (.int (nI i0)), some (.int (onx kk)), some (.int (nI j))] [] (mw V h1 a (sL (sL S 27 x) 28 y) h2) (rx_X (.inl none) (mw V h1 a (sL (sL S 27 x1) 28 y1) h2)) := by
  have hq := q.2
  have q9 : ∀ x y, mQ n num (sL (sL S 27 x) 28 y) := fun _ _ => q
  intro m
  induction m with
  | zero =>
    intro j kk x y hj hk hx hy
    cases kk with
    | some k => have := (hk k rfl).2.2.2; omega
    | none =>
      subst hx
      subst hy
      refine rx_iload_n d_Mo_follow_45 (by rfl) ?_
      refine rx_if_lt (tgt := 145) d_Mo_follow_46 (by rfl) (fun c46 => ?_) (fun z => absurd (show onx none < 0 by decide) z)
      refine rx_vreturn d_Mo_follow_145 (by rfl) ?_
      exact ⟨rfl, rfl⟩
  | succ m ih =>
    intro j kk x y hj hk hx hy
    cases kk with
    | none =>
      subst hx
      subst hy
      refine rx_iload_n d_Mo_follow_45 (by rfl) ?_
      refine rx_if_lt (tgt := 145) d_Mo_follow_46 (by rfl) (fun c46 => ?_) (fun z => absurd (show onx none < 0 by decide) z)
      refine rx_vreturn d_Mo_follow_145 (by rfl) ?_
      exact ⟨rfl, rfl⟩
    | some k =>
      obtain ⟨k1, k2, k3, k4⟩ := hk k rfl
      obtain ⟨b, hb9, eb⟩ := q.2.2.2 k k1
      have ew0 : slw n (S.2.2 3) (MS S) false k = (S.2.2 8 k).toInt64 := by
        show (S.2.2 8 k).toInt64 * (1 : Int32).toInt64 = _
        rw [show (1 : Int32).toInt64 = 1 from by decide, Int64.mul_one]
      have ew1 : slw n (S.2.2 3) (MS S) true k = (S.2.2 8 k).toInt64 * (S.2.2 3 b).toInt64 := by
        show (S.2.2 8 k).toInt64 * (pgl n (S.2.2 3) (S.2.2 6 k)).toInt64 = _
        rw [eb, pgl_nI (by omega) hb9]
      have ex : x1 = (slf n (S.2.2 2) (S.2.2 3) N (fun j => nI (fb j)) num (MS S) false (x + slw n (S.2.2 3) (MS S) false k) (snx n (S.2.2 2) N (fun j => nI (fb j)) num (MS S) k j) (j + 1) m) := hx
      have ey : y1 = (slf n (S.2.2 2) (S.2.2 3) N (fun j => nI (fb j)) num (MS S) true (y + slw n (S.2.2 3) (MS S) true k) (snx n (S.2.2 2) N (fun j => nI (fb j)) num (MS S) k j) (j + 1) m) := hy
      rw [ew0] at ex
      rw [ew1] at ey
      have esn : rcB n (S.2.2 2) (MS S k) = true → snx n (S.2.2 2) N (fun j => nI (fb j)) num (MS S) k j = fix (fun i => decide (MS S i 0 = MS S k 0 ∧ MS S i 1 = brf N (fun j => nI (fb j)) (nI j + 1) ∧ MS S i 2 = 0 ∧ MS S i 4 = MS S k 4)) 0 num := fun z => if_pos (of_decide_eq_true z)
      have esn0 : rcB n (S.2.2 2) (MS S k) = false → snx n (S.2.2 2) N (fun j => nI (fb j)) num (MS S) k j = none := fun z => if_neg (of_decide_eq_false z)
      have lst9 : snx n (S.2.2 2) N (fun j => nI (fb j)) num (MS S) k j = none → rx_W V (d + 1) kc ks m_Mo_follow 45 [some (.ref a), some (.int (nI m0)), some (.int (nI i0)), some (.int (-1)), some (.int (nI (j + 1)))] [] (mw V h1 a (sL (sL S 27 (x + (S.2.2 8 k).toInt64)) 28 (y + (S.2.2 8 k).toInt64 * (S.2.2 3 b).toInt64)) h2) (rx_X (.inl none) (mw V h1 a (sL (sL S 27 x1) 28 y1) h2)) := by
        intro z
        rw [z] at ex ey
        exact ih (j + 1) none _ _ (by omega) (fun k z => nomatch z) ex ey
      refine rx_iload_n d_Mo_follow_45 (by rfl) ?_
      rw [show onx (some k) = nI k from rfl]
      refine rx_if_lt (tgt := 145) d_Mo_follow_46 (by rfl) (fun z => absurd z (i_nlt (by rw [i_le, i_0, i_n (by omega)]; omega))) (fun c46 => ?_)
      refine rx_aload_nr d_Mo_follow_49 (by rfl) ?_
      refine rx_aload_nr d_Mo_follow_50 (by rfl) ?_
      refine rx_getfield d_Mo_follow_51 fl_Mo_200 (mr0 ha) (by rfl) ?_
      refine rx_aload_nr d_Mo_follow_54 (by rfl) ?_
      refine rx_getfield d_Mo_follow_55 fl_Mo_31 (mr0 ha) (by rfl) ?_
      refine rx_iload_n d_Mo_follow_58 (by rfl) ?_
      refine m_ial (j := 8) ha d_Mo_follow_59 (by rfl) (by omega) (by decide) ?_
      refine rx_i2l d_Mo_follow_60 ?_
      refine rx_ladd d_Mo_follow_61 ?_
      show rx_W _ _ _ _ _ _ _ (.long (x + (S.2.2 8 k).toInt64) :: _) _ _
      refine m_putL (k9 := 27) ha d_Mo_follow_62 (fw_Mo_200 rfl) (by rfl) (by rfl) (by rfl) ?_
      rw [sL_u]
      refine rx_aload_nr d_Mo_follow_65 (by rfl) ?_
      refine rx_aload_nr d_Mo_follow_66 (by rfl) ?_
      refine rx_getfield d_Mo_follow_67 fl_Mo_203 (mr0 ha) (by rfl) ?_
      refine rx_aload_nr d_Mo_follow_70 (by rfl) ?_
      refine rx_getfield d_Mo_follow_71 fl_Mo_31 (mr0 ha) (by rfl) ?_
      refine rx_iload_n d_Mo_follow_74 (by rfl) ?_
      refine m_ial (j := 8) ha d_Mo_follow_75 (by rfl) (by omega) (by decide) ?_
      refine rx_i2l d_Mo_follow_76 ?_
      refine rx_aload_nr d_Mo_follow_77 (by rfl) ?_
      refine rx_getfield d_Mo_follow_78 fl_Mo_16 (mr0 ha) (by rfl) ?_
      refine rx_aload_nr d_Mo_follow_81 (by rfl) ?_
      refine rx_getfield d_Mo_follow_82 fl_Mo_25 (mr0 ha) (by rfl) ?_
      refine rx_iload_n d_Mo_follow_85 (by rfl) ?_
      refine m_ial (j := 6) ha d_Mo_follow_86 (by rfl) (by omega) (by decide) ?_
      rw [show ∀ x y, (sL (sL S 27 x) 28 y).2.2 6 k = nI b from fun _ _ => eb]
      refine m_ial (j := 3) ha d_Mo_follow_87 (by rfl) (by omega) (by decide) ?_
      refine rx_i2l d_Mo_follow_88 ?_
      refine rx_lmul d_Mo_follow_89 ?_
      refine rx_ladd d_Mo_follow_90 ?_
      show rx_W _ _ _ _ _ _ _ (.long (y + (S.2.2 8 k).toInt64 * (S.2.2 3 b).toInt64) :: _) _ _
      refine m_putL (k9 := 28) ha d_Mo_follow_91 (fw_Mo_203 rfl) (by rfl) (by rfl) (by rfl) ?_
      rw [sL_v]
      refine rx_iinc (v := nI (j + 1)) d_Mo_follow_94 (by rfl) (i_inc j) ?_
      refine rx_aload_nr d_Mo_follow_97 (by rfl) ?_
      refine rx_iload_n d_Mo_follow_98 (by rfl) ?_
      refine rx_cV d_Mo_follow_99 (by rfl) ml_Mo_193 im_Mo_reaches se_Mo_reaches (by exact c9_Mo_reaches) (mr0 ha) (by rfl) (by exact Nat.le_of_ble_eq_true rfl) (k_reaches ha (q9 _ _) (k := k) (by omega)) ?_
      refine rx_if_eq (tgt := 140) d_Mo_follow_102 (by rfl) (fun c102 => ?_) (fun c102 => ?_)
      · have c102 : rcB n (S.2.2 2) (MS S k) = false := bi_0.mp c102
        refine rx_iconst (v := -1) d_Mo_follow_140 (by decide) ?_
        refine rx_istore_n d_Mo_follow_141 (Nat.le_of_ble_eq_true rfl) ?_
        refine rx_goto (tgt := 45) d_Mo_follow_142 (by rfl) ?_
        first
          | exact lst9 (esn0 c102)
          | exact lst9 hnone
          | exact ih (j + 1) _ _ _ (by omega) hk2 ex ey
      · have c102 : rcB n (S.2.2 2) (MS S k) = true := bi_1.mp c102
        refine rx_iload d_Mo_follow_105 (by rfl) ?_
        refine rx_aload_nr d_Mo_follow_107 (by rfl) ?_
        refine rx_getfield d_Mo_follow_108 fl_Mo_159 (mr0 ha) (by rfl) ?_
        rw [show ∀ x y, (sL (sL S 27 x) 28 y).1 24 = nI N from fun _ _ => h24]
        refine rx_icmp_ge (tgt := 140) d_Mo_follow_111 (by rfl) (fun c111 => ?_) (fun c111 => ?_)
        · have c111 : j + 1 = N := by rw [i_le, i_n (by omega), i_n (by omega)] at c111; omega
          have hnone : snx n (S.2.2 2) N (fun j => nI (fb j)) num (MS S) k j = none := by
            rw [esn c102, nI_1, brf_o (by omega) (by omega) (by omega)]
            refine fix_0 (fun i hi => decide_eq_false (fun z => ?_))
            obtain ⟨b2, hb2, eb2⟩ := q.2.2.2 i hi
            have z1 : S.2.2 6 i = -1 := z.2.1
            rw [eb2] at z1
            exact nI_m1 (by omega) z1
          refine rx_iconst (v := -1) d_Mo_follow_140 (by decide) ?_
          refine rx_istore_n d_Mo_follow_141 (Nat.le_of_ble_eq_true rfl) ?_
          refine rx_goto (tgt := 45) d_Mo_follow_142 (by rfl) ?_
          first
            | exact lst9 (esn0 c102)
            | exact lst9 hnone
            | exact ih (j + 1) _ _ _ (by omega) hk2 ex ey
        · have c111 : j + 1 < N := by rw [i_le, i_n (by omega), i_n (by omega)] at c111; omega
          have hop : Int32.ofInt (lwf (fun i => decide (MS S i 0 = MS S m0 0 ∧ MS S i 1 = nI (fb (j + 1)) ∧ MS S i 2 = 0 ∧ MS S i 4 = MS S m0 4)) 0 num) = onx (snx n (S.2.2 2) N (fun j => nI (fb j)) num (MS S) k j) := by
            rw [esn c102, nI_1, brf_n (by omega) c111, k2, k3]
            exact lwf_fix (fun i j hi hj z1 z2 => by
              have z1 := of_decide_eq_true z1
              have z2 := of_decide_eq_true z2
              exact D i j hi hj (z1.1.trans z2.1.symm) (z1.2.1.trans z2.2.1.symm) (z1.2.2.1.trans z2.2.2.1.symm) (z1.2.2.2.trans z2.2.2.2.symm))
          have hk2 : ∀ k', snx n (S.2.2 2) N (fun j => nI (fb j)) num (MS S) k j = some k' → k' < num ∧ MS S k' 0 = MS S m0 0 ∧ MS S k' 4 = MS S m0 4 ∧ j + 1 < N := by
            intro k' z
            rw [esn c102] at z
            obtain ⟨-, z2, z3, -⟩ := fix_s z
            have z3 := of_decide_eq_true z3
            exact ⟨by omega, z3.1.trans k2, z3.2.2.2.trans k3, c111⟩
          refine rx_aload_nr d_Mo_follow_114 (by rfl) ?_
          refine rx_aload_nr d_Mo_follow_115 (by rfl) ?_
          refine rx_getfield d_Mo_follow_116 fl_Mo_22 (mr0 ha) (by rfl) ?_
          refine rx_iload_n d_Mo_follow_119 (by rfl) ?_
          refine m_ial (j := 5) ha d_Mo_follow_120 (by rfl) (by omega) (by decide) ?_
          refine rx_aload_nr d_Mo_follow_121 (by rfl) ?_
          refine rx_getfield d_Mo_follow_122 fl_Mo_56 (mr0 ha) (by rfl) ?_
          refine rx_iload d_Mo_follow_125 (by rfl) ?_
          refine m_ial (j := 16) ha d_Mo_follow_127 (by rfl) (by omega) (by decide) ?_
          rw [show ∀ x y, (sL (sL S 27 x) 28 y).2.2 16 (j + 1) = nI (fb (j + 1)) from fun _ _ => (hf (j + 1) c111).1]
          refine rx_aload_nr d_Mo_follow_128 (by rfl) ?_
          refine rx_getfield d_Mo_follow_129 fl_Mo_34 (mr0 ha) (by rfl) ?_
          refine rx_iload_n d_Mo_follow_132 (by rfl) ?_
          refine m_ial (j := 9) ha d_Mo_follow_133 (by rfl) (by omega) (by decide) ?_
          refine rx_cV d_Mo_follow_134 (by rfl) ml_Mo_206 im_Mo_opening se_Mo_opening (by exact c9_Mo_opening) (mr0 ha) (by rfl) (by exact Nat.le_of_ble_eq_true rfl) (k_opening ha (q9 _ _) (MS S m0 0) (nI (fb (j + 1))) (MS S m0 4)) ?_
          rw [show ∀ x y, (fun k => decide (MS (sL (sL S 27 x) 28 y) k 0 = MS S m0 0 ∧ MS (sL (sL S 27 x) 28 y) k 1 = nI (fb (j + 1)) ∧ MS (sL (sL S 27 x) 28 y) k 2 = 0 ∧ MS (sL (sL S 27 x) 28 y) k 4 = MS S m0 4)) = (fun k => decide (MS S k 0 = MS S m0 0 ∧ MS S k 1 = nI (fb (j + 1)) ∧ MS S k 2 = 0 ∧ MS S k 4 = MS S m0 4)) from fun _ _ => rfl, hop]
          refine rx_goto (tgt := 141) d_Mo_follow_137 (by rfl) ?_
          refine rx_istore_n d_Mo_follow_141 (Nat.le_of_ble_eq_true rfl) ?_
          refine rx_goto (tgt := 45) d_Mo_follow_142 (by rfl) ?_
          first
            | exact lst9 (esn0 c102)
            | exact lst9 hnone
            | exact ih (j + 1) _ _ _ (by omega) hk2 ex ey
theorem k_follow (ha : a = V.2.1 + h1.length) (q : mQ n num S) (D : mDi num S) (h24 : S.1 24 = nI N) {fb : Nat → Nat} (hf : ∀ j, j < N → S.2.2 16 j = nI (fb j) ∧ fb j < n) (hN4 : N ≤ 240) {m0 i0 : Nat} (hm0 : m0 < num) (hi0 : i0 < N) :
    rx_C V (d + 1) kc ks m_Mo_follow [.ref a, .int (nI m0), .int (nI i0)] (mw V h1 a S h2) (rx_X (.inl none) (mw V h1 a (sL (sL (sL S 26 (ffo (tks n (S.2.2 2) (S.2.2 3) (fun j => nI (fb j))) 0 0 i0 + (MS S m0 2).toInt64 * (pgl n (S.2.2 3) (MS S m0 1)).toInt64)) 27 (slf n (S.2.2 2) (S.2.2 3) N (fun j => nI (fb j)) num (MS S) false 0 (some m0) i0 (N - i0))) 28 (slf n (S.2.2 2) (S.2.2 3) N (fun j => nI (fb j)) num (MS S) true 0 (some m0) i0 (N - i0))) h2)) := by
  have hq := q.2
  obtain ⟨b, hb9, eb⟩ := q.2.2.2 m0 hm0
  have et : (ffo (tks n (S.2.2 2) (S.2.2 3) (fun j => nI (fb j))) 0 0 i0 + (MS S m0 2).toInt64 * (pgl n (S.2.2 3) (MS S m0 1)).toInt64) = ffo (tks n (S.2.2 2) (S.2.2 3) (fun j => nI (fb j))) 0 0 i0 + (S.2.2 7 m0).toInt64 * (S.2.2 3 b).toInt64 := by
    show _ + (S.2.2 7 m0).toInt64 * (pgl n (S.2.2 3) (S.2.2 6 m0)).toInt64 = _
    rw [eb, pgl_nI (by omega) hb9]
  rw [et]
  refine rx_aload_nr d_Mo_follow_0 (by rfl) ?_
  refine rx_aload_nr d_Mo_follow_1 (by rfl) ?_
  refine rx_iload_n d_Mo_follow_2 (by rfl) ?_
  refine rx_cV d_Mo_follow_3 (by rfl) ml_Mo_189 im_Mo_ticksBefore se_Mo_ticksBefore (by exact c9_Mo_ticksBefore) (mr0 ha) (by rfl) (by exact Nat.le_of_ble_eq_true rfl) (k_ticksBefore ha (by omega) hf hN4 (i := i0) (by omega)) ?_
  refine rx_aload_nr d_Mo_follow_6 (by rfl) ?_
  refine rx_getfield d_Mo_follow_7 fl_Mo_28 (mr0 ha) (by rfl) ?_
  refine rx_iload_n d_Mo_follow_10 (by rfl) ?_
  refine m_ial (j := 7) ha d_Mo_follow_11 (by rfl) (by omega) (by decide) ?_
  refine rx_i2l d_Mo_follow_12 ?_
  refine rx_aload_nr d_Mo_follow_13 (by rfl) ?_
  refine rx_getfield d_Mo_follow_14 fl_Mo_16 (mr0 ha) (by rfl) ?_
  refine rx_aload_nr d_Mo_follow_17 (by rfl) ?_
  refine rx_getfield d_Mo_follow_18 fl_Mo_25 (mr0 ha) (by rfl) ?_
  refine rx_iload_n d_Mo_follow_21 (by rfl) ?_
  refine m_ial (j := 6) ha d_Mo_follow_22 (by rfl) (by omega) (by decide) ?_
  rw [eb]
  refine m_ial (j := 3) ha d_Mo_follow_23 (by rfl) (by omega) (by decide) ?_
  refine rx_i2l d_Mo_follow_24 ?_
  refine rx_lmul d_Mo_follow_25 ?_
  refine rx_ladd d_Mo_follow_26 ?_
  refine m_putL (k9 := 26) ha d_Mo_follow_27 (fw_Mo_196 rfl) (by rfl) (by rfl) (by rfl) ?_
  refine rx_aload_nr d_Mo_follow_30 (by rfl) ?_
  refine rx_lconst (v := 0) d_Mo_follow_31 (by decide) ?_
  refine m_putL (k9 := 27) ha d_Mo_follow_32 (fw_Mo_200 rfl) (by rfl) (by rfl) (by rfl) ?_
  refine rx_aload_nr d_Mo_follow_35 (by rfl) ?_
  refine rx_lconst (v := 0) d_Mo_follow_36 (by decide) ?_
  refine m_putL (k9 := 28) ha d_Mo_follow_37 (fw_Mo_203 rfl) (by rfl) (by rfl) (by rfl) ?_
  refine rx_iload_n d_Mo_follow_40 (by rfl) ?_
  refine rx_istore_n d_Mo_follow_41 (Nat.le_of_ble_eq_true rfl) ?_
  refine rx_iload_n d_Mo_follow_42 (by rfl) ?_
  refine rx_istore d_Mo_follow_43 (Nat.le_of_ble_eq_true rfl) ?_
  exact l_follow (S := sL S 26 _) ha q D h24 hf hN4 hm0 (N - i0) i0 (some m0) 0 0 (by omega) (fun k z => by cases z; exact ⟨hm0, rfl, rfl, hi0⟩) rfl rfl
end MFO
