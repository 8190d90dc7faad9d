/-! Sounding -/
theorem ne_len {c c' : ClassId} {n n' : Nat} {x y : Sum (Nat → Int32) (Sum (Nat → Int64) (Sum (Nat → UInt32) (Sum (Nat → UInt64) (Nat → Option Nat))))} (h : n ≠ n') : (.inl (c, n, x) : va_E) ≠ .inl (c', n', y) := by
  intro z
  injection z with z
  injection z with _ z
  injection z with z
  exact h z
def is_sd (V : rx_V) (h : List va_E) (a aF aI num : Nat) (kp : Int32) (fF : Nat → Option Nat) (fI : Nat → Int32) : Prop :=
  rx_rd V h a = some (.inr (6, [.ref aF, .ref aI, .int (nI num), .int kp])) ∧ rx_rd V h aF = some (.inl (V.2.2.2.1 4, 480, .inr (.inr (.inr (.inr fF))))) ∧ rx_rd V h aI = some (.inl (V.2.2.2.1 0, 480, .inl fI)) ∧ num ≤ 480
def fp_s (a aF aI : Nat) : Nat → Prop := fun q => q = a ∨ q = aF ∨ q = aI
/-- whether a note goes on with a sound at place i -/
def sgo (n : Nat) (Le : Nat → Int32) (N : Nat) (f : Nat → Int32) (num : Nat) (NS : Nat → Nat → Int32) (i k : Nat) : Bool := decide (NS k 2 = 0) && (fix (fun j => decide (NS j 0 = NS k 0 ∧ NS j 1 = brf N f (nI i - 1) ∧ NS j 4 = NS k 4 ∧ NS j 5 ≠ 0 ∧ NS j 2 + NS j 3 = pgl n Le (NS j 1))) 0 num).isSome
def sok (n : Nat) (Le : Nat → Int32) (N : Nat) (f : Nat → Int32) (num : Nat) (NS : Nat → Nat → Int32) (p : Int32) (i k : Nat) : Bool := decide (NS k 0 = p ∧ NS k 1 = brf N f (nI i)) && !(sgo n Le N f num NS i k)
def sgl (ok : Nat → Bool) (i : Nat) : Nat → Nat → List (Nat × Nat)
  | _, 0 => []
  | k, m + 1 => if ok k = true then (k, i) :: sgl ok i (k + 1) m else sgl ok i (k + 1) m
def sll (ok : Nat → Nat → Bool) (num : Nat) : Nat → Nat → List (Nat × Nat)
  | _, 0 => []
  | i, m + 1 => sgl (ok i) i 0 num ++ sll ok num (i + 1) m
/-- the sounds of a part: note and place -/
def sds (n : Nat) (Le : Nat → Int32) (N : Nat) (f : Nat → Int32) (num : Nat) (NS : Nat → Nat → Int32) (p : Int32) : List (Nat × Nat) := sll (sok n Le N f num NS p) num 0 N
/-- the cells of Sounding hold a list of sounds -/
def sdL (na : Nat → Nat) (fF : Nat → Option Nat) (fI : Nat → Int32) (L : List (Nat × Nat)) : Prop := ∀ j x, L[j]? = some x → fF j = some (na x.1) ∧ fI j = nI x.2
theorem sdL_a {na : Nat → Nat} {fF : Nat → Option Nat} {fI : Nat → Int32} {L : List (Nat × Nat)} {k i : Nat} (h : sdL na fF fI L) : sdL na (up fF L.length (some (na k))) (up fI L.length (nI i)) (L ++ [(k, i)]) := by
  intro j x hx
  by_cases c : j < L.length
  · rw [List.getElem?_append_left c] at hx
    rw [up_o (by omega), up_o (by omega)]
    exact h j x hx
  · rw [List.getElem?_append_right (by omega)] at hx
    by_cases c2 : j = L.length
    · rw [c2, Nat.sub_self] at hx
      have e : (k, i) = x := Option.some.inj hx
      rw [c2, up_s, up_s, ← e]
      exact ⟨rfl, rfl⟩
    · obtain ⟨z, hz⟩ : ∃ z, j - L.length = z + 1 := ⟨j - L.length - 1, by omega⟩
      rw [hz] at hx
      cases hx
section SD
variable {V : rx_V} {d kc ks a aF aI n al at_ av aP aN ar num aR aO N q na9 : Nat} {h h' : List va_E} {Le Te Va f : Nat → Int32} {fw : Nat → Option Nat} {na : Nat → Nat} {NS : Nat → Nat → Int32} {jm wo wy tk kp : Int32} {fF : Nat → Option Nat} {fI : Nat → Int32} {L : List (Nat × Nat)} {m9 : Nat} {FP : Nat → Prop}
theorem is_nt.fr (hN : is_nt V h aN ar num fw na NS) (hf : rx_fr V h h' FP) (h1 : ¬ FP aN) (h2 : ¬ FP ar) (h3 : ∀ i, i < num → ¬ FP (na i)) : is_nt V h' aN ar num fw na NS :=
  ⟨(hf.2 _ h1).trans hN.1, (hf.2 _ h2).trans hN.2.1, hN.2.2.1, fun i hi => (hf.2 _ (h3 i hi)).trans (hN.2.2.2.1 i hi), hN.2.2.2.2⟩
theorem is_sd.no (S : is_sd V h a aF aI m9 kp fF fI) {e : va_E} (he : rx_rd V h q = some e) (h1 : ∀ fs, e ≠ .inr (6, fs)) (h2 : ∀ c x, e ≠ .inl (c, 480, x)) : ¬ fp_s a aF aI q := by
  rintro (z | z | z)
  · exact rx_ne he S.1 (h1 _) z
  · exact rx_ne he S.2.1 (h2 _ _) z
  · exact rx_ne he S.2.2.1 (h2 _ _) z
theorem is_pg.frs (hp : is_pg V h aP n al at_ av Le Te Va) (S : is_sd V h a aF aI m9 kp fF fI) (hf : rx_fr V h h' (fp_s a aF aI)) : is_pg V h' aP n al at_ av Le Te Va := by
  have hn : n ≤ 20 := hp.2.2.2.2
  exact hp.fr hf (S.no hp.1 (fun _ z => by cases z) (fun _ _ z => by cases z)) (S.no hp.2.1 (fun _ z => by cases z) (fun _ _ => ne_len (by omega))) (S.no hp.2.2.1 (fun _ z => by cases z) (fun _ _ => ne_len (by omega))) (S.no hp.2.2.2.1 (fun _ z => by cases z) (fun _ _ => ne_len (by omega)))
theorem is_nt.frs (hN : is_nt V h aN ar num fw na NS) (S : is_sd V h a aF aI m9 kp fF fI) (hf : rx_fr V h h' (fp_s a aF aI)) : is_nt V h' aN ar num fw na NS :=
  hN.fr hf (S.no hN.1 (fun _ z => by cases z) (fun _ _ z => by cases z)) (S.no hN.2.1 (fun _ z => by cases z) (fun _ _ => ne_len (by omega))) (fun i hi => S.no (hN.2.2.2.1 i hi) (fun _ z => by cases z) (fun _ _ z => by cases z))
theorem is_rd.frs (D : is_rd V h aR aO n N jm wo wy tk f) (S : is_sd V h a aF aI m9 kp fF fI) (hf : rx_fr V h h' (fp_s a aF aI)) : is_rd V h' aR aO n N jm wo wy tk f := by
  have hn : n ≤ 20 := D.2.2.2
  exact D.fr hf (S.no D.1 (fun _ z => by cases z) (fun _ _ z => by cases z)) (S.no D.2.1 (fun _ z => by cases z) (fun _ _ => ne_len (by omega)))
theorem is_sd.ob {m' : Nat} {kp' : Int32} (S : is_sd V h a aF aI m9 kp fF fI) (hm : m' ≤ 480) : is_sd V (rx_wr V h a (.inr (6, [.ref aF, .ref aI, .int (nI m'), .int kp']))) a aF aI m' kp' fF fI :=
  ⟨rx_rd_wr S.1, (rx_rd_wn S.1 (rx_ne S.2.1 S.1 (fun z => by cases z))).trans S.2.1, (rx_rd_wn S.1 (rx_ne S.2.2.1 S.1 (fun z => by cases z))).trans S.2.2.1, hm⟩
theorem is_sd.sF {f' : Nat → Option Nat} (S : is_sd V h a aF aI m9 kp fF fI) : is_sd V (rx_wr V h aF (.inl (V.2.2.2.1 4, 480, .inr (.inr (.inr (.inr f')))))) a aF aI m9 kp f' fI :=
  ⟨(rx_rd_wn S.2.1 (rx_ne S.1 S.2.1 (fun z => by cases z))).trans S.1, rx_rd_wr S.2.1, (rx_rd_wn S.2.1 (rx_ne S.2.2.1 S.2.1 (fun z => by injection z with z; injection z with _ z; injection z with _ z; cases z))).trans S.2.2.1, S.2.2.2⟩
theorem is_sd.sI {f' : Nat → Int32} (S : is_sd V h a aF aI m9 kp fF fI) : is_sd V (rx_wr V h aI (.inl (V.2.2.2.1 0, 480, .inl f'))) a aF aI m9 kp fF f' :=
  ⟨(rx_rd_wn S.2.2.1 (rx_ne S.1 S.2.2.1 (fun z => by cases z))).trans S.1, (rx_rd_wn S.2.2.1 (rx_ne S.2.1 S.2.2.1 (fun z => by injection z with z; injection z with _ z; injection z with _ z; cases z))).trans S.2.1, rx_rd_wr S.2.2.1, S.2.2.2⟩
theorem c_forget (S : is_sd V h a aF aI m9 kp fF fI) : rx_C V d kc ks m_Sounding_forget [.ref a] h (fun r9 h' => r9 = .inl none ∧ is_sd V h' a aF aI m9 (-1) fF fI ∧ rx_fr V h h' (fp_s a aF aI)) := by
  refine rx_aload_nr d_Sounding_forget_0 (by rfl) ?_
  refine rx_iconst (v := -1) d_Sounding_forget_1 (by decide) ?_
  refine rx_putfield d_Sounding_forget_2 (fw_Sounding_21 rfl) S.1 (Nat.le_of_ble_eq_true rfl) (by rfl) (by rfl) ?_
  refine rx_vreturn d_Sounding_forget_5 (by rfl) ?_
  exact ⟨rfl, S.ob S.2.2.2, rx_fr.wr S.1 (Or.inl rfl)⟩
theorem l_gatherS (hp : is_pg V h aP n al at_ av Le Te Va) (hN : is_nt V h aN ar num fw na NS) (D : is_rd V h aR aO n N jm wo wy tk f) {kp0 : Int32} {m0 : Nat} {fF0 : Nat → Option Nat} {fI0 : Nat → Int32} (S0 : is_sd V h a aF aI m0 kp0 fF0 fI0) (p : Int32) {i : Nat} (hi : i < N) : ∀ (m k : Nat) (h1 : List va_E) (L : List (Nat × Nat)) (fF : Nat → Option Nat) (fI : Nat → Int32) (x7 : Option Value), k + m = num → (L ++ sgl (sok n Le N f num NS p i) i k m).length ≤ 480 → is_sd V h1 a aF aI L.length kp fF fI → sdL na fF fI L → rx_fr V h h1 (fp_s a aF aI) →
    rx_W V (d + 4) kc ks m_Sounding_gather 3 [some (.ref a), some (.int p), some (.int (nI i)), some (.ref aP), some (.ref aN), some (.ref aR), some (.int (nI k)), x7] [] h1 (fun r9 h' => r9 = .inl none ∧ ∃ fF' fI', is_sd V h' a aF aI (L ++ sgl (sok n Le N f num NS p i) i k m).length kp fF' fI' ∧ sdL na fF' fI' (L ++ sgl (sok n Le N f num NS p i) i k m) ∧ rx_fr V h h' (fp_s a aF aI)) := by
  have h40 : num ≤ 40 := hN.2.2.2.2
  have hN240 : N ≤ n * 12 := D.2.2.1
  have hn : n ≤ 20 := D.2.2.2
  intro m
  induction m with
  | zero =>
    intro k h1 L fF fI x7 hk hl S hL hf
    have e : k = num := by omega
    subst e
    have hN1 := hN.frs S0 hf
    rw [show L ++ sgl (sok n Le N f k NS p i) i k 0 = L from List.append_nil L]
    refine rx_iload d_Sounding_gather_3 (by rfl) ?_
    refine rx_aload_r d_Sounding_gather_5 (by rfl) ?_
    refine rx_getfield d_Sounding_gather_7 fl_Sounding_35 hN1.1 (by rfl) ?_
    refine rx_icmp_ge (tgt := 110) d_Sounding_gather_10 (by rfl) (fun c10 => ?_) (fun z => absurd (Int32.le_refl _) z)
    refine rx_vreturn d_Sounding_gather_110 (by rfl) ?_
    exact ⟨rfl, fF, fI, S, hL, hf⟩
  | succ m ih =>
    intro k h1 L fF fI x7 hk hl S hL hf
    have hp1 := hp.frs S0 hf
    have hN1 := hN.frs S0 hf
    have D1 := D.frs S0 hf
    have hlt : k < num := by omega
    have hc := hN1.2.2.2.1 k hlt
    by_cases hfull : L.length < 480
    · have no : (sok n Le N f num NS p i) k = false → rx_W V (d + 4) kc ks m_Sounding_gather 104 [some (.ref a), some (.int p), some (.int (nI i)), some (.ref aP), some (.ref aN), some (.ref aR), some (.int (nI k)), some (.ref (na k))] [] h1 (fun r9 h' => r9 = .inl none ∧ ∃ fF' fI', is_sd V h' a aF aI (L ++ sgl (sok n Le N f num NS p i) i k (m + 1)).length kp fF' fI' ∧ sdL na fF' fI' (L ++ sgl (sok n Le N f num NS p i) i k (m + 1)) ∧ rx_fr V h h' (fp_s a aF aI)) := by
        intro hok
        have e9 : sgl (sok n Le N f num NS p i) i k (m + 1) = sgl (sok n Le N f num NS p i) i (k + 1) m := if_neg (by rw [hok]; decide)
        rw [e9] at hl ⊢
        refine rx_iinc (v := nI (k + 1)) d_Sounding_gather_104 (by rfl) (i_inc k) ?_
        refine rx_goto (tgt := 3) d_Sounding_gather_107 (by rfl) ?_
        exact ih (k + 1) h1 L fF fI _ (by omega) hl S hL hf
      show rx_W V (d + 4) kc ks m_Sounding_gather 3 _ [] h1 _
      refine rx_iload d_Sounding_gather_3 (by rfl) ?_
      refine rx_aload_r d_Sounding_gather_5 (by rfl) ?_
      refine rx_getfield d_Sounding_gather_7 fl_Sounding_35 hN1.1 (by rfl) ?_
      refine rx_icmp_ge (tgt := 110) d_Sounding_gather_10 (by rfl) (fun z => absurd z (nI_ge hlt (by omega))) (fun c10 => ?_)
      refine rx_aload_nr d_Sounding_gather_13 (by rfl) ?_
      refine rx_getfield d_Sounding_gather_14 fl_Sounding_25 S.1 (by rfl) ?_
      refine rx_aload_nr d_Sounding_gather_17 (by rfl) ?_
      refine rx_getfield d_Sounding_gather_18 fl_Sounding_11 S.1 (by rfl) ?_
      refine rx_alen d_Sounding_gather_21 (by rfl) S.2.1 ?_
      refine rx_icmp_ge (tgt := 110) d_Sounding_gather_22 (by rfl) (fun z => absurd z (show ¬ nI 480 ≤ nI L.length from nI_ge hfull (by omega))) (fun c22 => ?_)
      refine rx_aload_r d_Sounding_gather_25 (by rfl) ?_
      refine rx_iload d_Sounding_gather_27 (by rfl) ?_
      refine rx_cV d_Sounding_gather_29 (by rfl) ml_Sounding_38 im_Notes_get se_Notes_get (by exact c9_Notes_get) hN1.1 (by rfl) (by exact Nat.le_of_ble_eq_true rfl) (c_get hN1 hlt) ?_
      refine rx_astore_r d_Sounding_gather_32 (Nat.le_of_ble_eq_true rfl) ?_
      refine rx_aload_r d_Sounding_gather_34 (by rfl) ?_
      refine rx_ifnull_r (tgt := 104) d_Sounding_gather_36 (by rfl) ?_
      refine rx_aload_r d_Sounding_gather_39 (by rfl) ?_
      refine rx_iload_n d_Sounding_gather_41 (by rfl) ?_
      refine rx_aload_r d_Sounding_gather_42 (by rfl) ?_
      refine rx_iload_n d_Sounding_gather_44 (by rfl) ?_
      refine rx_cV d_Sounding_gather_45 (by rfl) ml_Sounding_42 im_Road_barOf se_Road_barOf (by exact c9_Road_barOf) D1.1 (by rfl) (by exact Nat.le_of_ble_eq_true rfl) (c_barOf D1 (nI i)) ?_
      refine rx_cV d_Sounding_gather_48 (by rfl) ml_Sounding_46 im_Note_isIn se_Note_isIn (by exact c9_Note_isIn) hc (by rfl) (by exact Nat.le_of_ble_eq_true rfl) (c_isIn hc p (brf N f (nI i))) ?_
      refine rx_if_eq (tgt := 104) d_Sounding_gather_51 (by rfl) (fun c51 => ?_) (fun c51 => ?_)
      · have hok : (sok n Le N f num NS p i) k = false := by unfold sok; rw [decide_eq_false (ite10.mp c51)]; rfl
        first
        | exact no hok
        | refine rx_iinc (v := nI (k + 1)) d_Sounding_gather_104 (by rfl) (i_inc k) ?_
          refine rx_goto (tgt := 3) d_Sounding_gather_107 (by rfl) ?_
          exact ih (k + 1) _ (L ++ [(k, i)]) _ _ _ (by omega) hl S3 (sdL_a hL) (((hf.tr (rx_fr.wr S.2.1 (Or.inr (Or.inl rfl)))).tr (rx_fr.wr S1.2.2.1 (Or.inr (Or.inr rfl)))).tr (rx_fr.wr S2.1 (Or.inl rfl)))
      · refine rx_aload_r d_Sounding_gather_54 (by rfl) ?_
        refine rx_aload_r d_Sounding_gather_56 (by rfl) ?_
        refine rx_aload_nr d_Sounding_gather_58 (by rfl) ?_
        refine rx_aload_r d_Sounding_gather_59 (by rfl) ?_
        refine rx_iload_n d_Sounding_gather_61 (by rfl) ?_
        refine rx_iconst (v := 1) d_Sounding_gather_62 (by decide) ?_
        refine rx_isub d_Sounding_gather_63 ?_
        refine rx_cV d_Sounding_gather_64 (by rfl) ml_Sounding_42 im_Road_barOf se_Road_barOf (by exact c9_Road_barOf) D1.1 (by rfl) (by exact Nat.le_of_ble_eq_true rfl) (c_barOf D1 (nI i - 1)) ?_
        refine rx_cV d_Sounding_gather_67 (by rfl) ml_Sounding_50 im_Notes_isGoingOn se_Notes_isGoingOn (by exact c9_Notes_isGoingOn) hN1.1 (by rfl) (by exact Nat.le_of_ble_eq_true rfl) (c_isGoingOn hp1 hN1 hc (brf N f (nI i - 1))) ?_
        refine rx_if_ne (tgt := 104) d_Sounding_gather_70 (by rfl) (fun c70 => ?_) (fun c70 => ?_)
        · have hok : (sok n Le N f num NS p i) k = false := by unfold sok sgo; rw [decide_eq_true (ite11.mp c70).1, (ite11.mp c70).2]; exact Bool.and_false _
          first
          | exact no hok
          | refine rx_iinc (v := nI (k + 1)) d_Sounding_gather_104 (by rfl) (i_inc k) ?_
            refine rx_goto (tgt := 3) d_Sounding_gather_107 (by rfl) ?_
            exact ih (k + 1) _ (L ++ [(k, i)]) _ _ _ (by omega) hl S3 (sdL_a hL) (((hf.tr (rx_fr.wr S.2.1 (Or.inr (Or.inl rfl)))).tr (rx_fr.wr S1.2.2.1 (Or.inr (Or.inr rfl)))).tr (rx_fr.wr S2.1 (Or.inl rfl)))
        · have hok : (sok n Le N f num NS p i) k = true := by
            have w := ite10.mp c70
            unfold sok
            rw [decide_eq_true (ite11.mp c51), Bool.true_and]
            cases e : sgo n Le N f num NS i k with
            | false => rfl
            | true =>
              unfold sgo at e
              rw [Bool.and_eq_true] at e
              exact absurd ⟨of_decide_eq_true e.1, e.2⟩ w
          have e9 : sgl (sok n Le N f num NS p i) i k (m + 1) = (k, i) :: sgl (sok n Le N f num NS p i) i (k + 1) m := if_pos hok
          have e8 : L ++ sgl (sok n Le N f num NS p i) i k (m + 1) = (L ++ [(k, i)]) ++ sgl (sok n Le N f num NS p i) i (k + 1) m := by rw [e9, List.append_assoc]; rfl
          rw [e8] at hl ⊢
          have hl1 : (L ++ [(k, i)]).length = L.length + 1 := by rw [List.length_append]; rfl
          refine rx_aload_nr d_Sounding_gather_73 (by rfl) ?_
          refine rx_getfield d_Sounding_gather_74 fl_Sounding_11 S.1 (by rfl) ?_
          refine rx_aload_nr d_Sounding_gather_77 (by rfl) ?_
          refine rx_getfield d_Sounding_gather_78 fl_Sounding_25 S.1 (by rfl) ?_
          refine rx_aload_r d_Sounding_gather_81 (by rfl) ?_
          refine rx_aastore (r := ("ScoreRoads$Note", F_Note, 6)) d_Sounding_gather_83 (by rfl) S.2.1 hc (by rfl) (vp_in_nI hfull (by omega)) ?_
          rw [i_cl (by omega)]
          have S1 := S.sF (f' := va_up fF L.length (some (na k)))
          refine rx_aload_nr d_Sounding_gather_84 (by rfl) ?_
          refine rx_getfield d_Sounding_gather_85 fl_Sounding_17 S1.1 (by rfl) ?_
          refine rx_aload_nr d_Sounding_gather_88 (by rfl) ?_
          refine rx_getfield d_Sounding_gather_89 fl_Sounding_25 S1.1 (by rfl) ?_
          refine rx_iload_n d_Sounding_gather_92 (by rfl) ?_
          refine rx_iastore d_Sounding_gather_93 (by rfl) S1.2.2.1 (vp_in_nI hfull (by omega)) ?_
          rw [i_cl (by omega)]
          have S2 := S1.sI (f' := upd fI L.length (nI i))
          refine rx_aload_nr d_Sounding_gather_94 (by rfl) ?_
          refine rx_dup d_Sounding_gather_95 (by rfl) ?_
          refine rx_getfield d_Sounding_gather_96 fl_Sounding_25 S2.1 (by rfl) ?_
          refine rx_iconst (v := 1) d_Sounding_gather_99 (by decide) ?_
          refine rx_iadd d_Sounding_gather_100 ?_
          rw [nI_1]
          refine rx_putfield d_Sounding_gather_101 (fw_Sounding_25 rfl) S2.1 (Nat.le_of_ble_eq_true rfl) (by rfl) (by rfl) ?_
          have S3 := S2.ob (m' := L.length + 1) (kp' := kp) (by omega)
          rw [← hl1] at S3
          rw [show nI (L.length + 1) = nI (L ++ [(k, i)]).length from by rw [hl1]]
          first
          | exact no hok
          | refine rx_iinc (v := nI (k + 1)) d_Sounding_gather_104 (by rfl) (i_inc k) ?_
            refine rx_goto (tgt := 3) d_Sounding_gather_107 (by rfl) ?_
            exact ih (k + 1) _ (L ++ [(k, i)]) _ _ _ (by omega) hl S3 (sdL_a hL) (((hf.tr (rx_fr.wr S.2.1 (Or.inr (Or.inl rfl)))).tr (rx_fr.wr S1.2.2.1 (Or.inr (Or.inr rfl)))).tr (rx_fr.wr S2.1 (Or.inl rfl)))
    · have hnil : sgl (sok n Le N f num NS p i) i k (m + 1) = [] := by
        cases e : sgl (sok n Le N f num NS p i) i k (m + 1) with
        | nil => rfl
        | cons x t => rw [e, List.length_append, List.length_cons] at hl; omega
      rw [hnil, List.append_nil]
      have h480 : L.length = 480 := by have := S.2.2.2; omega
      refine rx_iload d_Sounding_gather_3 (by rfl) ?_
      refine rx_aload_r d_Sounding_gather_5 (by rfl) ?_
      refine rx_getfield d_Sounding_gather_7 fl_Sounding_35 hN1.1 (by rfl) ?_
      refine rx_icmp_ge (tgt := 110) d_Sounding_gather_10 (by rfl) (fun z => absurd z (nI_ge hlt (by omega))) (fun c10 => ?_)
      refine rx_aload_nr d_Sounding_gather_13 (by rfl) ?_
      refine rx_getfield d_Sounding_gather_14 fl_Sounding_25 S.1 (by rfl) ?_
      refine rx_aload_nr d_Sounding_gather_17 (by rfl) ?_
      refine rx_getfield d_Sounding_gather_18 fl_Sounding_11 S.1 (by rfl) ?_
      refine rx_alen d_Sounding_gather_21 (by rfl) S.2.1 ?_
      refine rx_icmp_ge (tgt := 110) d_Sounding_gather_22 (by rfl) (fun c22 => ?_) (fun z => absurd (show nI 480 ≤ nI L.length by rw [h480]; exact Int32.le_refl _) z)
      refine rx_vreturn d_Sounding_gather_110 (by rfl) ?_
      exact ⟨rfl, fF, fI, S, hL, hf⟩
theorem c_gatherS (hp : is_pg V h aP n al at_ av Le Te Va) (hN : is_nt V h aN ar num fw na NS) (D : is_rd V h aR aO n N jm wo wy tk f) (S : is_sd V h a aF aI L.length kp fF fI) (hL : sdL na fF fI L) (p : Int32) {i : Nat} (hi : i < N) (hl : (L ++ sgl (sok n Le N f num NS p i) i 0 num).length ≤ 480) : rx_C V (d + 4) kc ks m_Sounding_gather [.ref a, .int p, .int (nI i), .ref aP, .ref aN, .ref aR] h (fun r9 h' => r9 = .inl none ∧ ∃ fF' fI', is_sd V h' a aF aI (L ++ sgl (sok n Le N f num NS p i) i 0 num).length kp fF' fI' ∧ sdL na fF' fI' (L ++ sgl (sok n Le N f num NS p i) i 0 num) ∧ rx_fr V h h' (fp_s a aF aI)) := by
  refine rx_iconst (v := 0) d_Sounding_gather_0 (by decide) ?_
  refine rx_istore d_Sounding_gather_1 (Nat.le_of_ble_eq_true rfl) ?_
  exact l_gatherS hp hN D S p hi num 0 h L fF fI _ (by omega) hl S hL rx_fr.rf
theorem l_know (hp : is_pg V h aP n al at_ av Le Te Va) (hN : is_nt V h aN ar num fw na NS) (D : is_rd V h aR aO n N jm wo wy tk f) {kp0 : Int32} {m0 : Nat} {fF0 : Nat → Option Nat} {fI0 : Nat → Int32} (S0 : is_sd V h a aF aI m0 kp0 fF0 fI0) (p : Int32) : ∀ (m i : Nat) (h1 : List va_E) (L : List (Nat × Nat)) (fF : Nat → Option Nat) (fI : Nat → Int32), i + m = N → (L ++ sll (sok n Le N f num NS p) num i m).length ≤ 480 → is_sd V h1 a aF aI L.length kp fF fI → sdL na fF fI L → rx_fr V h h1 (fp_s a aF aI) →
    rx_W V (d + 5) kc ks m_Sounding_know 17 [some (.ref a), some (.int p), some (.ref aP), some (.ref aN), some (.ref aR), some (.int (nI i))] [] h1 (fun r9 h' => r9 = .inl none ∧ ∃ fF' fI', is_sd V h' a aF aI (L ++ sll (sok n Le N f num NS p) num i m).length p fF' fI' ∧ sdL na fF' fI' (L ++ sll (sok n Le N f num NS p) num i m) ∧ rx_fr V h h' (fp_s a aF aI)) := by
  have hN240 : N ≤ n * 12 := D.2.2.1
  have hn : n ≤ 20 := D.2.2.2
  intro m
  induction m with
  | zero =>
    intro i h1 L fF fI hi hl S hL hf
    have e : i = N := by omega
    subst e
    have D1 := D.frs S0 hf
    rw [show L ++ sll (sok n Le i f num NS p) num i 0 = L from List.append_nil L]
    refine rx_iload d_Sounding_know_17 (by rfl) ?_
    refine rx_aload_r d_Sounding_know_19 (by rfl) ?_
    refine rx_getfield d_Sounding_know_21 fl_Sounding_28 D1.1 (by rfl) ?_
    refine rx_icmp_ge (tgt := 44) d_Sounding_know_24 (by rfl) (fun c24 => ?_) (fun z => absurd (Int32.le_refl _) z)
    refine rx_aload_nr d_Sounding_know_44 (by rfl) ?_
    refine rx_iload_n d_Sounding_know_45 (by rfl) ?_
    refine rx_putfield d_Sounding_know_46 (fw_Sounding_21 rfl) S.1 (Nat.le_of_ble_eq_true rfl) (by rfl) (by rfl) ?_
    refine rx_vreturn d_Sounding_know_49 (by rfl) ?_
    exact ⟨rfl, fF, fI, S.ob S.2.2.2, hL, hf.tr (rx_fr.wr S.1 (Or.inl rfl))⟩
  | succ m ih =>
    intro i h1 L fF fI hi hl S hL hf
    have hp1 := hp.frs S0 hf
    have hN1 := hN.frs S0 hf
    have D1 := D.frs S0 hf
    have e9 : L ++ sll (sok n Le N f num NS p) num i (m + 1) = (L ++ sgl (sok n Le N f num NS p i) i 0 num) ++ sll (sok n Le N f num NS p) num (i + 1) m := (List.append_assoc _ _ _).symm
    rw [e9] at hl ⊢
    refine rx_iload d_Sounding_know_17 (by rfl) ?_
    refine rx_aload_r d_Sounding_know_19 (by rfl) ?_
    refine rx_getfield d_Sounding_know_21 fl_Sounding_28 D1.1 (by rfl) ?_
    refine rx_icmp_ge (tgt := 44) d_Sounding_know_24 (by rfl) (fun z => absurd z (nI_ge (by omega) (by omega))) (fun c24 => ?_)
    refine rx_aload_nr d_Sounding_know_27 (by rfl) ?_
    refine rx_iload_n d_Sounding_know_28 (by rfl) ?_
    refine rx_iload d_Sounding_know_29 (by rfl) ?_
    refine rx_aload_nr d_Sounding_know_31 (by rfl) ?_
    refine rx_aload_nr d_Sounding_know_32 (by rfl) ?_
    refine rx_aload_r d_Sounding_know_33 (by rfl) ?_
    refine rx_pV d_Sounding_know_35 (by rfl) ml_Sounding_31 im_Sounding_gather se_Sounding_gather (by exact c9_Sounding_gather) S.1 (by rfl) (by exact Nat.le_of_ble_eq_true rfl) (c_gatherS hp1 hN1 D1 S hL p (by omega) (by rw [List.length_append] at hl; omega)) ?_
    intro h2 z9
    obtain ⟨fF2, fI2, S2, L2, f2⟩ := z9
    refine rx_iinc (v := nI (i + 1)) d_Sounding_know_38 (by rfl) (i_inc i) ?_
    refine rx_goto (tgt := 17) d_Sounding_know_41 (by rfl) ?_
    exact ih (i + 1) h2 _ fF2 fI2 (by omega) hl S2 L2 (hf.tr f2)
theorem c_know (hp : is_pg V h aP n al at_ av Le Te Va) (hN : is_nt V h aN ar num fw na NS) (D : is_rd V h aR aO n N jm wo wy tk f) (S : is_sd V h a aF aI m9 kp fF fI) (p : Int32) (hk : kp = p → m9 = (sds n Le N f num NS p).length ∧ sdL na fF fI (sds n Le N f num NS p)) (hl : (sds n Le N f num NS p).length ≤ 480) : rx_C V (d + 5) kc ks m_Sounding_know [.ref a, .int p, .ref aP, .ref aN, .ref aR] h (fun r9 h' => r9 = .inl none ∧ ∃ fF' fI', is_sd V h' a aF aI (sds n Le N f num NS p).length p fF' fI' ∧ sdL na fF' fI' (sds n Le N f num NS p) ∧ rx_fr V h h' (fp_s a aF aI)) := by
  refine rx_aload_nr d_Sounding_know_0 (by rfl) ?_
  refine rx_getfield d_Sounding_know_1 fl_Sounding_21 S.1 (by rfl) ?_
  refine rx_iload_n d_Sounding_know_4 (by rfl) ?_
  refine rx_icmp_ne (tgt := 9) d_Sounding_know_5 (by rfl) (fun c5 => ?_) (fun c5 => ?_)
  · refine rx_aload_nr d_Sounding_know_9 (by rfl) ?_
    refine rx_iconst (v := 0) d_Sounding_know_10 (by decide) ?_
    refine rx_putfield d_Sounding_know_11 (fw_Sounding_25 rfl) S.1 (Nat.le_of_ble_eq_true rfl) (by rfl) (by rfl) ?_
    have S1 := S.ob (m' := 0) (kp' := kp) (by omega)
    refine rx_iconst (v := 0) d_Sounding_know_14 (by decide) ?_
    refine rx_istore d_Sounding_know_15 (Nat.le_of_ble_eq_true rfl) ?_
    have z := l_know (h := rx_wr V h a (.inr (6, [.ref aF, .ref aI, .int (nI 0), .int kp]))) (kp := kp) (hp.frs S (rx_fr.wr S.1 (Or.inl rfl))) (hN.frs S (rx_fr.wr S.1 (Or.inl rfl))) (D.frs S (rx_fr.wr S.1 (Or.inl rfl))) S1 p N 0 _ [] fF fI (by omega) hl S1 (fun j x hx => by cases hx) rx_fr.rf (d := d) (kc := kc) (ks := ks)
    exact rx_cons z (fun r9 h9 ⟨z1, fF9, fI9, z2, z3, z4⟩ => ⟨z1, fF9, fI9, z2, z3, (rx_fr.wr S.1 (Or.inl rfl)).tr z4⟩)
  · obtain ⟨k1, k2⟩ := hk c5
    refine rx_vreturn d_Sounding_know_8 (by rfl) ?_
    exact ⟨rfl, fF, fI, by rw [← k1, ← c5]; exact S, k2, rx_fr.rf⟩
end SD
