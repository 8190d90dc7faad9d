/-! Sounding: reads -/
def snx (n : Nat) (Le : Nat → Int32) (N : Nat) (f : Nat → Int32) (num : Nat) (NS : Nat → Nat → Int32) (k i : Nat) : Option Nat := if NS k 5 ≠ 0 ∧ NS k 2 + NS k 3 = pgl n Le (NS k 1) then fix (fun j => decide (NS j 0 = NS k 0 ∧ NS j 1 = brf N f (nI i + 1) ∧ NS j 2 = 0 ∧ NS j 4 = NS k 4)) 0 num else none
def slw (n : Nat) (Te : Nat → Int32) (NS : Nat → Nat → Int32) (t : Bool) (k : Nat) : Int64 := (NS k 3).toInt64 * (if t = true then pgl n Te (NS k 1) else 1).toInt64
def slf (n : Nat) (Le Te : Nat → Int32) (N : Nat) (f : Nat → Int32) (num : Nat) (NS : Nat → Nat → Int32) (t : Bool) : Int64 → Option Nat → Nat → Nat → Int64
  | x, none, _, _ => x
  | x, some _, _, 0 => x
  | x, some k, i, m + 1 => slf n Le Te N f num NS t (x + slw n Te NS t k) (snx n Le N f num NS k i) (i + 1) m
theorem snx_lt {n : Nat} {Le : Nat → Int32} {N : Nat} {f : Nat → Int32} {num : Nat} {NS : Nat → Nat → Int32} {k i j : Nat} (h : snx n Le N f num NS k i = some j) : j < num := by
  unfold snx at h
  by_cases c : NS k 5 ≠ 0 ∧ NS k 2 + NS k 3 = pgl n Le (NS k 1)
  · rw [if_pos c] at h
    have := (fix_s h).2.1
    omega
  · rw [if_neg c] at h; cases h
section S2
variable {V : rx_V} {d kc ks a aF aI n al at_ av aP aN ar num aR aO N q j k i : Nat} {h h' : List va_E} {Le Te Va f : Nat → Int32} {fw : Nat → Option Nat} {na : Nat → Nat} {NS : Nat → Nat → Int32} {jm wo wy tk kp : Int32} {fF : Nat → Option Nat} {fI : Nat → Int32} {L : List (Nat × Nat)}
theorem c_firstOf (S : is_sd V h a aF aI L.length kp fF fI) (hL : sdL na fF fI L) (hx : L[j]? = some (k, i)) : rx_C V (d + 1) kc ks m_Sounding_firstOf [.ref a, .int (nI j)] h (rx_X (.inl (some (.ref (na k)))) h) := by
  have hj : j < L.length := (List.getElem?_eq_some_iff.mp hx).1
  have h480 : L.length ≤ 480 := S.2.2.2
  have eF : fF j = some (na k) := (hL j _ hx).1
  have eI : fI j = nI i := (hL j _ hx).2
  have hw : ¬ iwn (nI j) 0 (nI L.length - 1) = 0 := by
    have hm : nI L.length - 1 = nI (L.length - 1) := by
      cases hz : L.length with
      | zero => omega
      | succ z => exact nI_pred z
    rw [hm]; unfold iwn
    rw [if_pos ⟨nI_pos' (by omega), nI_le (by omega) (by omega)⟩]; decide
  refine rx_iload_n d_Sounding_firstOf_0 (by rfl) ?_
  refine rx_iconst (v := 0) d_Sounding_firstOf_1 (by decide) ?_
  refine rx_aload_nr d_Sounding_firstOf_2 (by rfl) ?_
  refine rx_getfield d_Sounding_firstOf_3 fl_Sounding_25 S.1 (by rfl) ?_
  refine rx_iconst (v := 1) d_Sounding_firstOf_6 (by decide) ?_
  refine rx_isub d_Sounding_firstOf_7 ?_
  refine rx_cSN d_Sounding_firstOf_8 ml_Sounding_54 st_SR_isWithin (by exact c9_SR_isWithin) (by rfl) (by exact Nat.le_of_ble_eq_true rfl) (c_isWithin (nI j) 0 (nI L.length - 1)) ?_
  refine rx_if_eq (tgt := 23) d_Sounding_firstOf_11 (by rfl) (fun z => absurd z hw) (fun c11 => ?_)
  refine rx_aload_nr d_Sounding_firstOf_14 (by rfl) ?_
  refine rx_getfield d_Sounding_firstOf_15 fl_Sounding_11 S.1 (by rfl) ?_
  refine rx_iload_n d_Sounding_firstOf_18 (by rfl) ?_
  refine rx_aaload d_Sounding_firstOf_19 (by rfl) S.2.1 (vp_in_nI (by omega) (by omega)) ?_
  rw [i_cl (by omega), eF]
  refine rx_goto (tgt := 24) d_Sounding_firstOf_20 (by rfl) ?_
  refine rx_areturn_r d_Sounding_firstOf_24 (by rfl) ?_
  exact ⟨rfl, rfl⟩
theorem c_pitchOf (S : is_sd V h a aF aI L.length kp fF fI) (hL : sdL na fF fI L) (hx : L[j]? = some (k, i)) (hc : rx_rd V h (na k) = some (ncl (NS k))) : rx_C V (d + 2) kc ks m_Sounding_pitchOf [.ref a, .int (nI j)] h (rx_X (.inl (some (.int (NS k 4)))) h) := by
  refine rx_aload_nr d_Sounding_pitchOf_0 (by rfl) ?_
  refine rx_iload_n d_Sounding_pitchOf_1 (by rfl) ?_
  refine rx_cV d_Sounding_pitchOf_2 (by rfl) ml_Sounding_58 im_Sounding_firstOf se_Sounding_firstOf (by exact c9_Sounding_firstOf) S.1 (by rfl) (by exact Nat.le_of_ble_eq_true rfl) (c_firstOf S hL hx) ?_
  refine rx_astore_nr d_Sounding_pitchOf_5 (Nat.le_of_ble_eq_true rfl) ?_
  refine rx_aload_nr d_Sounding_pitchOf_6 (by rfl) ?_
  refine rx_ifnonnull_r (tgt := 14) d_Sounding_pitchOf_7 (by rfl) ?_
  refine rx_aload_nr d_Sounding_pitchOf_14 (by rfl) ?_
  refine rx_getfield d_Sounding_pitchOf_15 fl_Sounding_78 hc (by rfl) ?_
  refine rx_ireturn d_Sounding_pitchOf_18 (by rfl) ?_
  exact ⟨rfl, rfl⟩
theorem c_beginOf (S : is_sd V h a aF aI L.length kp fF fI) (hL : sdL na fF fI L) (hx : L[j]? = some (k, i)) (hp : is_pg V h aP n al at_ av Le Te Va) (hN : is_nt V h aN ar num fw na NS) (D : is_rd V h aR aO n N jm wo wy tk f) (hk : k < num) (hi : i < N) : rx_C V (d + 4) kc ks m_Sounding_beginOf [.ref a, .int (nI j), .ref aP, .ref aR] h (rx_X (.inl (some (.long (ffo (tks n Le Te f) 0 0 i + (NS k 2).toInt64 * (pgl n Te (NS k 1)).toInt64)))) h) := by
  have hj : j < L.length := (List.getElem?_eq_some_iff.mp hx).1
  have h480 : L.length ≤ 480 := S.2.2.2
  have eF : fF j = some (na k) := (hL j _ hx).1
  have eI : fI j = nI i := (hL j _ hx).2
  have hc := hN.2.2.2.1 k hk
  refine rx_aload_nr d_Sounding_beginOf_0 (by rfl) ?_
  refine rx_iload_n d_Sounding_beginOf_1 (by rfl) ?_
  refine rx_cV d_Sounding_beginOf_2 (by rfl) ml_Sounding_58 im_Sounding_firstOf se_Sounding_firstOf (by exact c9_Sounding_firstOf) S.1 (by rfl) (by exact Nat.le_of_ble_eq_true rfl) (c_firstOf S hL hx) ?_
  refine rx_astore_r d_Sounding_beginOf_5 (Nat.le_of_ble_eq_true rfl) ?_
  refine rx_aload_r d_Sounding_beginOf_7 (by rfl) ?_
  refine rx_ifnonnull_r (tgt := 16) d_Sounding_beginOf_9 (by rfl) ?_
  refine rx_aload_nr d_Sounding_beginOf_16 (by rfl) ?_
  refine rx_aload_nr d_Sounding_beginOf_17 (by rfl) ?_
  refine rx_aload_nr d_Sounding_beginOf_18 (by rfl) ?_
  refine rx_getfield d_Sounding_beginOf_19 fl_Sounding_17 S.1 (by rfl) ?_
  refine rx_iload_n d_Sounding_beginOf_22 (by rfl) ?_
  refine rx_iaload d_Sounding_beginOf_23 (by rfl) S.2.2.1 (vp_in_nI (by omega) (by omega)) ?_
  rw [i_cl (by omega), eI]
  refine rx_cV d_Sounding_beginOf_24 (by rfl) ml_Sounding_63 im_Road_ticksTo se_Road_ticksTo (by exact c9_Road_ticksTo) D.1 (by rfl) (by exact Nat.le_of_ble_eq_true rfl) (c_ticksTo hp D (Nat.le_of_lt hi)) ?_
  refine rx_aload_r d_Sounding_beginOf_27 (by rfl) ?_
  refine rx_getfield d_Sounding_beginOf_29 fl_Sounding_67 hc (by rfl) ?_
  refine rx_i2l d_Sounding_beginOf_32 ?_
  refine rx_aload_nr d_Sounding_beginOf_33 (by rfl) ?_
  refine rx_aload_r d_Sounding_beginOf_34 (by rfl) ?_
  refine rx_getfield d_Sounding_beginOf_36 fl_Sounding_70 hc (by rfl) ?_
  refine rx_cV d_Sounding_beginOf_39 (by rfl) ml_Sounding_73 im_Page_tempoOf se_Page_tempoOf (by exact c9_Page_tempoOf) hp.1 (by rfl) (by exact Nat.le_of_ble_eq_true rfl) (c_tempoOf hp (NS k 1)) ?_
  refine rx_i2l d_Sounding_beginOf_42 ?_
  refine rx_lmul d_Sounding_beginOf_43 ?_
  refine rx_ladd d_Sounding_beginOf_44 ?_
  refine rx_lreturn d_Sounding_beginOf_45 (by rfl) ?_
  exact ⟨rfl, rfl⟩
theorem l_lengthOf (hp : is_pg V h aP n al at_ av Le Te Va) (hN : is_nt V h aN ar num fw na NS) (D : is_rd V h aR aO n N jm wo wy tk f) (t : Bool) (x1 : Option Value) : ∀ (m i : Nat) (o : Option Nat) (x : Int64), i + m = N → (∀ k, o = some k → k < num) → rx_W V (d + 4) kc ks m_Sounding_lengthOf 27 [some (.ref a), x1, some (.int (bi t)), some (.ref aP), some (.ref aN), some (.ref aR), some (va_rf (o.map na)), some (.long x), none, some (.int (nI i))] [] h (rx_X (.inl (some (.long (slf n Le Te N f num NS t x o i m)))) h) := by
  have hN240 : N ≤ n * 12 := D.2.2.1
  have hn : n ≤ 20 := D.2.2.2
  intro m
  induction m with
  | zero =>
    intro i o x hi ho
    have e : i = N := by omega
    subst e
    cases o with
    | none =>
      show rx_W V (d + 4) kc ks m_Sounding_lengthOf 27 [some (.ref a), x1, some (.int (bi t)), some (.ref aP), some (.ref aN), some (.ref aR), some .null, some (.long x), none, some (.int (nI i))] [] h _
      refine rx_aload_N d_Sounding_lengthOf_27 (by rfl) ?_
      refine rx_ifnull_N (tgt := 97) d_Sounding_lengthOf_29 (by rfl) ?_
      refine rx_lload d_Sounding_lengthOf_97 (by rfl) ?_
      refine rx_lreturn d_Sounding_lengthOf_99 (by rfl) ?_
      exact ⟨rfl, rfl⟩
    | some k =>
      show rx_W V (d + 4) kc ks m_Sounding_lengthOf 27 [some (.ref a), x1, some (.int (bi t)), some (.ref aP), some (.ref aN), some (.ref aR), some (.ref (na k)), some (.long x), none, some (.int (nI i))] [] h _
      refine rx_aload_r d_Sounding_lengthOf_27 (by rfl) ?_
      refine rx_ifnull_r (tgt := 97) d_Sounding_lengthOf_29 (by rfl) ?_
      refine rx_iload d_Sounding_lengthOf_32 (by rfl) ?_
      refine rx_aload_r d_Sounding_lengthOf_34 (by rfl) ?_
      refine rx_getfield d_Sounding_lengthOf_36 fl_Sounding_28 D.1 (by rfl) ?_
      refine rx_icmp_ge (tgt := 97) d_Sounding_lengthOf_39 (by rfl) (fun c39 => ?_) (fun z => absurd (Int32.le_refl _) z)
      refine rx_lload d_Sounding_lengthOf_97 (by rfl) ?_
      refine rx_lreturn d_Sounding_lengthOf_99 (by rfl) ?_
      exact ⟨rfl, rfl⟩
  | succ m ih =>
    intro i o x hi ho
    cases o with
    | none =>
      show rx_W V (d + 4) kc ks m_Sounding_lengthOf 27 [some (.ref a), x1, some (.int (bi t)), some (.ref aP), some (.ref aN), some (.ref aR), some .null, some (.long x), none, some (.int (nI i))] [] h _
      refine rx_aload_N d_Sounding_lengthOf_27 (by rfl) ?_
      refine rx_ifnull_N (tgt := 97) d_Sounding_lengthOf_29 (by rfl) ?_
      refine rx_lload d_Sounding_lengthOf_97 (by rfl) ?_
      refine rx_lreturn d_Sounding_lengthOf_99 (by rfl) ?_
      exact ⟨rfl, rfl⟩
    | some k =>
      show rx_W V (d + 4) kc ks m_Sounding_lengthOf 27 [some (.ref a), x1, some (.int (bi t)), some (.ref aP), some (.ref aN), some (.ref aR), some (.ref (na k)), some (.long x), none, some (.int (nI i))] [] h _
      have hc := hN.2.2.2.1 k (ho k rfl)
      have eg : (if NS k 5 ≠ 0 ∧ NS k 2 + NS k 3 = pgl n Le (NS k 1) then (fix (fun j => decide (NS j 0 = NS k 0 ∧ NS j 1 = brf N f (nI i + 1) ∧ NS j 2 = 0 ∧ NS j 4 = NS k 4)) 0 num).map na else none) = (snx n Le N f num NS k i).map na := by
        unfold snx
        by_cases c : NS k 5 ≠ 0 ∧ NS k 2 + NS k 3 = pgl n Le (NS k 1)
        · rw [if_pos c, if_pos c]
        · rw [if_neg c, if_neg c]; rfl
      refine rx_aload_r d_Sounding_lengthOf_27 (by rfl) ?_
      refine rx_ifnull_r (tgt := 97) d_Sounding_lengthOf_29 (by rfl) ?_
      refine rx_iload d_Sounding_lengthOf_32 (by rfl) ?_
      refine rx_aload_r d_Sounding_lengthOf_34 (by rfl) ?_
      refine rx_getfield d_Sounding_lengthOf_36 fl_Sounding_28 D.1 (by rfl) ?_
      refine rx_icmp_ge (tgt := 97) d_Sounding_lengthOf_39 (by rfl) (fun z => absurd z (nI_ge (by omega) (by omega))) (fun c39 => ?_)
      refine rx_lload d_Sounding_lengthOf_42 (by rfl) ?_
      refine rx_aload_r d_Sounding_lengthOf_44 (by rfl) ?_
      refine rx_getfield d_Sounding_lengthOf_46 fl_Sounding_81 hc (by rfl) ?_
      refine rx_i2l d_Sounding_lengthOf_49 ?_
      refine rx_iload_n d_Sounding_lengthOf_50 (by rfl) ?_
      refine rx_if_eq (tgt := 66) d_Sounding_lengthOf_51 (by rfl) (fun c51 => ?_) (fun c51 => ?_)
      · have et : t = false := bi_0.mp c51
        subst et
        refine rx_iconst (v := 1) d_Sounding_lengthOf_66 (by decide) ?_
        refine rx_i2l d_Sounding_lengthOf_67 ?_
        refine rx_lmul d_Sounding_lengthOf_68 ?_
        refine rx_ladd d_Sounding_lengthOf_69 ?_
        refine rx_lstore d_Sounding_lengthOf_70 (Nat.le_of_ble_eq_true rfl) ?_
        refine rx_aload_r d_Sounding_lengthOf_72 (by rfl) ?_
        refine rx_aload_r d_Sounding_lengthOf_74 (by rfl) ?_
        refine rx_aload_nr d_Sounding_lengthOf_76 (by rfl) ?_
        refine rx_aload_r d_Sounding_lengthOf_77 (by rfl) ?_
        refine rx_iload d_Sounding_lengthOf_79 (by rfl) ?_
        refine rx_iconst (v := 1) d_Sounding_lengthOf_81 (by decide) ?_
        refine rx_iadd d_Sounding_lengthOf_82 ?_
        refine rx_cV d_Sounding_lengthOf_83 (by rfl) ml_Sounding_42 im_Road_barOf se_Road_barOf (by exact c9_Road_barOf) D.1 (by rfl) (by exact Nat.le_of_ble_eq_true rfl) (c_barOf D (nI i + 1)) ?_
        refine rx_cV d_Sounding_lengthOf_86 (by rfl) ml_Sounding_84 im_Notes_goingOn se_Notes_goingOn (by exact c9_Notes_goingOn) hN.1 (by rfl) (by exact Nat.le_of_ble_eq_true rfl) (c_goingOn hp hN hc (brf N f (nI i + 1))) ?_
        rw [eg]
        refine rx_astore d_Sounding_lengthOf_89 (Nat.le_of_ble_eq_true rfl) ?_
        refine rx_iinc (v := nI (i + 1)) d_Sounding_lengthOf_91 (by rfl) (i_inc i) ?_
        refine rx_goto (tgt := 27) d_Sounding_lengthOf_94 (by rfl) ?_
        exact ih (i + 1) (snx n Le N f num NS k i) _ (by omega) (fun k9 z => snx_lt z)
      · have et : t = true := bi_1.mp c51
        subst et
        refine rx_aload_nr d_Sounding_lengthOf_54 (by rfl) ?_
        refine rx_aload_r d_Sounding_lengthOf_55 (by rfl) ?_
        refine rx_getfield d_Sounding_lengthOf_57 fl_Sounding_70 hc (by rfl) ?_
        refine rx_cV d_Sounding_lengthOf_60 (by rfl) ml_Sounding_73 im_Page_tempoOf se_Page_tempoOf (by exact c9_Page_tempoOf) hp.1 (by rfl) (by exact Nat.le_of_ble_eq_true rfl) (c_tempoOf hp (NS k 1)) ?_
        refine rx_goto (tgt := 67) d_Sounding_lengthOf_63 (by rfl) ?_
        refine rx_i2l d_Sounding_lengthOf_67 ?_
        refine rx_lmul d_Sounding_lengthOf_68 ?_
        refine rx_ladd d_Sounding_lengthOf_69 ?_
        refine rx_lstore d_Sounding_lengthOf_70 (Nat.le_of_ble_eq_true rfl) ?_
        refine rx_aload_r d_Sounding_lengthOf_72 (by rfl) ?_
        refine rx_aload_r d_Sounding_lengthOf_74 (by rfl) ?_
        refine rx_aload_nr d_Sounding_lengthOf_76 (by rfl) ?_
        refine rx_aload_r d_Sounding_lengthOf_77 (by rfl) ?_
        refine rx_iload d_Sounding_lengthOf_79 (by rfl) ?_
        refine rx_iconst (v := 1) d_Sounding_lengthOf_81 (by decide) ?_
        refine rx_iadd d_Sounding_lengthOf_82 ?_
        refine rx_cV d_Sounding_lengthOf_83 (by rfl) ml_Sounding_42 im_Road_barOf se_Road_barOf (by exact c9_Road_barOf) D.1 (by rfl) (by exact Nat.le_of_ble_eq_true rfl) (c_barOf D (nI i + 1)) ?_
        refine rx_cV d_Sounding_lengthOf_86 (by rfl) ml_Sounding_84 im_Notes_goingOn se_Notes_goingOn (by exact c9_Notes_goingOn) hN.1 (by rfl) (by exact Nat.le_of_ble_eq_true rfl) (c_goingOn hp hN hc (brf N f (nI i + 1))) ?_
        rw [eg]
        refine rx_astore d_Sounding_lengthOf_89 (Nat.le_of_ble_eq_true rfl) ?_
        refine rx_iinc (v := nI (i + 1)) d_Sounding_lengthOf_91 (by rfl) (i_inc i) ?_
        refine rx_goto (tgt := 27) d_Sounding_lengthOf_94 (by rfl) ?_
        exact ih (i + 1) (snx n Le N f num NS k i) _ (by omega) (fun k9 z => snx_lt z)
theorem c_lengthOfS (S : is_sd V h a aF aI L.length kp fF fI) (hL : sdL na fF fI L) (hx : L[j]? = some (k, i)) (hp : is_pg V h aP n al at_ av Le Te Va) (hN : is_nt V h aN ar num fw na NS) (D : is_rd V h aR aO n N jm wo wy tk f) (hk : k < num) (hi : i < N) (t : Bool) : rx_C V (d + 4) kc ks m_Sounding_lengthOf [.ref a, .int (nI j), .int (bi t), .ref aP, .ref aN, .ref aR] h (rx_X (.inl (some (.long (slf n Le Te N f num NS t 0 (some k) i (N - i))))) h) := by
  have hj : j < L.length := (List.getElem?_eq_some_iff.mp hx).1
  have h480 : L.length ≤ 480 := S.2.2.2
  have eF : fF j = some (na k) := (hL j _ hx).1
  have eI : fI j = nI i := (hL j _ hx).2
  refine rx_aload_nr d_Sounding_lengthOf_0 (by rfl) ?_
  refine rx_iload_n d_Sounding_lengthOf_1 (by rfl) ?_
  refine rx_cV d_Sounding_lengthOf_2 (by rfl) ml_Sounding_58 im_Sounding_firstOf se_Sounding_firstOf (by exact c9_Sounding_firstOf) S.1 (by rfl) (by exact Nat.le_of_ble_eq_true rfl) (c_firstOf S hL hx) ?_
  refine rx_astore_r d_Sounding_lengthOf_5 (Nat.le_of_ble_eq_true rfl) ?_
  refine rx_aload_r d_Sounding_lengthOf_7 (by rfl) ?_
  refine rx_ifnonnull_r (tgt := 16) d_Sounding_lengthOf_9 (by rfl) ?_
  refine rx_lconst (v := 0) d_Sounding_lengthOf_16 (by decide) ?_
  refine rx_lstore d_Sounding_lengthOf_17 (Nat.le_of_ble_eq_true rfl) ?_
  refine rx_aload_nr d_Sounding_lengthOf_19 (by rfl) ?_
  refine rx_getfield d_Sounding_lengthOf_20 fl_Sounding_17 S.1 (by rfl) ?_
  refine rx_iload_n d_Sounding_lengthOf_23 (by rfl) ?_
  refine rx_iaload d_Sounding_lengthOf_24 (by rfl) S.2.2.1 (vp_in_nI (by omega) (by omega)) ?_
  rw [i_cl (by omega), eI]
  refine rx_istore d_Sounding_lengthOf_25 (Nat.le_of_ble_eq_true rfl) ?_
  exact l_lengthOf hp hN D t _ (N - i) i (some k) 0 (by omega) (fun k9 z => by cases z; exact hk)
end S2
