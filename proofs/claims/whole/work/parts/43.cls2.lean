/-! the class's public methods, first -/
section RXX
variable {V : rx_V} {d kc ks mc ms : Nat} {M y : rx_T} {pc : Nat} {L : rx_L} {S Sr As : List Value} {h : List va_E} {Q : rx_R → List va_E → Prop} {P9 : List va_E → Prop} {index E : Nat}
theorem rx_xS (hd : decode M.2.1 pc = .ok (.invokestatic index, 3)) (w1 : Cond.methodLink M.1.cls index y.1 ∈ rx_tbl) (w2 : Cond.static y.1 ∈ rx_tbl) (hcl : rx_cl9 y As.length (lg_sl As).length) (hh : M.2.2.2.2 = [])
    (hS : S = As.reverse ++ Sr) (hw8 : (Sr.map fun v => v.category).sum ≤ 8) (K : rx_C V d kc ks y As h (fun r h' => r = .inr E ∧ P9 h')) (hq : ∀ h1, P9 h1 → Q (.inr E) h1) : rx_W V (d + 1) kc ks M pc L S h Q :=
  rx_callS (kc := 0) (ks := 0) hd w1 w2 hcl hS hw8 K (fun E' h1 z => by obtain ⟨z1, z2⟩ := z; cases z1; exact rx_out hh (hq h1 z2)) (fun v h1 z => nomatch z.1)
theorem rx_xV {b ci : Nat} {fs : List Value} {r : vw_C} (hd : decode M.2.1 pc = .ok (.invokevirtual index, 3)) (hc : rx_cl[ci]? = some r) (w1 : Cond.methodLink M.1.cls index y.1 ∈ rx_tbl) (w2 : Cond.instanceMethod y.1 ∈ rx_tbl) (w3 : Cond.selects r.1 y.1 y.1 ∈ rx_tbl) (hcl : rx_cl9 y As.length (lg_sl (.ref b :: As)).length) (hh : M.2.2.2.2 = [])
    (he : rx_rd V h b = some (.inr (ci, fs))) (hS : S = As.reverse ++ .ref b :: Sr) (hw8 : (Sr.map fun v => v.category).sum ≤ 8) (K : rx_C V d kc ks y (.ref b :: As) h (fun r h' => r = .inr E ∧ P9 h')) (hq : ∀ h1, P9 h1 → Q (.inr E) h1) : rx_W V (d + 1) kc ks M pc L S h Q :=
  rx_callV (kc := 0) (ks := 0) hd hc w1 w2 w3 hcl he hS hw8 K (fun E' h1 z => by obtain ⟨z1, z2⟩ := z; cases z1; exact rx_out hh (hq h1 z2)) (fun v h1 z => nomatch z.1)
end RXX
/-- nothing is lost but at the places FP; cells may be new -/
def rx_gr (V : rx_V) (h h' : List va_E) (FP : Nat → Prop) : Prop := h.length ≤ h'.length ∧ ∀ q e, ¬ FP q → rx_rd V h q = some e → rx_rd V h' q = some e
theorem rx_fr.gr {V : rx_V} {h h' : List va_E} {FP : Nat → Prop} (f : rx_fr V h h' FP) : rx_gr V h h' FP := ⟨Nat.le_of_eq f.1.symm, fun q e z he => (f.2 q z).trans he⟩
theorem rx_gr.rf {V : rx_V} {h : List va_E} {FP : Nat → Prop} : rx_gr V h h FP := ⟨Nat.le_refl _, fun _ _ _ z => z⟩
theorem rx_gr.tr {V : rx_V} {h h1 h2 : List va_E} {FP : Nat → Prop} (a : rx_gr V h h1 FP) (b : rx_gr V h1 h2 FP) : rx_gr V h h2 FP := ⟨Nat.le_trans a.1 b.1, fun q e z he => b.2 q e z (a.2 q e z he)⟩
theorem rx_gr.mo {V : rx_V} {h h1 : List va_E} {FP FP' : Nat → Prop} (a : rx_gr V h h1 FP) (hs : ∀ q, FP q → FP' q) : rx_gr V h h1 FP' := ⟨a.1, fun q e z => a.2 q e (fun y => z (hs q y))⟩
theorem rx_gr.ap {V : rx_V} {h t : List va_E} {FP : Nat → Prop} : rx_gr V h (h ++ t) FP := ⟨by rw [List.length_append]; omega, fun _ _ _ z => rx_rd_ap z⟩
section GR
variable {V : rx_V} {d kc ks : Nat} {h h' : List va_E} {A ra na : Nat → Nat} {n num : Nat} {Le Te Va : Nat → Int32} {NS : Nat → Nat → Int32} {kn : Bool} {kp : Int32} {FP : Nat → Prop}
theorem is_cl.gr (C : is_cl V h A ra na n Le Te Va num NS kn kp) (hg : rx_gr V h h' FP) (hd : ∀ q, fp_c A ra na n num q → ¬ FP q) : is_cl V h' A ra na n Le Te Va num NS kn kp := by
  obtain ⟨fa, fw, fA, fE, fG, numR, R, N0, jm, wo, wy, tk, f, m9, fF, fI, ⟨c1, hp, hN, H, hE, hG, D, S⟩, kc9, st⟩ := C
  have g : ∀ i e, i < 16 → rx_rd V h (A i) = some e → rx_rd V h' (A i) = some e := fun i e hi he => hg.2 _ e (hd _ (Or.inl ⟨i, hi, rfl⟩)) he
  refine ⟨fa, fw, fA, fE, fG, numR, R, N0, jm, wo, wy, tk, f, m9, fF, fI, ⟨g 0 _ (by omega) c1, ⟨g 1 _ (by omega) hp.1, g 2 _ (by omega) hp.2.1, g 3 _ (by omega) hp.2.2.1, g 4 _ (by omega) hp.2.2.2.1, hp.2.2.2.2⟩, ⟨g 5 _ (by omega) hN.1, g 6 _ (by omega) hN.2.1, hN.2.2.1, fun i hi => hg.2 _ _ (hd _ (Or.inr (Or.inr ⟨i, hi, rfl⟩))) (hN.2.2.2.1 i hi), hN.2.2.2.2⟩, ⟨g 7 _ (by omega) H.1, g 8 _ (by omega) H.2.1, g 9 _ (by omega) H.2.2.1, g 10 _ (by omega) H.2.2.2.1, H.2.2.2.2.1, fun r hr => hg.2 _ _ (hd _ (Or.inr (Or.inl ⟨r, hr, rfl⟩))) (H.cell hr), H.2.2.2.2.2.2⟩, hE, hG, ⟨g 11 _ (by omega) D.1, g 12 _ (by omega) D.2.1, D.2.2⟩, ⟨g 13 _ (by omega) S.1, g 14 _ (by omega) S.2.1, g 15 _ (by omega) S.2.2.1, S.2.2.2⟩⟩, kc9, st⟩
theorem is_cl.ap {t : List va_E} (C : is_cl V h A ra na n Le Te Va num NS kn kp) : is_cl V (h ++ t) A ra na n Le Te Va num NS kn kp := C.gr (FP := fun _ => False) rx_gr.ap (fun _ _ z => z)
theorem is_cl.n20 (C : is_cl V h A ra na n Le Te Va num NS kn kp) : n ≤ 20 ∧ 0 < n ∧ num ≤ 40 := by
  obtain ⟨fa, fw, fA, fE, fG, numR, R, N0, jm, wo, wy, tk, f, m9, fF, fI, ⟨c1, hp, hN, H, hE, hG, D, S⟩, kc9, st⟩ := C
  exact ⟨hp.2.2.2.2, st.2.2.2, hN.2.2.2.2⟩
theorem is_cl.c0 (C : is_cl V h A ra na n Le Te Va num NS kn kp) : ∃ fs, rx_rd V h (A 0) = some (.inr (0, fs)) := by
  obtain ⟨fa, fw, fA, fE, fG, numR, R, N0, jm, wo, wy, tk, f, m9, fF, fI, ⟨c1, hp, hN, H, hE, hG, D, S⟩, kc9, st⟩ := C
  exact ⟨_, c1⟩
/-- the world of a page without a fault whose road is known -/
theorem is_cl.road (C : is_cl V h A ra na n Le Te Va num NS true kp) : ∃ fs, rx_rd V h (A 0) = some (.inr (0, [.ref (A 1), .ref (A 5), .ref (A 7), .ref (A 11), .ref (A 13), fs, .int (flt n Va)])) ∧ is_pg V h (A 1) n (A 2) (A 3) (A 4) Le Te Va ∧ (flt n Va = 0 → ∃ jm wo wy tk f, is_rd V h (A 11) (A 12) n (pN n Va) jm wo wy tk f ∧ ∀ j, j < pN n Va → f j = wf n Va j) := by
  obtain ⟨fa, fw, fA, fE, fG, numR, R, N0, jm, wo, wy, tk, f, m9, fF, fI, ⟨c1, hp, hN, H, hE, hG, D, S⟩, ⟨k1, k2⟩, st⟩ := C
  obtain ⟨e1, e2⟩ := k1 rfl
  rw [e1] at c1 e2
  refine ⟨_, c1, hp, fun z => ?_⟩
  obtain ⟨e3, e4⟩ := e2 z
  rw [e3] at D e4
  exact ⟨jm, wo, wy, tk, f, D, e4⟩
/-- how a public call ends -/
def cPo (V : rx_V) (h : List va_E) (A ra na : Nat → Nat) (n num : Nat) (r0 : rx_R) (na' : Nat → Nat) (Le' Te' Va' : Nat → Int32) (num' : Nat) (NS' : Nat → Nat → Int32) : rx_R → List va_E → Prop := fun r h' => r = r0 ∧ (∃ kn kp, is_cl V h' A ra na' n Le' Te' Va' num' NS' kn kp) ∧ rx_gr V h h' (fp_c A ra na n num) ∧ h'.length ≤ h.length + 1
theorem c_needRoad (hv : vok n Va) (C : is_cl V h A ra na n Le Te Va num NS kn kp) (hz : flt n Va = 0) : rx_C V (d + 7) kc ks m_SR_needRoad [.ref (A 0)] h (fun r9 h' => r9 = .inl none ∧ is_cl V h' A ra na n Le Te Va num NS true kp ∧ rx_fr V h h' (fp_c A ra na n num)) := by
  obtain ⟨fs, c1⟩ := C.c0
  refine rx_aload_nr d_SR_needRoad_0 (by rfl) ?_
  refine rx_pV d_SR_needRoad_1 (by rfl) ml_SR_140 im_SR_knowRoad se_SR_knowRoad (by exact c9_SR_knowRoad) c1 (by rfl) (by exact Nat.le_of_ble_eq_true rfl) (c_knowRoad hv C) ?_
  intro h1 z9
  obtain ⟨C1, f1⟩ := z9
  obtain ⟨fs1, c11, hp1, Z1⟩ := C1.road
  refine rx_aload_nr d_SR_needRoad_4 (by rfl) ?_
  refine rx_getfield d_SR_needRoad_5 fl_SR_143 c11 (by rfl) ?_
  refine rx_if_eq (tgt := 21) d_SR_needRoad_8 (by rfl) (fun c8 => ?_) (fun z => absurd hz z)
  refine rx_vreturn d_SR_needRoad_21 (by rfl) ?_
  exact ⟨rfl, C1, f1⟩
theorem x_needRoad (htr : V.1.stackTraces = false) (hv : vok n Va) (C : is_cl V h A ra na n Le Te Va num NS kn kp) (hz : ¬ flt n Va = 0) : rx_C V (d + 7) 1 6 m_SR_needRoad [.ref (A 0)] h (fun r9 h' => r9 = .inr 1 ∧ is_cl V h' A ra na n Le Te Va num NS true kp ∧ rx_gr V h h' (fp_c A ra na n num) ∧ h'.length = h.length + 1) := by
  obtain ⟨fs, c1⟩ := C.c0
  refine rx_aload_nr d_SR_needRoad_0 (by rfl) ?_
  refine rx_pV d_SR_needRoad_1 (by rfl) ml_SR_140 im_SR_knowRoad se_SR_knowRoad (by exact c9_SR_knowRoad) c1 (by rfl) (by exact Nat.le_of_ble_eq_true rfl) (c_knowRoad hv C) ?_
  intro h1 z9
  obtain ⟨C1, f1⟩ := z9
  obtain ⟨fs1, c11, hp1, Z1⟩ := C1.road
  refine rx_aload_nr d_SR_needRoad_4 (by rfl) ?_
  refine rx_getfield d_SR_needRoad_5 fl_SR_143 c11 (by rfl) ?_
  refine rx_if_eq (tgt := 21) d_SR_needRoad_8 (by rfl) (fun z => absurd z hz) (fun c8 => ?_)
  exact rx_throw (E := 1) htr (by rfl) (by rfl) (by decide) d_SR_needRoad_11 d_SR_needRoad_14 d_SR_needRoad_15 d_SR_needRoad_17 d_SR_needRoad_20 ck_SR_65 (text := "the map has a fault") (by decide +kernel) (Nat.le_of_ble_eq_true rfl) ⟨rfl, C1.ap, f1.gr.tr rx_gr.ap, by rw [List.length_append, f1.1]; rfl⟩
theorem c_check (hv : vok n Va) (C : is_cl V h A ra na n Le Te Va num NS kn kp) : rx_C V (d + 8) 1 6 m_SR_check [.ref (A 0)] h (cPo V h A ra na n num (.inl (some (.int (flt n Va)))) na Le Te Va num NS) := by
  obtain ⟨fs, c1⟩ := C.c0
  refine rx_aload_nr d_SR_check_0 (by rfl) ?_
  refine rx_pV d_SR_check_1 (by rfl) ml_SR_140 im_SR_knowRoad se_SR_knowRoad (by exact c9_SR_knowRoad) c1 (by rfl) (by exact Nat.le_of_ble_eq_true rfl) (c_knowRoad hv C) ?_
  intro h1 z9
  obtain ⟨C1, f1⟩ := z9
  obtain ⟨fs1, c11, hp1, Z1⟩ := C1.road
  refine rx_aload_nr d_SR_check_4 (by rfl) ?_
  refine rx_getfield d_SR_check_5 fl_SR_143 c11 (by rfl) ?_
  refine rx_ireturn d_SR_check_8 (by rfl) ?_
  exact ⟨rfl, ⟨true, kp, C1⟩, f1.gr, by rw [f1.1]; omega⟩
theorem c_plays (hv : vok n Va) (C : is_cl V h A ra na n Le Te Va num NS kn kp) : rx_C V (d + 8) 1 6 m_SR_plays [.ref (A 0)] h (cPo V h A ra na n num (.inl (some (.int (if flt n Va = 0 then nI (pN n Va) else -1)))) na Le Te Va num NS) := by
  obtain ⟨fs, c1⟩ := C.c0
  refine rx_aload_nr d_SR_plays_0 (by rfl) ?_
  refine rx_pV d_SR_plays_1 (by rfl) ml_SR_140 im_SR_knowRoad se_SR_knowRoad (by exact c9_SR_knowRoad) c1 (by rfl) (by exact Nat.le_of_ble_eq_true rfl) (c_knowRoad hv C) ?_
  intro h1 z9
  obtain ⟨C1, f1⟩ := z9
  obtain ⟨fs1, c11, hp1, Z1⟩ := C1.road
  refine rx_aload_nr d_SR_plays_4 (by rfl) ?_
  refine rx_getfield d_SR_plays_5 fl_SR_143 c11 (by rfl) ?_
  refine rx_if_ne (tgt := 21) d_SR_plays_8 (by rfl) (fun c8 => ?_) (fun c8 => ?_)
  · rw [if_neg c8]
    refine rx_iconst (v := -1) d_SR_plays_21 (by decide) ?_
    refine rx_ireturn d_SR_plays_22 (by rfl) ?_
    exact ⟨rfl, ⟨true, kp, C1⟩, f1.gr, by rw [f1.1]; omega⟩
  · rw [if_pos c8]
    obtain ⟨jm, wo, wy, tk, f, D1, w1⟩ := Z1 c8
    refine rx_aload_nr d_SR_plays_11 (by rfl) ?_
    refine rx_getfield d_SR_plays_12 fl_SR_35 c11 (by rfl) ?_
    refine rx_getfield d_SR_plays_15 fl_SR_146 D1.1 (by rfl) ?_
    refine rx_goto (tgt := 22) d_SR_plays_18 (by rfl) ?_
    refine rx_ireturn d_SR_plays_22 (by rfl) ?_
    exact ⟨rfl, ⟨true, kp, C1⟩, f1.gr, by rw [f1.1]; omega⟩
theorem iwn_N {i : Int32} {N : Nat} (hN : N ≤ 1000) (h0 : 0 < N) : ¬ iwn i 0 (nI N - 1) = 0 ↔ ∃ j, j < N ∧ i = nI j := by
  constructor
  · intro h
    obtain ⟨j, j1, j2, -⟩ := brf_1 (f := fun _ => 0) hN h
    exact ⟨j, j1, j2⟩
  · rintro ⟨j, j1, j2⟩
    obtain ⟨m, hm⟩ : ∃ m, N = m + 1 := ⟨N - 1, by omega⟩
    rw [j2, hm, show nI (m + 1) - 1 = nI m from nI_pred m]
    unfold iwn
    rw [if_pos ⟨nI_pos' (by omega), nI_le (by omega) (by omega)⟩]
    decide
theorem iwn_N2 {i : Int32} {N : Nat} (hN : N ≤ 1000) : ¬ iwn i 0 (nI N) = 0 ↔ ∃ j, j ≤ N ∧ i = nI j := by
  unfold iwn
  by_cases z : (0 : Int32) ≤ i ∧ i ≤ nI N
  · rw [if_pos z]
    rw [i_le, i_0, i_le, i_n (by omega)] at z
    exact ⟨fun _ => ⟨i.toInt.toNat, by omega, i_of (by omega) (by omega)⟩, fun _ => by decide⟩
  · rw [if_neg z]
    refine ⟨fun w => absurd rfl w, fun ⟨j, j1, j2⟩ => ?_⟩
    rw [j2] at z
    exact absurd ⟨nI_pos' (by omega), nI_le (by omega) (by omega)⟩ z
theorem pN_le (hn : n ≤ 20) (h0 : 0 < n) (hv : vok n Va) (hz : flt n Va = 0) : pN n Va ≤ 240 := by
  have := (pN_ok hn h0 hv hz).1
  omega
theorem ffo_c {α : Type} {F G : α → Nat → α} : ∀ (m i : Nat) (x : α), (∀ x j, i ≤ j → j < i + m → F x j = G x j) → ffo F x i m = ffo G x i m := by
  intro m
  induction m with
  | zero => intro i x _; rfl
  | succ m ih =>
    intro i x h
    show ffo F (F x i) (i + 1) m = ffo G (G x i) (i + 1) m
    rw [h x i (Nat.le_refl _) (by omega)]
    exact ih (i + 1) _ (fun x j h1 h2 => h x j (by omega) (by omega))
theorem ixf_c {f f' : Nat → Int32} {b k : Int32} : ∀ (m i : Nat) (t : Int32), (∀ j, i ≤ j → j < i + m → f j = f' j) → ixf f b k t i m = ixf f' b k t i m := by
  intro m
  induction m with
  | zero => intro i t _; rfl
  | succ m ih =>
    intro i t h
    have e := h i (Nat.le_refl _) (by omega)
    have i1 := fun t => ih (i + 1) t (fun j h1 h2 => h j (by omega) (by omega))
    show (if f i = b then (if t + 1 = k then nI i else ixf f b k (t + 1) (i + 1) m) else ixf f b k t (i + 1) m) = (if f' i = b then (if t + 1 = k then nI i else ixf f' b k (t + 1) (i + 1) m) else ixf f' b k t (i + 1) m)
    rw [e, i1, i1]
theorem iaf_c {f f' : Nat → Int32} {t : Int64} : ∀ (m i : Nat) (e : Int64), (∀ j, i ≤ j → j < i + m → f j = f' j) → iaf n Le Te f t e i m = iaf n Le Te f' t e i m := by
  intro m
  induction m with
  | zero => intro i t _; rfl
  | succ m ih =>
    intro i e h
    have e1 := h i (Nat.le_refl _) (by omega)
    have i1 := fun t => ih (i + 1) t (fun j h1 h2 => h j (by omega) (by omega))
    show (if t < e + tkf n Le Te (f i) then nI i else iaf n Le Te f t (e + tkf n Le Te (f i)) (i + 1) m) = (if t < e + tkf n Le Te (f' i) then nI i else iaf n Le Te f' t (e + tkf n Le Te (f' i)) (i + 1) m)
    rw [e1, i1]
theorem c_played (hv : vok n Va) (C : is_cl V h A ra na n Le Te Va num NS kn kp) (hz : flt n Va = 0) {i : Nat} (hi : i < pN n Va) : rx_C V (d + 8) 1 6 m_SR_played [.ref (A 0), .int (nI i)] h (cPo V h A ra na n num (.inl (some (.int (wf n Va i)))) na Le Te Va num NS) := by
  obtain ⟨fs, c1⟩ := C.c0
  obtain ⟨hn, h0, -⟩ := C.n20
  have hN := pN_le hn h0 hv hz
  have hw : ¬ iwn (nI i) 0 (nI (pN n Va) - 1) = 0 := (iwn_N (by omega) (by omega)).mpr ⟨i, hi, rfl⟩
  refine rx_aload_nr d_SR_played_0 (by rfl) ?_
  refine rx_pV d_SR_played_1 (by rfl) ml_SR_147 im_SR_needRoad se_SR_needRoad (by exact c9_SR_needRoad) c1 (by rfl) (by exact Nat.le_of_ble_eq_true rfl) (c_needRoad hv C hz) ?_
  intro h1 z9
  obtain ⟨C1, f1⟩ := z9
  obtain ⟨fs1, c11, hp1, Z1⟩ := C1.road
  obtain ⟨jm, wo, wy, tk, f, D1, w1⟩ := Z1 hz
  refine rx_iload_n d_SR_played_4 (by rfl) ?_
  refine rx_aload_nr d_SR_played_5 (by rfl) ?_
  refine rx_getfield d_SR_played_6 fl_SR_35 c11 (by rfl) ?_
  refine rx_getfield d_SR_played_9 fl_SR_146 D1.1 (by rfl) ?_
  refine rx_iconst (v := 1) d_SR_played_12 (by decide) ?_
  refine rx_isub d_SR_played_13 ?_
  refine rx_cS d_SR_played_14 ml_SR_150 st_SR_needPlayed (by exact c9_SR_needPlayed) (by rfl) (by exact Nat.le_of_ble_eq_true rfl) (c_needPlayed hw) ?_
  refine rx_aload_nr d_SR_played_17 (by rfl) ?_
  refine rx_getfield d_SR_played_18 fl_SR_35 c11 (by rfl) ?_
  refine rx_iload_n d_SR_played_21 (by rfl) ?_
  refine rx_cV d_SR_played_22 (by rfl) ml_SR_154 im_Road_barOf se_Road_barOf (by exact c9_Road_barOf) D1.1 (by rfl) (by exact Nat.le_of_ble_eq_true rfl) (c_barOf D1 (nI i)) ?_
  rw [brf_n (by omega) hi, w1 i hi]
  refine rx_ireturn d_SR_played_25 (by rfl) ?_
  exact ⟨rfl, ⟨true, kp, C1⟩, f1.gr, by rw [f1.1]; omega⟩
theorem x_played1 (htr : V.1.stackTraces = false) (hv : vok n Va) (C : is_cl V h A ra na n Le Te Va num NS kn kp) (hz : ¬ flt n Va = 0) (i : Int32) : rx_C V (d + 8) 1 6 m_SR_played [.ref (A 0), .int i] h (cPo V h A ra na n num (.inr 1) na Le Te Va num NS) := by
  obtain ⟨fs, c1⟩ := C.c0
  obtain ⟨hn, h0, -⟩ := C.n20
  refine rx_aload_nr d_SR_played_0 (by rfl) ?_
  refine rx_xV d_SR_played_1 (by rfl) ml_SR_147 im_SR_needRoad se_SR_needRoad (by exact c9_SR_needRoad) rfl c1 (by rfl) (by exact Nat.le_of_ble_eq_true rfl) (x_needRoad htr hv C hz) ?_
  exact fun h1 z => ⟨rfl, ⟨true, kp, z.1⟩, z.2.1, Nat.le_of_eq z.2.2⟩
theorem x_played2 (htr : V.1.stackTraces = false) (hv : vok n Va) (C : is_cl V h A ra na n Le Te Va num NS kn kp) (hz : flt n Va = 0) {i : Int32} (hi : iwn i 0 (nI (pN n Va) - 1) = 0) : rx_C V (d + 8) 1 6 m_SR_played [.ref (A 0), .int i] h (cPo V h A ra na n num (.inr 2) na Le Te Va num NS) := by
  obtain ⟨fs, c1⟩ := C.c0
  obtain ⟨hn, h0, -⟩ := C.n20
  refine rx_aload_nr d_SR_played_0 (by rfl) ?_
  refine rx_pV d_SR_played_1 (by rfl) ml_SR_147 im_SR_needRoad se_SR_needRoad (by exact c9_SR_needRoad) c1 (by rfl) (by exact Nat.le_of_ble_eq_true rfl) (c_needRoad hv C hz) ?_
  intro h1 z9
  obtain ⟨C1, f1⟩ := z9
  obtain ⟨fs1, c11, hp1, Z1⟩ := C1.road
  obtain ⟨jm, wo, wy, tk, f, D1, w1⟩ := Z1 hz
  refine rx_iload_n d_SR_played_4 (by rfl) ?_
  refine rx_aload_nr d_SR_played_5 (by rfl) ?_
  refine rx_getfield d_SR_played_6 fl_SR_35 c11 (by rfl) ?_
  refine rx_getfield d_SR_played_9 fl_SR_146 D1.1 (by rfl) ?_
  refine rx_iconst (v := 1) d_SR_played_12 (by decide) ?_
  refine rx_isub d_SR_played_13 ?_
  refine rx_xS d_SR_played_14 ml_SR_150 st_SR_needPlayed (by exact c9_SR_needPlayed) rfl (by rfl) (by exact Nat.le_of_ble_eq_true rfl) (x_needPlayed (d := d + 1) htr hi) ?_
  rintro h2 rfl
  exact ⟨rfl, ⟨true, kp, C1.ap⟩, f1.gr.tr rx_gr.ap, by rw [List.length_append, f1.1]; exact Nat.le_refl _⟩
theorem c_time (hv : vok n Va) (C : is_cl V h A ra na n Le Te Va num NS kn kp) (hz : flt n Va = 0) {i : Nat} (hi : i < pN n Va) : rx_C V (d + 8) 1 6 m_SR_time [.ref (A 0), .int (nI i)] h (cPo V h A ra na n num (.inl (some (.int (ffo (ctf (wf n Va) (wf n Va i)) 0 0 (i + 1))))) na Le Te Va num NS) := by
  obtain ⟨fs, c1⟩ := C.c0
  obtain ⟨hn, h0, -⟩ := C.n20
  have hN := pN_le hn h0 hv hz
  have hw : ¬ iwn (nI i) 0 (nI (pN n Va) - 1) = 0 := (iwn_N (by omega) (by omega)).mpr ⟨i, hi, rfl⟩
  refine rx_aload_nr d_SR_time_0 (by rfl) ?_
  refine rx_pV d_SR_time_1 (by rfl) ml_SR_147 im_SR_needRoad se_SR_needRoad (by exact c9_SR_needRoad) c1 (by rfl) (by exact Nat.le_of_ble_eq_true rfl) (c_needRoad hv C hz) ?_
  intro h1 z9
  obtain ⟨C1, f1⟩ := z9
  obtain ⟨fs1, c11, hp1, Z1⟩ := C1.road
  obtain ⟨jm, wo, wy, tk, f, D1, w1⟩ := Z1 hz
  refine rx_iload_n d_SR_time_4 (by rfl) ?_
  refine rx_aload_nr d_SR_time_5 (by rfl) ?_
  refine rx_getfield d_SR_time_6 fl_SR_35 c11 (by rfl) ?_
  refine rx_getfield d_SR_time_9 fl_SR_146 D1.1 (by rfl) ?_
  refine rx_iconst (v := 1) d_SR_time_12 (by decide) ?_
  refine rx_isub d_SR_time_13 ?_
  refine rx_cS d_SR_time_14 ml_SR_150 st_SR_needPlayed (by exact c9_SR_needPlayed) (by rfl) (by exact Nat.le_of_ble_eq_true rfl) (c_needPlayed hw) ?_
  refine rx_aload_nr d_SR_time_17 (by rfl) ?_
  refine rx_getfield d_SR_time_18 fl_SR_35 c11 (by rfl) ?_
  refine rx_iload_n d_SR_time_21 (by rfl) ?_
  refine rx_cV d_SR_time_22 (by rfl) ml_SR_157 im_Road_timesUpTo se_Road_timesUpTo (by exact c9_Road_timesUpTo) D1.1 (by rfl) (by exact Nat.le_of_ble_eq_true rfl) (c_timesUpTo D1 hi) ?_
  rw [w1 i hi, ffo_c (G := ctf (wf n Va) (wf n Va i)) (i + 1) 0 0 (fun x j _ h2 => by unfold ctf; rw [w1 j (by omega)])]
  refine rx_ireturn d_SR_time_25 (by rfl) ?_
  exact ⟨rfl, ⟨true, kp, C1⟩, f1.gr, by rw [f1.1]; omega⟩
theorem x_time1 (htr : V.1.stackTraces = false) (hv : vok n Va) (C : is_cl V h A ra na n Le Te Va num NS kn kp) (hz : ¬ flt n Va = 0) (i : Int32) : rx_C V (d + 8) 1 6 m_SR_time [.ref (A 0), .int i] h (cPo V h A ra na n num (.inr 1) na Le Te Va num NS) := by
  obtain ⟨fs, c1⟩ := C.c0
  obtain ⟨hn, h0, -⟩ := C.n20
  refine rx_aload_nr d_SR_time_0 (by rfl) ?_
  refine rx_xV d_SR_time_1 (by rfl) ml_SR_147 im_SR_needRoad se_SR_needRoad (by exact c9_SR_needRoad) rfl c1 (by rfl) (by exact Nat.le_of_ble_eq_true rfl) (x_needRoad htr hv C hz) ?_
  exact fun h1 z => ⟨rfl, ⟨true, kp, z.1⟩, z.2.1, Nat.le_of_eq z.2.2⟩
theorem x_time2 (htr : V.1.stackTraces = false) (hv : vok n Va) (C : is_cl V h A ra na n Le Te Va num NS kn kp) (hz : flt n Va = 0) {i : Int32} (hi : iwn i 0 (nI (pN n Va) - 1) = 0) : rx_C V (d + 8) 1 6 m_SR_time [.ref (A 0), .int i] h (cPo V h A ra na n num (.inr 2) na Le Te Va num NS) := by
  obtain ⟨fs, c1⟩ := C.c0
  obtain ⟨hn, h0, -⟩ := C.n20
  refine rx_aload_nr d_SR_time_0 (by rfl) ?_
  refine rx_pV d_SR_time_1 (by rfl) ml_SR_147 im_SR_needRoad se_SR_needRoad (by exact c9_SR_needRoad) c1 (by rfl) (by exact Nat.le_of_ble_eq_true rfl) (c_needRoad hv C hz) ?_
  intro h1 z9
  obtain ⟨C1, f1⟩ := z9
  obtain ⟨fs1, c11, hp1, Z1⟩ := C1.road
  obtain ⟨jm, wo, wy, tk, f, D1, w1⟩ := Z1 hz
  refine rx_iload_n d_SR_time_4 (by rfl) ?_
  refine rx_aload_nr d_SR_time_5 (by rfl) ?_
  refine rx_getfield d_SR_time_6 fl_SR_35 c11 (by rfl) ?_
  refine rx_getfield d_SR_time_9 fl_SR_146 D1.1 (by rfl) ?_
  refine rx_iconst (v := 1) d_SR_time_12 (by decide) ?_
  refine rx_isub d_SR_time_13 ?_
  refine rx_xS d_SR_time_14 ml_SR_150 st_SR_needPlayed (by exact c9_SR_needPlayed) rfl (by rfl) (by exact Nat.le_of_ble_eq_true rfl) (x_needPlayed (d := d + 1) htr hi) ?_
  rintro h2 rfl
  exact ⟨rfl, ⟨true, kp, C1.ap⟩, f1.gr.tr rx_gr.ap, by rw [List.length_append, f1.1]; exact Nat.le_refl _⟩
theorem c_tick (hv : vok n Va) (C : is_cl V h A ra na n Le Te Va num NS kn kp) (hz : flt n Va = 0) {i : Nat} (hi : i ≤ pN n Va) : rx_C V (d + 8) 1 6 m_SR_tick [.ref (A 0), .int (nI i)] h (cPo V h A ra na n num (.inl (some (.long (ffo (tks n Le Te (wf n Va)) 0 0 i)))) na Le Te Va num NS) := by
  obtain ⟨fs, c1⟩ := C.c0
  obtain ⟨hn, h0, -⟩ := C.n20
  have hN := pN_le hn h0 hv hz
  have hw : ¬ iwn (nI i) 0 (nI (pN n Va)) = 0 := (iwn_N2 (by omega)).mpr ⟨i, hi, rfl⟩
  refine rx_aload_nr d_SR_tick_0 (by rfl) ?_
  refine rx_pV d_SR_tick_1 (by rfl) ml_SR_147 im_SR_needRoad se_SR_needRoad (by exact c9_SR_needRoad) c1 (by rfl) (by exact Nat.le_of_ble_eq_true rfl) (c_needRoad hv C hz) ?_
  intro h1 z9
  obtain ⟨C1, f1⟩ := z9
  obtain ⟨fs1, c11, hp1, Z1⟩ := C1.road
  obtain ⟨jm, wo, wy, tk, f, D1, w1⟩ := Z1 hz
  refine rx_iload_n d_SR_tick_4 (by rfl) ?_
  refine rx_aload_nr d_SR_tick_5 (by rfl) ?_
  refine rx_getfield d_SR_tick_6 fl_SR_35 c11 (by rfl) ?_
  refine rx_getfield d_SR_tick_9 fl_SR_146 D1.1 (by rfl) ?_
  refine rx_cS d_SR_tick_12 ml_SR_150 st_SR_needPlayed (by exact c9_SR_needPlayed) (by rfl) (by exact Nat.le_of_ble_eq_true rfl) (c_needPlayed hw) ?_
  refine rx_aload_nr d_SR_tick_15 (by rfl) ?_
  refine rx_getfield d_SR_tick_16 fl_SR_35 c11 (by rfl) ?_
  refine rx_aload_nr d_SR_tick_19 (by rfl) ?_
  refine rx_getfield d_SR_tick_20 fl_SR_14 c11 (by rfl) ?_
  refine rx_iload_n d_SR_tick_23 (by rfl) ?_
  refine rx_cV d_SR_tick_24 (by rfl) ml_SR_163 im_Road_ticksTo se_Road_ticksTo (by exact c9_Road_ticksTo) D1.1 (by rfl) (by exact Nat.le_of_ble_eq_true rfl) (c_ticksTo hp1 D1 hi) ?_
  rw [ffo_c (G := tks n Le Te (wf n Va)) i 0 0 (fun x j _ h2 => by unfold tks; rw [w1 j (by omega)])]
  refine rx_lreturn d_SR_tick_27 (by rfl) ?_
  exact ⟨rfl, ⟨true, kp, C1⟩, f1.gr, by rw [f1.1]; omega⟩
theorem x_tick1 (htr : V.1.stackTraces = false) (hv : vok n Va) (C : is_cl V h A ra na n Le Te Va num NS kn kp) (hz : ¬ flt n Va = 0) (i : Int32) : rx_C V (d + 8) 1 6 m_SR_tick [.ref (A 0), .int i] h (cPo V h A ra na n num (.inr 1) na Le Te Va num NS) := by
  obtain ⟨fs, c1⟩ := C.c0
  obtain ⟨hn, h0, -⟩ := C.n20
  refine rx_aload_nr d_SR_tick_0 (by rfl) ?_
  refine rx_xV d_SR_tick_1 (by rfl) ml_SR_147 im_SR_needRoad se_SR_needRoad (by exact c9_SR_needRoad) rfl c1 (by rfl) (by exact Nat.le_of_ble_eq_true rfl) (x_needRoad htr hv C hz) ?_
  exact fun h1 z => ⟨rfl, ⟨true, kp, z.1⟩, z.2.1, Nat.le_of_eq z.2.2⟩
theorem x_tick2 (htr : V.1.stackTraces = false) (hv : vok n Va) (C : is_cl V h A ra na n Le Te Va num NS kn kp) (hz : flt n Va = 0) {i : Int32} (hi : iwn i 0 (nI (pN n Va)) = 0) : rx_C V (d + 8) 1 6 m_SR_tick [.ref (A 0), .int i] h (cPo V h A ra na n num (.inr 2) na Le Te Va num NS) := by
  obtain ⟨fs, c1⟩ := C.c0
  obtain ⟨hn, h0, -⟩ := C.n20
  refine rx_aload_nr d_SR_tick_0 (by rfl) ?_
  refine rx_pV d_SR_tick_1 (by rfl) ml_SR_147 im_SR_needRoad se_SR_needRoad (by exact c9_SR_needRoad) c1 (by rfl) (by exact Nat.le_of_ble_eq_true rfl) (c_needRoad hv C hz) ?_
  intro h1 z9
  obtain ⟨C1, f1⟩ := z9
  obtain ⟨fs1, c11, hp1, Z1⟩ := C1.road
  obtain ⟨jm, wo, wy, tk, f, D1, w1⟩ := Z1 hz
  refine rx_iload_n d_SR_tick_4 (by rfl) ?_
  refine rx_aload_nr d_SR_tick_5 (by rfl) ?_
  refine rx_getfield d_SR_tick_6 fl_SR_35 c11 (by rfl) ?_
  refine rx_getfield d_SR_tick_9 fl_SR_146 D1.1 (by rfl) ?_
  refine rx_xS d_SR_tick_12 ml_SR_150 st_SR_needPlayed (by exact c9_SR_needPlayed) rfl (by rfl) (by exact Nat.le_of_ble_eq_true rfl) (x_needPlayed (d := d + 1) htr hi) ?_
  rintro h2 rfl
  exact ⟨rfl, ⟨true, kp, C1.ap⟩, f1.gr.tr rx_gr.ap, by rw [List.length_append, f1.1]; exact Nat.le_refl _⟩
theorem c_find (hv : vok n Va) (C : is_cl V h A ra na n Le Te Va num NS kn kp) (hz : flt n Va = 0) (b k : Int32) : rx_C V (d + 8) 1 6 m_SR_find [.ref (A 0), .int b, .int k] h (cPo V h A ra na n num (.inl (some (.int (ixf (wf n Va) b k 0 0 (pN n Va))))) na Le Te Va num NS) := by
  obtain ⟨fs, c1⟩ := C.c0
  obtain ⟨hn, h0, -⟩ := C.n20
  refine rx_aload_nr d_SR_find_0 (by rfl) ?_
  refine rx_pV d_SR_find_1 (by rfl) ml_SR_147 im_SR_needRoad se_SR_needRoad (by exact c9_SR_needRoad) c1 (by rfl) (by exact Nat.le_of_ble_eq_true rfl) (c_needRoad hv C hz) ?_
  intro h1 z9
  obtain ⟨C1, f1⟩ := z9
  obtain ⟨fs1, c11, hp1, Z1⟩ := C1.road
  obtain ⟨jm, wo, wy, tk, f, D1, w1⟩ := Z1 hz
  refine rx_aload_nr d_SR_find_4 (by rfl) ?_
  refine rx_getfield d_SR_find_5 fl_SR_35 c11 (by rfl) ?_
  refine rx_iload_n d_SR_find_8 (by rfl) ?_
  refine rx_iload_n d_SR_find_9 (by rfl) ?_
  refine rx_cV d_SR_find_10 (by rfl) ml_SR_160 im_Road_indexOf se_Road_indexOf (by exact c9_Road_indexOf) D1.1 (by rfl) (by exact Nat.le_of_ble_eq_true rfl) (c_indexOf D1 b k) ?_
  rw [ixf_c (f' := wf n Va) (pN n Va) 0 0 (fun j _ h2 => w1 j (by omega))]
  refine rx_ireturn d_SR_find_13 (by rfl) ?_
  exact ⟨rfl, ⟨true, kp, C1⟩, f1.gr, by rw [f1.1]; omega⟩
theorem x_find (htr : V.1.stackTraces = false) (hv : vok n Va) (C : is_cl V h A ra na n Le Te Va num NS kn kp) (hz : ¬ flt n Va = 0) (b k : Int32) : rx_C V (d + 8) 1 6 m_SR_find [.ref (A 0), .int b, .int k] h (cPo V h A ra na n num (.inr 1) na Le Te Va num NS) := by
  obtain ⟨fs, c1⟩ := C.c0
  obtain ⟨hn, h0, -⟩ := C.n20
  refine rx_aload_nr d_SR_find_0 (by rfl) ?_
  refine rx_xV d_SR_find_1 (by rfl) ml_SR_147 im_SR_needRoad se_SR_needRoad (by exact c9_SR_needRoad) rfl c1 (by rfl) (by exact Nat.le_of_ble_eq_true rfl) (x_needRoad htr hv C hz) ?_
  exact fun h1 z => ⟨rfl, ⟨true, kp, z.1⟩, z.2.1, Nat.le_of_eq z.2.2⟩
theorem c_at (hv : vok n Va) (C : is_cl V h A ra na n Le Te Va num NS kn kp) (hz : flt n Va = 0) (t : Int64) : rx_C V (d + 8) 1 6 m_SR_at [.ref (A 0), .long t] h (cPo V h A ra na n num (.inl (some (.int (if t < 0 then -1 else iaf n Le Te (wf n Va) t 0 0 (pN n Va))))) na Le Te Va num NS) := by
  obtain ⟨fs, c1⟩ := C.c0
  obtain ⟨hn, h0, -⟩ := C.n20
  refine rx_aload_nr d_SR_at_0 (by rfl) ?_
  refine rx_pV d_SR_at_1 (by rfl) ml_SR_147 im_SR_needRoad se_SR_needRoad (by exact c9_SR_needRoad) c1 (by rfl) (by exact Nat.le_of_ble_eq_true rfl) (c_needRoad hv C hz) ?_
  intro h1 z9
  obtain ⟨C1, f1⟩ := z9
  obtain ⟨fs1, c11, hp1, Z1⟩ := C1.road
  obtain ⟨jm, wo, wy, tk, f, D1, w1⟩ := Z1 hz
  refine rx_aload_nr d_SR_at_4 (by rfl) ?_
  refine rx_getfield d_SR_at_5 fl_SR_35 c11 (by rfl) ?_
  refine rx_aload_nr d_SR_at_8 (by rfl) ?_
  refine rx_getfield d_SR_at_9 fl_SR_14 c11 (by rfl) ?_
  refine rx_lload_n d_SR_at_12 (by rfl) ?_
  refine rx_cV d_SR_at_13 (by rfl) ml_SR_167 im_Road_indexAt se_Road_indexAt (by exact c9_Road_indexAt) D1.1 (by rfl) (by exact Nat.le_of_ble_eq_true rfl) (c_indexAt hp1 D1 t) ?_
  rw [iaf_c (f' := wf n Va) (pN n Va) 0 0 (fun j _ h2 => w1 j (by omega))]
  refine rx_ireturn d_SR_at_16 (by rfl) ?_
  exact ⟨rfl, ⟨true, kp, C1⟩, f1.gr, by rw [f1.1]; omega⟩
theorem x_at (htr : V.1.stackTraces = false) (hv : vok n Va) (C : is_cl V h A ra na n Le Te Va num NS kn kp) (hz : ¬ flt n Va = 0) (t : Int64) : rx_C V (d + 8) 1 6 m_SR_at [.ref (A 0), .long t] h (cPo V h A ra na n num (.inr 1) na Le Te Va num NS) := by
  obtain ⟨fs, c1⟩ := C.c0
  obtain ⟨hn, h0, -⟩ := C.n20
  refine rx_aload_nr d_SR_at_0 (by rfl) ?_
  refine rx_xV d_SR_at_1 (by rfl) ml_SR_147 im_SR_needRoad se_SR_needRoad (by exact c9_SR_needRoad) rfl c1 (by rfl) (by exact Nat.le_of_ble_eq_true rfl) (x_needRoad htr hv C hz) ?_
  exact fun h1 z => ⟨rfl, ⟨true, kp, z.1⟩, z.2.1, Nat.le_of_eq z.2.2⟩
end GR
