/-! ScoreRoads' constructor -/
def adr (q n i : Nat) : Nat := if i < 11 then q + i else q + n + i
def cnt (x : Int32) : Nat := if 1 ≤ x.toInt ∧ x.toInt ≤ 20 then x.toInt.toNat else 12
theorem cnt_ok (x : Int32) : 0 < cnt x ∧ cnt x ≤ 20 := by
  unfold cnt
  by_cases c : 1 ≤ x.toInt ∧ x.toInt ≤ 20
  · rw [if_pos c]; omega
  · rw [if_neg c]; omega
section I3
variable {V : rx_V} {d kc ks a aF aI n al at_ av aP aN ar num aR aA aE aG aD aO N q m9 : Nat} {h h' : List va_E} {Le Te Va f : Nat → Int32} {fw fA fE fG : Nat → Option Nat} {ra na : Nat → Nat} {R NS : Nat → Nat → Int32} {jm wo wy tk kp : Int32} {fF : Nat → Option Nat} {fI : Nat → Int32} {FP : Nat → Prop}
theorem is_pg.gr (hp : is_pg V h aP n al at_ av Le Te Va) (g : rx_gr V h h' FP) (h1 : ¬ FP aP) (h2 : ¬ FP al) (h3 : ¬ FP at_) (h4 : ¬ FP av) : is_pg V h' aP n al at_ av Le Te Va :=
  ⟨g.2 _ _ h1 hp.1, g.2 _ _ h2 hp.2.1, g.2 _ _ h3 hp.2.2.1, g.2 _ _ h4 hp.2.2.2.1, hp.2.2.2.2⟩
theorem is_nt.gr (hN : is_nt V h aN ar num fw na NS) (g : rx_gr V h h' FP) (h1 : ¬ FP aN) (h2 : ¬ FP ar) (h3 : ∀ i, i < num → ¬ FP (na i)) : is_nt V h' aN ar num fw na NS :=
  ⟨g.2 _ _ h1 hN.1, g.2 _ _ h2 hN.2.1, hN.2.2.1, fun i hi => g.2 _ _ (h3 i hi) (hN.2.2.2.1 i hi), hN.2.2.2.2⟩
theorem is_rp.gr (H : is_rp V h aR n aA aE aG num fA fE fG ra R) (g : rx_gr V h h' FP) (h1 : ¬ FP aR) (h2 : ¬ FP aA) (h3 : ¬ FP aE) (h4 : ¬ FP aG) (h5 : ∀ r, r < n → ¬ FP (ra r)) : is_rp V h' aR n aA aE aG num fA fE fG ra R :=
  ⟨g.2 _ _ h1 H.1, g.2 _ _ h2 H.2.1, g.2 _ _ h3 H.2.2.1, g.2 _ _ h4 H.2.2.2.1, H.2.2.2.2.1, fun r hr => g.2 _ _ (h5 r hr) (H.cell hr), H.2.2.2.2.2.2⟩
theorem is_rd.gr (D : is_rd V h aD aO n N jm wo wy tk f) (g : rx_gr V h h' FP) (h1 : ¬ FP aD) (h2 : ¬ FP aO) : is_rd V h' aD aO n N jm wo wy tk f := ⟨g.2 _ _ h1 D.1, g.2 _ _ h2 D.2.1, D.2.2⟩
theorem is_sd.gr (S : is_sd V h a aF aI m9 kp fF fI) (g : rx_gr V h h' FP) (h1 : ¬ FP a) (h2 : ¬ FP aF) (h3 : ¬ FP aI) : is_sd V h' a aF aI m9 kp fF fI := ⟨g.2 _ _ h1 S.1, g.2 _ _ h2 S.2.1, g.2 _ _ h3 S.2.2.1, S.2.2.2⟩
theorem rx_gr.wr {e0 e : va_E} (he : rx_rd V h q = some e0) (ha : FP q) : rx_gr V h (rx_wr V h q e) FP := (rx_fr.wr he ha).gr
end I3
section I4
variable {V : rx_V} {d : Nat} {h : List va_E} {q : Nat}
theorem c_srInit (x : Int32) (hq : rx_rd V h q = some (.inr (0, [.null, .null, .null, .null, .null, .int 0, .int 0]))) (hql : q + 1 = V.2.1 + h.length) : rx_C V (d + 3) 35 1700 m_SR_init [.ref q, .int x] h (fun r9 h' => r9 = .inl none ∧ is_cl V h' (adr q (cnt x)) (fun r => q + 11 + r) (fun _ => 0) (cnt x) (pl0 (cnt x) 16) (pl0 (cnt x) 10) (fun _ => 0) 0 (fun _ _ => 0) false (-1) ∧ rx_gr V h h' (fun y => y = q) ∧ h'.length = h.length + 15 + cnt x) := by
  obtain ⟨n0, n20⟩ := cnt_ok x
  generalize hne : cnt x = n at n0 n20 ⊢
  have jn : ∀ (Q : rx_R → List va_E → Prop), rx_W V (d + 3) 35 1700 m_SR_init 21 [some (.ref q), some (.int x), none] [.int (nI n)] h Q → rx_W V (d + 3) 35 1700 m_SR_init 4 [some (.ref q), some (.int x), none] [] h Q := by
    intro Q kk
    refine rx_iload_n d_SR_init_4 (by rfl) ?_
    refine rx_iconst (v := 1) d_SR_init_5 (by decide) ?_
    refine rx_icmp_lt (tgt := 19) d_SR_init_6 (by rfl) (fun c6 => ?_) (fun c6 => ?_)
    · have c : n = 12 := by rw [← hne]; unfold cnt; exact if_neg (fun z => by rw [i_lt, show (1 : Int32).toInt = 1 from by decide] at c6; omega)
      subst c
      refine rx_bipush (v := 12) d_SR_init_19 (by decide) ?_
      first
      | exact kk
      | (rw [c] at kk ⊢; exact kk)
    · refine rx_iload_n d_SR_init_9 (by rfl) ?_
      refine rx_bipush (v := 20) d_SR_init_10 (by decide) ?_
      refine rx_icmp_gt (tgt := 19) d_SR_init_12 (by rfl) (fun c12 => ?_) (fun c12 => ?_)
      · have c : n = 12 := by rw [← hne]; unfold cnt; exact if_neg (fun z => by rw [i_lt, show (20 : Int32).toInt = 20 from by decide] at c12; omega)
        subst c
        refine rx_bipush (v := 12) d_SR_init_19 (by decide) ?_
        first
        | exact kk
        | (rw [c] at kk ⊢; exact kk)
      · have c : x = nI n := by
          rw [i_lt, show (20 : Int32).toInt = 20 from by decide] at c12
          rw [i_lt, show (1 : Int32).toInt = 1 from by decide] at c6
          refine i_of (by omega) ?_
          rw [← hne]; unfold cnt
          rw [if_pos (by omega)]; omega
        refine rx_iload_n d_SR_init_15 (by rfl) ?_
        refine rx_goto (tgt := 21) d_SR_init_16 (by rfl) ?_
        first
        | exact kk
        | (rw [c] at kk ⊢; exact kk)
  refine rx_aload_nr d_SR_init_0 (by rfl) ?_
  refine rx_objInit d_SR_init_1 w_obj_SR w_obj2 w_obj3 (by exact Nat.le_of_ble_eq_true rfl) ?_
  refine jn _ ?_
  have q0 := hq
  have T0 : rx_gr V h h (fun y => y = q) := rx_gr.rf
  refine rx_istore_n d_SR_init_21 (Nat.le_of_ble_eq_true rfl) ?_
  refine rx_aload_nr d_SR_init_22 (by rfl) ?_
  refine rx_more (rx_new (kc := 34) (ks := 1696) (ci := 1) (N := 4) (fs := [.int 0, .null, .null, .null]) t_Page d_SR_init_23 (by rfl) w_Page t_Page_ok ck_SR_9 (rx_in 29 (by decide +kernel) (by decide +kernel)) (rx_in 2 (by decide +kernel) (by decide +kernel)) (by decide +kernel) ?_) (Nat.le_refl _) (by omega) (by omega)
  have v1 : V.2.1 + h.length = q + 1 := by omega
  have gn1 : rx_gr V h (h ++ [(.inr (1, [.int 0, .null, .null, .null]) : va_E)]) (fun _ => False) := rx_gr.ap
  have nn1 : rx_rd V (h ++ [(.inr (1, [.int 0, .null, .null, .null]) : va_E)]) (V.2.1 + h.length) = some ((.inr (1, [.int 0, .null, .null, .null]) : va_E)) := rx_rd_new
  have ln1 : (h ++ [(.inr (1, [.int 0, .null, .null, .null]) : va_E)]).length = h.length + 1 := ap_len
  generalize en1 : h ++ [(.inr (1, [.int 0, .null, .null, .null]) : va_E)] = h1 at gn1 nn1 ln1 ⊢
  rw [v1] at nn1 ⊢
  have q1 := gn1.2 _ _ (fun z => z) q0
  have T1 := T0.tr (gn1.mo (fun y z => z.elim))
  refine rx_dup d_SR_init_26 (by rfl) ?_
  refine rx_iload_n d_SR_init_27 (by rfl) ?_
  refine rx_more (rx_pI (kc := 31) (ks := 1456) d_SR_init_28 ml_SR_11 im_Page_init (by rfl) (by rfl) (by exact c9_Page_init) (by rfl) (by exact Nat.le_of_ble_eq_true rfl) (c_pageInit n20 nn1) ?_) (Nat.le_refl _) (by omega) (by omega)
  intro h2 z9
  obtain ⟨hp2, gi2, li2⟩ := z9
  rw [show V.2.1 + h1.length = q + 2 from by omega] at hp2
  rw [show V.2.1 + (h1.length + 1) = q + 3 from by omega] at hp2
  rw [show V.2.1 + (h1.length + 2) = q + 4 from by omega] at hp2
  have q2 := gi2.2 _ _ (by show ¬ (_ = q + 1); omega) q1
  have T2 : rx_gr V h h2 (fun y => y = q) := ⟨by omega, fun y e hy he => gi2.2 y e (by have := rx_rd_lt he; show ¬ (_ = q + 1); omega) (T1.2 y e hy he)⟩
  refine rx_putfield d_SR_init_31 (fw_SR_14 rfl rfl) q2 (Nat.le_of_ble_eq_true rfl) (by rfl) (by rfl) ?_
  show rx_W _ _ _ _ _ _ _ _ (rx_wr V h2 q (.inr (0, [.ref (q + 1), .null, .null, .null, .null, .int 0, .int 0]))) _
  have q3 := rx_rd_wr (e := .inr (0, [.ref (q + 1), .null, .null, .null, .null, .int 0, .int 0])) q2
  have gw3 : rx_gr V h2 (rx_wr V h2 q (.inr (0, [.ref (q + 1), .null, .null, .null, .null, .int 0, .int 0]))) (fun y => y = q) := rx_gr.wr q2 rfl
  have lw3 := @rx_wr_len V h2 q (.inr (0, [.ref (q + 1), .null, .null, .null, .null, .int 0, .int 0]))
  generalize ew3 : rx_wr V h2 q (.inr (0, [.ref (q + 1), .null, .null, .null, .null, .int 0, .int 0])) = h3 at q3 gw3 lw3 ⊢
  have hp3 := hp2.gr gw3 (by show ¬ (_ = q); omega) (by show ¬ (_ = q); omega) (by show ¬ (_ = q); omega) (by show ¬ (_ = q); omega)
  have T3 := T2.tr gw3
  refine rx_aload_nr d_SR_init_34 (by rfl) ?_
  refine rx_more (rx_new (kc := 30) (ks := 1454) (ci := 2) (N := 2) (fs := [.null, .int 0]) t_Notes d_SR_init_35 (by rfl) w_Notes t_Notes_ok ck_SR_18 (rx_in 55 (by decide +kernel) (by decide +kernel)) (rx_in 4 (by decide +kernel) (by decide +kernel)) (by decide +kernel) ?_) (Nat.le_refl _) (by omega) (by omega)
  have v4 : V.2.1 + h3.length = q + 5 := by omega
  have gn4 : rx_gr V h3 (h3 ++ [(.inr (2, [.null, .int 0]) : va_E)]) (fun _ => False) := rx_gr.ap
  have nn4 : rx_rd V (h3 ++ [(.inr (2, [.null, .int 0]) : va_E)]) (V.2.1 + h3.length) = some ((.inr (2, [.null, .int 0]) : va_E)) := rx_rd_new
  have ln4 : (h3 ++ [(.inr (2, [.null, .int 0]) : va_E)]).length = h3.length + 1 := ap_len
  generalize en4 : h3 ++ [(.inr (2, [.null, .int 0]) : va_E)] = h4 at gn4 nn4 ln4 ⊢
  rw [v4] at nn4 ⊢
  have q4 := gn4.2 _ _ (fun z => z) q3
  have hp4 := hp3.gr gn4 (fun z => z) (fun z => z) (fun z => z) (fun z => z)
  have T4 := T3.tr (gn4.mo (fun y z => z.elim))
  refine rx_dup d_SR_init_38 (by rfl) ?_
  refine rx_more (rx_pI (kc := 29) (ks := 1414) d_SR_init_39 ml_SR_20 im_Notes_init (by rfl) (by rfl) (by exact c9_Notes_init) (by rfl) (by exact Nat.le_of_ble_eq_true rfl) (c_notesInit (na := fun _ => 0) (NS := fun _ _ => 0) nn4) ?_) (Nat.le_refl _) (by omega) (by omega)
  intro h5 z9
  obtain ⟨hN5, gi5, li5⟩ := z9
  rw [show V.2.1 + h4.length = q + 6 from by omega] at hN5
  have q5 := gi5.2 _ _ (by show ¬ (_ = q + 5); omega) q4
  have hp5 := hp4.gr gi5 (by show ¬ (_ = q + 5); omega) (by show ¬ (_ = q + 5); omega) (by show ¬ (_ = q + 5); omega) (by show ¬ (_ = q + 5); omega)
  have T5 : rx_gr V h h5 (fun y => y = q) := ⟨by omega, fun y e hy he => gi5.2 y e (by have := rx_rd_lt he; show ¬ (_ = q + 5); omega) (T4.2 y e hy he)⟩
  refine rx_putfield d_SR_init_42 (fw_SR_21 rfl rfl) q5 (Nat.le_of_ble_eq_true rfl) (by rfl) (by rfl) ?_
  show rx_W _ _ _ _ _ _ _ _ (rx_wr V h5 q (.inr (0, [.ref (q + 1), .ref (q + 5), .null, .null, .null, .int 0, .int 0]))) _
  have q6 := rx_rd_wr (e := .inr (0, [.ref (q + 1), .ref (q + 5), .null, .null, .null, .int 0, .int 0])) q5
  have gw6 : rx_gr V h5 (rx_wr V h5 q (.inr (0, [.ref (q + 1), .ref (q + 5), .null, .null, .null, .int 0, .int 0]))) (fun y => y = q) := rx_gr.wr q5 rfl
  have lw6 := @rx_wr_len V h5 q (.inr (0, [.ref (q + 1), .ref (q + 5), .null, .null, .null, .int 0, .int 0]))
  generalize ew6 : rx_wr V h5 q (.inr (0, [.ref (q + 1), .ref (q + 5), .null, .null, .null, .int 0, .int 0])) = h6 at q6 gw6 lw6 ⊢
  have hp6 := hp5.gr gw6 (by show ¬ (_ = q); omega) (by show ¬ (_ = q); omega) (by show ¬ (_ = q); omega) (by show ¬ (_ = q); omega)
  have hN6 := hN5.gr gw6 (by show ¬ (_ = q); omega) (by show ¬ (_ = q); omega) (fun i hi => absurd hi (Nat.not_lt_zero _))
  have T6 := T5.tr gw6
  refine rx_aload_nr d_SR_init_45 (by rfl) ?_
  refine rx_more (rx_new (kc := 28) (ks := 1410) (ci := 3) (N := 4) (fs := [.null, .null, .null, .int 0]) t_Repeats d_SR_init_46 (by rfl) w_Repeats t_Repeats_ok ck_SR_25 (rx_in 72 (by decide +kernel) (by decide +kernel)) (rx_in 5 (by decide +kernel) (by decide +kernel)) (by decide +kernel) ?_) (Nat.le_refl _) (by omega) (by omega)
  have v7 : V.2.1 + h6.length = q + 7 := by omega
  have gn7 : rx_gr V h6 (h6 ++ [(.inr (3, [.null, .null, .null, .int 0]) : va_E)]) (fun _ => False) := rx_gr.ap
  have nn7 : rx_rd V (h6 ++ [(.inr (3, [.null, .null, .null, .int 0]) : va_E)]) (V.2.1 + h6.length) = some ((.inr (3, [.null, .null, .null, .int 0]) : va_E)) := rx_rd_new
  have ln7 : (h6 ++ [(.inr (3, [.null, .null, .null, .int 0]) : va_E)]).length = h6.length + 1 := ap_len
  generalize en7 : h6 ++ [(.inr (3, [.null, .null, .null, .int 0]) : va_E)] = h7 at gn7 nn7 ln7 ⊢
  rw [v7] at nn7 ⊢
  have q7 := gn7.2 _ _ (fun z => z) q6
  have hp7 := hp6.gr gn7 (fun z => z) (fun z => z) (fun z => z) (fun z => z)
  have hN7 := hN6.gr gn7 (fun z => z) (fun z => z) (fun _ _ z => z)
  have T7 := T6.tr (gn7.mo (fun y z => z.elim))
  refine rx_dup d_SR_init_49 (by rfl) ?_
  refine rx_iload_n d_SR_init_50 (by rfl) ?_
  refine rx_more (rx_pI (kc := 5) (ks := 1210) d_SR_init_51 ml_SR_27 im_Repeats_init (by rfl) (by rfl) (by exact c9_Repeats_init) (by rfl) (by exact Nat.le_of_ble_eq_true rfl) (c_repsInit n20 nn7) ?_) (Nat.le_refl _) (by omega) (by omega)
  intro h8 z9
  obtain ⟨⟨fA, H8⟩, gi8, li8⟩ := z9
  rw [show V.2.1 + h7.length = q + 8 from by omega] at H8
  rw [show V.2.1 + (h7.length + 1) = q + 9 from by omega] at H8
  rw [show V.2.1 + (h7.length + 2) = q + 10 from by omega] at H8
  rw [show (fun r => V.2.1 + (h7.length + 3 + r)) = (fun r => q + 11 + r) from by funext r; omega] at H8
  have q8 := gi8.2 _ _ (by show ¬ (_ = q + 7); omega) q7
  have hp8 := hp7.gr gi8 (by show ¬ (_ = q + 7); omega) (by show ¬ (_ = q + 7); omega) (by show ¬ (_ = q + 7); omega) (by show ¬ (_ = q + 7); omega)
  have hN8 := hN7.gr gi8 (by show ¬ (_ = q + 7); omega) (by show ¬ (_ = q + 7); omega) (fun i hi => absurd hi (Nat.not_lt_zero _))
  have T8 : rx_gr V h h8 (fun y => y = q) := ⟨by omega, fun y e hy he => gi8.2 y e (by have := rx_rd_lt he; show ¬ (_ = q + 7); omega) (T7.2 y e hy he)⟩
  refine rx_putfield d_SR_init_54 (fw_SR_28 rfl rfl) q8 (Nat.le_of_ble_eq_true rfl) (by rfl) (by rfl) ?_
  show rx_W _ _ _ _ _ _ _ _ (rx_wr V h8 q (.inr (0, [.ref (q + 1), .ref (q + 5), .ref (q + 7), .null, .null, .int 0, .int 0]))) _
  have q9 := rx_rd_wr (e := .inr (0, [.ref (q + 1), .ref (q + 5), .ref (q + 7), .null, .null, .int 0, .int 0])) q8
  have gw9 : rx_gr V h8 (rx_wr V h8 q (.inr (0, [.ref (q + 1), .ref (q + 5), .ref (q + 7), .null, .null, .int 0, .int 0]))) (fun y => y = q) := rx_gr.wr q8 rfl
  have lw9 := @rx_wr_len V h8 q (.inr (0, [.ref (q + 1), .ref (q + 5), .ref (q + 7), .null, .null, .int 0, .int 0]))
  generalize ew9 : rx_wr V h8 q (.inr (0, [.ref (q + 1), .ref (q + 5), .ref (q + 7), .null, .null, .int 0, .int 0])) = h9 at q9 gw9 lw9 ⊢
  have hp9 := hp8.gr gw9 (by show ¬ (_ = q); omega) (by show ¬ (_ = q); omega) (by show ¬ (_ = q); omega) (by show ¬ (_ = q); omega)
  have hN9 := hN8.gr gw9 (by show ¬ (_ = q); omega) (by show ¬ (_ = q); omega) (fun i hi => absurd hi (Nat.not_lt_zero _))
  have H9 := H8.gr gw9 (by show ¬ (_ = q); omega) (by show ¬ (_ = q); omega) (by show ¬ (_ = q); omega) (by show ¬ (_ = q); omega) (fun r hr => by show ¬ (q + 11 + r = q); omega)
  have T9 := T8.tr gw9
  refine rx_aload_nr d_SR_init_57 (by rfl) ?_
  refine rx_more (rx_new (kc := 4) (ks := 1204) (ci := 5) (N := 6) (fs := [.null, .int 0, .int 0, .int 0, .int 0, .int 0]) t_Road d_SR_init_58 (by rfl) w_Road t_Road_ok ck_SR_32 (rx_in 132 (by decide +kernel) (by decide +kernel)) (rx_in 7 (by decide +kernel) (by decide +kernel)) (by decide +kernel) ?_) (Nat.le_refl _) (by omega) (by omega)
  have v10 : V.2.1 + h9.length = q + n + 11 := by omega
  have gn10 : rx_gr V h9 (h9 ++ [(.inr (5, [.null, .int 0, .int 0, .int 0, .int 0, .int 0]) : va_E)]) (fun _ => False) := rx_gr.ap
  have nn10 : rx_rd V (h9 ++ [(.inr (5, [.null, .int 0, .int 0, .int 0, .int 0, .int 0]) : va_E)]) (V.2.1 + h9.length) = some ((.inr (5, [.null, .int 0, .int 0, .int 0, .int 0, .int 0]) : va_E)) := rx_rd_new
  have ln10 : (h9 ++ [(.inr (5, [.null, .int 0, .int 0, .int 0, .int 0, .int 0]) : va_E)]).length = h9.length + 1 := ap_len
  generalize en10 : h9 ++ [(.inr (5, [.null, .int 0, .int 0, .int 0, .int 0, .int 0]) : va_E)] = h10 at gn10 nn10 ln10 ⊢
  rw [v10] at nn10 ⊢
  have q10 := gn10.2 _ _ (fun z => z) q9
  have hp10 := hp9.gr gn10 (fun z => z) (fun z => z) (fun z => z) (fun z => z)
  have hN10 := hN9.gr gn10 (fun z => z) (fun z => z) (fun _ _ z => z)
  have H10 := H9.gr gn10 (fun z => z) (fun z => z) (fun z => z) (fun z => z) (fun _ _ z => z)
  have T10 := T9.tr (gn10.mo (fun y z => z.elim))
  refine rx_dup d_SR_init_61 (by rfl) ?_
  refine rx_iload_n d_SR_init_62 (by rfl) ?_
  refine rx_more (rx_pI (kc := 3) (ks := 964) d_SR_init_63 ml_SR_34 im_Road_init (by rfl) (by rfl) (by exact c9_Road_init) (by rfl) (by exact Nat.le_of_ble_eq_true rfl) (c_roadInit n20 nn10) ?_) (Nat.le_refl _) (by omega) (by omega)
  intro h11 z9
  obtain ⟨D11, gi11, li11⟩ := z9
  rw [show V.2.1 + h10.length = q + n + 12 from by omega] at D11
  have q11 := gi11.2 _ _ (by show ¬ (_ = q + n + 11); omega) q10
  have hp11 := hp10.gr gi11 (by show ¬ (_ = q + n + 11); omega) (by show ¬ (_ = q + n + 11); omega) (by show ¬ (_ = q + n + 11); omega) (by show ¬ (_ = q + n + 11); omega)
  have hN11 := hN10.gr gi11 (by show ¬ (_ = q + n + 11); omega) (by show ¬ (_ = q + n + 11); omega) (fun i hi => absurd hi (Nat.not_lt_zero _))
  have H11 := H10.gr gi11 (by show ¬ (_ = q + n + 11); omega) (by show ¬ (_ = q + n + 11); omega) (by show ¬ (_ = q + n + 11); omega) (by show ¬ (_ = q + n + 11); omega) (fun r hr => by show ¬ (q + 11 + r = q + n + 11); omega)
  have T11 : rx_gr V h h11 (fun y => y = q) := ⟨by omega, fun y e hy he => gi11.2 y e (by have := rx_rd_lt he; show ¬ (_ = q + n + 11); omega) (T10.2 y e hy he)⟩
  refine rx_putfield d_SR_init_66 (fw_SR_35 rfl rfl) q11 (Nat.le_of_ble_eq_true rfl) (by rfl) (by rfl) ?_
  show rx_W _ _ _ _ _ _ _ _ (rx_wr V h11 q (.inr (0, [.ref (q + 1), .ref (q + 5), .ref (q + 7), .ref (q + n + 11), .null, .int 0, .int 0]))) _
  have q12 := rx_rd_wr (e := .inr (0, [.ref (q + 1), .ref (q + 5), .ref (q + 7), .ref (q + n + 11), .null, .int 0, .int 0])) q11
  have gw12 : rx_gr V h11 (rx_wr V h11 q (.inr (0, [.ref (q + 1), .ref (q + 5), .ref (q + 7), .ref (q + n + 11), .null, .int 0, .int 0]))) (fun y => y = q) := rx_gr.wr q11 rfl
  have lw12 := @rx_wr_len V h11 q (.inr (0, [.ref (q + 1), .ref (q + 5), .ref (q + 7), .ref (q + n + 11), .null, .int 0, .int 0]))
  generalize ew12 : rx_wr V h11 q (.inr (0, [.ref (q + 1), .ref (q + 5), .ref (q + 7), .ref (q + n + 11), .null, .int 0, .int 0])) = h12 at q12 gw12 lw12 ⊢
  have hp12 := hp11.gr gw12 (by show ¬ (_ = q); omega) (by show ¬ (_ = q); omega) (by show ¬ (_ = q); omega) (by show ¬ (_ = q); omega)
  have hN12 := hN11.gr gw12 (by show ¬ (_ = q); omega) (by show ¬ (_ = q); omega) (fun i hi => absurd hi (Nat.not_lt_zero _))
  have H12 := H11.gr gw12 (by show ¬ (_ = q); omega) (by show ¬ (_ = q); omega) (by show ¬ (_ = q); omega) (by show ¬ (_ = q); omega) (fun r hr => by show ¬ (q + 11 + r = q); omega)
  have D12 := D11.gr gw12 (by show ¬ (_ = q); omega) (by show ¬ (_ = q); omega)
  have T12 := T11.tr gw12
  refine rx_aload_nr d_SR_init_69 (by rfl) ?_
  refine rx_more (rx_new (kc := 2) (ks := 960) (ci := 6) (N := 4) (fs := [.null, .null, .int 0, .int 0]) t_Sounding d_SR_init_70 (by rfl) w_Sounding t_Sounding_ok ck_SR_39 (rx_in 159 (by decide +kernel) (by decide +kernel)) (rx_in 8 (by decide +kernel) (by decide +kernel)) (by decide +kernel) ?_) (Nat.le_refl _) (by omega) (by omega)
  have v13 : V.2.1 + h12.length = q + n + 13 := by omega
  have gn13 : rx_gr V h12 (h12 ++ [(.inr (6, [.null, .null, .int 0, .int 0]) : va_E)]) (fun _ => False) := rx_gr.ap
  have nn13 : rx_rd V (h12 ++ [(.inr (6, [.null, .null, .int 0, .int 0]) : va_E)]) (V.2.1 + h12.length) = some ((.inr (6, [.null, .null, .int 0, .int 0]) : va_E)) := rx_rd_new
  have ln13 : (h12 ++ [(.inr (6, [.null, .null, .int 0, .int 0]) : va_E)]).length = h12.length + 1 := ap_len
  generalize en13 : h12 ++ [(.inr (6, [.null, .null, .int 0, .int 0]) : va_E)] = h13 at gn13 nn13 ln13 ⊢
  rw [v13] at nn13 ⊢
  have q13 := gn13.2 _ _ (fun z => z) q12
  have hp13 := hp12.gr gn13 (fun z => z) (fun z => z) (fun z => z) (fun z => z)
  have hN13 := hN12.gr gn13 (fun z => z) (fun z => z) (fun _ _ z => z)
  have H13 := H12.gr gn13 (fun z => z) (fun z => z) (fun z => z) (fun z => z) (fun _ _ z => z)
  have D13 := D12.gr gn13 (fun z => z) (fun z => z)
  have T13 := T12.tr (gn13.mo (fun y z => z.elim))
  refine rx_dup d_SR_init_73 (by rfl) ?_
  refine rx_more (rx_pI (kc := 0) (ks := 0) d_SR_init_74 ml_SR_41 im_Sounding_init (by rfl) (by rfl) (by exact c9_Sounding_init) (by rfl) (by exact Nat.le_of_ble_eq_true rfl) (c_soundInit nn13) ?_) (Nat.le_refl _) (by omega) (by omega)
  intro h14 z9
  obtain ⟨S14, gi14, li14⟩ := z9
  rw [show V.2.1 + h13.length = q + n + 14 from by omega] at S14
  rw [show V.2.1 + (h13.length + 1) = q + n + 15 from by omega] at S14
  have q14 := gi14.2 _ _ (by show ¬ (_ = q + n + 13); omega) q13
  have hp14 := hp13.gr gi14 (by show ¬ (_ = q + n + 13); omega) (by show ¬ (_ = q + n + 13); omega) (by show ¬ (_ = q + n + 13); omega) (by show ¬ (_ = q + n + 13); omega)
  have hN14 := hN13.gr gi14 (by show ¬ (_ = q + n + 13); omega) (by show ¬ (_ = q + n + 13); omega) (fun i hi => absurd hi (Nat.not_lt_zero _))
  have H14 := H13.gr gi14 (by show ¬ (_ = q + n + 13); omega) (by show ¬ (_ = q + n + 13); omega) (by show ¬ (_ = q + n + 13); omega) (by show ¬ (_ = q + n + 13); omega) (fun r hr => by show ¬ (q + 11 + r = q + n + 13); omega)
  have D14 := D13.gr gi14 (by show ¬ (_ = q + n + 13); omega) (by show ¬ (_ = q + n + 13); omega)
  have T14 : rx_gr V h h14 (fun y => y = q) := ⟨by omega, fun y e hy he => gi14.2 y e (by have := rx_rd_lt he; show ¬ (_ = q + n + 13); omega) (T13.2 y e hy he)⟩
  refine rx_putfield d_SR_init_77 (fw_SR_42 rfl rfl) q14 (Nat.le_of_ble_eq_true rfl) (by rfl) (by rfl) ?_
  show rx_W _ _ _ _ _ _ _ _ (rx_wr V h14 q (.inr (0, [.ref (q + 1), .ref (q + 5), .ref (q + 7), .ref (q + n + 11), .ref (q + n + 13), .int 0, .int 0]))) _
  have q15 := rx_rd_wr (e := .inr (0, [.ref (q + 1), .ref (q + 5), .ref (q + 7), .ref (q + n + 11), .ref (q + n + 13), .int 0, .int 0])) q14
  have gw15 : rx_gr V h14 (rx_wr V h14 q (.inr (0, [.ref (q + 1), .ref (q + 5), .ref (q + 7), .ref (q + n + 11), .ref (q + n + 13), .int 0, .int 0]))) (fun y => y = q) := rx_gr.wr q14 rfl
  have lw15 := @rx_wr_len V h14 q (.inr (0, [.ref (q + 1), .ref (q + 5), .ref (q + 7), .ref (q + n + 11), .ref (q + n + 13), .int 0, .int 0]))
  generalize ew15 : rx_wr V h14 q (.inr (0, [.ref (q + 1), .ref (q + 5), .ref (q + 7), .ref (q + n + 11), .ref (q + n + 13), .int 0, .int 0])) = h15 at q15 gw15 lw15 ⊢
  have hp15 := hp14.gr gw15 (by show ¬ (_ = q); omega) (by show ¬ (_ = q); omega) (by show ¬ (_ = q); omega) (by show ¬ (_ = q); omega)
  have hN15 := hN14.gr gw15 (by show ¬ (_ = q); omega) (by show ¬ (_ = q); omega) (fun i hi => absurd hi (Nat.not_lt_zero _))
  have H15 := H14.gr gw15 (by show ¬ (_ = q); omega) (by show ¬ (_ = q); omega) (by show ¬ (_ = q); omega) (by show ¬ (_ = q); omega) (fun r hr => by show ¬ (q + 11 + r = q); omega)
  have D15 := D14.gr gw15 (by show ¬ (_ = q); omega) (by show ¬ (_ = q); omega)
  have S15 := S14.gr gw15 (by show ¬ (_ = q); omega) (by show ¬ (_ = q); omega) (by show ¬ (_ = q); omega)
  have T15 := T14.tr gw15
  refine rx_vreturn d_SR_init_80 (by rfl) ?_
  refine ⟨rfl, ⟨0, _, fA, fun _ => none, fun _ => none, 0, _, 0, 0, 0, 0, 0, _, 0, _, _, ⟨q15, hp15, hN15, H15, fun _ _ => rfl, fun _ _ => rfl, D15, S15⟩, ⟨fun z => (nomatch z), fun z => absurd rfl z⟩, fun i j hi => absurd hi (Nat.not_lt_zero _), ?_, ?_, n0⟩, T15, by omega⟩
  · show q + 2 ≠ q + 3; omega
  · show q + 8 ≠ q + 9 ∧ q + 8 ≠ q + 10 ∧ q + 9 ≠ q + 10; omega
end I4
