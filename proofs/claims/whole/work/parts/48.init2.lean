/-! constructors of the class, second -/
section I2
variable {V : rx_V} {d kc ks : Nat} {h : List va_E} {n q : Nat}
theorem c_notesInit {na : Nat → Nat} {NS : Nat → Nat → Int32} (hq : rx_rd V h q = some (.inr (2, [.null, .int 0]))) : rx_C V (d + 1) 1 40 m_Notes_init [.ref q] h (fun r9 h' => r9 = .inl none ∧ is_nt V h' q (V.2.1 + h.length) 0 (fun _ => none) na NS ∧ rx_gr V h h' (fun x => x = q) ∧ h'.length = h.length + 1) := by
  refine rx_aload_nr d_Notes_init_0 (by rfl) ?_
  refine rx_objInit d_Notes_init_1 w_obj_Notes w_obj2 w_obj3 (by exact Nat.le_of_ble_eq_true rfl) ?_
  refine rx_aload_nr d_Notes_init_4 (by rfl) ?_
  refine rx_bipush (v := 40) d_Notes_init_5 (by decide) ?_
  refine rx_more (rx_anewarray (kc := 0) (ks := 0) (N := 40) (t0 := 4) d_Notes_init_7 (by rfl) ck_Notes_9 (rx_in 61 (by decide +kernel) (by decide +kernel)) (by decide) (by rfl) (by omega) ?_) (Nat.le_refl _) (by omega) (by omega)
  have gw1 := rx_rd_ap (t := [.inl (V.2.2.2.1 4, 40, .inr (.inr (.inr (.inr (fun _ => none)))))]) hq
  have kw1_a0 : rx_rd V (h ++ [.inl (V.2.2.2.1 4, 40, .inr (.inr (.inr (.inr (fun _ => none)))))]) (V.2.1 + h.length) = some (.inl (V.2.2.2.1 4, 40, .inr (.inr (.inr (.inr (fun _ => none)))))) := rx_rd_new
  have qw1 : q ≠ V.2.1 + h.length := rx_rd_no hq
  generalize ew1 : h ++ [.inl (V.2.2.2.1 4, 40, .inr (.inr (.inr (.inr (fun _ => none)))))] = hw1 at gw1 kw1_a0 ⊢
  have lw1 : hw1.length = h.length + 1 := by rw [← ew1, ap_len]
  have yw1 : ∀ x e, rx_rd V h x = some e → rx_rd V hw1 x = some e := fun x e he => by rw [← ew1]; exact rx_rd_ap he
  refine rx_putfield d_Notes_init_10 (fw_Notes_11 rfl rfl) gw1 (Nat.le_of_ble_eq_true rfl) (by rfl) (by rfl) ?_
  show rx_W _ _ _ _ _ _ _ _ (rx_wr V hw1 q (.inr (2, [.ref (V.2.1 + h.length), .int 0]))) _
  have gw2 := rx_rd_wr (e := .inr (2, [.ref (V.2.1 + h.length), .int 0])) gw1
  have lw2 := @rx_wr_len V hw1 q (.inr (2, [.ref (V.2.1 + h.length), .int 0]))
  have yw2 : ∀ x e, x ≠ q → rx_rd V hw1 x = some e → rx_rd V (rx_wr V hw1 q (.inr (2, [.ref (V.2.1 + h.length), .int 0]))) x = some e := fun x e hx he => (rx_rd_wn gw1 hx).trans he
  have kw2_a0 := yw2 _ _ (Ne.symm qw1) kw1_a0
  generalize ew2 : rx_wr V hw1 q (.inr (2, [.ref (V.2.1 + h.length), .int 0])) = hw2 at gw2 lw2 yw2 kw2_a0 ⊢
  rw [lw1] at lw2
  refine rx_vreturn d_Notes_init_13 (by rfl) ?_
  exact ⟨rfl, ⟨gw2, kw2_a0, fun i hi => absurd hi (Nat.not_lt_zero _), fun i hi => absurd hi (Nat.not_lt_zero _), Nat.zero_le _⟩, ⟨by omega, fun x e hx he => (yw2 x e hx (yw1 x e he))⟩, by omega⟩
theorem c_roadInit (hn : n ≤ 20) (hq : rx_rd V h q = some (.inr (5, [.null, .int 0, .int 0, .int 0, .int 0, .int 0]))) : rx_C V (d + 1) 1 240 m_Road_init [.ref q, .int (nI n)] h (fun r9 h' => r9 = .inl none ∧ is_rd V h' q (V.2.1 + h.length) n 0 0 0 0 0 (fun _ => 0) ∧ rx_gr V h h' (fun x => x = q) ∧ h'.length = h.length + 1) := by
  refine rx_aload_nr d_Road_init_0 (by rfl) ?_
  refine rx_objInit d_Road_init_1 w_obj_Road w_obj2 w_obj3 (by exact Nat.le_of_ble_eq_true rfl) ?_
  refine rx_aload_nr d_Road_init_4 (by rfl) ?_
  refine rx_iload_n d_Road_init_5 (by rfl) ?_
  refine rx_bipush (v := 12) d_Road_init_6 (by decide) ?_
  refine rx_imul d_Road_init_8 ?_
  rw [show (12 : Int32) = nI 12 from rfl, pk_mul]
  refine rx_more (rx_newarray (kc := 0) (ks := 0) (ty := .int) (t0 := 0) (a0 := (n * 12, .inl (fun _ => 0))) d_Road_init_9 (by rfl) (by rfl) (rx_in 53 (by decide +kernel) (by decide +kernel)) (fun _ _ z => z) (fun _ => by rfl) (by rw [i_lt, i_n (by omega), i_0]; omega) (i_cl (by omega)) (by show n * 12 * 4 ≤ _; omega) ?_) (Nat.le_refl _) (by omega) (by omega)
  have gw1 := rx_rd_ap (t := [.inl (V.2.2.2.1 0, n * 12, .inl (fun _ => 0))]) hq
  have kw1_a0 : rx_rd V (h ++ [.inl (V.2.2.2.1 0, n * 12, .inl (fun _ => 0))]) (V.2.1 + h.length) = some (.inl (V.2.2.2.1 0, n * 12, .inl (fun _ => 0))) := rx_rd_new
  have qw1 : q ≠ V.2.1 + h.length := rx_rd_no hq
  generalize ew1 : h ++ [.inl (V.2.2.2.1 0, n * 12, .inl (fun _ => 0))] = hw1 at gw1 kw1_a0 ⊢
  have lw1 : hw1.length = h.length + 1 := by rw [← ew1, ap_len]
  have yw1 : ∀ x e, rx_rd V h x = some e → rx_rd V hw1 x = some e := fun x e he => by rw [← ew1]; exact rx_rd_ap he
  refine rx_putfield d_Road_init_11 (fw_Road_9 rfl rfl) gw1 (Nat.le_of_ble_eq_true rfl) (by rfl) (by rfl) ?_
  show rx_W _ _ _ _ _ _ _ _ (rx_wr V hw1 q (.inr (5, [.ref (V.2.1 + h.length), .int 0, .int 0, .int 0, .int 0, .int 0]))) _
  have gw2 := rx_rd_wr (e := .inr (5, [.ref (V.2.1 + h.length), .int 0, .int 0, .int 0, .int 0, .int 0])) gw1
  have lw2 := @rx_wr_len V hw1 q (.inr (5, [.ref (V.2.1 + h.length), .int 0, .int 0, .int 0, .int 0, .int 0]))
  have yw2 : ∀ x e, x ≠ q → rx_rd V hw1 x = some e → rx_rd V (rx_wr V hw1 q (.inr (5, [.ref (V.2.1 + h.length), .int 0, .int 0, .int 0, .int 0, .int 0]))) x = some e := fun x e hx he => (rx_rd_wn gw1 hx).trans he
  have kw2_a0 := yw2 _ _ (Ne.symm qw1) kw1_a0
  generalize ew2 : rx_wr V hw1 q (.inr (5, [.ref (V.2.1 + h.length), .int 0, .int 0, .int 0, .int 0, .int 0])) = hw2 at gw2 lw2 yw2 kw2_a0 ⊢
  rw [lw1] at lw2
  refine rx_vreturn d_Road_init_14 (by rfl) ?_
  exact ⟨rfl, ⟨gw2, kw2_a0, Nat.zero_le _, hn⟩, ⟨by omega, fun x e hx he => (yw2 x e hx (yw1 x e he))⟩, by omega⟩
theorem c_soundInit (hq : rx_rd V h q = some (.inr (6, [.null, .null, .int 0, .int 0]))) : rx_C V (d + 1) 2 960 m_Sounding_init [.ref q] h (fun r9 h' => r9 = .inl none ∧ is_sd V h' q (V.2.1 + h.length) (V.2.1 + (h.length + 1)) 0 (-1) (fun _ => none) (fun _ => 0) ∧ rx_gr V h h' (fun x => x = q) ∧ h'.length = h.length + 2) := by
  refine rx_aload_nr d_Sounding_init_0 (by rfl) ?_
  refine rx_objInit d_Sounding_init_1 w_obj_Sounding w_obj2 w_obj3 (by exact Nat.le_of_ble_eq_true rfl) ?_
  refine rx_aload_nr d_Sounding_init_4 (by rfl) ?_
  refine rx_sipush (v := 480) d_Sounding_init_5 (by decide) ?_
  refine rx_more (rx_anewarray (kc := 1) (ks := 480) (N := 480) (t0 := 4) d_Sounding_init_8 (by rfl) ck_Sounding_9 (rx_in 61 (by decide +kernel) (by decide +kernel)) (by decide) (by rfl) (by omega) ?_) (Nat.le_refl _) (by omega) (by omega)
  have gw1 := rx_rd_ap (t := [.inl (V.2.2.2.1 4, 480, .inr (.inr (.inr (.inr (fun _ => none)))))]) hq
  have kw1_a0 : rx_rd V (h ++ [.inl (V.2.2.2.1 4, 480, .inr (.inr (.inr (.inr (fun _ => none)))))]) (V.2.1 + h.length) = some (.inl (V.2.2.2.1 4, 480, .inr (.inr (.inr (.inr (fun _ => none)))))) := rx_rd_new
  have qw1 : q ≠ V.2.1 + h.length := rx_rd_no hq
  generalize ew1 : h ++ [.inl (V.2.2.2.1 4, 480, .inr (.inr (.inr (.inr (fun _ => none)))))] = hw1 at gw1 kw1_a0 ⊢
  have lw1 : hw1.length = h.length + 1 := by rw [← ew1, ap_len]
  have yw1 : ∀ x e, rx_rd V h x = some e → rx_rd V hw1 x = some e := fun x e he => by rw [← ew1]; exact rx_rd_ap he
  refine rx_putfield d_Sounding_init_11 (fw_Sounding_11 rfl rfl) gw1 (Nat.le_of_ble_eq_true rfl) (by rfl) (by rfl) ?_
  show rx_W _ _ _ _ _ _ _ _ (rx_wr V hw1 q (.inr (6, [.ref (V.2.1 + h.length), .null, .int 0, .int 0]))) _
  have gw2 := rx_rd_wr (e := .inr (6, [.ref (V.2.1 + h.length), .null, .int 0, .int 0])) gw1
  have lw2 := @rx_wr_len V hw1 q (.inr (6, [.ref (V.2.1 + h.length), .null, .int 0, .int 0]))
  have yw2 : ∀ x e, x ≠ q → rx_rd V hw1 x = some e → rx_rd V (rx_wr V hw1 q (.inr (6, [.ref (V.2.1 + h.length), .null, .int 0, .int 0]))) x = some e := fun x e hx he => (rx_rd_wn gw1 hx).trans he
  have kw2_a0 := yw2 _ _ (Ne.symm qw1) kw1_a0
  generalize ew2 : rx_wr V hw1 q (.inr (6, [.ref (V.2.1 + h.length), .null, .int 0, .int 0])) = hw2 at gw2 lw2 yw2 kw2_a0 ⊢
  rw [lw1] at lw2
  refine rx_aload_nr d_Sounding_init_14 (by rfl) ?_
  refine rx_sipush (v := 480) d_Sounding_init_15 (by decide) ?_
  refine rx_more (rx_newarray (kc := 0) (ks := 0) (ty := .int) (t0 := 0) (a0 := (480, .inl (fun _ => 0))) d_Sounding_init_18 (by rfl) (by rfl) (rx_in 53 (by decide +kernel) (by decide +kernel)) (fun _ _ z => z) (fun _ => by rfl) (by decide) (by rfl) (by decide) ?_) (Nat.le_refl _) (by omega) (by omega)
  have gw3 := rx_rd_ap (t := [.inl (V.2.2.2.1 0, 480, .inl (fun _ => 0))]) gw2
  have kw3_a0 := rx_rd_ap (t := [.inl (V.2.2.2.1 0, 480, .inl (fun _ => 0))]) kw2_a0
  have kw3_a1 : rx_rd V (hw2 ++ [.inl (V.2.2.2.1 0, 480, .inl (fun _ => 0))]) (V.2.1 + hw2.length) = some (.inl (V.2.2.2.1 0, 480, .inl (fun _ => 0))) := rx_rd_new
  have qw3 : q ≠ V.2.1 + hw2.length := rx_rd_no gw2
  generalize ew3 : hw2 ++ [.inl (V.2.2.2.1 0, 480, .inl (fun _ => 0))] = hw3 at gw3 kw3_a0 kw3_a1 ⊢
  have lw3 : hw3.length = h.length + 2 := by rw [← ew3, ap_len, lw2]
  have yw3 : ∀ x e, rx_rd V hw2 x = some e → rx_rd V hw3 x = some e := fun x e he => by rw [← ew3]; exact rx_rd_ap he
  rw [lw2] at kw3_a1 qw3 ⊢
  refine rx_putfield d_Sounding_init_20 (fw_Sounding_17 rfl rfl) gw3 (Nat.le_of_ble_eq_true rfl) (by rfl) (by rfl) ?_
  show rx_W _ _ _ _ _ _ _ _ (rx_wr V hw3 q (.inr (6, [.ref (V.2.1 + h.length), .ref (V.2.1 + (h.length + 1)), .int 0, .int 0]))) _
  have gw4 := rx_rd_wr (e := .inr (6, [.ref (V.2.1 + h.length), .ref (V.2.1 + (h.length + 1)), .int 0, .int 0])) gw3
  have lw4 := @rx_wr_len V hw3 q (.inr (6, [.ref (V.2.1 + h.length), .ref (V.2.1 + (h.length + 1)), .int 0, .int 0]))
  have yw4 : ∀ x e, x ≠ q → rx_rd V hw3 x = some e → rx_rd V (rx_wr V hw3 q (.inr (6, [.ref (V.2.1 + h.length), .ref (V.2.1 + (h.length + 1)), .int 0, .int 0]))) x = some e := fun x e hx he => (rx_rd_wn gw3 hx).trans he
  have kw4_a0 := yw4 _ _ (Ne.symm qw1) kw3_a0
  have kw4_a1 := yw4 _ _ (Ne.symm qw3) kw3_a1
  generalize ew4 : rx_wr V hw3 q (.inr (6, [.ref (V.2.1 + h.length), .ref (V.2.1 + (h.length + 1)), .int 0, .int 0])) = hw4 at gw4 lw4 yw4 kw4_a0 kw4_a1 ⊢
  rw [lw3] at lw4
  refine rx_aload_nr d_Sounding_init_23 (by rfl) ?_
  refine rx_iconst (v := -1) d_Sounding_init_24 (by decide) ?_
  refine rx_putfield d_Sounding_init_25 (fw_Sounding_21 rfl) gw4 (Nat.le_of_ble_eq_true rfl) (by rfl) (by rfl) ?_
  show rx_W _ _ _ _ _ _ _ _ (rx_wr V hw4 q (.inr (6, [.ref (V.2.1 + h.length), .ref (V.2.1 + (h.length + 1)), .int 0, .int (-1)]))) _
  have gw5 := rx_rd_wr (e := .inr (6, [.ref (V.2.1 + h.length), .ref (V.2.1 + (h.length + 1)), .int 0, .int (-1)])) gw4
  have lw5 := @rx_wr_len V hw4 q (.inr (6, [.ref (V.2.1 + h.length), .ref (V.2.1 + (h.length + 1)), .int 0, .int (-1)]))
  have yw5 : ∀ x e, x ≠ q → rx_rd V hw4 x = some e → rx_rd V (rx_wr V hw4 q (.inr (6, [.ref (V.2.1 + h.length), .ref (V.2.1 + (h.length + 1)), .int 0, .int (-1)]))) x = some e := fun x e hx he => (rx_rd_wn gw4 hx).trans he
  have kw5_a0 := yw5 _ _ (Ne.symm qw1) kw4_a0
  have kw5_a1 := yw5 _ _ (Ne.symm qw3) kw4_a1
  generalize ew5 : rx_wr V hw4 q (.inr (6, [.ref (V.2.1 + h.length), .ref (V.2.1 + (h.length + 1)), .int 0, .int (-1)])) = hw5 at gw5 lw5 yw5 kw5_a0 kw5_a1 ⊢
  rw [lw4] at lw5
  refine rx_vreturn d_Sounding_init_28 (by rfl) ?_
  exact ⟨rfl, ⟨gw5, kw5_a0, kw5_a1, Nat.zero_le _⟩, ⟨by omega, fun x e hx he => (yw5 x e hx (yw4 x e hx (yw3 x e (yw2 x e hx (yw1 x e he)))))⟩, by omega⟩
theorem c_repInit : rx_C V (d + 1) kc ks m_Repeat_init [.ref q] h (rx_X (.inl none) h) := by
  refine rx_aload_nr d_Repeat_init_0 (by rfl) ?_
  refine rx_objInit d_Repeat_init_1 w_obj_Repeat w_obj2 w_obj3 (by exact Nat.le_of_ble_eq_true rfl) ?_
  refine rx_vreturn d_Repeat_init_4 (by rfl) ?_
  exact ⟨rfl, rfl⟩
theorem l_repsInit (hn : n ≤ 20) (hql : ∃ e, rx_rd V h q = some e) : ∀ (m i : Nat) (h1 : List va_E) (f1 : Nat → Option Nat), i + m = n → h1.length = h.length + 3 + i → rx_rd V h1 q = some (.inr (3, [.ref (V.2.1 + h.length), .ref (V.2.1 + (h.length + 1)), .ref (V.2.1 + (h.length + 2)), .int 0])) → rx_rd V h1 (V.2.1 + h.length) = some (.inl (V.2.2.2.1 3, n, .inr (.inr (.inr (.inr f1))))) → rx_rd V h1 (V.2.1 + (h.length + 1)) = some (.inl (V.2.2.2.1 3, n, .inr (.inr (.inr (.inr (fun _ => none)))))) → rx_rd V h1 (V.2.1 + (h.length + 2)) = some (.inl (V.2.2.2.1 3, n, .inr (.inr (.inr (.inr (fun _ => none)))))) → (∀ r, r < i → f1 r = some (V.2.1 + (h.length + 3 + r))) → (∀ r, r < i → rx_rd V h1 (V.2.1 + (h.length + 3 + r)) = some (rcl (fun _ => 0))) → (∀ x e, x ≠ q → rx_rd V h x = some e → rx_rd V h1 x = some e) →
    rx_W V (d + 2) m (7 * m) m_Repeats_init 30 [some (.ref q), some (.int (nI n)), some (.int (nI i))] [] h1 (fun r9 h' => r9 = .inl none ∧ (∃ fA, is_rp V h' q n (V.2.1 + h.length) (V.2.1 + (h.length + 1)) (V.2.1 + (h.length + 2)) 0 fA (fun _ => none) (fun _ => none) (fun r => V.2.1 + (h.length + 3 + r)) (fun _ _ => 0)) ∧ rx_gr V h h' (fun x => x = q) ∧ h'.length = h.length + 3 + n) := by
  intro m
  induction m with
  | zero =>
    intro i h1 f1 hi hl g ga gb gc hf hr hy
    have e : i = n := by omega
    subst e
    refine rx_iload_n d_Repeats_init_30 (by rfl) ?_
    refine rx_iload_n d_Repeats_init_31 (by rfl) ?_
    refine rx_icmp_ge (tgt := 54) d_Repeats_init_32 (by rfl) (fun c32 => ?_) (fun z => absurd (Int32.le_refl _) z)
    refine rx_vreturn d_Repeats_init_54 (by rfl) ?_
    exact ⟨rfl, ⟨f1, g, ga, gb, gc, hf, hr, fun r r' _ _ z => by have z : V.2.1 + (h.length + 3 + r) = V.2.1 + (h.length + 3 + r') := z; omega, Nat.zero_le _, hn⟩, ⟨by omega, hy⟩, hl⟩
  | succ m ih =>
    intro i h1 f1 hi hl g ga gb gc hf hr hy
    obtain ⟨eq, heq⟩ := hql
    have hqh := rx_rd_lt heq
    refine rx_iload_n d_Repeats_init_30 (by rfl) ?_
    refine rx_iload_n d_Repeats_init_31 (by rfl) ?_
    refine rx_icmp_ge (tgt := 54) d_Repeats_init_32 (by rfl) (fun z => absurd z (nI_ge (by omega) (by omega))) (fun c32 => ?_)
    refine rx_aload_nr d_Repeats_init_35 (by rfl) ?_
    refine rx_getfield d_Repeats_init_36 fl_Repeats_11 g (by rfl) ?_
    refine rx_iload_n d_Repeats_init_39 (by rfl) ?_
    refine rx_more (rx_new (kc := m) (ks := 7 * m) (ci := 4) (N := 7) (fs := [.int 0, .int 0, .int 0, .int 0, .int 0, .int 0, .int 0]) t_Repeat d_Repeats_init_40 (by rfl) w_Repeat t_Repeat_ok ck_Repeats_9 (rx_in 79 (by decide +kernel) (by decide +kernel)) (rx_in 6 (by decide +kernel) (by decide +kernel)) (by decide +kernel) ?_) (Nat.le_refl _) (by omega) (by omega)
    rw [hl]
    have ga2 := rx_rd_ap (t := [.inr (4, [.int 0, .int 0, .int 0, .int 0, .int 0, .int 0, .int 0])]) ga
    have gn : rx_rd V (h1 ++ [.inr (4, [.int 0, .int 0, .int 0, .int 0, .int 0, .int 0, .int 0])]) (V.2.1 + h1.length) = some (.inr (4, [.int 0, .int 0, .int 0, .int 0, .int 0, .int 0, .int 0])) := rx_rd_new
    rw [hl] at gn
    refine rx_dup d_Repeats_init_43 (by rfl) ?_
    refine rx_cIN d_Repeats_init_44 ml_Repeats_23 im_Repeat_init (by rfl) (by rfl) (by exact c9_Repeat_init) (by rfl) (by exact Nat.le_of_ble_eq_true rfl) (c_repInit) ?_
    refine rx_aastore (r := ("ScoreRoads$Repeat", F_Repeat, 7)) d_Repeats_init_47 (by rfl) ga2 gn (by rfl) (vp_in_nI (by omega) (by omega)) ?_
    rw [i_cl (by omega), up_va]
    refine rx_iinc (v := nI (i + 1)) d_Repeats_init_48 (by rfl) (i_inc i) ?_
    refine rx_goto (tgt := 30) d_Repeats_init_51 (by rfl) ?_
    have ne : ∀ x e, x ≠ V.2.1 + h.length → rx_rd V h1 x = some e → rx_rd V (rx_wr V (h1 ++ [.inr (4, [.int 0, .int 0, .int 0, .int 0, .int 0, .int 0, .int 0])]) (V.2.1 + h.length) (.inl (V.2.2.2.1 3, n, .inr (.inr (.inr (.inr (up f1 i (some (V.2.1 + (h.length + 3 + i)))))))))) x = some e := fun x e hx he => (rx_rd_wn ga2 hx).trans (rx_rd_ap he)
    refine ih (i + 1) _ _ (by omega) (by rw [rx_wr_len, ap_len, hl]; omega) (ne _ _ (by omega) g) (rx_rd_wr ga2) (ne _ _ (by omega) gb) (ne _ _ (by omega) gc) (fun r hr9 => ?_) (fun r hr9 => ?_) (fun x e hx he => ?_)
    · by_cases e : r = i
      · rw [e, up_s]
      · rw [up_o e]; exact hf r (by omega)
    · by_cases e : r = i
      · rw [e]; exact (rx_rd_wn ga2 (by omega)).trans gn
      · exact ne _ _ (by omega) (hr r (by omega))
    · have := rx_rd_lt he
      exact ne _ _ (by omega) (hy x e hx he)
theorem c_repsInit (hn : n ≤ 20) (hq : rx_rd V h q = some (.inr (3, [.null, .null, .null, .int 0]))) : rx_C V (d + 2) 23 200 m_Repeats_init [.ref q, .int (nI n)] h (fun r9 h' => r9 = .inl none ∧ (∃ fA, is_rp V h' q n (V.2.1 + h.length) (V.2.1 + (h.length + 1)) (V.2.1 + (h.length + 2)) 0 fA (fun _ => none) (fun _ => none) (fun r => V.2.1 + (h.length + 3 + r)) (fun _ _ => 0)) ∧ rx_gr V h h' (fun x => x = q) ∧ h'.length = h.length + 3 + n) := by
  refine rx_aload_nr d_Repeats_init_0 (by rfl) ?_
  refine rx_objInit d_Repeats_init_1 w_obj_Repeats w_obj2 w_obj3 (by exact Nat.le_of_ble_eq_true rfl) ?_
  refine rx_aload_nr d_Repeats_init_4 (by rfl) ?_
  refine rx_iload_n d_Repeats_init_5 (by rfl) ?_
  refine rx_more (rx_anewarray (kc := 22) (ks := 200 - n) (N := n) (t0 := 3) d_Repeats_init_6 (by rfl) ck_Repeats_9 (rx_in 78 (by decide +kernel) (by decide +kernel)) (by rw [i_lt, i_n (by omega), i_0]; omega) (i_cl (by omega)) (by omega) ?_) (Nat.le_refl _) (by omega) (by omega)
  have gw1 := rx_rd_ap (t := [.inl (V.2.2.2.1 3, n, .inr (.inr (.inr (.inr (fun _ => none)))))]) hq
  have kw1_a0 : rx_rd V (h ++ [.inl (V.2.2.2.1 3, n, .inr (.inr (.inr (.inr (fun _ => none)))))]) (V.2.1 + h.length) = some (.inl (V.2.2.2.1 3, n, .inr (.inr (.inr (.inr (fun _ => none)))))) := rx_rd_new
  have qw1 : q ≠ V.2.1 + h.length := rx_rd_no hq
  generalize ew1 : h ++ [.inl (V.2.2.2.1 3, n, .inr (.inr (.inr (.inr (fun _ => none)))))] = hw1 at gw1 kw1_a0 ⊢
  have lw1 : hw1.length = h.length + 1 := by rw [← ew1, ap_len]
  have yw1 : ∀ x e, rx_rd V h x = some e → rx_rd V hw1 x = some e := fun x e he => by rw [← ew1]; exact rx_rd_ap he
  refine rx_putfield d_Repeats_init_9 (fw_Repeats_11 rfl rfl) gw1 (Nat.le_of_ble_eq_true rfl) (by rfl) (by rfl) ?_
  show rx_W _ _ _ _ _ _ _ _ (rx_wr V hw1 q (.inr (3, [.ref (V.2.1 + h.length), .null, .null, .int 0]))) _
  have gw2 := rx_rd_wr (e := .inr (3, [.ref (V.2.1 + h.length), .null, .null, .int 0])) gw1
  have lw2 := @rx_wr_len V hw1 q (.inr (3, [.ref (V.2.1 + h.length), .null, .null, .int 0]))
  have yw2 : ∀ x e, x ≠ q → rx_rd V hw1 x = some e → rx_rd V (rx_wr V hw1 q (.inr (3, [.ref (V.2.1 + h.length), .null, .null, .int 0]))) x = some e := fun x e hx he => (rx_rd_wn gw1 hx).trans he
  have kw2_a0 := yw2 _ _ (Ne.symm qw1) kw1_a0
  generalize ew2 : rx_wr V hw1 q (.inr (3, [.ref (V.2.1 + h.length), .null, .null, .int 0])) = hw2 at gw2 lw2 yw2 kw2_a0 ⊢
  rw [lw1] at lw2
  refine rx_aload_nr d_Repeats_init_12 (by rfl) ?_
  refine rx_iload_n d_Repeats_init_13 (by rfl) ?_
  refine rx_more (rx_anewarray (kc := 21) (ks := 200 - 2 * n) (N := n) (t0 := 3) d_Repeats_init_14 (by rfl) ck_Repeats_9 (rx_in 78 (by decide +kernel) (by decide +kernel)) (by rw [i_lt, i_n (by omega), i_0]; omega) (i_cl (by omega)) (by omega) ?_) (Nat.le_refl _) (by omega) (by omega)
  have gw3 := rx_rd_ap (t := [.inl (V.2.2.2.1 3, n, .inr (.inr (.inr (.inr (fun _ => none)))))]) gw2
  have kw3_a0 := rx_rd_ap (t := [.inl (V.2.2.2.1 3, n, .inr (.inr (.inr (.inr (fun _ => none)))))]) kw2_a0
  have kw3_a1 : rx_rd V (hw2 ++ [.inl (V.2.2.2.1 3, n, .inr (.inr (.inr (.inr (fun _ => none)))))]) (V.2.1 + hw2.length) = some (.inl (V.2.2.2.1 3, n, .inr (.inr (.inr (.inr (fun _ => none)))))) := rx_rd_new
  have qw3 : q ≠ V.2.1 + hw2.length := rx_rd_no gw2
  generalize ew3 : hw2 ++ [.inl (V.2.2.2.1 3, n, .inr (.inr (.inr (.inr (fun _ => none)))))] = hw3 at gw3 kw3_a0 kw3_a1 ⊢
  have lw3 : hw3.length = h.length + 2 := by rw [← ew3, ap_len, lw2]
  have yw3 : ∀ x e, rx_rd V hw2 x = some e → rx_rd V hw3 x = some e := fun x e he => by rw [← ew3]; exact rx_rd_ap he
  rw [lw2] at kw3_a1 qw3 ⊢
  refine rx_putfield d_Repeats_init_17 (fw_Repeats_17 rfl rfl) gw3 (Nat.le_of_ble_eq_true rfl) (by rfl) (by rfl) ?_
  show rx_W _ _ _ _ _ _ _ _ (rx_wr V hw3 q (.inr (3, [.ref (V.2.1 + h.length), .ref (V.2.1 + (h.length + 1)), .null, .int 0]))) _
  have gw4 := rx_rd_wr (e := .inr (3, [.ref (V.2.1 + h.length), .ref (V.2.1 + (h.length + 1)), .null, .int 0])) gw3
  have lw4 := @rx_wr_len V hw3 q (.inr (3, [.ref (V.2.1 + h.length), .ref (V.2.1 + (h.length + 1)), .null, .int 0]))
  have yw4 : ∀ x e, x ≠ q → rx_rd V hw3 x = some e → rx_rd V (rx_wr V hw3 q (.inr (3, [.ref (V.2.1 + h.length), .ref (V.2.1 + (h.length + 1)), .null, .int 0]))) x = some e := fun x e hx he => (rx_rd_wn gw3 hx).trans he
  have kw4_a0 := yw4 _ _ (Ne.symm qw1) kw3_a0
  have kw4_a1 := yw4 _ _ (Ne.symm qw3) kw3_a1
  generalize ew4 : rx_wr V hw3 q (.inr (3, [.ref (V.2.1 + h.length), .ref (V.2.1 + (h.length + 1)), .null, .int 0])) = hw4 at gw4 lw4 yw4 kw4_a0 kw4_a1 ⊢
  rw [lw3] at lw4
  refine rx_aload_nr d_Repeats_init_20 (by rfl) ?_
  refine rx_iload_n d_Repeats_init_21 (by rfl) ?_
  refine rx_more (rx_anewarray (kc := 20) (ks := 200 - 3 * n) (N := n) (t0 := 3) d_Repeats_init_22 (by rfl) ck_Repeats_9 (rx_in 78 (by decide +kernel) (by decide +kernel)) (by rw [i_lt, i_n (by omega), i_0]; omega) (i_cl (by omega)) (by omega) ?_) (Nat.le_refl _) (by omega) (by omega)
  have gw5 := rx_rd_ap (t := [.inl (V.2.2.2.1 3, n, .inr (.inr (.inr (.inr (fun _ => none)))))]) gw4
  have kw5_a0 := rx_rd_ap (t := [.inl (V.2.2.2.1 3, n, .inr (.inr (.inr (.inr (fun _ => none)))))]) kw4_a0
  have kw5_a1 := rx_rd_ap (t := [.inl (V.2.2.2.1 3, n, .inr (.inr (.inr (.inr (fun _ => none)))))]) kw4_a1
  have kw5_a2 : rx_rd V (hw4 ++ [.inl (V.2.2.2.1 3, n, .inr (.inr (.inr (.inr (fun _ => none)))))]) (V.2.1 + hw4.length) = some (.inl (V.2.2.2.1 3, n, .inr (.inr (.inr (.inr (fun _ => none)))))) := rx_rd_new
  have qw5 : q ≠ V.2.1 + hw4.length := rx_rd_no gw4
  generalize ew5 : hw4 ++ [.inl (V.2.2.2.1 3, n, .inr (.inr (.inr (.inr (fun _ => none)))))] = hw5 at gw5 kw5_a0 kw5_a1 kw5_a2 ⊢
  have lw5 : hw5.length = h.length + 3 := by rw [← ew5, ap_len, lw4]
  have yw5 : ∀ x e, rx_rd V hw4 x = some e → rx_rd V hw5 x = some e := fun x e he => by rw [← ew5]; exact rx_rd_ap he
  rw [lw4] at kw5_a2 qw5 ⊢
  refine rx_putfield d_Repeats_init_25 (fw_Repeats_20 rfl rfl) gw5 (Nat.le_of_ble_eq_true rfl) (by rfl) (by rfl) ?_
  show rx_W _ _ _ _ _ _ _ _ (rx_wr V hw5 q (.inr (3, [.ref (V.2.1 + h.length), .ref (V.2.1 + (h.length + 1)), .ref (V.2.1 + (h.length + 2)), .int 0]))) _
  have gw6 := rx_rd_wr (e := .inr (3, [.ref (V.2.1 + h.length), .ref (V.2.1 + (h.length + 1)), .ref (V.2.1 + (h.length + 2)), .int 0])) gw5
  have lw6 := @rx_wr_len V hw5 q (.inr (3, [.ref (V.2.1 + h.length), .ref (V.2.1 + (h.length + 1)), .ref (V.2.1 + (h.length + 2)), .int 0]))
  have yw6 : ∀ x e, x ≠ q → rx_rd V hw5 x = some e → rx_rd V (rx_wr V hw5 q (.inr (3, [.ref (V.2.1 + h.length), .ref (V.2.1 + (h.length + 1)), .ref (V.2.1 + (h.length + 2)), .int 0]))) x = some e := fun x e hx he => (rx_rd_wn gw5 hx).trans he
  have kw6_a0 := yw6 _ _ (Ne.symm qw1) kw5_a0
  have kw6_a1 := yw6 _ _ (Ne.symm qw3) kw5_a1
  have kw6_a2 := yw6 _ _ (Ne.symm qw5) kw5_a2
  generalize ew6 : rx_wr V hw5 q (.inr (3, [.ref (V.2.1 + h.length), .ref (V.2.1 + (h.length + 1)), .ref (V.2.1 + (h.length + 2)), .int 0])) = hw6 at gw6 lw6 yw6 kw6_a0 kw6_a1 kw6_a2 ⊢
  rw [lw5] at lw6
  refine rx_iconst (v := 0) d_Repeats_init_28 (by decide) ?_
  refine rx_istore_n d_Repeats_init_29 (Nat.le_of_ble_eq_true rfl) ?_
  exact rx_more (l_repsInit hn ⟨_, hq⟩ n 0 _ _ (by omega) (by omega) gw6 kw6_a0 kw6_a1 kw6_a2 (fun r hr => absurd hr (Nat.not_lt_zero _)) (fun r hr => absurd hr (Nat.not_lt_zero _)) (fun x e hx he => (yw6 x e hx (yw5 x e (yw4 x e hx (yw3 x e (yw2 x e hx (yw1 x e he)))))))) (Nat.le_refl _) (by omega) (by omega)
end I2
