/-! constructors of the class -/
section RXPI
variable {V : rx_V} {d kc ks mc ms : Nat} {M y : rx_T} {pc : Nat} {L : rx_L} {S Sr As : List Value} {h : List va_E} {Q : rx_R → List va_E → Prop} {P9 : List va_E → Prop} {index : Nat}
theorem rx_pI {b : Nat} (hd : decode M.2.1 pc = .ok (.invokespecial index, 3)) (w1 : Cond.methodLink M.1.cls index y.1 ∈ rx_tbl) (w2 : Cond.instanceMethod y.1 ∈ rx_tbl) (hy1 : y.1.name = "<init>") (hret : y.2.2.2.1 = none) (hcl : rx_cl9 y As.length (lg_sl (.ref b :: As)).length)
    (hS : S = As.reverse ++ .ref b :: Sr) (hw8 : (Sr.map fun v => v.category).sum ≤ 8) (K : rx_C V d mc ms y (.ref b :: As) h (fun r h' => r = .inl none ∧ P9 h')) (k : ∀ h1, P9 h1 → rx_W V (d + 1) kc ks M (pc + 3) L Sr h1 Q) : rx_W V (d + 1) (mc + kc) (ms + ks) M pc L S h Q :=
  rx_callI hd w1 w2 hy1 hret hcl hS hw8 K (fun _ _ z => nomatch z.1) (fun v h1 z => by obtain ⟨z1, z2⟩ := z; cases z1; exact k h1 z2)
theorem rx_pIN {b : Nat} {host : String} (hd : decode M.2.1 pc = .ok (.invokespecial index, 3)) (w1 : Cond.methodLinkNest M.1.cls index y.1 host ∈ rx_tbl) (w2 : Cond.instanceMethod y.1 ∈ rx_tbl) (hy1 : y.1.name = "<init>") (hret : y.2.2.2.1 = none) (hcl : rx_cl9 y As.length (lg_sl (.ref b :: As)).length)
    (hS : S = As.reverse ++ .ref b :: Sr) (hw8 : (Sr.map fun v => v.category).sum ≤ 8) (K : rx_C V d mc ms y (.ref b :: As) h (fun r h' => r = .inl none ∧ P9 h')) (k : ∀ h1, P9 h1 → rx_W V (d + 1) kc ks M (pc + 3) L Sr h1 Q) : rx_W V (d + 1) (mc + kc) (ms + ks) M pc L S h Q :=
  rx_callIN hd w1 w2 hy1 hret hcl hS hw8 K (fun _ _ z => nomatch z.1) (fun v h1 z => by obtain ⟨z1, z2⟩ := z; cases z1; exact k h1 z2)
end RXPI
section IN
variable {V : rx_V} {d kc ks : Nat} {h : List va_E} {n q : Nat}
theorem ap_len {h : List va_E} {e : va_E} : (h ++ [e]).length = h.length + 1 := List.length_append
/-- a place behind the world is no place of it -/
theorem rx_rd_no {e : va_E} (he : rx_rd V h q = some e) : q ≠ V.2.1 + h.length := by
  have := rx_rd_lt he
  omega
theorem l_fill {a N : Nat} {v : Int32} {f : Nat → Int32} (hN : N ≤ 1000) : ∀ (m i : Nat) (h1 : List va_E) (f1 : Nat → Int32), i + m = N → rx_rd V h1 a = some (.inl (V.2.2.2.1 0, N, .inl f1)) → (∀ j, f1 j = if j < i then v else f j) → rx_fr V h h1 (fun x => x = a) → rx_W V d kc ks m_JA_fill 5 [some (.ref a), some (.int v), some (.int (nI i)), some (.int (nI N))] [] h1 (fun r9 h' => r9 = .inl none ∧ rx_rd V h' a = some (.inl (V.2.2.2.1 0, N, .inl (fun j => if j < N then v else f j))) ∧ rx_fr V h h' (fun x => x = a)) := by
  intro m
  induction m with
  | zero =>
    intro i h1 f1 hi ha hf1 hf
    have e : i = N := by omega
    subst e
    rw [show f1 = (fun j => if j < i then v else f j) from by funext j; exact hf1 j] at ha
    refine rx_iload_n d_JA_fill_5 (by rfl) ?_
    refine rx_iload_n d_JA_fill_6 (by rfl) ?_
    refine rx_icmp_ge (tgt := 20) d_JA_fill_7 (by rfl) (fun c7 => ?_) (fun z => absurd (Int32.le_refl _) z)
    refine rx_vreturn d_JA_fill_20 (by rfl) ?_
    exact ⟨rfl, ha, hf⟩
  | succ m ih =>
    intro i h1 f1 hi ha hf1 hf
    refine rx_iload_n d_JA_fill_5 (by rfl) ?_
    refine rx_iload_n d_JA_fill_6 (by rfl) ?_
    refine rx_icmp_ge (tgt := 20) d_JA_fill_7 (by rfl) (fun z => absurd z (nI_ge (by omega) (by omega))) (fun c7 => ?_)
    refine rx_aload_nr d_JA_fill_10 (by rfl) ?_
    refine rx_iload_n d_JA_fill_11 (by rfl) ?_
    refine rx_iload_n d_JA_fill_12 (by rfl) ?_
    refine rx_iastore d_JA_fill_13 (by rfl) ha (vp_in_nI (by omega) (by omega)) ?_
    rw [i_cl (by omega)]
    refine rx_iinc (v := nI (i + 1)) d_JA_fill_14 (by rfl) (i_inc i) ?_
    refine rx_goto (tgt := 5) d_JA_fill_17 (by rfl) ?_
    refine ih (i + 1) _ _ (by omega) (rx_rd_wr ha) (fun j => ?_) (hf.tr (rx_fr.wr ha rfl))
    rw [up_upd]
    by_cases e : j = i
    · rw [e, up_s, if_pos (by omega)]
    · rw [up_o e, hf1 j]
      by_cases c : j < i
      · rw [if_pos c, if_pos (by omega)]
      · rw [if_neg c, if_neg (by omega)]
theorem c_fill {a N : Nat} {v : Int32} {f : Nat → Int32} (hN : N ≤ 1000) (ha : rx_rd V h a = some (.inl (V.2.2.2.1 0, N, .inl f))) : rx_C V d kc ks m_JA_fill [.ref a, .int v] h (fun r9 h' => r9 = .inl none ∧ rx_rd V h' a = some (.inl (V.2.2.2.1 0, N, .inl (fun j => if j < N then v else f j))) ∧ rx_fr V h h' (fun x => x = a)) := by
  refine rx_iconst (v := 0) d_JA_fill_0 (by decide) ?_
  refine rx_istore_n d_JA_fill_1 (Nat.le_of_ble_eq_true rfl) ?_
  refine rx_aload_nr d_JA_fill_2 (by rfl) ?_
  refine rx_alen d_JA_fill_3 (by rfl) ha ?_
  refine rx_istore_n d_JA_fill_4 (Nat.le_of_ble_eq_true rfl) ?_
  exact l_fill hN N 0 h f (by omega) ha (fun j => by rw [if_neg (Nat.not_lt_zero j)]) rx_fr.rf
def pl0 (n : Nat) (v : Int32) : Nat → Int32 := fun j => if j < n then v else 0
theorem c_pageInit (hn : n ≤ 20) (hq : rx_rd V h q = some (.inr (1, [.int 0, .null, .null, .null]))) : rx_C V (d + 1) 3 240 m_Page_init [.ref q, .int (nI n)] h (fun r9 h' => r9 = .inl none ∧ is_pg V h' q n (V.2.1 + h.length) (V.2.1 + (h.length + 1)) (V.2.1 + (h.length + 2)) (pl0 n 16) (pl0 n 10) (fun _ => 0) ∧ rx_gr V h h' (fun x => x = q) ∧ h'.length = h.length + 3) := by
  have n1 : q ≠ V.2.1 + h.length := rx_rd_no hq
  refine rx_aload_nr d_Page_init_0 (by rfl) ?_
  refine rx_objInit d_Page_init_1 w_obj_Page w_obj2 w_obj3 (by exact Nat.le_of_ble_eq_true rfl) ?_
  refine rx_aload_nr d_Page_init_4 (by rfl) ?_
  refine rx_iload_n d_Page_init_5 (by rfl) ?_
  refine rx_putfield d_Page_init_6 (fw_Page_9 rfl rfl) hq (Nat.le_of_ble_eq_true rfl) (by rfl) (by rfl) ?_
  generalize h1e : rx_wr V h q _ = h1
  have g1 : rx_rd V h1 q = some (.inr (1, [.int (nI n), .null, .null, .null])) := by rw [← h1e]; exact rx_rd_wr hq
  have l1 : h1.length = h.length := by rw [← h1e]; exact rx_wr_len
  have y1 : ∀ x e, x ≠ q → rx_rd V h x = some e → rx_rd V h1 x = some e := fun x e hx he => by rw [← h1e]; exact (rx_rd_wn hq hx).trans he
  refine rx_aload_nr d_Page_init_9 (by rfl) ?_
  refine rx_iload_n d_Page_init_10 (by rfl) ?_
  refine rx_more (rx_newarray (kc := 2) (ks := 240 - n) (ty := .int) (t0 := 0) (a0 := (n, .inl (fun _ => 0))) d_Page_init_11 (by rfl) (by rfl) (rx_in 53 (by decide +kernel) (by decide +kernel)) (fun _ _ z => z) (fun _ => by rfl) (by rw [i_lt, i_n (by omega), i_0]; omega) (i_cl (by omega)) (by show n * 4 ≤ _; omega) ?_) (Nat.le_refl _) (by omega) (by omega)
  have ga := rx_rd_ap (t := [.inl (V.2.2.2.1 0, n, .inl (fun _ => 0))]) g1
  have na1 : rx_rd V (h1 ++ [.inl (V.2.2.2.1 0, n, .inl (fun _ => 0))]) (V.2.1 + h1.length) = some (.inl (V.2.2.2.1 0, n, .inl (fun _ => 0))) := rx_rd_new
  generalize h2e : h1 ++ [.inl (V.2.2.2.1 0, n, .inl (fun _ => 0))] = h2 at ga na1 ⊢
  have l2 : h2.length = h.length + 1 := by rw [← h2e, ap_len, l1]
  have y2 : ∀ x e, rx_rd V h1 x = some e → rx_rd V h2 x = some e := fun x e he => by rw [← h2e]; exact rx_rd_ap he
  rw [l1] at na1 ⊢
  refine rx_putfield d_Page_init_13 (fw_Page_15 rfl rfl) ga (Nat.le_of_ble_eq_true rfl) (by rfl) (by rfl) ?_
  show rx_W _ _ _ _ _ _ _ _ (rx_wr V h2 q (.inr (1, [.int (nI n), .ref (V.2.1 + h.length), .null, .null]))) _
  have gb := rx_rd_wr (e := .inr (1, [.int (nI n), .ref (V.2.1 + h.length), .null, .null])) ga
  have lb := @rx_wr_len V h2 q (.inr (1, [.int (nI n), .ref (V.2.1 + h.length), .null, .null]))
  have yb : ∀ x e, x ≠ q → rx_rd V h2 x = some e → rx_rd V (rx_wr V h2 q (.inr (1, [.int (nI n), .ref (V.2.1 + h.length), .null, .null]))) x = some e := fun x e hx he => (rx_rd_wn ga hx).trans he
  have na2 := yb _ _ (Ne.symm n1) na1
  generalize h3e : rx_wr V h2 q (.inr (1, [.int (nI n), .ref (V.2.1 + h.length), .null, .null])) = h3 at gb lb yb na2 ⊢
  refine rx_aload_nr d_Page_init_16 (by rfl) ?_
  refine rx_iload_n d_Page_init_17 (by rfl) ?_
  refine rx_more (rx_newarray (kc := 1) (ks := 240 - 2 * n) (ty := .int) (t0 := 0) (a0 := (n, .inl (fun _ => 0))) d_Page_init_18 (by rfl) (by rfl) (rx_in 53 (by decide +kernel) (by decide +kernel)) (fun _ _ z => z) (fun _ => by rfl) (by rw [i_lt, i_n (by omega), i_0]; omega) (i_cl (by omega)) (by show n * 4 ≤ _; omega) ?_) (Nat.le_refl _) (by omega) (by omega)
  have gc := rx_rd_ap (t := [.inl (V.2.2.2.1 0, n, .inl (fun _ => 0))]) gb
  have nc1 := rx_rd_ap (t := [.inl (V.2.2.2.1 0, n, .inl (fun _ => 0))]) na2
  have nc2 : rx_rd V (h3 ++ [.inl (V.2.2.2.1 0, n, .inl (fun _ => 0))]) (V.2.1 + h3.length) = some (.inl (V.2.2.2.1 0, n, .inl (fun _ => 0))) := rx_rd_new
  have nq2 : q ≠ V.2.1 + h3.length := rx_rd_no gb
  generalize h4e : h3 ++ [.inl (V.2.2.2.1 0, n, .inl (fun _ => 0))] = h4 at gc nc1 nc2 ⊢
  have l4 : h4.length = h.length + 2 := by rw [← h4e, ap_len, lb, l2]
  have y4 : ∀ x e, rx_rd V h3 x = some e → rx_rd V h4 x = some e := fun x e he => by rw [← h4e]; exact rx_rd_ap he
  rw [lb, l2] at nc2 nq2 ⊢
  refine rx_putfield d_Page_init_20 (fw_Page_19 rfl rfl) gc (Nat.le_of_ble_eq_true rfl) (by rfl) (by rfl) ?_
  show rx_W _ _ _ _ _ _ _ _ (rx_wr V h4 q (.inr (1, [.int (nI n), .ref (V.2.1 + h.length), .ref (V.2.1 + (h.length + 1)), .null]))) _
  have gd := rx_rd_wr (e := .inr (1, [.int (nI n), .ref (V.2.1 + h.length), .ref (V.2.1 + (h.length + 1)), .null])) gc
  have ld := @rx_wr_len V h4 q (.inr (1, [.int (nI n), .ref (V.2.1 + h.length), .ref (V.2.1 + (h.length + 1)), .null]))
  have yd : ∀ x e, x ≠ q → rx_rd V h4 x = some e → rx_rd V (rx_wr V h4 q (.inr (1, [.int (nI n), .ref (V.2.1 + h.length), .ref (V.2.1 + (h.length + 1)), .null]))) x = some e := fun x e hx he => (rx_rd_wn gc hx).trans he
  have nd1 := yd _ _ (Ne.symm n1) nc1
  have nd2 := yd _ _ (Ne.symm nq2) nc2
  generalize h5e : rx_wr V h4 q (.inr (1, [.int (nI n), .ref (V.2.1 + h.length), .ref (V.2.1 + (h.length + 1)), .null])) = h5 at gd ld yd nd1 nd2 ⊢
  refine rx_aload_nr d_Page_init_23 (by rfl) ?_
  refine rx_iload_n d_Page_init_24 (by rfl) ?_
  refine rx_bipush (v := 10) d_Page_init_25 (by decide) ?_
  refine rx_imul d_Page_init_27 ?_
  rw [show (10 : Int32) = nI 10 from rfl, pk_mul, Nat.mul_comm n 10]
  refine rx_more (rx_newarray (kc := 0) (ks := 0) (ty := .int) (t0 := 0) (a0 := (10 * n, .inl (fun _ => 0))) d_Page_init_28 (by rfl) (by rfl) (rx_in 53 (by decide +kernel) (by decide +kernel)) (fun _ _ z => z) (fun _ => by rfl) (by rw [i_lt, i_n (by omega), i_0]; omega) (i_cl (by omega)) (by show 10 * n * 4 ≤ _; omega) ?_) (Nat.le_refl _) (by omega) (by omega)
  have ge := rx_rd_ap (t := [.inl (V.2.2.2.1 0, 10 * n, .inl (fun _ => 0))]) gd
  have ne1 := rx_rd_ap (t := [.inl (V.2.2.2.1 0, 10 * n, .inl (fun _ => 0))]) nd1
  have ne2 := rx_rd_ap (t := [.inl (V.2.2.2.1 0, 10 * n, .inl (fun _ => 0))]) nd2
  have ne3 : rx_rd V (h5 ++ [.inl (V.2.2.2.1 0, 10 * n, .inl (fun _ => 0))]) (V.2.1 + h5.length) = some (.inl (V.2.2.2.1 0, 10 * n, .inl (fun _ => 0))) := rx_rd_new
  have nq3 : q ≠ V.2.1 + h5.length := rx_rd_no gd
  generalize h6e : h5 ++ [.inl (V.2.2.2.1 0, 10 * n, .inl (fun _ => 0))] = h6 at ge ne1 ne2 ne3 ⊢
  have l6 : h6.length = h.length + 3 := by rw [← h6e, ap_len, ld, l4]
  have y6 : ∀ x e, rx_rd V h5 x = some e → rx_rd V h6 x = some e := fun x e he => by rw [← h6e]; exact rx_rd_ap he
  rw [ld, l4] at ne3 nq3 ⊢
  refine rx_putfield d_Page_init_30 (fw_Page_22 rfl rfl) ge (Nat.le_of_ble_eq_true rfl) (by rfl) (by rfl) ?_
  show rx_W _ _ _ _ _ _ _ _ (rx_wr V h6 q (.inr (1, [.int (nI n), .ref (V.2.1 + h.length), .ref (V.2.1 + (h.length + 1)), .ref (V.2.1 + (h.length + 2))]))) _
  have gf := rx_rd_wr (e := .inr (1, [.int (nI n), .ref (V.2.1 + h.length), .ref (V.2.1 + (h.length + 1)), .ref (V.2.1 + (h.length + 2))])) ge
  have lf := @rx_wr_len V h6 q (.inr (1, [.int (nI n), .ref (V.2.1 + h.length), .ref (V.2.1 + (h.length + 1)), .ref (V.2.1 + (h.length + 2))]))
  have yf : ∀ x e, x ≠ q → rx_rd V h6 x = some e → rx_rd V (rx_wr V h6 q (.inr (1, [.int (nI n), .ref (V.2.1 + h.length), .ref (V.2.1 + (h.length + 1)), .ref (V.2.1 + (h.length + 2))]))) x = some e := fun x e hx he => (rx_rd_wn ge hx).trans he
  have nf1 := yf _ _ (Ne.symm n1) ne1
  have nf2 := yf _ _ (Ne.symm nq2) ne2
  have nf3 := yf _ _ (Ne.symm nq3) ne3
  generalize h7e : rx_wr V h6 q (.inr (1, [.int (nI n), .ref (V.2.1 + h.length), .ref (V.2.1 + (h.length + 1)), .ref (V.2.1 + (h.length + 2))])) = h7 at gf lf yf nf1 nf2 nf3 ⊢
  refine rx_aload_nr d_Page_init_33 (by rfl) ?_
  refine rx_getfield d_Page_init_34 fl_Page_15 gf (by rfl) ?_
  refine rx_bipush (v := 16) d_Page_init_37 (by decide) ?_
  refine rx_pS d_Page_init_39 ml_Page_25 st_JA_fill (by exact c9_JA_fill) (by rfl) (by exact Nat.le_of_ble_eq_true rfl) (c_fill (by omega) nf1) ?_
  intro h8 z9
  obtain ⟨nh1, f8⟩ := z9
  have gh := (f8.2 q n1).trans gf
  have nh2 := (f8.2 _ (show V.2.1 + (h.length + 1) ≠ V.2.1 + h.length by omega)).trans nf2
  have nh3 := (f8.2 _ (show V.2.1 + (h.length + 2) ≠ V.2.1 + h.length by omega)).trans nf3
  refine rx_aload_nr d_Page_init_42 (by rfl) ?_
  refine rx_getfield d_Page_init_43 fl_Page_19 gh (by rfl) ?_
  refine rx_bipush (v := 10) d_Page_init_46 (by decide) ?_
  refine rx_pS d_Page_init_48 ml_Page_25 st_JA_fill (by exact c9_JA_fill) (by rfl) (by exact Nat.le_of_ble_eq_true rfl) (c_fill (by omega) nh2) ?_
  intro h9 z9
  obtain ⟨ni2, f9⟩ := z9
  have gi := (f9.2 q nq2).trans gh
  have ni1 := (f9.2 _ (show V.2.1 + h.length ≠ V.2.1 + (h.length + 1) by omega)).trans nh1
  have ni3 := (f9.2 _ (show V.2.1 + (h.length + 2) ≠ V.2.1 + (h.length + 1) by omega)).trans nh3
  refine rx_vreturn d_Page_init_51 (by rfl) ?_
  refine ⟨rfl, ⟨gi, ni1, ni2, ni3, hn⟩, ⟨by rw [f9.1, f8.1, lf, l6]; omega, fun x e hx he => ?_⟩, by rw [f9.1, f8.1, lf, l6]⟩
  have hl := rx_rd_lt he
  exact (f9.2 x (by omega)).trans ((f8.2 x (by omega)).trans (yf x e hx (y6 x e (yd x e hx (y4 x e (yb x e hx (y2 x e (y1 x e hx he))))))))
end IN
