/-! the reference's constructor -/
def mo0 : Nat → Int32 := up (up (up (up (up (up (up (up (up (up (fun _ => 0) 0 1) 1 4) 2 15) 3 1) 4 1) 5 1) 6 1) 7 12) 8 1) 9 1
theorem mo0_f : ∀ i, i < 10 → mo0 i = msF i := by decide
section MIN
variable {V : rx_V} {d kc ks : Nat} {M : rx_T} {pc : Nat} {L : rx_L} {St : List Value} {h0 : List va_E} {Q : rx_R → List va_E → Prop} {a : Nat}
theorem i_rd {C : List va_E} {j : Nat} {e : va_E} (ha : a = V.2.1 + h0.length) (hj : C[j]? = some e) : rx_rd V (h0 ++ C) (a + j) = some e := by
  unfold rx_rd
  rw [if_pos (by omega), List.getElem?_append_right (by omega), show a + j - V.2.1 - h0.length = j by omega]
  exact hj
theorem i_wr {C : List va_E} {j : Nat} {e : va_E} (ha : a = V.2.1 + h0.length) : rx_wr V (h0 ++ C) (a + j) e = h0 ++ C.set j e := by
  unfold rx_wr
  rw [List.set_append_right _ _ (by omega), show a + j - V.2.1 - h0.length = j by omega]
theorem i_put {index k9 : Nat} {v : Value} {ty : FieldType} {fs : List Value} {C : List va_E} (ha : a = V.2.1 + h0.length) (hd : decode M.2.1 pc = .ok (.putfield index, 3)) (hF : rx_fw M index 8 k9 ty) (hk : k9 < fs.length) (hn : narrow ty v = v) (hfit : fits ty v = true)
    (kk : rx_W V d kc ks M (pc + 3) L St (h0 ++ (.inr (8, fs.set k9 v) :: C)) Q) : rx_W V d kc ks M pc L (v :: .ref a :: St) (h0 ++ (.inr (8, fs) :: C)) Q := by
  refine rx_putfield hd hF (i_rd (j := 0) ha rfl) hk hn hfit ?_
  rw [show rx_wr V (h0 ++ (.inr (8, fs) :: C)) a (.inr (8, fs.set k9 v)) = h0 ++ (.inr (8, fs.set k9 v) :: C) from i_wr (j := 0) ha]
  exact kk
theorem i_new {t0 k9 N : Nat} {atype : ArrayType} {ty : FieldType} {n : Int32} {a0 : vp_A} {C : List va_E} (ha : a = V.2.1 + h0.length) (hl : C.length = k9) (hd : decode M.2.1 pc = .ok (.newarray atype, 2)) (ht : rx_ats[t0]? = some ty) (hty : newarray.typeOf atype = ty) (w1 : Cond.arrayClass ty ∈ rx_tbl) (hnm : ∀ (U : State) (cA : ClassId), va_RA U cA ty → U.vm.findClass ("[" ++ ty.toString) = some cA)
    (h9 : ∀ cA : ClassId, vp_cell cA a0 = arrV cA N (fun _ => defaultValue ty)) (hn : ¬ n < 0) (hN : n.toNatClampNeg = N) (hbytes : N * componentBytes ty ≤ 536870912)
    (kk : rx_W V d kc ks M (pc + 2) L (.ref (a + k9) :: St) (h0 ++ (C ++ [.inl (V.2.2.2.1 t0, a0)])) Q) : rx_W V d (kc + 1) (ks + N) M pc L (.int n :: St) (h0 ++ C) Q := by
  refine rx_newarray hd ht hty w1 hnm h9 hn hN hbytes ?_
  rw [List.append_assoc, show V.2.1 + (h0 ++ C).length = a + k9 by rw [List.length_append]; omega]
  exact kk
theorem i_ias {j i n : Nat} {f : Nat → Int32} {x : Int32} {C : List va_E} (ha : a = V.2.1 + h0.length) (hd : decode M.2.1 pc = .ok (.iastore, 1)) (hj : C[j]? = some (.inl (V.2.2.2.1 0, n, .inl f))) (hi : i < n) (hn : n ≤ 1000)
    (kk : rx_W V d kc ks M (pc + 1) L St (h0 ++ C.set j (.inl (V.2.2.2.1 0, n, .inl (up f i x)))) Q) : rx_W V d kc ks M pc L (.int x :: .int (nI i) :: .ref (a + j) :: St) (h0 ++ C) Q := by
  refine rx_iastore hd rfl (i_rd ha hj) (vp_in_nI hi (by omega)) ?_
  rw [i_cl (by omega), up_upd, i_wr ha]
  exact kk
end MIN
section MCO
variable {V : rx_V} {d kc ks : Nat} {h0 : List va_E} {a : Nat}
theorem cnt_o {x : Int32} (h : ¬ (1 ≤ x.toInt ∧ x.toInt ≤ 20)) : cnt x = 12 := if_neg h
theorem cnt_i {x : Int32} (h1 : 1 ≤ x.toInt) (h2 : x.toInt ≤ 20) : nI (cnt x) = x := by
  unfold cnt
  rw [if_pos ⟨h1, h2⟩]
  exact (i_of (by omega) (by omega)).symm
def mS0 : mT := (fun _ => 0, fun _ => 0, fun j => if j = 1 then mo0 else fun _ => 0)
theorem l_moInit (ha : a = V.2.1 + h0.length) {Q : rx_R → List va_E → Prop} {x : Int32} (K : rx_W V (d + 1) 0 0 m_Mo_init 180 [some (.ref a), some (.int x), none] [] (mw V h0 a mS0 []) Q) : rx_C V (d + 1) 16 990 m_Mo_init [.ref a, .int x] (h0 ++ (.inr (8, [.null, .int 0, .int 0, .null, .null, .null, .int 0, .null, .null, .null, .null, .null, .null, .int 0, .null, .null, .null, .null, .null, .int 0, .int 0, .int 0, .int 0, .int 0, .int 0, .null, .long 0, .long 0, .long 0]) :: [])) Q := by
  have e9 : h0 ++ (.inr (8, [.ref (a + 1), .int 0, .int 0, .ref (a + 2), .ref (a + 3), .ref (a + 4), .int 0, .ref (a + 5), .ref (a + 6), .ref (a + 7), .ref (a + 8), .ref (a + 9), .ref (a + 10), .int 0, .ref (a + 11), .ref (a + 12), .ref (a + 13), .ref (a + 14), .ref (a + 15), .int 0, .int 0, .int 0, .int 0, .int 0, .int 0, .ref (a + 16), .long 0, .long 0, .long 0]) :: [.inl (V.2.2.2.1 0, 10, .inl (up (up (up (up (up (up (up (up (up (up (fun _ => 0) 0 1) 1 4) 2 15) 3 1) 4 1) 5 1) 6 1) 7 12) 8 1) 9 1)), .inl (V.2.2.2.1 0, 20, .inl (fun _ => 0)), .inl (V.2.2.2.1 0, 20, .inl (fun _ => 0)), .inl (V.2.2.2.1 0, 200, .inl (fun _ => 0)), .inl (V.2.2.2.1 0, 40, .inl (fun _ => 0)), .inl (V.2.2.2.1 0, 40, .inl (fun _ => 0)), .inl (V.2.2.2.1 0, 40, .inl (fun _ => 0)), .inl (V.2.2.2.1 0, 40, .inl (fun _ => 0)), .inl (V.2.2.2.1 0, 40, .inl (fun _ => 0)), .inl (V.2.2.2.1 2, 40, .inl (fun _ => 0)), .inl (V.2.2.2.1 0, 20, .inl (fun _ => 0)), .inl (V.2.2.2.1 0, 20, .inl (fun _ => 0)), .inl (V.2.2.2.1 0, 20, .inl (fun _ => 0)), .inl (V.2.2.2.1 0, 20, .inl (fun _ => 0)), .inl (V.2.2.2.1 0, 20, .inl (fun _ => 0)), .inl (V.2.2.2.1 0, 400, .inl (fun _ => 0))]) = mw V h0 a mS0 [] := by
    unfold mw
    rw [List.append_nil]
    rfl
  refine rx_aload_nr d_Mo_init_0 (by rfl) ?_
  refine rx_objInit d_Mo_init_1 w_obj_Mo w_obj2 w_obj3 (by exact Nat.le_of_ble_eq_true rfl) ?_
  refine rx_aload_nr d_Mo_init_4 (by rfl) ?_
  refine rx_bipush (v := 10) d_Mo_init_5 (by decide) ?_
  refine i_new (k9 := 1) (N := 10) (ty := .int) (t0 := 0) (a0 := (10, .inl (fun _ => 0))) ha (by rfl) d_Mo_init_7 (by rfl) (by rfl) (rx_in 53 (by decide +kernel) (by decide +kernel)) (fun _ _ z => z) (fun _ => by rfl) (by decide) (by decide) (by decide) ?_
  show rx_W _ _ _ _ _ _ _ _ (h0 ++ (.inr (8, [.null, .int 0, .int 0, .null, .null, .null, .int 0, .null, .null, .null, .null, .null, .null, .int 0, .null, .null, .null, .null, .null, .int 0, .int 0, .int 0, .int 0, .int 0, .int 0, .null, .long 0, .long 0, .long 0]) :: [.inl (V.2.2.2.1 0, 10, .inl (fun _ => 0))])) _
  refine rx_dup d_Mo_init_9 (by rfl) ?_
  refine rx_iconst (v := 0) d_Mo_init_10 (by decide) ?_
  refine rx_iconst (v := 1) d_Mo_init_11 (by decide) ?_
  refine i_ias (j := 1) (i := 0) ha d_Mo_init_12 (by rfl) (by decide) (by decide) ?_
  show rx_W _ _ _ _ _ _ _ _ (h0 ++ (.inr (8, [.null, .int 0, .int 0, .null, .null, .null, .int 0, .null, .null, .null, .null, .null, .null, .int 0, .null, .null, .null, .null, .null, .int 0, .int 0, .int 0, .int 0, .int 0, .int 0, .null, .long 0, .long 0, .long 0]) :: [.inl (V.2.2.2.1 0, 10, .inl (up (fun _ => 0) 0 1))])) _
  refine rx_dup d_Mo_init_13 (by rfl) ?_
  refine rx_iconst (v := 1) d_Mo_init_14 (by decide) ?_
  refine rx_iconst (v := 4) d_Mo_init_15 (by decide) ?_
  refine i_ias (j := 1) (i := 1) ha d_Mo_init_16 (by rfl) (by decide) (by decide) ?_
  show rx_W _ _ _ _ _ _ _ _ (h0 ++ (.inr (8, [.null, .int 0, .int 0, .null, .null, .null, .int 0, .null, .null, .null, .null, .null, .null, .int 0, .null, .null, .null, .null, .null, .int 0, .int 0, .int 0, .int 0, .int 0, .int 0, .null, .long 0, .long 0, .long 0]) :: [.inl (V.2.2.2.1 0, 10, .inl (up (up (fun _ => 0) 0 1) 1 4))])) _
  refine rx_dup d_Mo_init_17 (by rfl) ?_
  refine rx_iconst (v := 2) d_Mo_init_18 (by decide) ?_
  refine rx_bipush (v := 15) d_Mo_init_19 (by decide) ?_
  refine i_ias (j := 1) (i := 2) ha d_Mo_init_21 (by rfl) (by decide) (by decide) ?_
  show rx_W _ _ _ _ _ _ _ _ (h0 ++ (.inr (8, [.null, .int 0, .int 0, .null, .null, .null, .int 0, .null, .null, .null, .null, .null, .null, .int 0, .null, .null, .null, .null, .null, .int 0, .int 0, .int 0, .int 0, .int 0, .int 0, .null, .long 0, .long 0, .long 0]) :: [.inl (V.2.2.2.1 0, 10, .inl (up (up (up (fun _ => 0) 0 1) 1 4) 2 15))])) _
  refine rx_dup d_Mo_init_22 (by rfl) ?_
  refine rx_iconst (v := 3) d_Mo_init_23 (by decide) ?_
  refine rx_iconst (v := 1) d_Mo_init_24 (by decide) ?_
  refine i_ias (j := 1) (i := 3) ha d_Mo_init_25 (by rfl) (by decide) (by decide) ?_
  show rx_W _ _ _ _ _ _ _ _ (h0 ++ (.inr (8, [.null, .int 0, .int 0, .null, .null, .null, .int 0, .null, .null, .null, .null, .null, .null, .int 0, .null, .null, .null, .null, .null, .int 0, .int 0, .int 0, .int 0, .int 0, .int 0, .null, .long 0, .long 0, .long 0]) :: [.inl (V.2.2.2.1 0, 10, .inl (up (up (up (up (fun _ => 0) 0 1) 1 4) 2 15) 3 1))])) _
  refine rx_dup d_Mo_init_26 (by rfl) ?_
  refine rx_iconst (v := 4) d_Mo_init_27 (by decide) ?_
  refine rx_iconst (v := 1) d_Mo_init_28 (by decide) ?_
  refine i_ias (j := 1) (i := 4) ha d_Mo_init_29 (by rfl) (by decide) (by decide) ?_
  show rx_W _ _ _ _ _ _ _ _ (h0 ++ (.inr (8, [.null, .int 0, .int 0, .null, .null, .null, .int 0, .null, .null, .null, .null, .null, .null, .int 0, .null, .null, .null, .null, .null, .int 0, .int 0, .int 0, .int 0, .int 0, .int 0, .null, .long 0, .long 0, .long 0]) :: [.inl (V.2.2.2.1 0, 10, .inl (up (up (up (up (up (fun _ => 0) 0 1) 1 4) 2 15) 3 1) 4 1))])) _
  refine rx_dup d_Mo_init_30 (by rfl) ?_
  refine rx_iconst (v := 5) d_Mo_init_31 (by decide) ?_
  refine rx_iconst (v := 1) d_Mo_init_32 (by decide) ?_
  refine i_ias (j := 1) (i := 5) ha d_Mo_init_33 (by rfl) (by decide) (by decide) ?_
  show rx_W _ _ _ _ _ _ _ _ (h0 ++ (.inr (8, [.null, .int 0, .int 0, .null, .null, .null, .int 0, .null, .null, .null, .null, .null, .null, .int 0, .null, .null, .null, .null, .null, .int 0, .int 0, .int 0, .int 0, .int 0, .int 0, .null, .long 0, .long 0, .long 0]) :: [.inl (V.2.2.2.1 0, 10, .inl (up (up (up (up (up (up (fun _ => 0) 0 1) 1 4) 2 15) 3 1) 4 1) 5 1))])) _
  refine rx_dup d_Mo_init_34 (by rfl) ?_
  refine rx_bipush (v := 6) d_Mo_init_35 (by decide) ?_
  refine rx_iconst (v := 1) d_Mo_init_37 (by decide) ?_
  refine i_ias (j := 1) (i := 6) ha d_Mo_init_38 (by rfl) (by decide) (by decide) ?_
  show rx_W _ _ _ _ _ _ _ _ (h0 ++ (.inr (8, [.null, .int 0, .int 0, .null, .null, .null, .int 0, .null, .null, .null, .null, .null, .null, .int 0, .null, .null, .null, .null, .null, .int 0, .int 0, .int 0, .int 0, .int 0, .int 0, .null, .long 0, .long 0, .long 0]) :: [.inl (V.2.2.2.1 0, 10, .inl (up (up (up (up (up (up (up (fun _ => 0) 0 1) 1 4) 2 15) 3 1) 4 1) 5 1) 6 1))])) _
  refine rx_dup d_Mo_init_39 (by rfl) ?_
  refine rx_bipush (v := 7) d_Mo_init_40 (by decide) ?_
  refine rx_bipush (v := 12) d_Mo_init_42 (by decide) ?_
  refine i_ias (j := 1) (i := 7) ha d_Mo_init_44 (by rfl) (by decide) (by decide) ?_
  show rx_W _ _ _ _ _ _ _ _ (h0 ++ (.inr (8, [.null, .int 0, .int 0, .null, .null, .null, .int 0, .null, .null, .null, .null, .null, .null, .int 0, .null, .null, .null, .null, .null, .int 0, .int 0, .int 0, .int 0, .int 0, .int 0, .null, .long 0, .long 0, .long 0]) :: [.inl (V.2.2.2.1 0, 10, .inl (up (up (up (up (up (up (up (up (fun _ => 0) 0 1) 1 4) 2 15) 3 1) 4 1) 5 1) 6 1) 7 12))])) _
  refine rx_dup d_Mo_init_45 (by rfl) ?_
  refine rx_bipush (v := 8) d_Mo_init_46 (by decide) ?_
  refine rx_iconst (v := 1) d_Mo_init_48 (by decide) ?_
  refine i_ias (j := 1) (i := 8) ha d_Mo_init_49 (by rfl) (by decide) (by decide) ?_
  show rx_W _ _ _ _ _ _ _ _ (h0 ++ (.inr (8, [.null, .int 0, .int 0, .null, .null, .null, .int 0, .null, .null, .null, .null, .null, .null, .int 0, .null, .null, .null, .null, .null, .int 0, .int 0, .int 0, .int 0, .int 0, .int 0, .null, .long 0, .long 0, .long 0]) :: [.inl (V.2.2.2.1 0, 10, .inl (up (up (up (up (up (up (up (up (up (fun _ => 0) 0 1) 1 4) 2 15) 3 1) 4 1) 5 1) 6 1) 7 12) 8 1))])) _
  refine rx_dup d_Mo_init_50 (by rfl) ?_
  refine rx_bipush (v := 9) d_Mo_init_51 (by decide) ?_
  refine rx_iconst (v := 1) d_Mo_init_53 (by decide) ?_
  refine i_ias (j := 1) (i := 9) ha d_Mo_init_54 (by rfl) (by decide) (by decide) ?_
  show rx_W _ _ _ _ _ _ _ _ (h0 ++ (.inr (8, [.null, .int 0, .int 0, .null, .null, .null, .int 0, .null, .null, .null, .null, .null, .null, .int 0, .null, .null, .null, .null, .null, .int 0, .int 0, .int 0, .int 0, .int 0, .int 0, .null, .long 0, .long 0, .long 0]) :: [.inl (V.2.2.2.1 0, 10, .inl (up (up (up (up (up (up (up (up (up (up (fun _ => 0) 0 1) 1 4) 2 15) 3 1) 4 1) 5 1) 6 1) 7 12) 8 1) 9 1))])) _
  refine i_put (k9 := 0) ha d_Mo_init_55 (fw_Mo_7 rfl rfl) (Nat.le_of_ble_eq_true rfl) (by rfl) (by rfl) ?_
  show rx_W _ _ _ _ _ _ _ _ (h0 ++ (.inr (8, [.ref (a + 1), .int 0, .int 0, .null, .null, .null, .int 0, .null, .null, .null, .null, .null, .null, .int 0, .null, .null, .null, .null, .null, .int 0, .int 0, .int 0, .int 0, .int 0, .int 0, .null, .long 0, .long 0, .long 0]) :: [.inl (V.2.2.2.1 0, 10, .inl (up (up (up (up (up (up (up (up (up (up (fun _ => 0) 0 1) 1 4) 2 15) 3 1) 4 1) 5 1) 6 1) 7 12) 8 1) 9 1))])) _
  refine rx_aload_nr d_Mo_init_58 (by rfl) ?_
  refine rx_bipush (v := 20) d_Mo_init_59 (by decide) ?_
  refine i_new (k9 := 2) (N := 20) (ty := .int) (t0 := 0) (a0 := (20, .inl (fun _ => 0))) ha (by rfl) d_Mo_init_61 (by rfl) (by rfl) (rx_in 53 (by decide +kernel) (by decide +kernel)) (fun _ _ z => z) (fun _ => by rfl) (by decide) (by decide) (by decide) ?_
  show rx_W _ _ _ _ _ _ _ _ (h0 ++ (.inr (8, [.ref (a + 1), .int 0, .int 0, .null, .null, .null, .int 0, .null, .null, .null, .null, .null, .null, .int 0, .null, .null, .null, .null, .null, .int 0, .int 0, .int 0, .int 0, .int 0, .int 0, .null, .long 0, .long 0, .long 0]) :: [.inl (V.2.2.2.1 0, 10, .inl (up (up (up (up (up (up (up (up (up (up (fun _ => 0) 0 1) 1 4) 2 15) 3 1) 4 1) 5 1) 6 1) 7 12) 8 1) 9 1)), .inl (V.2.2.2.1 0, 20, .inl (fun _ => 0))])) _
  refine i_put (k9 := 3) ha d_Mo_init_63 (fw_Mo_13 rfl rfl) (Nat.le_of_ble_eq_true rfl) (by rfl) (by rfl) ?_
  show rx_W _ _ _ _ _ _ _ _ (h0 ++ (.inr (8, [.ref (a + 1), .int 0, .int 0, .ref (a + 2), .null, .null, .int 0, .null, .null, .null, .null, .null, .null, .int 0, .null, .null, .null, .null, .null, .int 0, .int 0, .int 0, .int 0, .int 0, .int 0, .null, .long 0, .long 0, .long 0]) :: [.inl (V.2.2.2.1 0, 10, .inl (up (up (up (up (up (up (up (up (up (up (fun _ => 0) 0 1) 1 4) 2 15) 3 1) 4 1) 5 1) 6 1) 7 12) 8 1) 9 1)), .inl (V.2.2.2.1 0, 20, .inl (fun _ => 0))])) _
  refine rx_aload_nr d_Mo_init_66 (by rfl) ?_
  refine rx_bipush (v := 20) d_Mo_init_67 (by decide) ?_
  refine i_new (k9 := 3) (N := 20) (ty := .int) (t0 := 0) (a0 := (20, .inl (fun _ => 0))) ha (by rfl) d_Mo_init_69 (by rfl) (by rfl) (rx_in 53 (by decide +kernel) (by decide +kernel)) (fun _ _ z => z) (fun _ => by rfl) (by decide) (by decide) (by decide) ?_
  show rx_W _ _ _ _ _ _ _ _ (h0 ++ (.inr (8, [.ref (a + 1), .int 0, .int 0, .ref (a + 2), .null, .null, .int 0, .null, .null, .null, .null, .null, .null, .int 0, .null, .null, .null, .null, .null, .int 0, .int 0, .int 0, .int 0, .int 0, .int 0, .null, .long 0, .long 0, .long 0]) :: [.inl (V.2.2.2.1 0, 10, .inl (up (up (up (up (up (up (up (up (up (up (fun _ => 0) 0 1) 1 4) 2 15) 3 1) 4 1) 5 1) 6 1) 7 12) 8 1) 9 1)), .inl (V.2.2.2.1 0, 20, .inl (fun _ => 0)), .inl (V.2.2.2.1 0, 20, .inl (fun _ => 0))])) _
  refine i_put (k9 := 4) ha d_Mo_init_71 (fw_Mo_16 rfl rfl) (Nat.le_of_ble_eq_true rfl) (by rfl) (by rfl) ?_
  show rx_W _ _ _ _ _ _ _ _ (h0 ++ (.inr (8, [.ref (a + 1), .int 0, .int 0, .ref (a + 2), .ref (a + 3), .null, .int 0, .null, .null, .null, .null, .null, .null, .int 0, .null, .null, .null, .null, .null, .int 0, .int 0, .int 0, .int 0, .int 0, .int 0, .null, .long 0, .long 0, .long 0]) :: [.inl (V.2.2.2.1 0, 10, .inl (up (up (up (up (up (up (up (up (up (up (fun _ => 0) 0 1) 1 4) 2 15) 3 1) 4 1) 5 1) 6 1) 7 12) 8 1) 9 1)), .inl (V.2.2.2.1 0, 20, .inl (fun _ => 0)), .inl (V.2.2.2.1 0, 20, .inl (fun _ => 0))])) _
  refine rx_aload_nr d_Mo_init_74 (by rfl) ?_
  refine rx_sipush (v := 200) d_Mo_init_75 (by decide) ?_
  refine i_new (k9 := 4) (N := 200) (ty := .int) (t0 := 0) (a0 := (200, .inl (fun _ => 0))) ha (by rfl) d_Mo_init_78 (by rfl) (by rfl) (rx_in 53 (by decide +kernel) (by decide +kernel)) (fun _ _ z => z) (fun _ => by rfl) (by decide) (by decide) (by decide) ?_
  show rx_W _ _ _ _ _ _ _ _ (h0 ++ (.inr (8, [.ref (a + 1), .int 0, .int 0, .ref (a + 2), .ref (a + 3), .null, .int 0, .null, .null, .null, .null, .null, .null, .int 0, .null, .null, .null, .null, .null, .int 0, .int 0, .int 0, .int 0, .int 0, .int 0, .null, .long 0, .long 0, .long 0]) :: [.inl (V.2.2.2.1 0, 10, .inl (up (up (up (up (up (up (up (up (up (up (fun _ => 0) 0 1) 1 4) 2 15) 3 1) 4 1) 5 1) 6 1) 7 12) 8 1) 9 1)), .inl (V.2.2.2.1 0, 20, .inl (fun _ => 0)), .inl (V.2.2.2.1 0, 20, .inl (fun _ => 0)), .inl (V.2.2.2.1 0, 200, .inl (fun _ => 0))])) _
  refine i_put (k9 := 5) ha d_Mo_init_80 (fw_Mo_19 rfl rfl) (Nat.le_of_ble_eq_true rfl) (by rfl) (by rfl) ?_
  show rx_W _ _ _ _ _ _ _ _ (h0 ++ (.inr (8, [.ref (a + 1), .int 0, .int 0, .ref (a + 2), .ref (a + 3), .ref (a + 4), .int 0, .null, .null, .null, .null, .null, .null, .int 0, .null, .null, .null, .null, .null, .int 0, .int 0, .int 0, .int 0, .int 0, .int 0, .null, .long 0, .long 0, .long 0]) :: [.inl (V.2.2.2.1 0, 10, .inl (up (up (up (up (up (up (up (up (up (up (fun _ => 0) 0 1) 1 4) 2 15) 3 1) 4 1) 5 1) 6 1) 7 12) 8 1) 9 1)), .inl (V.2.2.2.1 0, 20, .inl (fun _ => 0)), .inl (V.2.2.2.1 0, 20, .inl (fun _ => 0)), .inl (V.2.2.2.1 0, 200, .inl (fun _ => 0))])) _
  refine rx_aload_nr d_Mo_init_83 (by rfl) ?_
  refine rx_bipush (v := 40) d_Mo_init_84 (by decide) ?_
  refine i_new (k9 := 5) (N := 40) (ty := .int) (t0 := 0) (a0 := (40, .inl (fun _ => 0))) ha (by rfl) d_Mo_init_86 (by rfl) (by rfl) (rx_in 53 (by decide +kernel) (by decide +kernel)) (fun _ _ z => z) (fun _ => by rfl) (by decide) (by decide) (by decide) ?_
  show rx_W _ _ _ _ _ _ _ _ (h0 ++ (.inr (8, [.ref (a + 1), .int 0, .int 0, .ref (a + 2), .ref (a + 3), .ref (a + 4), .int 0, .null, .null, .null, .null, .null, .null, .int 0, .null, .null, .null, .null, .null, .int 0, .int 0, .int 0, .int 0, .int 0, .int 0, .null, .long 0, .long 0, .long 0]) :: [.inl (V.2.2.2.1 0, 10, .inl (up (up (up (up (up (up (up (up (up (up (fun _ => 0) 0 1) 1 4) 2 15) 3 1) 4 1) 5 1) 6 1) 7 12) 8 1) 9 1)), .inl (V.2.2.2.1 0, 20, .inl (fun _ => 0)), .inl (V.2.2.2.1 0, 20, .inl (fun _ => 0)), .inl (V.2.2.2.1 0, 200, .inl (fun _ => 0)), .inl (V.2.2.2.1 0, 40, .inl (fun _ => 0))])) _
  refine i_put (k9 := 7) ha d_Mo_init_88 (fw_Mo_22 rfl rfl) (Nat.le_of_ble_eq_true rfl) (by rfl) (by rfl) ?_
  show rx_W _ _ _ _ _ _ _ _ (h0 ++ (.inr (8, [.ref (a + 1), .int 0, .int 0, .ref (a + 2), .ref (a + 3), .ref (a + 4), .int 0, .ref (a + 5), .null, .null, .null, .null, .null, .int 0, .null, .null, .null, .null, .null, .int 0, .int 0, .int 0, .int 0, .int 0, .int 0, .null, .long 0, .long 0, .long 0]) :: [.inl (V.2.2.2.1 0, 10, .inl (up (up (up (up (up (up (up (up (up (up (fun _ => 0) 0 1) 1 4) 2 15) 3 1) 4 1) 5 1) 6 1) 7 12) 8 1) 9 1)), .inl (V.2.2.2.1 0, 20, .inl (fun _ => 0)), .inl (V.2.2.2.1 0, 20, .inl (fun _ => 0)), .inl (V.2.2.2.1 0, 200, .inl (fun _ => 0)), .inl (V.2.2.2.1 0, 40, .inl (fun _ => 0))])) _
  refine rx_aload_nr d_Mo_init_91 (by rfl) ?_
  refine rx_bipush (v := 40) d_Mo_init_92 (by decide) ?_
  refine i_new (k9 := 6) (N := 40) (ty := .int) (t0 := 0) (a0 := (40, .inl (fun _ => 0))) ha (by rfl) d_Mo_init_94 (by rfl) (by rfl) (rx_in 53 (by decide +kernel) (by decide +kernel)) (fun _ _ z => z) (fun _ => by rfl) (by decide) (by decide) (by decide) ?_
  show rx_W _ _ _ _ _ _ _ _ (h0 ++ (.inr (8, [.ref (a + 1), .int 0, .int 0, .ref (a + 2), .ref (a + 3), .ref (a + 4), .int 0, .ref (a + 5), .null, .null, .null, .null, .null, .int 0, .null, .null, .null, .null, .null, .int 0, .int 0, .int 0, .int 0, .int 0, .int 0, .null, .long 0, .long 0, .long 0]) :: [.inl (V.2.2.2.1 0, 10, .inl (up (up (up (up (up (up (up (up (up (up (fun _ => 0) 0 1) 1 4) 2 15) 3 1) 4 1) 5 1) 6 1) 7 12) 8 1) 9 1)), .inl (V.2.2.2.1 0, 20, .inl (fun _ => 0)), .inl (V.2.2.2.1 0, 20, .inl (fun _ => 0)), .inl (V.2.2.2.1 0, 200, .inl (fun _ => 0)), .inl (V.2.2.2.1 0, 40, .inl (fun _ => 0)), .inl (V.2.2.2.1 0, 40, .inl (fun _ => 0))])) _
  refine i_put (k9 := 8) ha d_Mo_init_96 (fw_Mo_25 rfl rfl) (Nat.le_of_ble_eq_true rfl) (by rfl) (by rfl) ?_
  show rx_W _ _ _ _ _ _ _ _ (h0 ++ (.inr (8, [.ref (a + 1), .int 0, .int 0, .ref (a + 2), .ref (a + 3), .ref (a + 4), .int 0, .ref (a + 5), .ref (a + 6), .null, .null, .null, .null, .int 0, .null, .null, .null, .null, .null, .int 0, .int 0, .int 0, .int 0, .int 0, .int 0, .null, .long 0, .long 0, .long 0]) :: [.inl (V.2.2.2.1 0, 10, .inl (up (up (up (up (up (up (up (up (up (up (fun _ => 0) 0 1) 1 4) 2 15) 3 1) 4 1) 5 1) 6 1) 7 12) 8 1) 9 1)), .inl (V.2.2.2.1 0, 20, .inl (fun _ => 0)), .inl (V.2.2.2.1 0, 20, .inl (fun _ => 0)), .inl (V.2.2.2.1 0, 200, .inl (fun _ => 0)), .inl (V.2.2.2.1 0, 40, .inl (fun _ => 0)), .inl (V.2.2.2.1 0, 40, .inl (fun _ => 0))])) _
  refine rx_aload_nr d_Mo_init_99 (by rfl) ?_
  refine rx_bipush (v := 40) d_Mo_init_100 (by decide) ?_
  refine i_new (k9 := 7) (N := 40) (ty := .int) (t0 := 0) (a0 := (40, .inl (fun _ => 0))) ha (by rfl) d_Mo_init_102 (by rfl) (by rfl) (rx_in 53 (by decide +kernel) (by decide +kernel)) (fun _ _ z => z) (fun _ => by rfl) (by decide) (by decide) (by decide) ?_
  show rx_W _ _ _ _ _ _ _ _ (h0 ++ (.inr (8, [.ref (a + 1), .int 0, .int 0, .ref (a + 2), .ref (a + 3), .ref (a + 4), .int 0, .ref (a + 5), .ref (a + 6), .null, .null, .null, .null, .int 0, .null, .null, .null, .null, .null, .int 0, .int 0, .int 0, .int 0, .int 0, .int 0, .null, .long 0, .long 0, .long 0]) :: [.inl (V.2.2.2.1 0, 10, .inl (up (up (up (up (up (up (up (up (up (up (fun _ => 0) 0 1) 1 4) 2 15) 3 1) 4 1) 5 1) 6 1) 7 12) 8 1) 9 1)), .inl (V.2.2.2.1 0, 20, .inl (fun _ => 0)), .inl (V.2.2.2.1 0, 20, .inl (fun _ => 0)), .inl (V.2.2.2.1 0, 200, .inl (fun _ => 0)), .inl (V.2.2.2.1 0, 40, .inl (fun _ => 0)), .inl (V.2.2.2.1 0, 40, .inl (fun _ => 0)), .inl (V.2.2.2.1 0, 40, .inl (fun _ => 0))])) _
  refine i_put (k9 := 9) ha d_Mo_init_104 (fw_Mo_28 rfl rfl) (Nat.le_of_ble_eq_true rfl) (by rfl) (by rfl) ?_
  show rx_W _ _ _ _ _ _ _ _ (h0 ++ (.inr (8, [.ref (a + 1), .int 0, .int 0, .ref (a + 2), .ref (a + 3), .ref (a + 4), .int 0, .ref (a + 5), .ref (a + 6), .ref (a + 7), .null, .null, .null, .int 0, .null, .null, .null, .null, .null, .int 0, .int 0, .int 0, .int 0, .int 0, .int 0, .null, .long 0, .long 0, .long 0]) :: [.inl (V.2.2.2.1 0, 10, .inl (up (up (up (up (up (up (up (up (up (up (fun _ => 0) 0 1) 1 4) 2 15) 3 1) 4 1) 5 1) 6 1) 7 12) 8 1) 9 1)), .inl (V.2.2.2.1 0, 20, .inl (fun _ => 0)), .inl (V.2.2.2.1 0, 20, .inl (fun _ => 0)), .inl (V.2.2.2.1 0, 200, .inl (fun _ => 0)), .inl (V.2.2.2.1 0, 40, .inl (fun _ => 0)), .inl (V.2.2.2.1 0, 40, .inl (fun _ => 0)), .inl (V.2.2.2.1 0, 40, .inl (fun _ => 0))])) _
  refine rx_aload_nr d_Mo_init_107 (by rfl) ?_
  refine rx_bipush (v := 40) d_Mo_init_108 (by decide) ?_
  refine i_new (k9 := 8) (N := 40) (ty := .int) (t0 := 0) (a0 := (40, .inl (fun _ => 0))) ha (by rfl) d_Mo_init_110 (by rfl) (by rfl) (rx_in 53 (by decide +kernel) (by decide +kernel)) (fun _ _ z => z) (fun _ => by rfl) (by decide) (by decide) (by decide) ?_
  show rx_W _ _ _ _ _ _ _ _ (h0 ++ (.inr (8, [.ref (a + 1), .int 0, .int 0, .ref (a + 2), .ref (a + 3), .ref (a + 4), .int 0, .ref (a + 5), .ref (a + 6), .ref (a + 7), .null, .null, .null, .int 0, .null, .null, .null, .null, .null, .int 0, .int 0, .int 0, .int 0, .int 0, .int 0, .null, .long 0, .long 0, .long 0]) :: [.inl (V.2.2.2.1 0, 10, .inl (up (up (up (up (up (up (up (up (up (up (fun _ => 0) 0 1) 1 4) 2 15) 3 1) 4 1) 5 1) 6 1) 7 12) 8 1) 9 1)), .inl (V.2.2.2.1 0, 20, .inl (fun _ => 0)), .inl (V.2.2.2.1 0, 20, .inl (fun _ => 0)), .inl (V.2.2.2.1 0, 200, .inl (fun _ => 0)), .inl (V.2.2.2.1 0, 40, .inl (fun _ => 0)), .inl (V.2.2.2.1 0, 40, .inl (fun _ => 0)), .inl (V.2.2.2.1 0, 40, .inl (fun _ => 0)), .inl (V.2.2.2.1 0, 40, .inl (fun _ => 0))])) _
  refine i_put (k9 := 10) ha d_Mo_init_112 (fw_Mo_31 rfl rfl) (Nat.le_of_ble_eq_true rfl) (by rfl) (by rfl) ?_
  show rx_W _ _ _ _ _ _ _ _ (h0 ++ (.inr (8, [.ref (a + 1), .int 0, .int 0, .ref (a + 2), .ref (a + 3), .ref (a + 4), .int 0, .ref (a + 5), .ref (a + 6), .ref (a + 7), .ref (a + 8), .null, .null, .int 0, .null, .null, .null, .null, .null, .int 0, .int 0, .int 0, .int 0, .int 0, .int 0, .null, .long 0, .long 0, .long 0]) :: [.inl (V.2.2.2.1 0, 10, .inl (up (up (up (up (up (up (up (up (up (up (fun _ => 0) 0 1) 1 4) 2 15) 3 1) 4 1) 5 1) 6 1) 7 12) 8 1) 9 1)), .inl (V.2.2.2.1 0, 20, .inl (fun _ => 0)), .inl (V.2.2.2.1 0, 20, .inl (fun _ => 0)), .inl (V.2.2.2.1 0, 200, .inl (fun _ => 0)), .inl (V.2.2.2.1 0, 40, .inl (fun _ => 0)), .inl (V.2.2.2.1 0, 40, .inl (fun _ => 0)), .inl (V.2.2.2.1 0, 40, .inl (fun _ => 0)), .inl (V.2.2.2.1 0, 40, .inl (fun _ => 0))])) _
  refine rx_aload_nr d_Mo_init_115 (by rfl) ?_
  refine rx_bipush (v := 40) d_Mo_init_116 (by decide) ?_
  refine i_new (k9 := 9) (N := 40) (ty := .int) (t0 := 0) (a0 := (40, .inl (fun _ => 0))) ha (by rfl) d_Mo_init_118 (by rfl) (by rfl) (rx_in 53 (by decide +kernel) (by decide +kernel)) (fun _ _ z => z) (fun _ => by rfl) (by decide) (by decide) (by decide) ?_
  show rx_W _ _ _ _ _ _ _ _ (h0 ++ (.inr (8, [.ref (a + 1), .int 0, .int 0, .ref (a + 2), .ref (a + 3), .ref (a + 4), .int 0, .ref (a + 5), .ref (a + 6), .ref (a + 7), .ref (a + 8), .null, .null, .int 0, .null, .null, .null, .null, .null, .int 0, .int 0, .int 0, .int 0, .int 0, .int 0, .null, .long 0, .long 0, .long 0]) :: [.inl (V.2.2.2.1 0, 10, .inl (up (up (up (up (up (up (up (up (up (up (fun _ => 0) 0 1) 1 4) 2 15) 3 1) 4 1) 5 1) 6 1) 7 12) 8 1) 9 1)), .inl (V.2.2.2.1 0, 20, .inl (fun _ => 0)), .inl (V.2.2.2.1 0, 20, .inl (fun _ => 0)), .inl (V.2.2.2.1 0, 200, .inl (fun _ => 0)), .inl (V.2.2.2.1 0, 40, .inl (fun _ => 0)), .inl (V.2.2.2.1 0, 40, .inl (fun _ => 0)), .inl (V.2.2.2.1 0, 40, .inl (fun _ => 0)), .inl (V.2.2.2.1 0, 40, .inl (fun _ => 0)), .inl (V.2.2.2.1 0, 40, .inl (fun _ => 0))])) _
  refine i_put (k9 := 11) ha d_Mo_init_120 (fw_Mo_34 rfl rfl) (Nat.le_of_ble_eq_true rfl) (by rfl) (by rfl) ?_
  show rx_W _ _ _ _ _ _ _ _ (h0 ++ (.inr (8, [.ref (a + 1), .int 0, .int 0, .ref (a + 2), .ref (a + 3), .ref (a + 4), .int 0, .ref (a + 5), .ref (a + 6), .ref (a + 7), .ref (a + 8), .ref (a + 9), .null, .int 0, .null, .null, .null, .null, .null, .int 0, .int 0, .int 0, .int 0, .int 0, .int 0, .null, .long 0, .long 0, .long 0]) :: [.inl (V.2.2.2.1 0, 10, .inl (up (up (up (up (up (up (up (up (up (up (fun _ => 0) 0 1) 1 4) 2 15) 3 1) 4 1) 5 1) 6 1) 7 12) 8 1) 9 1)), .inl (V.2.2.2.1 0, 20, .inl (fun _ => 0)), .inl (V.2.2.2.1 0, 20, .inl (fun _ => 0)), .inl (V.2.2.2.1 0, 200, .inl (fun _ => 0)), .inl (V.2.2.2.1 0, 40, .inl (fun _ => 0)), .inl (V.2.2.2.1 0, 40, .inl (fun _ => 0)), .inl (V.2.2.2.1 0, 40, .inl (fun _ => 0)), .inl (V.2.2.2.1 0, 40, .inl (fun _ => 0)), .inl (V.2.2.2.1 0, 40, .inl (fun _ => 0))])) _
  refine rx_aload_nr d_Mo_init_123 (by rfl) ?_
  refine rx_bipush (v := 40) d_Mo_init_124 (by decide) ?_
  refine i_new (k9 := 10) (N := 40) (ty := .boolean) (t0 := 2) (a0 := (40, .inl (fun _ => 0))) ha (by rfl) d_Mo_init_126 (by rfl) (by rfl) (rx_in 883 (by decide +kernel) (by decide +kernel)) (fun _ _ z => z) (fun _ => by rfl) (by decide) (by decide) (by decide) ?_
  show rx_W _ _ _ _ _ _ _ _ (h0 ++ (.inr (8, [.ref (a + 1), .int 0, .int 0, .ref (a + 2), .ref (a + 3), .ref (a + 4), .int 0, .ref (a + 5), .ref (a + 6), .ref (a + 7), .ref (a + 8), .ref (a + 9), .null, .int 0, .null, .null, .null, .null, .null, .int 0, .int 0, .int 0, .int 0, .int 0, .int 0, .null, .long 0, .long 0, .long 0]) :: [.inl (V.2.2.2.1 0, 10, .inl (up (up (up (up (up (up (up (up (up (up (fun _ => 0) 0 1) 1 4) 2 15) 3 1) 4 1) 5 1) 6 1) 7 12) 8 1) 9 1)), .inl (V.2.2.2.1 0, 20, .inl (fun _ => 0)), .inl (V.2.2.2.1 0, 20, .inl (fun _ => 0)), .inl (V.2.2.2.1 0, 200, .inl (fun _ => 0)), .inl (V.2.2.2.1 0, 40, .inl (fun _ => 0)), .inl (V.2.2.2.1 0, 40, .inl (fun _ => 0)), .inl (V.2.2.2.1 0, 40, .inl (fun _ => 0)), .inl (V.2.2.2.1 0, 40, .inl (fun _ => 0)), .inl (V.2.2.2.1 0, 40, .inl (fun _ => 0)), .inl (V.2.2.2.1 2, 40, .inl (fun _ => 0))])) _
  refine i_put (k9 := 12) ha d_Mo_init_128 (fw_Mo_37 rfl rfl) (Nat.le_of_ble_eq_true rfl) (by rfl) (by rfl) ?_
  show rx_W _ _ _ _ _ _ _ _ (h0 ++ (.inr (8, [.ref (a + 1), .int 0, .int 0, .ref (a + 2), .ref (a + 3), .ref (a + 4), .int 0, .ref (a + 5), .ref (a + 6), .ref (a + 7), .ref (a + 8), .ref (a + 9), .ref (a + 10), .int 0, .null, .null, .null, .null, .null, .int 0, .int 0, .int 0, .int 0, .int 0, .int 0, .null, .long 0, .long 0, .long 0]) :: [.inl (V.2.2.2.1 0, 10, .inl (up (up (up (up (up (up (up (up (up (up (fun _ => 0) 0 1) 1 4) 2 15) 3 1) 4 1) 5 1) 6 1) 7 12) 8 1) 9 1)), .inl (V.2.2.2.1 0, 20, .inl (fun _ => 0)), .inl (V.2.2.2.1 0, 20, .inl (fun _ => 0)), .inl (V.2.2.2.1 0, 200, .inl (fun _ => 0)), .inl (V.2.2.2.1 0, 40, .inl (fun _ => 0)), .inl (V.2.2.2.1 0, 40, .inl (fun _ => 0)), .inl (V.2.2.2.1 0, 40, .inl (fun _ => 0)), .inl (V.2.2.2.1 0, 40, .inl (fun _ => 0)), .inl (V.2.2.2.1 0, 40, .inl (fun _ => 0)), .inl (V.2.2.2.1 2, 40, .inl (fun _ => 0))])) _
  refine rx_aload_nr d_Mo_init_131 (by rfl) ?_
  refine rx_bipush (v := 20) d_Mo_init_132 (by decide) ?_
  refine i_new (k9 := 11) (N := 20) (ty := .int) (t0 := 0) (a0 := (20, .inl (fun _ => 0))) ha (by rfl) d_Mo_init_134 (by rfl) (by rfl) (rx_in 53 (by decide +kernel) (by decide +kernel)) (fun _ _ z => z) (fun _ => by rfl) (by decide) (by decide) (by decide) ?_
  show rx_W _ _ _ _ _ _ _ _ (h0 ++ (.inr (8, [.ref (a + 1), .int 0, .int 0, .ref (a + 2), .ref (a + 3), .ref (a + 4), .int 0, .ref (a + 5), .ref (a + 6), .ref (a + 7), .ref (a + 8), .ref (a + 9), .ref (a + 10), .int 0, .null, .null, .null, .null, .null, .int 0, .int 0, .int 0, .int 0, .int 0, .int 0, .null, .long 0, .long 0, .long 0]) :: [.inl (V.2.2.2.1 0, 10, .inl (up (up (up (up (up (up (up (up (up (up (fun _ => 0) 0 1) 1 4) 2 15) 3 1) 4 1) 5 1) 6 1) 7 12) 8 1) 9 1)), .inl (V.2.2.2.1 0, 20, .inl (fun _ => 0)), .inl (V.2.2.2.1 0, 20, .inl (fun _ => 0)), .inl (V.2.2.2.1 0, 200, .inl (fun _ => 0)), .inl (V.2.2.2.1 0, 40, .inl (fun _ => 0)), .inl (V.2.2.2.1 0, 40, .inl (fun _ => 0)), .inl (V.2.2.2.1 0, 40, .inl (fun _ => 0)), .inl (V.2.2.2.1 0, 40, .inl (fun _ => 0)), .inl (V.2.2.2.1 0, 40, .inl (fun _ => 0)), .inl (V.2.2.2.1 2, 40, .inl (fun _ => 0)), .inl (V.2.2.2.1 0, 20, .inl (fun _ => 0))])) _
  refine i_put (k9 := 14) ha d_Mo_init_136 (fw_Mo_41 rfl rfl) (Nat.le_of_ble_eq_true rfl) (by rfl) (by rfl) ?_
  show rx_W _ _ _ _ _ _ _ _ (h0 ++ (.inr (8, [.ref (a + 1), .int 0, .int 0, .ref (a + 2), .ref (a + 3), .ref (a + 4), .int 0, .ref (a + 5), .ref (a + 6), .ref (a + 7), .ref (a + 8), .ref (a + 9), .ref (a + 10), .int 0, .ref (a + 11), .null, .null, .null, .null, .int 0, .int 0, .int 0, .int 0, .int 0, .int 0, .null, .long 0, .long 0, .long 0]) :: [.inl (V.2.2.2.1 0, 10, .inl (up (up (up (up (up (up (up (up (up (up (fun _ => 0) 0 1) 1 4) 2 15) 3 1) 4 1) 5 1) 6 1) 7 12) 8 1) 9 1)), .inl (V.2.2.2.1 0, 20, .inl (fun _ => 0)), .inl (V.2.2.2.1 0, 20, .inl (fun _ => 0)), .inl (V.2.2.2.1 0, 200, .inl (fun _ => 0)), .inl (V.2.2.2.1 0, 40, .inl (fun _ => 0)), .inl (V.2.2.2.1 0, 40, .inl (fun _ => 0)), .inl (V.2.2.2.1 0, 40, .inl (fun _ => 0)), .inl (V.2.2.2.1 0, 40, .inl (fun _ => 0)), .inl (V.2.2.2.1 0, 40, .inl (fun _ => 0)), .inl (V.2.2.2.1 2, 40, .inl (fun _ => 0)), .inl (V.2.2.2.1 0, 20, .inl (fun _ => 0))])) _
  refine rx_aload_nr d_Mo_init_139 (by rfl) ?_
  refine rx_bipush (v := 20) d_Mo_init_140 (by decide) ?_
  refine i_new (k9 := 12) (N := 20) (ty := .int) (t0 := 0) (a0 := (20, .inl (fun _ => 0))) ha (by rfl) d_Mo_init_142 (by rfl) (by rfl) (rx_in 53 (by decide +kernel) (by decide +kernel)) (fun _ _ z => z) (fun _ => by rfl) (by decide) (by decide) (by decide) ?_
  show rx_W _ _ _ _ _ _ _ _ (h0 ++ (.inr (8, [.ref (a + 1), .int 0, .int 0, .ref (a + 2), .ref (a + 3), .ref (a + 4), .int 0, .ref (a + 5), .ref (a + 6), .ref (a + 7), .ref (a + 8), .ref (a + 9), .ref (a + 10), .int 0, .ref (a + 11), .null, .null, .null, .null, .int 0, .int 0, .int 0, .int 0, .int 0, .int 0, .null, .long 0, .long 0, .long 0]) :: [.inl (V.2.2.2.1 0, 10, .inl (up (up (up (up (up (up (up (up (up (up (fun _ => 0) 0 1) 1 4) 2 15) 3 1) 4 1) 5 1) 6 1) 7 12) 8 1) 9 1)), .inl (V.2.2.2.1 0, 20, .inl (fun _ => 0)), .inl (V.2.2.2.1 0, 20, .inl (fun _ => 0)), .inl (V.2.2.2.1 0, 200, .inl (fun _ => 0)), .inl (V.2.2.2.1 0, 40, .inl (fun _ => 0)), .inl (V.2.2.2.1 0, 40, .inl (fun _ => 0)), .inl (V.2.2.2.1 0, 40, .inl (fun _ => 0)), .inl (V.2.2.2.1 0, 40, .inl (fun _ => 0)), .inl (V.2.2.2.1 0, 40, .inl (fun _ => 0)), .inl (V.2.2.2.1 2, 40, .inl (fun _ => 0)), .inl (V.2.2.2.1 0, 20, .inl (fun _ => 0)), .inl (V.2.2.2.1 0, 20, .inl (fun _ => 0))])) _
  refine i_put (k9 := 15) ha d_Mo_init_144 (fw_Mo_44 rfl rfl) (Nat.le_of_ble_eq_true rfl) (by rfl) (by rfl) ?_
  show rx_W _ _ _ _ _ _ _ _ (h0 ++ (.inr (8, [.ref (a + 1), .int 0, .int 0, .ref (a + 2), .ref (a + 3), .ref (a + 4), .int 0, .ref (a + 5), .ref (a + 6), .ref (a + 7), .ref (a + 8), .ref (a + 9), .ref (a + 10), .int 0, .ref (a + 11), .ref (a + 12), .null, .null, .null, .int 0, .int 0, .int 0, .int 0, .int 0, .int 0, .null, .long 0, .long 0, .long 0]) :: [.inl (V.2.2.2.1 0, 10, .inl (up (up (up (up (up (up (up (up (up (up (fun _ => 0) 0 1) 1 4) 2 15) 3 1) 4 1) 5 1) 6 1) 7 12) 8 1) 9 1)), .inl (V.2.2.2.1 0, 20, .inl (fun _ => 0)), .inl (V.2.2.2.1 0, 20, .inl (fun _ => 0)), .inl (V.2.2.2.1 0, 200, .inl (fun _ => 0)), .inl (V.2.2.2.1 0, 40, .inl (fun _ => 0)), .inl (V.2.2.2.1 0, 40, .inl (fun _ => 0)), .inl (V.2.2.2.1 0, 40, .inl (fun _ => 0)), .inl (V.2.2.2.1 0, 40, .inl (fun _ => 0)), .inl (V.2.2.2.1 0, 40, .inl (fun _ => 0)), .inl (V.2.2.2.1 2, 40, .inl (fun _ => 0)), .inl (V.2.2.2.1 0, 20, .inl (fun _ => 0)), .inl (V.2.2.2.1 0, 20, .inl (fun _ => 0))])) _
  refine rx_aload_nr d_Mo_init_147 (by rfl) ?_
  refine rx_bipush (v := 20) d_Mo_init_148 (by decide) ?_
  refine i_new (k9 := 13) (N := 20) (ty := .int) (t0 := 0) (a0 := (20, .inl (fun _ => 0))) ha (by rfl) d_Mo_init_150 (by rfl) (by rfl) (rx_in 53 (by decide +kernel) (by decide +kernel)) (fun _ _ z => z) (fun _ => by rfl) (by decide) (by decide) (by decide) ?_
  show rx_W _ _ _ _ _ _ _ _ (h0 ++ (.inr (8, [.ref (a + 1), .int 0, .int 0, .ref (a + 2), .ref (a + 3), .ref (a + 4), .int 0, .ref (a + 5), .ref (a + 6), .ref (a + 7), .ref (a + 8), .ref (a + 9), .ref (a + 10), .int 0, .ref (a + 11), .ref (a + 12), .null, .null, .null, .int 0, .int 0, .int 0, .int 0, .int 0, .int 0, .null, .long 0, .long 0, .long 0]) :: [.inl (V.2.2.2.1 0, 10, .inl (up (up (up (up (up (up (up (up (up (up (fun _ => 0) 0 1) 1 4) 2 15) 3 1) 4 1) 5 1) 6 1) 7 12) 8 1) 9 1)), .inl (V.2.2.2.1 0, 20, .inl (fun _ => 0)), .inl (V.2.2.2.1 0, 20, .inl (fun _ => 0)), .inl (V.2.2.2.1 0, 200, .inl (fun _ => 0)), .inl (V.2.2.2.1 0, 40, .inl (fun _ => 0)), .inl (V.2.2.2.1 0, 40, .inl (fun _ => 0)), .inl (V.2.2.2.1 0, 40, .inl (fun _ => 0)), .inl (V.2.2.2.1 0, 40, .inl (fun _ => 0)), .inl (V.2.2.2.1 0, 40, .inl (fun _ => 0)), .inl (V.2.2.2.1 2, 40, .inl (fun _ => 0)), .inl (V.2.2.2.1 0, 20, .inl (fun _ => 0)), .inl (V.2.2.2.1 0, 20, .inl (fun _ => 0)), .inl (V.2.2.2.1 0, 20, .inl (fun _ => 0))])) _
  refine i_put (k9 := 16) ha d_Mo_init_152 (fw_Mo_47 rfl rfl) (Nat.le_of_ble_eq_true rfl) (by rfl) (by rfl) ?_
  show rx_W _ _ _ _ _ _ _ _ (h0 ++ (.inr (8, [.ref (a + 1), .int 0, .int 0, .ref (a + 2), .ref (a + 3), .ref (a + 4), .int 0, .ref (a + 5), .ref (a + 6), .ref (a + 7), .ref (a + 8), .ref (a + 9), .ref (a + 10), .int 0, .ref (a + 11), .ref (a + 12), .ref (a + 13), .null, .null, .int 0, .int 0, .int 0, .int 0, .int 0, .int 0, .null, .long 0, .long 0, .long 0]) :: [.inl (V.2.2.2.1 0, 10, .inl (up (up (up (up (up (up (up (up (up (up (fun _ => 0) 0 1) 1 4) 2 15) 3 1) 4 1) 5 1) 6 1) 7 12) 8 1) 9 1)), .inl (V.2.2.2.1 0, 20, .inl (fun _ => 0)), .inl (V.2.2.2.1 0, 20, .inl (fun _ => 0)), .inl (V.2.2.2.1 0, 200, .inl (fun _ => 0)), .inl (V.2.2.2.1 0, 40, .inl (fun _ => 0)), .inl (V.2.2.2.1 0, 40, .inl (fun _ => 0)), .inl (V.2.2.2.1 0, 40, .inl (fun _ => 0)), .inl (V.2.2.2.1 0, 40, .inl (fun _ => 0)), .inl (V.2.2.2.1 0, 40, .inl (fun _ => 0)), .inl (V.2.2.2.1 2, 40, .inl (fun _ => 0)), .inl (V.2.2.2.1 0, 20, .inl (fun _ => 0)), .inl (V.2.2.2.1 0, 20, .inl (fun _ => 0)), .inl (V.2.2.2.1 0, 20, .inl (fun _ => 0))])) _
  refine rx_aload_nr d_Mo_init_155 (by rfl) ?_
  refine rx_bipush (v := 20) d_Mo_init_156 (by decide) ?_
  refine i_new (k9 := 14) (N := 20) (ty := .int) (t0 := 0) (a0 := (20, .inl (fun _ => 0))) ha (by rfl) d_Mo_init_158 (by rfl) (by rfl) (rx_in 53 (by decide +kernel) (by decide +kernel)) (fun _ _ z => z) (fun _ => by rfl) (by decide) (by decide) (by decide) ?_
  show rx_W _ _ _ _ _ _ _ _ (h0 ++ (.inr (8, [.ref (a + 1), .int 0, .int 0, .ref (a + 2), .ref (a + 3), .ref (a + 4), .int 0, .ref (a + 5), .ref (a + 6), .ref (a + 7), .ref (a + 8), .ref (a + 9), .ref (a + 10), .int 0, .ref (a + 11), .ref (a + 12), .ref (a + 13), .null, .null, .int 0, .int 0, .int 0, .int 0, .int 0, .int 0, .null, .long 0, .long 0, .long 0]) :: [.inl (V.2.2.2.1 0, 10, .inl (up (up (up (up (up (up (up (up (up (up (fun _ => 0) 0 1) 1 4) 2 15) 3 1) 4 1) 5 1) 6 1) 7 12) 8 1) 9 1)), .inl (V.2.2.2.1 0, 20, .inl (fun _ => 0)), .inl (V.2.2.2.1 0, 20, .inl (fun _ => 0)), .inl (V.2.2.2.1 0, 200, .inl (fun _ => 0)), .inl (V.2.2.2.1 0, 40, .inl (fun _ => 0)), .inl (V.2.2.2.1 0, 40, .inl (fun _ => 0)), .inl (V.2.2.2.1 0, 40, .inl (fun _ => 0)), .inl (V.2.2.2.1 0, 40, .inl (fun _ => 0)), .inl (V.2.2.2.1 0, 40, .inl (fun _ => 0)), .inl (V.2.2.2.1 2, 40, .inl (fun _ => 0)), .inl (V.2.2.2.1 0, 20, .inl (fun _ => 0)), .inl (V.2.2.2.1 0, 20, .inl (fun _ => 0)), .inl (V.2.2.2.1 0, 20, .inl (fun _ => 0)), .inl (V.2.2.2.1 0, 20, .inl (fun _ => 0))])) _
  refine i_put (k9 := 17) ha d_Mo_init_160 (fw_Mo_50 rfl rfl) (Nat.le_of_ble_eq_true rfl) (by rfl) (by rfl) ?_
  show rx_W _ _ _ _ _ _ _ _ (h0 ++ (.inr (8, [.ref (a + 1), .int 0, .int 0, .ref (a + 2), .ref (a + 3), .ref (a + 4), .int 0, .ref (a + 5), .ref (a + 6), .ref (a + 7), .ref (a + 8), .ref (a + 9), .ref (a + 10), .int 0, .ref (a + 11), .ref (a + 12), .ref (a + 13), .ref (a + 14), .null, .int 0, .int 0, .int 0, .int 0, .int 0, .int 0, .null, .long 0, .long 0, .long 0]) :: [.inl (V.2.2.2.1 0, 10, .inl (up (up (up (up (up (up (up (up (up (up (fun _ => 0) 0 1) 1 4) 2 15) 3 1) 4 1) 5 1) 6 1) 7 12) 8 1) 9 1)), .inl (V.2.2.2.1 0, 20, .inl (fun _ => 0)), .inl (V.2.2.2.1 0, 20, .inl (fun _ => 0)), .inl (V.2.2.2.1 0, 200, .inl (fun _ => 0)), .inl (V.2.2.2.1 0, 40, .inl (fun _ => 0)), .inl (V.2.2.2.1 0, 40, .inl (fun _ => 0)), .inl (V.2.2.2.1 0, 40, .inl (fun _ => 0)), .inl (V.2.2.2.1 0, 40, .inl (fun _ => 0)), .inl (V.2.2.2.1 0, 40, .inl (fun _ => 0)), .inl (V.2.2.2.1 2, 40, .inl (fun _ => 0)), .inl (V.2.2.2.1 0, 20, .inl (fun _ => 0)), .inl (V.2.2.2.1 0, 20, .inl (fun _ => 0)), .inl (V.2.2.2.1 0, 20, .inl (fun _ => 0)), .inl (V.2.2.2.1 0, 20, .inl (fun _ => 0))])) _
  refine rx_aload_nr d_Mo_init_163 (by rfl) ?_
  refine rx_bipush (v := 20) d_Mo_init_164 (by decide) ?_
  refine i_new (k9 := 15) (N := 20) (ty := .int) (t0 := 0) (a0 := (20, .inl (fun _ => 0))) ha (by rfl) d_Mo_init_166 (by rfl) (by rfl) (rx_in 53 (by decide +kernel) (by decide +kernel)) (fun _ _ z => z) (fun _ => by rfl) (by decide) (by decide) (by decide) ?_
  show rx_W _ _ _ _ _ _ _ _ (h0 ++ (.inr (8, [.ref (a + 1), .int 0, .int 0, .ref (a + 2), .ref (a + 3), .ref (a + 4), .int 0, .ref (a + 5), .ref (a + 6), .ref (a + 7), .ref (a + 8), .ref (a + 9), .ref (a + 10), .int 0, .ref (a + 11), .ref (a + 12), .ref (a + 13), .ref (a + 14), .null, .int 0, .int 0, .int 0, .int 0, .int 0, .int 0, .null, .long 0, .long 0, .long 0]) :: [.inl (V.2.2.2.1 0, 10, .inl (up (up (up (up (up (up (up (up (up (up (fun _ => 0) 0 1) 1 4) 2 15) 3 1) 4 1) 5 1) 6 1) 7 12) 8 1) 9 1)), .inl (V.2.2.2.1 0, 20, .inl (fun _ => 0)), .inl (V.2.2.2.1 0, 20, .inl (fun _ => 0)), .inl (V.2.2.2.1 0, 200, .inl (fun _ => 0)), .inl (V.2.2.2.1 0, 40, .inl (fun _ => 0)), .inl (V.2.2.2.1 0, 40, .inl (fun _ => 0)), .inl (V.2.2.2.1 0, 40, .inl (fun _ => 0)), .inl (V.2.2.2.1 0, 40, .inl (fun _ => 0)), .inl (V.2.2.2.1 0, 40, .inl (fun _ => 0)), .inl (V.2.2.2.1 2, 40, .inl (fun _ => 0)), .inl (V.2.2.2.1 0, 20, .inl (fun _ => 0)), .inl (V.2.2.2.1 0, 20, .inl (fun _ => 0)), .inl (V.2.2.2.1 0, 20, .inl (fun _ => 0)), .inl (V.2.2.2.1 0, 20, .inl (fun _ => 0)), .inl (V.2.2.2.1 0, 20, .inl (fun _ => 0))])) _
  refine i_put (k9 := 18) ha d_Mo_init_168 (fw_Mo_53 rfl rfl) (Nat.le_of_ble_eq_true rfl) (by rfl) (by rfl) ?_
  show rx_W _ _ _ _ _ _ _ _ (h0 ++ (.inr (8, [.ref (a + 1), .int 0, .int 0, .ref (a + 2), .ref (a + 3), .ref (a + 4), .int 0, .ref (a + 5), .ref (a + 6), .ref (a + 7), .ref (a + 8), .ref (a + 9), .ref (a + 10), .int 0, .ref (a + 11), .ref (a + 12), .ref (a + 13), .ref (a + 14), .ref (a + 15), .int 0, .int 0, .int 0, .int 0, .int 0, .int 0, .null, .long 0, .long 0, .long 0]) :: [.inl (V.2.2.2.1 0, 10, .inl (up (up (up (up (up (up (up (up (up (up (fun _ => 0) 0 1) 1 4) 2 15) 3 1) 4 1) 5 1) 6 1) 7 12) 8 1) 9 1)), .inl (V.2.2.2.1 0, 20, .inl (fun _ => 0)), .inl (V.2.2.2.1 0, 20, .inl (fun _ => 0)), .inl (V.2.2.2.1 0, 200, .inl (fun _ => 0)), .inl (V.2.2.2.1 0, 40, .inl (fun _ => 0)), .inl (V.2.2.2.1 0, 40, .inl (fun _ => 0)), .inl (V.2.2.2.1 0, 40, .inl (fun _ => 0)), .inl (V.2.2.2.1 0, 40, .inl (fun _ => 0)), .inl (V.2.2.2.1 0, 40, .inl (fun _ => 0)), .inl (V.2.2.2.1 2, 40, .inl (fun _ => 0)), .inl (V.2.2.2.1 0, 20, .inl (fun _ => 0)), .inl (V.2.2.2.1 0, 20, .inl (fun _ => 0)), .inl (V.2.2.2.1 0, 20, .inl (fun _ => 0)), .inl (V.2.2.2.1 0, 20, .inl (fun _ => 0)), .inl (V.2.2.2.1 0, 20, .inl (fun _ => 0))])) _
  refine rx_aload_nr d_Mo_init_171 (by rfl) ?_
  refine rx_sipush (v := 400) d_Mo_init_172 (by decide) ?_
  refine i_new (k9 := 16) (N := 400) (ty := .int) (t0 := 0) (a0 := (400, .inl (fun _ => 0))) ha (by rfl) d_Mo_init_175 (by rfl) (by rfl) (rx_in 53 (by decide +kernel) (by decide +kernel)) (fun _ _ z => z) (fun _ => by rfl) (by decide) (by decide) (by decide) ?_
  show rx_W _ _ _ _ _ _ _ _ (h0 ++ (.inr (8, [.ref (a + 1), .int 0, .int 0, .ref (a + 2), .ref (a + 3), .ref (a + 4), .int 0, .ref (a + 5), .ref (a + 6), .ref (a + 7), .ref (a + 8), .ref (a + 9), .ref (a + 10), .int 0, .ref (a + 11), .ref (a + 12), .ref (a + 13), .ref (a + 14), .ref (a + 15), .int 0, .int 0, .int 0, .int 0, .int 0, .int 0, .null, .long 0, .long 0, .long 0]) :: [.inl (V.2.2.2.1 0, 10, .inl (up (up (up (up (up (up (up (up (up (up (fun _ => 0) 0 1) 1 4) 2 15) 3 1) 4 1) 5 1) 6 1) 7 12) 8 1) 9 1)), .inl (V.2.2.2.1 0, 20, .inl (fun _ => 0)), .inl (V.2.2.2.1 0, 20, .inl (fun _ => 0)), .inl (V.2.2.2.1 0, 200, .inl (fun _ => 0)), .inl (V.2.2.2.1 0, 40, .inl (fun _ => 0)), .inl (V.2.2.2.1 0, 40, .inl (fun _ => 0)), .inl (V.2.2.2.1 0, 40, .inl (fun _ => 0)), .inl (V.2.2.2.1 0, 40, .inl (fun _ => 0)), .inl (V.2.2.2.1 0, 40, .inl (fun _ => 0)), .inl (V.2.2.2.1 2, 40, .inl (fun _ => 0)), .inl (V.2.2.2.1 0, 20, .inl (fun _ => 0)), .inl (V.2.2.2.1 0, 20, .inl (fun _ => 0)), .inl (V.2.2.2.1 0, 20, .inl (fun _ => 0)), .inl (V.2.2.2.1 0, 20, .inl (fun _ => 0)), .inl (V.2.2.2.1 0, 20, .inl (fun _ => 0)), .inl (V.2.2.2.1 0, 400, .inl (fun _ => 0))])) _
  refine i_put (k9 := 25) ha d_Mo_init_177 (fw_Mo_56 rfl rfl) (Nat.le_of_ble_eq_true rfl) (by rfl) (by rfl) ?_
  show rx_W _ _ _ _ _ _ _ _ (h0 ++ (.inr (8, [.ref (a + 1), .int 0, .int 0, .ref (a + 2), .ref (a + 3), .ref (a + 4), .int 0, .ref (a + 5), .ref (a + 6), .ref (a + 7), .ref (a + 8), .ref (a + 9), .ref (a + 10), .int 0, .ref (a + 11), .ref (a + 12), .ref (a + 13), .ref (a + 14), .ref (a + 15), .int 0, .int 0, .int 0, .int 0, .int 0, .int 0, .ref (a + 16), .long 0, .long 0, .long 0]) :: [.inl (V.2.2.2.1 0, 10, .inl (up (up (up (up (up (up (up (up (up (up (fun _ => 0) 0 1) 1 4) 2 15) 3 1) 4 1) 5 1) 6 1) 7 12) 8 1) 9 1)), .inl (V.2.2.2.1 0, 20, .inl (fun _ => 0)), .inl (V.2.2.2.1 0, 20, .inl (fun _ => 0)), .inl (V.2.2.2.1 0, 200, .inl (fun _ => 0)), .inl (V.2.2.2.1 0, 40, .inl (fun _ => 0)), .inl (V.2.2.2.1 0, 40, .inl (fun _ => 0)), .inl (V.2.2.2.1 0, 40, .inl (fun _ => 0)), .inl (V.2.2.2.1 0, 40, .inl (fun _ => 0)), .inl (V.2.2.2.1 0, 40, .inl (fun _ => 0)), .inl (V.2.2.2.1 2, 40, .inl (fun _ => 0)), .inl (V.2.2.2.1 0, 20, .inl (fun _ => 0)), .inl (V.2.2.2.1 0, 20, .inl (fun _ => 0)), .inl (V.2.2.2.1 0, 20, .inl (fun _ => 0)), .inl (V.2.2.2.1 0, 20, .inl (fun _ => 0)), .inl (V.2.2.2.1 0, 20, .inl (fun _ => 0)), .inl (V.2.2.2.1 0, 400, .inl (fun _ => 0))])) _
  rw [e9]
  exact K
theorem l_moFill {x : Int32} (ha : a = V.2.1 + h0.length) : ∀ (m i : Nat) (S : mT), i + m = 20 → (∀ b, b < i → S.2.2 2 b = 16 ∧ S.2.2 3 b = 10) → rx_W V (d + 1) 0 0 m_Mo_init 203 [some (.ref a), some (.int x), some (.int (nI i))] [] (mw V h0 a S []) (fun r9 h' => r9 = .inl none ∧ ∃ S', h' = mw V h0 a S' [] ∧ S'.1 = S.1 ∧ (∀ b, b < 20 → S'.2.2 2 b = 16 ∧ S'.2.2 3 b = 10) ∧ ∀ j, j ≠ 2 → j ≠ 3 → S'.2.2 j = S.2.2 j) := by
  intro m
  induction m with
  | zero =>
    intro i S hi hb9
    have e : i = 20 := by omega
    subst e
    refine rx_iload_n d_Mo_init_203 (by rfl) ?_
    refine rx_bipush (v := 20) d_Mo_init_204 (by decide) ?_
    refine rx_icmp_ge (tgt := 231) d_Mo_init_206 (by rfl) (fun c206 => ?_) (fun z => absurd (show (20 : Int32) ≤ nI 20 by decide) z)
    refine rx_vreturn d_Mo_init_231 (by rfl) ?_
    exact ⟨rfl, S, rfl, rfl, hb9, fun _ _ _ => rfl⟩
  | succ m ih =>
    intro i S hi hb9
    refine rx_iload_n d_Mo_init_203 (by rfl) ?_
    refine rx_bipush (v := 20) d_Mo_init_204 (by decide) ?_
    refine rx_icmp_ge (tgt := 231) d_Mo_init_206 (by rfl) (fun z => absurd z (show ¬ (20 : Int32) ≤ nI i by rw [i_le, i_n (by omega), show (20 : Int32).toInt = 20 from by decide]; omega)) (fun c206 => ?_)
    refine rx_aload_nr d_Mo_init_209 (by rfl) ?_
    refine rx_getfield d_Mo_init_210 fl_Mo_13 (mr0 ha) (by rfl) ?_
    refine rx_iload_n d_Mo_init_213 (by rfl) ?_
    refine rx_bipush (v := 16) d_Mo_init_214 (by decide) ?_
    refine m_ias (j := 2) ha d_Mo_init_216 (by rfl) (by omega) (by decide) (by rfl) (by decide) ?_
    refine rx_aload_nr d_Mo_init_217 (by rfl) ?_
    refine rx_getfield d_Mo_init_218 fl_Mo_16 (mr0 ha) (by rfl) ?_
    refine rx_iload_n d_Mo_init_221 (by rfl) ?_
    refine rx_bipush (v := 10) d_Mo_init_222 (by decide) ?_
    refine m_ias (j := 3) ha d_Mo_init_224 (by rfl) (by omega) (by decide) (by rfl) (by decide) ?_
    refine rx_iinc (v := nI (i + 1)) d_Mo_init_225 (by rfl) (i_inc i) ?_
    refine rx_goto (tgt := 203) d_Mo_init_228 (by rfl) ?_
    refine rx_cons (ih (i + 1) _ (by omega) (fun b hb => ?_)) (fun r9 h9 z => ?_)
    · show up (S.2.2 2) i 16 b = 16 ∧ up (S.2.2 3) i 10 b = 10
      by_cases e : b = i
      · subst e; exact ⟨up_s, up_s⟩
      · rw [up_o e, up_o e]; exact hb9 b (by omega)
    · obtain ⟨z1, S', z2, z3, z4, z5⟩ := z
      exact ⟨z1, S', z2, z3, z4, fun j h2 h3 => (z5 j h2 h3).trans ((up_o h3).trans (up_o h2))⟩
theorem k_moInit (ha : a = V.2.1 + h0.length) (x : Int32) : rx_C V (d + 1) 16 990 m_Mo_init [.ref a, .int x] (h0 ++ [.inr (8, [.null, .int 0, .int 0, .null, .null, .null, .int 0, .null, .null, .null, .null, .null, .null, .int 0, .null, .null, .null, .null, .null, .int 0, .int 0, .int 0, .int 0, .int 0, .int 0, .null, .long 0, .long 0, .long 0])]) (fun r9 h' => r9 = .inl none ∧ ∃ S', h' = mw V h0 a S' [] ∧ S'.1 2 = nI (cnt x) ∧ S'.1 6 = 0 ∧ (∀ b, b < 20 → S'.2.2 2 b = 16 ∧ S'.2.2 3 b = 10) ∧ S'.2.2 4 = (fun _ => 0) ∧ S'.2.2 1 = mo0) := by
  refine l_moInit ha ?_
  have e201 : rx_W V (d + 1) 0 0 m_Mo_init 201 [some (.ref a), some (.int x), none] [] (mw V h0 a (sS mS0 2 (nI (cnt x))) []) (fun r9 h' => r9 = .inl none ∧ ∃ S', h' = mw V h0 a S' [] ∧ S'.1 2 = nI (cnt x) ∧ S'.1 6 = 0 ∧ (∀ b, b < 20 → S'.2.2 2 b = 16 ∧ S'.2.2 3 b = 10) ∧ S'.2.2 4 = (fun _ => 0) ∧ S'.2.2 1 = mo0) := by
    refine rx_iconst (v := 0) d_Mo_init_201 (by decide) ?_
    refine rx_istore_n d_Mo_init_202 (Nat.le_of_ble_eq_true rfl) ?_
    refine rx_cons (l_moFill ha 20 0 _ (by omega) (fun b hb => absurd hb (Nat.not_lt_zero _))) (fun r9 h9 z => ?_)
    obtain ⟨z1, S', z2, z3, z4, z5⟩ := z
    exact ⟨z1, S', z2, by rw [z3]; rfl, by rw [z3]; rfl, z4, by rw [z5 4 (by decide) (by decide)]; rfl, by rw [z5 1 (by decide) (by decide)]; rfl⟩
  refine rx_aload_nr d_Mo_init_180 (by rfl) ?_
  refine rx_iload_n d_Mo_init_181 (by rfl) ?_
  refine rx_iconst (v := 1) d_Mo_init_182 (by decide) ?_
  refine rx_icmp_lt (tgt := 192) d_Mo_init_183 (by rfl) (fun c183 => ?_) (fun c183 => ?_)
  · have c183 : cnt x = 12 := cnt_o (by rw [i_lt, show (1 : Int32).toInt = 1 from by decide] at c183; omega)
    rw [c183] at e201 ⊢
    refine rx_bipush (v := 12) d_Mo_init_192 (by decide) ?_
    refine rx_goto (tgt := 198) d_Mo_init_194 (by rfl) ?_
    refine m_putI (k9 := 2) ha d_Mo_init_198 (fw_Mo_59 rfl rfl) (by rfl) (by rfl) (by rfl) ?_
    exact e201
  · have c183 : 1 ≤ x.toInt := by rw [i_lt, show (1 : Int32).toInt = 1 from by decide] at c183; omega
    refine rx_iload_n d_Mo_init_186 (by rfl) ?_
    refine rx_bipush (v := 20) d_Mo_init_187 (by decide) ?_
    refine rx_icmp_le (tgt := 197) d_Mo_init_189 (by rfl) (fun c189 => ?_) (fun c189 => ?_)
    · have c189 : x.toInt ≤ 20 := by rw [i_le, show (20 : Int32).toInt = 20 from by decide] at c189; omega
      rw [cnt_i c183 c189] at e201 ⊢
      refine rx_iload_n d_Mo_init_197 (by rfl) ?_
      refine m_putI (k9 := 2) ha d_Mo_init_198 (fw_Mo_59 rfl rfl) (by rfl) (by rfl) (by rfl) ?_
      exact e201
    · have c189 : cnt x = 12 := cnt_o (by rw [i_le, show (20 : Int32).toInt = 20 from by decide] at c189; omega)
      rw [c189] at e201 ⊢
      refine rx_bipush (v := 12) d_Mo_init_192 (by decide) ?_
      refine rx_goto (tgt := 198) d_Mo_init_194 (by rfl) ?_
      refine m_putI (k9 := 2) ha d_Mo_init_198 (fw_Mo_59 rfl rfl) (by rfl) (by rfl) (by rfl) ?_
      exact e201
end MCO
