/-! rows of the heap, and the ends -/
section RXH
variable {V : rx_V} {d kc ks : Nat} {M : rx_T} {pc : Nat} {L : rx_L} {S : List Value} {h : List va_E} {Q : rx_R → List va_E → Prop}
theorem rx_G_set {R : Room} {s : State} {H H1 : Heap} {locs : List Loc} {cells slots q : Nat} {e0 e : va_E} (k : Nat) (G : rx_G V kc ks R s h H locs cells slots) (hq : h[q]? = some e0) (hat : va_at V.2.2.1 rx_cl (V.2.1 + q, e) H1) (z1 : H1.size = H.size) (oq : ∀ x : Nat, x ≠ V.2.1 + q → H1[x]? = H[x]?) :
    rx_G V kc ks R s (h.set q e) H1 (locs ++ [⟨V.2.1 + q, k⟩]) cells slots := by
  refine ⟨by rw [z1, G.1, List.length_set], ?_, G.2.2.1.put z1 oq (Nat.le_add_right _ _), G.2.2.2⟩
  rw [← rx_ws_set]
  exact G.2.1.set (rx_ws_D V.2.1 h) (rx_ws_of hq) hat oq
theorem rx_G_push {R : Room} {s : State} {H H1 : Heap} {locs : List Loc} {cells slots n : Nat} {e : va_E} (G : rx_G V (kc + 1) (ks + n) R s h H locs cells slots) (hat : va_at V.2.2.1 rx_cl (V.2.1 + h.length, e) H1) (z1 : H1.size = H.size + 1) (o1 : ∀ x : Nat, x < H.size → H1[x]? = H[x]?) :
    rx_G V kc ks R s (h ++ [e]) H1 locs (cells + 1) (slots + n) := by
  have hk : ∀ (k : Nat) (x : Nat × va_E), (rx_ws V.2.1 h)[k]? = some x → H1[x.1]? = H[x.1]? := fun k x hx => o1 x.1 ((G.2.1 k x hx).lt)
  obtain ⟨g1, g2, g3, g4, g5, g6, g7, g8⟩ := G
  refine ⟨by rw [z1, g1, List.length_append]; rfl, ?_, ⟨Nat.le_trans g3.1 (by omega), fun x h1 h2 => (o1 x (Nat.lt_of_lt_of_le h1 g3.1)).trans (g3.2.1 x h1 h2), g3.2.2⟩, g4, g5, g6, by omega, by omega⟩
  rw [← rx_ws_push]
  refine (g2.kept hk).app (fun k x hx => ?_)
  have hz : k < 1 := (List.getElem?_eq_some_iff.mp hx).1
  rw [show k = 0 by omega] at hx
  cases hx
  exact hat
/-- a field of the class with the number ci, its k-th, under the pool's index -/
def rx_fl (own : String) (index ci k : Nat) : Prop := ∃ (C : String) (T : u_T) (N : Nat), rx_cl[ci]? = some (C, T, N) ∧ k < N ∧ (∀ w ∈ u_ws C T N, w ∈ rx_tbl) ∧ Cond.fieldLink own index (T k).1 (T k).2.1 (T k).2.2.1 ∈ rx_tbl
/-- .. and it may be written: the types, the names apart; a final field by its class's constructor alone -/
def rx_fw (M : rx_T) (index ci k : Nat) (ty : FieldType) : Prop := ∃ (C : String) (T : u_T) (N : Nat) (ty0 : Nat → FieldType), rx_cl[ci]? = some (C, T, N) ∧ k < N ∧ (∀ w ∈ u_ws C T N, w ∈ rx_tbl) ∧ Cond.fieldLink M.1.cls index (T k).1 (T k).2.1 (T k).2.2.1 ∈ rx_tbl ∧
  (∀ j, j < N → parseFieldDescriptor (T j).2.2.1 = some (ty0 j)) ∧ (∀ a, a < N → ∀ b, b < N → a ≠ b → (T a).2.1 ≠ (T b).2.1) ∧ parseFieldDescriptor (T k).2.2.1 = some ty ∧ ((T k).2.2.2 = false ∨ ((T k).2.2.2 = true ∧ M.1.name = "<init>" ∧ (T k).1 = M.1.cls))
theorem rx_getfield {a ci index k : Nat} {fs : List Value} {v : Value} (hd : decode M.2.1 pc = .ok (.getfield index, 3)) (hF : rx_fl M.1.cls index ci k) (he : rx_rd V h a = some (.inr (ci, fs))) (hv : fs[k]? = some v)
    (kk : rx_W V d kc ks M (pc + 3) L (v :: S) h Q) : rx_W V d kc ks M pc L (.ref a :: S) h Q := by
  intro p e R s m args below meth c H locs cells slots ls F G hl
  obtain ⟨C, T, N, hc, hk, hin, hlk⟩ := hF
  obtain ⟨q, rfl, hq, -⟩ := rx_rd_at he
  exact va_get (D := V.2.2.1) F.1 F.2.1 F.2.2.2.2.2.2.1 hin F.2.2.2.2.2.1 G.2.2.2.1 G.2.1 q (rx_ws_of hq) hc k hk (F.2.2.2.2.2.2.1 _ hlk) (fun _ z => z) hv hd (kk p e R s m args below meth c H locs cells slots ls F G hl)
theorem rx_putfield {a ci index k : Nat} {fs : List Value} {v : Value} {ty : FieldType} (hd : decode M.2.1 pc = .ok (.putfield index, 3)) (hF : rx_fw M index ci k ty) (he : rx_rd V h a = some (.inr (ci, fs))) (hk' : k < fs.length) (hn : narrow ty v = v) (hfit : fits ty v = true)
    (kk : rx_W V d kc ks M (pc + 3) L S (rx_wr V h a (.inr (ci, fs.set k v))) Q) : rx_W V d kc ks M pc L (v :: .ref a :: S) h Q := by
  intro p e R s m args below meth c H locs cells slots ls F G hl
  obtain ⟨C, T, N, ty0, hc, hk, hin, hlk, hty, hnm, hpd, hfin⟩ := hF
  obtain ⟨q, rfl, hq, hqe⟩ := rx_rd_at he
  rw [rx_wr_in] at kk
  obtain ⟨r, h1, cell, q1, q2, q3, q4⟩ := G.2.1 q _ (rx_ws_of hq)
  have hr : r = (C, T, N) := Option.some.inj (h1.symm.trans hc)
  subst hr
  have hts := F.2.2.2.2.2.2.1
  have hown := F.2.2.2.2.2.1
  have hap := va_apart (own := M.1.cls) hts hin ty0 hty hnm G.2.2.2.1 hc
  obtain ⟨hS, hfc, kC, hkC, hkind⟩ := G.2.2.2.1.1 ci _ hc
  obtain ⟨cf, kf, fi, f, hi, hsl⟩ := hS k hk
  have hlay := hts _ (hin _ (u_in_lay hk))
  unfold u_lay at hlay
  have hst := (u_facts hfc hkC (u_lays hts hin hk) hi).1
  have hat : ∀ H' : Heap, H'[V.2.1 + q]? = some (cell.setSlot (V.2.2.1.2 ci k) v) → va_at V.2.2.1 rx_cl (V.2.1 + q, .inr (ci, fs.set k v)) H' := fun H' e1 =>
    ⟨_, hc, t_OB.to (V := updV (vp_V fs) k v) ⟨_, e1, q2, q3, t_set q4 hap hk v⟩ (fun j _ => vp_updV_set hk' v j)⟩
  rcases hfin with hfin | ⟨hfin, hin2, hdecl⟩
  · rw [if_neg (by rw [hfin]; decide)] at hlay
    have h6 := u_store hfc hkC hkind hlay hi hpd hn hfit
    refine W.putK F.1 F.2.1 (f := f) ⟨hown, hts _ hlk, ⟨_, _, _, hi⟩, hst⟩ (by rw [q2]; exact h6) q1 q3 (by rw [hsl]; exact k2_hasslot (q4 k hk)) rfl rfl hd fun H' e1 e2 e3 => ?_
    rw [hsl] at e1 ⊢
    exact kk p e R s m args below meth c H' _ cells slots ls F (rx_G_set _ G hq (hat H' e1) e2 e3) hl
  · rw [if_pos hfin] at hlay
    have hcf : m.cls = cf := by
      obtain ⟨_, _, c', _, _, _, -, -, hf', -, -, -, hown2, -⟩ := Cond.laysFinal_spec hlay
      have e1 : c' = cf := by have := hi.symm.trans hf'; simp at this; exact this.1.symm
      rw [hdecl] at hown2
      rw [← e1]; exact Option.some.inj (hown.symm.trans hown2)
    have h6 := u_fits hfc hkC hkind (Or.inr hlay) hi hpd hn hfit
    refine W.putFinK F.1 F.2.1 hown (hts _ hlk) hi hst hcf (F.2.2.2.2.2.2.2.1.trans hin2) (by rw [q2]; exact h6) q1 q3 (by rw [hsl]; exact k2_hasslot (q4 k hk)) rfl rfl hd fun H' e1 e2 e3 => ?_
    rw [hsl] at e1 ⊢
    exact kk p e R s m args below meth c H' _ cells slots ls F (rx_G_set _ G hq (hat H' e1) e2 e3) hl
/-! arrays -/
theorem rx_iaload {a n : Nat} {f : Nat → Int32} {i : Int32} (hd : decode M.2.1 pc = .ok (.iaload, 1)) (ht : rx_ats[0]? = some .int) (he : rx_rd V h a = some (.inl (V.2.2.2.1 0, n, .inl f))) (hin : vp_in i n)
    (kk : rx_W V d kc ks M (pc + 1) L (.int (f i.toNatClampNeg) :: S) h Q) : rx_W V d kc ks M pc L (.int i :: .ref a :: S) h Q := by
  intro p e R s m args below meth c H locs cells slots ls F G hl
  obtain ⟨q, rfl, hq, -⟩ := rx_rd_at he
  exact va_iald (D := V.2.2.1) F.1 F.2.1 G.2.2.2.1 G.2.1 q 0 (rx_ws_of hq) (rx_tys_of ht) hin hd (kk p e R s m args below meth c H locs cells slots ls F G hl)
theorem rx_laload {a n : Nat} {f : Nat → Int64} {i : Int32} (hd : decode M.2.1 pc = .ok (.laload, 1)) (ht : rx_ats[1]? = some .long) (he : rx_rd V h a = some (.inl (V.2.2.2.1 1, n, .inr (.inl f)))) (hin : vp_in i n)
    (kk : rx_W V d kc ks M (pc + 1) L (.long (f i.toNatClampNeg) :: S) h Q) : rx_W V d kc ks M pc L (.int i :: .ref a :: S) h Q := by
  intro p e R s m args below meth c H locs cells slots ls F G hl
  obtain ⟨q, rfl, hq, -⟩ := rx_rd_at he
  exact va_lald (D := V.2.2.1) F.1 F.2.1 G.2.2.2.1 G.2.1 q 1 (rx_ws_of hq) (rx_tys_of ht) hin hd (kk p e R s m args below meth c H locs cells slots ls F G hl)
theorem rx_zaload {a n : Nat} {f : Nat → Int32} {i : Int32} (hd : decode M.2.1 pc = .ok (.baload, 1)) (ht : rx_ats[2]? = some .boolean) (he : rx_rd V h a = some (.inl (V.2.2.2.1 2, n, .inl f))) (hin : vp_in i n)
    (kk : rx_W V d kc ks M (pc + 1) L (.int (f i.toNatClampNeg) :: S) h Q) : rx_W V d kc ks M pc L (.int i :: .ref a :: S) h Q := by
  intro p e R s m args below meth c H locs cells slots ls F G hl
  obtain ⟨q, rfl, hq, -⟩ := rx_rd_at he
  exact va_zald (D := V.2.2.1) F.1 F.2.1 G.2.2.2.1 G.2.1 q 2 (rx_ws_of hq) (rx_tys_of ht) hin hd (kk p e R s m args below meth c H locs cells slots ls F G hl)
theorem rx_aaload {a n t0 : Nat} {C : String} {f : Nat → Option Nat} {i : Int32} (hd : decode M.2.1 pc = .ok (.aaload, 1)) (ht : rx_ats[t0]? = some (.object C)) (he : rx_rd V h a = some (.inl (V.2.2.2.1 t0, n, .inr (.inr (.inr (.inr f)))))) (hin : vp_in i n)
    (kk : rx_W V d kc ks M (pc + 1) L (va_rf (f i.toNatClampNeg) :: S) h Q) : rx_W V d kc ks M pc L (.int i :: .ref a :: S) h Q := by
  intro p e R s m args below meth c H locs cells slots ls F G hl
  obtain ⟨q, rfl, hq, -⟩ := rx_rd_at he
  exact va_aldq (D := V.2.2.1) F.1 F.2.1 G.2.2.2.1 G.2.1 q t0 (rx_ws_of hq) (rx_tys_of ht) hin hd (kk p e R s m args below meth c H locs cells slots ls F G hl)
theorem rx_alen {a t0 : Nat} {x : vp_A} {ty : FieldType} (hd : decode M.2.1 pc = .ok (.arraylength, 1)) (ht : rx_ats[t0]? = some ty) (he : rx_rd V h a = some (.inl (V.2.2.2.1 t0, x)))
    (kk : rx_W V d kc ks M (pc + 1) L (.int (Int32.ofNat x.1) :: S) h Q) : rx_W V d kc ks M pc L (.ref a :: S) h Q := by
  intro p e R s m args below meth c H locs cells slots ls F G hl
  obtain ⟨q, rfl, hq, -⟩ := rx_rd_at he
  exact va_alen (D := V.2.2.1) F.1 F.2.1 G.2.2.2.1 G.2.1 q t0 (rx_ws_of hq) (rx_tys_of ht) rfl hd (kk p e R s m args below meth c H locs cells slots ls F G hl)
theorem rx_iastore {a n : Nat} {f : Nat → Int32} {i : Int32} {x : Int32} (hd : decode M.2.1 pc = .ok (.iastore, 1)) (ht : rx_ats[0]? = some .int) (he : rx_rd V h a = some (.inl (V.2.2.2.1 0, n, .inl (f)))) (hin : vp_in i n)
    (kk : rx_W V d kc ks M (pc + 1) L S (rx_wr V h a (.inl (V.2.2.2.1 0, n, .inl (upd f i.toNatClampNeg x)))) Q) : rx_W V d kc ks M pc L (.int x :: .int i :: .ref a :: S) h Q := by
  intro p e R s m args below meth c H locs cells slots ls F G hl
  obtain ⟨q, rfl, hq, -⟩ := rx_rd_at he
  rw [rx_wr_in] at kk
  refine W.iast F.1 F.2.1 (G.2.1 q _ (rx_ws_of hq)) ((G.2.2.2.1.2 0 _ (rx_tys_of ht)).1 n (fun j => .int (f j))) (fun q => by cases q) (by show ¬ (i < 0 ∨ (arrV _ _ _).slots.size ≤ _); rw [arrV_size]; exact hin) rfl rfl hd fun H1 e1 z oq => ?_
  refine kk p e R s m args below meth c H1 _ cells slots ls F (rx_G_set _ G hq ?_ z oq) hl
  show H1[V.2.1 + q]? = some (vp_cell _ _)
  rw [e1]
  rw [vp_cell_i, vp_cell_i, arrV_store]
  congr 2
  funext j
  by_cases hj : j = i.toNatClampNeg
  · subst hj
    simp [updV, upd]
    try rfl
  · simp [updV, upd, hj]
theorem rx_zastore {a n : Nat} {f : Nat → Int32} {i : Int32} {x : Int32} (hd : decode M.2.1 pc = .ok (.bastore, 1)) (ht : rx_ats[2]? = some .boolean) (he : rx_rd V h a = some (.inl (V.2.2.2.1 2, n, .inl (f)))) (hin : vp_in i n)
    (kk : rx_W V d kc ks M (pc + 1) L S (rx_wr V h a (.inl (V.2.2.2.1 2, n, .inl (upd f i.toNatClampNeg (vp_nar .boolean x))))) Q) : rx_W V d kc ks M pc L (.int x :: .int i :: .ref a :: S) h Q := by
  intro p e R s m args below meth c H locs cells slots ls F G hl
  obtain ⟨q, rfl, hq, -⟩ := rx_rd_at he
  rw [rx_wr_in] at kk
  refine W.zast F.1 F.2.1 (G.2.1 q _ (rx_ws_of hq)) ((G.2.2.2.1.2 2 _ (rx_tys_of ht)).1 n (fun j => .int (f j))) (fun q => by cases q) (by show ¬ (i < 0 ∨ (arrV _ _ _).slots.size ≤ _); rw [arrV_size]; exact hin) rfl rfl hd fun H1 e1 z oq => ?_
  refine kk p e R s m args below meth c H1 _ cells slots ls F (rx_G_set _ G hq ?_ z oq) hl
  show H1[V.2.1 + q]? = some (vp_cell _ _)
  rw [e1]
  rw [vp_cell_i, vp_cell_i, arrV_store]
  congr 2
  funext j
  by_cases hj : j = i.toNatClampNeg
  · subst hj
    simp [updV, upd, vp_nar]
    try rfl
  · simp [updV, upd, vp_nar, hj]
theorem rx_lastore {a n : Nat} {f : Nat → Int64} {i : Int32} {x : Int64} (hd : decode M.2.1 pc = .ok (.lastore, 1)) (ht : rx_ats[1]? = some .long) (he : rx_rd V h a = some (.inl (V.2.2.2.1 1, n, .inr (.inl (f))))) (hin : vp_in i n)
    (kk : rx_W V d kc ks M (pc + 1) L S (rx_wr V h a (.inl (V.2.2.2.1 1, n, .inr (.inl (vp_updL f i.toNatClampNeg x))))) Q) : rx_W V d kc ks M pc L (.long x :: .int i :: .ref a :: S) h Q := by
  intro p e R s m args below meth c H locs cells slots ls F G hl
  obtain ⟨q, rfl, hq, -⟩ := rx_rd_at he
  rw [rx_wr_in] at kk
  refine W.last F.1 F.2.1 (G.2.1 q _ (rx_ws_of hq)) ((G.2.2.2.1.2 1 _ (rx_tys_of ht)).1 n (fun j => .long (f j))) (fun q => by cases q) (by show ¬ (i < 0 ∨ (arrV _ _ _).slots.size ≤ _); rw [arrV_size]; exact hin) rfl rfl hd fun H1 e1 z oq => ?_
  refine kk p e R s m args below meth c H1 _ cells slots ls F (rx_G_set _ G hq ?_ z oq) hl
  show H1[V.2.1 + q]? = some (vp_cell _ _)
  rw [e1]
  rw [vp_cell_l, vp_cell_l, arrV_store]
  congr 2
  funext j
  by_cases hj : j = i.toNatClampNeg
  · subst hj
    simp [updV, vp_updL]
    try rfl
  · simp [updV, vp_updL, hj]
theorem rx_aastore {a n t0 v ci : Nat} {r : vw_C} {vs : List Value} {f : Nat → Option Nat} {i : Int32} (hd : decode M.2.1 pc = .ok (.aastore, 1)) (ht : rx_ats[t0]? = some (.object r.1)) (he : rx_rd V h a = some (.inl (V.2.2.2.1 t0, n, .inr (.inr (.inr (.inr f)))))) (hv : rx_rd V h v = some (.inr (ci, vs))) (hc : rx_cl[ci]? = some r) (hin : vp_in i n)
    (kk : rx_W V d kc ks M (pc + 1) L S (rx_wr V h a (.inl (V.2.2.2.1 t0, n, .inr (.inr (.inr (.inr (va_up f i.toNatClampNeg (some v)))))))) Q) : rx_W V d kc ks M pc L (.ref v :: .int i :: .ref a :: S) h Q := by
  intro p e R s m args below meth c H locs cells slots ls F G hl
  obtain ⟨q, rfl, hq, -⟩ := rx_rd_at he
  obtain ⟨qv, rfl, hqv, -⟩ := rx_rd_at hv
  rw [rx_wr_in] at kk
  have hlt : i.toNatClampNeg < n := Nat.not_le.mp fun q => hin (Or.inr q)
  have h0 : ¬ i < 0 := fun q => hin (Or.inl q)
  obtain ⟨r', hr', cellV, g1, g2, g3, -⟩ := G.2.1 qv _ (rx_ws_of hqv)
  have hcls := (G.2.2.2.1.1 ci r hc).2
  obtain ⟨kA, comp, k1, k2, k3, -⟩ := (G.2.2.2.1.2 t0 _ (rx_tys_of ht)).2
  have hcomp : comp = V.2.2.1.1 ci := Option.some.inj (k3.symm.trans hcls.1)
  subst hcomp
  obtain ⟨kC, hkC, -⟩ := hcls.2
  refine W.aast F.1 F.2.1 (G.2.1 q _ (rx_ws_of hq)) (fun q h => by cases h) (fun h => by cases h) k1 k2 rfl hkC ⟨h0, by show _ < (arrV _ _ _).slots.size; rw [arrV_size]; exact hlt⟩ g1 (fun q h => by rw [g3] at h; cases h) (by rw [g2]; exact hkC) (by rw [g2]; exact va_assign hcls) rfl rfl hd fun H1 e1 z oq => ?_
  refine kk p e R s m args below meth c H1 _ cells slots ls F (rx_G_set _ G hq ?_ z oq) hl
  show H1[V.2.1 + q]? = some (vp_cell _ _)
  rw [e1]
  rw [vp_cell_q, vp_cell_q, arrV_store]
  congr 2
  funext j
  by_cases hj : j = i.toNatClampNeg
  · subst hj
    simp [updV, va_up, va_rf]
  · simp [updV, va_up, hj]
theorem rx_aastoreN {a n t0 : Nat} {C : String} {f : Nat → Option Nat} {i : Int32} (hd : decode M.2.1 pc = .ok (.aastore, 1)) (ht : rx_ats[t0]? = some (.object C)) (he : rx_rd V h a = some (.inl (V.2.2.2.1 t0, n, .inr (.inr (.inr (.inr f)))))) (hin : vp_in i n)
    (kk : rx_W V d kc ks M (pc + 1) L S (rx_wr V h a (.inl (V.2.2.2.1 t0, n, .inr (.inr (.inr (.inr (va_up f i.toNatClampNeg none))))))) Q) : rx_W V d kc ks M pc L (.null :: .int i :: .ref a :: S) h Q := by
  intro p e R s m args below meth c H locs cells slots ls F G hl
  obtain ⟨q, rfl, hq, -⟩ := rx_rd_at he
  rw [rx_wr_in] at kk
  refine va_WaastN (C := C) F.1 F.2.1 (G.2.1 q _ (rx_ws_of hq)) ((G.2.2.2.1.2 t0 _ (rx_tys_of ht)).1 n (fun j => va_rf (f j))) (fun h => by cases h) (by show ¬ (i < 0 ∨ (arrV _ _ _).slots.size ≤ _); rw [arrV_size]; exact hin) rfl rfl hd fun H1 e1 z oq => ?_
  refine kk p e R s m args below meth c H1 _ cells slots ls F (rx_G_set _ G hq ?_ z oq) hl
  show H1[V.2.1 + q]? = some (vp_cell _ _)
  rw [e1]
  rw [vp_cell_q, vp_cell_q, arrV_store]
  congr 2
  funext j
  by_cases hj : j = i.toNatClampNeg
  · subst hj
    simp [updV, va_up, va_rf]
  · simp [updV, va_up, hj]
/-! making -/
theorem rx_new {index ci N : Nat} {C : String} {T : u_T} {fs : List Value} (ty : Nat → FieldType) (hd : decode M.2.1 pc = .ok (.new index, 3)) (hc : rx_cl[ci]? = some (C, T, N)) (hin : ∀ w ∈ u_ws C T N, w ∈ rx_tbl) (hty : ∀ k, k < N → parseFieldDescriptor (T k).2.2.1 = some (ty k))
    (w1 : Cond.classLink M.1.cls index C ∈ rx_tbl) (w2 : Cond.instantiable C N ∈ rx_tbl) (w3 : Cond.initialized C ∈ rx_tbl) (hfs : ∀ j, j < N → defaultValue (ty j) = vp_V fs j)
    (kk : rx_W V d kc ks M (pc + 3) L (.ref (V.2.1 + h.length) :: S) (h ++ [.inr (ci, fs)]) Q) : rx_W V d (kc + 1) (ks + N) M pc L S h Q := by
  intro p e R s m args below meth c H locs cells slots ls F G hl
  have hts := F.2.2.2.2.2.2.1
  have hKn := G.2.2.2.1.1 ci _ hc
  have hG := G
  obtain ⟨g1, -, -, -, -, -, g7, g8⟩ := hG
  refine W.newcK F.1 F.2.1 F.2.2.2.2.2.1 (hts _ w1) (hts _ w2) (hts _ w3) rfl hd (by omega) (by omega) hKn.2.1 g1 fun H1 kC hkC e1 z1 o1 => ?_
  rw [show cells + (kc + 1) = cells + 1 + kc by omega, show slots + (ks + N) = slots + N + ks by omega]
  refine kk p e R s m args below meth c H1 locs (cells + 1) (slots + N) ls F (rx_G_push G ?_ (by rw [z1, g1]) (fun x hx => o1 x (by rw [← g1]; exact hx))) hl
  exact ⟨_, hc, (u_born ty hts hin hKn hkC e1 hty).to hfs⟩
theorem rx_newarray {t0 : Nat} {atype : ArrayType} {ty : FieldType} {n : Int32} {N : Nat} {a0 : vp_A} (hd : decode M.2.1 pc = .ok (.newarray atype, 2)) (ht : rx_ats[t0]? = some ty) (hty : newarray.typeOf atype = ty) (w1 : Cond.arrayClass ty ∈ rx_tbl) (hnm : ∀ (U : State) (cA : ClassId), va_RA U cA ty → U.vm.findClass ("[" ++ ty.toString) = some cA)
    (ha : ∀ cA : ClassId, vp_cell cA a0 = arrV cA N (fun _ => defaultValue ty)) (hn : ¬ n < 0) (hN : n.toNatClampNeg = N) (hbytes : N * componentBytes ty ≤ 536870912)
    (kk : rx_W V d kc ks M (pc + 2) L (.ref (V.2.1 + h.length) :: S) (h ++ [.inl (V.2.2.2.1 t0, a0)]) Q) : rx_W V d (kc + 1) (ks + N) M pc L (.int n :: S) h Q := by
  intro p e R s m args below meth c H locs cells slots ls F G hl
  have hts := F.2.2.2.2.2.2.1
  subst hty
  have hRA := (G.2.2.2.1.2 t0 _ (rx_tys_of ht)).2
  have hG := G
  obtain ⟨g1, -, -, -, -, -, g7, g8⟩ := hG
  refine va_newaK F.1 F.2.1 (hts _ w1) rfl hd rfl hn hN hbytes (by omega) (by omega) g1 fun H1 cA e1 z1 o1 hAr hNm => ?_
  have hcA : cA = V.2.2.2.1 t0 := Option.some.inj (hNm.symm.trans (hnm s _ hRA))
  subst hcA
  rw [show cells + (kc + 1) = cells + 1 + kc by omega, show slots + (ks + N) = slots + N + ks by omega]
  refine kk p e R s m args below meth c H1 locs (cells + 1) (slots + N) ls F (rx_G_push G ?_ (by rw [z1, g1]) (fun x hx => o1 x (by rw [← g1]; exact hx))) hl
  show H1[V.2.1 + h.length]? = some (vp_cell _ _)
  rw [ha]
  exact e1
theorem rx_anewarray {t0 index : Nat} {C : String} {n : Int32} {N : Nat} (hd : decode M.2.1 pc = .ok (.anewarray index, 3)) (ht : rx_ats[t0]? = some (.object C)) (w1 : Cond.classLink M.1.cls index C ∈ rx_tbl) (w2 : Cond.arrayOver (.object C) ∈ rx_tbl) (hn : ¬ n < 0) (hN : n.toNatClampNeg = N) (hbytes : N * 4 ≤ 536870912)
    (kk : rx_W V d kc ks M (pc + 3) L (.ref (V.2.1 + h.length) :: S) (h ++ [.inl (V.2.2.2.1 t0, N, .inr (.inr (.inr (.inr (fun _ => none)))))]) Q) : rx_W V d (kc + 1) (ks + N) M pc L (.int n :: S) h Q := by
  intro p e R s m args below meth c H locs cells slots ls F G hl
  have hts := F.2.2.2.2.2.2.1
  have hRA := (G.2.2.2.1.2 t0 _ (rx_tys_of ht)).2
  have hG := G
  obtain ⟨g1, -, -, -, -, -, g7, g8⟩ := hG
  subst hN
  refine W.anew F.1 F.2.1 F.2.2.2.2.2.1 (hts _ w1) (hts _ w2) rfl hd rfl hn hbytes (by omega) (by omega) fun cA kA comp f1 f2 f3 f4 => ?_
  obtain ⟨kA', comp', -, -, -, hNm⟩ := hRA
  have hcA : cA = V.2.2.2.1 t0 := Option.some.inj (f1.symm.trans hNm)
  subst hcA
  generalize hH1 : H.push ({ cls := V.2.2.2.1 t0, slots := Array.replicate n.toNatClampNeg .null, vm := .none } : Cell) = H1
  have z1 : H1.size = H.size + 1 := by rw [← hH1, Array.size_push]
  have e1 : H1[H.size]? = some (arrV (V.2.2.2.1 t0) n.toNatClampNeg (fun _ => .null)) := by rw [← hH1, Array.getElem?_push_size, ← arrV_new]
  have o1 : ∀ q : Nat, q < H.size → H1[q]? = H[q]? := fun q hq => by rw [← hH1, Array.getElem?_push, if_neg (Nat.ne_of_lt hq)]
  rw [g1] at e1 ⊢
  rw [show cells + (kc + 1) = cells + 1 + kc by omega, show slots + (ks + n.toNatClampNeg) = slots + n.toNatClampNeg + ks by omega]
  refine kk p e R s m args below meth c H1 locs (cells + 1) (slots + n.toNatClampNeg) ls F (rx_G_push G ?_ z1 o1) hl
  show H1[V.2.1 + h.length]? = some (vp_cell _ _)
  rw [vp_cell_q]
  exact e1
/-! the ends -/
theorem rx_end {r : rx_R} (hq : Q r h) {R : Room} {s : State} {H : Heap} {locs : List Loc} {cells slots : Nat} (G : rx_G V kc ks R s h H locs cells slots) {v : Option Value} (hr : r = .inl v) (t : State) (ht : t.heap = H) : rx_O V s Q (.returned v) t := by
  subst hr
  exact ⟨.inl v, h, hq, by rw [ht]; exact G.1, by rw [ht]; exact G.2.1, G.2.2.1.F ht, rfl⟩
theorem rx_mq {p : Program} {l : Launch} {e : Env} {R : Room} {s : State} {m : MethodId} {args : Array Value} {below : List Frame} {meth : Method} {c : Code} {H : Heap} {locs : List Loc} {cells slots kc ks : Nat} {g : JFrame}
    (w : W p l e R s m args below meth c H locs (cells + kc) (slots + ks) (MQ below (fun _ st o t => rx_O V st Q o t) args s (cells + kc) (slots + ks) (rx_A V)) g) : W p l e R s m args below meth c H locs cells slots (rx_Z V below s (cells + kc) (slots + ks) Q) g :=
  W.widen (Nat.le_add_right _ _) (Nat.le_add_right _ _) (rx_mono (fun t ⟨o, a, b, c1, L9, n1, n2⟩ => ⟨o, a, b, c1, L9, n1.2.1, n1.2.2, n2⟩) w)
theorem rx_ireturn {v : Int32} (hd : decode M.2.1 pc = .ok (.ireturn, 1)) (hr : M.2.2.2.1 = some .int) (hq : Q (.inl (some (.int v))) h) : rx_W V d kc ks M pc L [.int v] h Q :=
  fun p e R s m args below meth c H locs cells slots ls F G hl => rx_mq (W.iret F.1 F.2.1 (F.2.2.2.1.trans hr) (fun t ht _ => rx_end hq G rfl t ht) G.2.2.1.2.2 hd (hlocks := F.2.2.2.2.1))
theorem rx_zreturn {v : Int32} (hd : decode M.2.1 pc = .ok (.ireturn, 1)) (hr : M.2.2.2.1 = some .boolean) (hn : narrow .boolean (.int v) = .int v) (hq : Q (.inl (some (.int v))) h) : rx_W V d kc ks M pc L [.int v] h Q :=
  fun p e R s m args below meth c H locs cells slots ls F G hl => rx_mq (W.zret F.1 F.2.1 (F.2.2.2.1.trans hr) hn (fun t ht _ => rx_end hq G rfl t ht) G.2.2.1.2.2 hd (hlocks := F.2.2.2.2.1))
theorem rx_lreturn {v : Int64} (hd : decode M.2.1 pc = .ok (.lreturn, 1)) (hr : M.2.2.2.1 = some .long) (hq : Q (.inl (some (.long v))) h) : rx_W V d kc ks M pc L [.long v] h Q :=
  fun p e R s m args below meth c H locs cells slots ls F G hl => rx_mq (W.lret F.1 F.2.1 (F.2.2.2.1.trans hr) (fun t ht _ => rx_end hq G rfl t ht) G.2.2.1.2.2 hd (hlocks := F.2.2.2.2.1))
theorem rx_vreturn (hd : decode M.2.1 pc = .ok (.return_, 1)) (hr : M.2.2.2.1 = none) (hq : Q (.inl none) h) : rx_W V d kc ks M pc L [] h Q :=
  fun p e R s m args below meth c H locs cells slots ls F G hl => rx_mq (W.vret F.1 F.2.1 (F.2.2.2.1.trans hr) (fun t ht _ => rx_end hq G rfl t ht) G.2.2.1.2.2 hd (hlocks := F.2.2.2.2.1))
theorem rx_areturn {x : Option Nat} {C : String} (hd : decode M.2.1 pc = .ok (.areturn, 1)) (hr : M.2.2.2.1 = some (.object C)) (hq : Q (.inl (some (va_rf x))) h) : rx_W V d kc ks M pc L [va_rf x] h Q :=
  fun p e R s m args below meth c H locs cells slots ls F G hl => rx_mq (W.aret F.1 F.2.1 (F.2.2.2.1.trans hr) (Or.inl ⟨_, rfl⟩) (by cases x with | none => exact Or.inl rfl | some a => exact Or.inr ⟨a, rfl⟩) (fun t ht _ => rx_end hq G rfl t ht) G.2.2.1.2.2 hd (hlocks := F.2.2.2.2.1))
/-- Object's own constructor -/
theorem rx_objInit {index a : Nat} (hd : decode M.2.1 pc = .ok (.invokespecial index, 3)) (w1 : Cond.methodLink M.1.cls index Lib.objectInit ∈ rx_tbl) (w2 : Cond.instanceMethod Lib.objectInit ∈ rx_tbl) (w3 : Cond.code Lib.objectInit ⟨#[0xb1]⟩ 1 none ∈ rx_tbl) (hw : (S.map fun v => v.category).sum ≤ 8)
    (kk : rx_W V (d + 1) kc ks M (pc + 3) L S h Q) : rx_W V (d + 1) kc ks M pc L (.ref a :: S) h Q := by
  intro p e R s m args below meth c H locs cells slots ls F G hl
  have hts := F.2.2.2.2.2.2.1
  have hd1 := F.2.2.2.2.2.2.2.2.1
  have hd2 := F.2.2.2.2.2.2.2.2.2.1
  refine W.objInit F.1 F.2.1 F.2.2.2.2.2.1 (hts _ w1) (hts _ w2) (hts _ w3) rfl (by rw [F.2.2.1]; exact hl.1) rfl hd (by omega) ?_ ?_
  · have := lv_room (m := m) (pc := pc) (ls := ls) (rest := .ref a :: S) (st := S) hw
    omega
  · exact kk p e R s m args below meth c H locs cells slots ls F G hl
end RXH
