/-! the judgement and its rows -/
def rx_tys (V : rx_V) : List (ClassId × FieldType) := rx_ats.mapIdx (fun i t => (V.2.2.2.1 i, t))
theorem rx_tys_of {V : rx_V} {i : Nat} {t : FieldType} (h : rx_ats[i]? = some t) : (rx_tys V)[i]? = some (V.2.2.2.1 i, t) := by
  unfold rx_tys
  rw [List.getElem?_mapIdx, h]; rfl
def rx_F (d : Nat) (M : rx_T) (p : Program) (R : Room) (s : State) (m : MethodId) (args : Array Value) (meth : Method) (c : Code) : Prop :=
  p.tables.exec = Jvm.exec ∧ c.code = M.2.1 ∧ c.maxLocals = M.2.2.1 ∧ meth.sig.returnType = M.2.2.2.1 ∧ meth.locks = false ∧ s.vm.findClass M.1.cls = some m.cls ∧ (∀ w ∈ rx_tbl, w.before args s = true) ∧
  meth.name = M.1.name ∧ d ≤ R.frames ∧ 32 * d ≤ R.locals ∧ c.exceptionTable.toList.map (fun x => (x.startPc, x.endPc, x.handlerPc, x.catchType)) = M.2.2.2.2
def rx_G (V : rx_V) (kc ks : Nat) (R : Room) (s : State) (h : List va_E) (H : Heap) (locs : List Loc) (cells slots : Nat) : Prop :=
  H.size = V.2.1 + h.length ∧ va_P V.2.2.1 rx_cl (rx_ws V.2.1 h) H ∧ va_S (rx_A V) s.heap H locs ∧ va_K V.2.2.1 rx_cl (rx_tys V) s ∧ rx_E V s ∧ V.2.1 ≤ s.heap.size ∧ cells + kc ≤ R.cells ∧ slots + ks ≤ R.slots
/-- the outcome o at t: the answer and the world that Q allows -/
def rx_O (V : rx_V) (s : State) (Q : rx_R → List va_E → Prop) (o : Outcome) (t : State) : Prop :=
  ∃ (r : rx_R) (h : List va_E), Q r h ∧ t.heap.size = V.2.1 + h.length ∧ va_P V.2.2.1 rx_cl (rx_ws V.2.1 h) t.heap ∧ va_F (rx_A V) s t ∧
    (match r with
      | .inl v => o = .returned v
      | .inr E => ∃ (a : Nat) (ce : Cell), o = .threw a ∧ t.heap[a]? = some ce ∧ ce.vm = .none ∧ s.vm.findClass (rx_exn E) = some ce.cls)
def rx_N (V : rx_V) (s : State) (t : State) (mc ms : Nat) : Prop := ∃ L, s.WarmedH t.vm ∧ s.sameButNew ({ t with vm := s.vm } : State) L mc ms ∧ ∀ q ∈ L, rx_A V q.base
def rx_Z (V : rx_V) (below : List Frame) (s : State) (mc ms : Nat) (Q : rx_R → List va_E → Prop) : State → Prop := fun t =>
  ∃ o, t.status = .running ∧ Ended t below o ∧ rx_O V s Q o t ∧ rx_N V s t mc ms
def rx_W (V : rx_V) (d kc ks : Nat) (M : rx_T) (pc : Nat) (L : rx_L) (S : List Value) (h : List va_E) (Q : rx_R → List va_E → Prop) : Prop :=
  ∀ (p : Program) (e : Env) (R : Room) (s : State) (m : MethodId) (args : Array Value) (below : List Frame) (meth : Method) (c : Code) (H : Heap) (locs : List Loc) (cells slots : Nat) (ls : Array Slot),
    rx_F d M p R s m args meth c → rx_G V kc ks R s h H locs cells slots → rx_lv ls M.2.2.1 L →
    W p V.1 e R s m args below meth c H locs cells slots (rx_Z V below s (cells + kc) (slots + ks) Q) (F0 m pc ls S)
theorem rx_mono {p : Program} {l : Launch} {e : Env} {R : Room} {s : State} {m : MethodId} {args : Array Value} {below : List Frame} {meth : Method} {c : Code} {H : Heap} {locs : List Loc} {cells slots : Nat} {Q Q' : State → Prop} {g : JFrame}
    (hq : ∀ t, Q t → Q' t) (w : W p l e R s m args below meth c H locs cells slots Q g) : W p l e R s m args below meth c H locs cells slots Q' g := fun T hT X => by
  obtain ⟨t, a, b⟩ := w T hT X
  exact ⟨t, a, hq t b⟩
section RX
variable {V : rx_V} {d kc ks : Nat} {M : rx_T} {pc : Nat} {L : rx_L} {S : List Value} {h : List va_E} {Q : rx_R → List va_E → Prop}
/-- another end -/
theorem rx_cons {Q' : rx_R → List va_E → Prop} (w : rx_W V d kc ks M pc L S h Q') (hq : ∀ r h', Q' r h' → Q r h') : rx_W V d kc ks M pc L S h Q := fun p e R s m args below meth c H locs cells slots ls F G hl =>
  rx_mono (fun _ ⟨o, a, b, ⟨r, h', c1, c2⟩, n⟩ => ⟨o, a, b, ⟨r, h', hq r h' c1, c2⟩, n⟩) (w p e R s m args below meth c H locs cells slots ls F G hl)
/-- more room than is needed -/
theorem rx_more {d0 kc0 ks0 : Nat} (w : rx_W V d0 kc0 ks0 M pc L S h Q) (hd : d0 ≤ d) (hc : kc0 ≤ kc) (hs : ks0 ≤ ks) : rx_W V d kc ks M pc L S h Q := by
  intro p e R s m args below meth c H locs cells slots ls F G hl
  obtain ⟨f1, f2, f3, f4, f5, f6, f7, f8, f9, f10, f11⟩ := F
  obtain ⟨g1, g2, g3, g4, g5, g6, g7, g8⟩ := G
  refine rx_mono (fun t ⟨o, a, b, c1, L9, n1, n2, n3⟩ => ⟨o, a, b, c1, L9, n1, n2.mono (by omega) (by omega), n3⟩) (w p e R s m args below meth c H locs cells slots ls ⟨f1, f2, f3, f4, f5, f6, f7, f8, by omega, by omega, f11⟩ ⟨g1, g2, g3, g4, g5, g6, by omega, by omega⟩ hl)
theorem rx_iconst {n : Int} {v : Int32} (hd : decode M.2.1 pc = .ok (.iconst n, 1)) (hv : Int32.ofInt n = v) (k : rx_W V d kc ks M (pc + 1) L (.int v :: S) h Q) : rx_W V d kc ks M pc L S h Q :=
  fun p e R s m args below meth c H locs cells slots ls F G hl => lv_iconst F.1 F.2.1 hd hv (k p e R s m args below meth c H locs cells slots ls F G hl)
theorem rx_bipush {n : Int} {v : Int32} (hd : decode M.2.1 pc = .ok (.bipush n, 2)) (hv : (Int8.ofInt n).toInt32 = v) (k : rx_W V d kc ks M (pc + 2) L (.int v :: S) h Q) : rx_W V d kc ks M pc L S h Q :=
  fun p e R s m args below meth c H locs cells slots ls F G hl => lv_bipush F.1 F.2.1 hd hv (k p e R s m args below meth c H locs cells slots ls F G hl)
theorem rx_sipush {n : Int} {v : Int32} (hd : decode M.2.1 pc = .ok (.sipush n, 3)) (hv : (Int16.ofInt n).toInt32 = v) (k : rx_W V d kc ks M (pc + 3) L (.int v :: S) h Q) : rx_W V d kc ks M pc L S h Q :=
  fun p e R s m args below meth c H locs cells slots ls F G hl => lv_sipush F.1 F.2.1 hd hv (k p e R s m args below meth c H locs cells slots ls F G hl)
theorem rx_lconst {n : Fin 2} {v : Int64} (hd : decode M.2.1 pc = .ok (.lconst n, 1)) (hv : Int64.ofNat (n : Nat) = v) (k : rx_W V d kc ks M (pc + 1) L (.long v :: S) h Q) : rx_W V d kc ks M pc L S h Q :=
  fun p e R s m args below meth c H locs cells slots ls F G hl => lv_lconst F.1 F.2.1 hd hv (k p e R s m args below meth c H locs cells slots ls F G hl)
theorem rx_null (hd : decode M.2.1 pc = .ok (.aconst_null, 1)) (k : rx_W V d kc ks M (pc + 1) L (.null :: S) h Q) : rx_W V d kc ks M pc L S h Q :=
  fun p e R s m args below meth c H locs cells slots ls F G hl => lv_null F.1 F.2.1 hd (k p e R s m args below meth c H locs cells slots ls F G hl)
theorem rx_iload_n {n : Fin 4} {x : Int32} (hd : decode M.2.1 pc = .ok (.iload_n n, 1)) (hv : L[(n : Nat)]? = some (some (.int x))) (k : rx_W V d kc ks M (pc + 1) L (.int x :: S) h Q) : rx_W V d kc ks M pc L S h Q :=
  fun p e R s m args below meth c H locs cells slots ls F G hl => lv_iload_n F.1 F.2.1 hd rfl (hl.2.2.2 _ _ hv) (k p e R s m args below meth c H locs cells slots ls F G hl)
theorem rx_iload {n : Nat} {x : Int32} (hd : decode M.2.1 pc = .ok (.iload n, 2)) (hv : L[n]? = some (some (.int x))) (k : rx_W V d kc ks M (pc + 2) L (.int x :: S) h Q) : rx_W V d kc ks M pc L S h Q :=
  fun p e R s m args below meth c H locs cells slots ls F G hl => lv_iload F.1 F.2.1 hd (hl.2.2.2 _ _ hv) (k p e R s m args below meth c H locs cells slots ls F G hl)
theorem rx_lload_n {n : Fin 4} {x : Int64} (hd : decode M.2.1 pc = .ok (.lload_n n, 1)) (hv : L[(n : Nat)]? = some (some (.long x))) (k : rx_W V d kc ks M (pc + 1) L (.long x :: S) h Q) : rx_W V d kc ks M pc L S h Q :=
  fun p e R s m args below meth c H locs cells slots ls F G hl => lv_lload_n F.1 F.2.1 hd rfl (hl.2.2.2 _ _ hv) (k p e R s m args below meth c H locs cells slots ls F G hl)
theorem rx_lload {n : Nat} {x : Int64} (hd : decode M.2.1 pc = .ok (.lload n, 2)) (hv : L[n]? = some (some (.long x))) (k : rx_W V d kc ks M (pc + 2) L (.long x :: S) h Q) : rx_W V d kc ks M pc L S h Q :=
  fun p e R s m args below meth c H locs cells slots ls F G hl => lv_lload F.1 F.2.1 hd (hl.2.2.2 _ _ hv) (k p e R s m args below meth c H locs cells slots ls F G hl)
/-- a reference or null, as an Option -/
theorem rx_aload_n {n : Fin 4} {x : Option Nat} (hd : decode M.2.1 pc = .ok (.aload_n n, 1)) (hv : L[(n : Nat)]? = some (some (va_rf x))) (k : rx_W V d kc ks M (pc + 1) L (va_rf x :: S) h Q) : rx_W V d kc ks M pc L S h Q :=
  fun p e R s m args below meth c H locs cells slots ls F G hl => by
    cases x with
    | none => exact lv_aload_nN F.1 F.2.1 hd rfl (hl.2.2.2 _ _ hv) (k p e R s m args below meth c H locs cells slots ls F G hl)
    | some a => exact lv_aload_n F.1 F.2.1 hd rfl (hl.2.2.2 _ _ hv) (k p e R s m args below meth c H locs cells slots ls F G hl)
theorem rx_aload {n : Nat} {x : Option Nat} (hd : decode M.2.1 pc = .ok (.aload n, 2)) (hv : L[n]? = some (some (va_rf x))) (k : rx_W V d kc ks M (pc + 2) L (va_rf x :: S) h Q) : rx_W V d kc ks M pc L S h Q :=
  fun p e R s m args below meth c H locs cells slots ls F G hl => by
    cases x with
    | none => exact lv_aloadN F.1 F.2.1 hd (hl.2.2.2 _ _ hv) (k p e R s m args below meth c H locs cells slots ls F G hl)
    | some a => exact lv_aload F.1 F.2.1 hd (hl.2.2.2 _ _ hv) (k p e R s m args below meth c H locs cells slots ls F G hl)
theorem rx_aload_nr {n : Fin 4} {a : Nat} (hd : decode M.2.1 pc = .ok (.aload_n n, 1)) (hv : L[(n : Nat)]? = some (some (.ref a))) (k : rx_W V d kc ks M (pc + 1) L (.ref a :: S) h Q) : rx_W V d kc ks M pc L S h Q :=
  rx_aload_n (x := some a) hd hv k
theorem rx_aload_r {n : Nat} {a : Nat} (hd : decode M.2.1 pc = .ok (.aload n, 2)) (hv : L[n]? = some (some (.ref a))) (k : rx_W V d kc ks M (pc + 2) L (.ref a :: S) h Q) : rx_W V d kc ks M pc L S h Q :=
  rx_aload (x := some a) hd hv k
theorem rx_istore_n {n : Fin 4} {x : Int32} (hd : decode M.2.1 pc = .ok (.istore_n n, 1)) (hn : (n : Nat) < L.length) (k : rx_W V d kc ks M (pc + 1) (rx_st1 L n (.int x)) S h Q) : rx_W V d kc ks M pc L (.int x :: S) h Q :=
  fun p e R s m args below meth c H locs cells slots ls F G hl => lv_istore_n F.1 F.2.1 hd rfl (rx_has hl) (by rw [← hl.2.2.1]; exact hn) rfl (fun ls' h' => k p e R s m args below meth c H locs cells slots ls' F G (rx_lv1 hl.2.2.1 (fun _ _ => rx_al_in.mpr) h'))
theorem rx_istore {n : Nat} {x : Int32} (hd : decode M.2.1 pc = .ok (.istore n, 2)) (hn : n < L.length) (k : rx_W V d kc ks M (pc + 2) (rx_st1 L n (.int x)) S h Q) : rx_W V d kc ks M pc L (.int x :: S) h Q :=
  fun p e R s m args below meth c H locs cells slots ls F G hl => lv_istore F.1 F.2.1 hd (rx_has hl) (by rw [← hl.2.2.1]; exact hn) rfl (fun ls' h' => k p e R s m args below meth c H locs cells slots ls' F G (rx_lv1 hl.2.2.1 (fun _ _ => rx_al_in.mpr) h'))
theorem rx_lstore_n {n : Fin 4} {x : Int64} (hd : decode M.2.1 pc = .ok (.lstore_n n, 1)) (hn : (n : Nat) + 1 < L.length) (k : rx_W V d kc ks M (pc + 1) (rx_st2 L n (.long x)) S h Q) : rx_W V d kc ks M pc L (.long x :: S) h Q :=
  fun p e R s m args below meth c H locs cells slots ls F G hl => lv_lstore_n F.1 F.2.1 hd rfl (rx_has hl) (by rw [← hl.2.2.1]; exact hn) rfl (fun ls' h' => k p e R s m args below meth c H locs cells slots ls' F G (rx_lv2 hl.2.2.1 (fun _ _ => rx_al_in.mpr) h'))
theorem rx_lstore {n : Nat} {x : Int64} (hd : decode M.2.1 pc = .ok (.lstore n, 2)) (hn : n + 1 < L.length) (k : rx_W V d kc ks M (pc + 2) (rx_st2 L n (.long x)) S h Q) : rx_W V d kc ks M pc L (.long x :: S) h Q :=
  fun p e R s m args below meth c H locs cells slots ls F G hl => lv_lstore F.1 F.2.1 hd (rx_has hl) (by rw [← hl.2.2.1]; exact hn) rfl (fun ls' h' => k p e R s m args below meth c H locs cells slots ls' F G (rx_lv2 hl.2.2.1 (fun _ _ => rx_al_in.mpr) h'))
theorem rx_astore_n {n : Fin 4} {x : Option Nat} (hd : decode M.2.1 pc = .ok (.astore_n n, 1)) (hn : (n : Nat) < L.length) (k : rx_W V d kc ks M (pc + 1) (rx_st1 L n (va_rf x)) S h Q) : rx_W V d kc ks M pc L (va_rf x :: S) h Q :=
  fun p e R s m args below meth c H locs cells slots ls F G hl => by
    cases x with
    | none => exact lv_astore_nN F.1 F.2.1 hd rfl (rx_has hl) (by rw [← hl.2.2.1]; exact hn) rfl (fun ls' h' => k p e R s m args below meth c H locs cells slots ls' F G (rx_lv1 hl.2.2.1 (fun _ _ => rx_al_in.mpr) h'))
    | some a => exact lv_astore_n F.1 F.2.1 hd rfl (rx_has hl) (by rw [← hl.2.2.1]; exact hn) rfl (fun ls' h' => k p e R s m args below meth c H locs cells slots ls' F G (rx_lv1 hl.2.2.1 (fun _ _ => rx_al_in.mpr) h'))
theorem rx_astore {n : Nat} {x : Option Nat} (hd : decode M.2.1 pc = .ok (.astore n, 2)) (hn : n < L.length) (k : rx_W V d kc ks M (pc + 2) (rx_st1 L n (va_rf x)) S h Q) : rx_W V d kc ks M pc L (va_rf x :: S) h Q :=
  fun p e R s m args below meth c H locs cells slots ls F G hl => by
    cases x with
    | none => exact lv_astoreN F.1 F.2.1 hd (rx_has hl) (by rw [← hl.2.2.1]; exact hn) rfl (fun ls' h' => k p e R s m args below meth c H locs cells slots ls' F G (rx_lv1 hl.2.2.1 (fun _ _ => rx_al_in.mpr) h'))
    | some a => exact lv_astore F.1 F.2.1 hd (rx_has hl) (by rw [← hl.2.2.1]; exact hn) rfl (fun ls' h' => k p e R s m args below meth c H locs cells slots ls' F G (rx_lv1 hl.2.2.1 (fun _ _ => rx_al_in.mpr) h'))
theorem rx_astore_nr {n : Fin 4} {a : Nat} (hd : decode M.2.1 pc = .ok (.astore_n n, 1)) (hn : (n : Nat) < L.length) (k : rx_W V d kc ks M (pc + 1) (rx_st1 L n (.ref a)) S h Q) : rx_W V d kc ks M pc L (.ref a :: S) h Q :=
  rx_astore_n (x := some a) hd hn k
theorem rx_astore_r {n : Nat} {a : Nat} (hd : decode M.2.1 pc = .ok (.astore n, 2)) (hn : n < L.length) (k : rx_W V d kc ks M (pc + 2) (rx_st1 L n (.ref a)) S h Q) : rx_W V d kc ks M pc L (.ref a :: S) h Q :=
  rx_astore (x := some a) hd hn k
theorem rx_iinc {i : Nat} {n : Int} {x v : Int32} (hd : decode M.2.1 pc = .ok (.iinc i n, 3)) (hx : L[i]? = some (some (.int x))) (hv : x + Int32.ofInt n = v) (k : rx_W V d kc ks M (pc + 3) (rx_st1 L i (.int v)) S h Q) : rx_W V d kc ks M pc L S h Q :=
  fun p e R s m args below meth c H locs cells slots ls F G hl => lv_iinc (k := 0) F.1 F.2.1 hd (rx_has1 hl hx) rfl hv (by rw [← hl.2.2.1]; exact (List.getElem?_eq_some_iff.mp hx).1) rfl (fun ls' h' => k p e R s m args below meth c H locs cells slots ls' F G (rx_lv1 hl.2.2.1 (fun _ _ q => List.mem_cons_of_mem _ (rx_al_in.mpr q)) h'))
theorem rx_iadd {x y : Int32} (hd : decode M.2.1 pc = .ok (.iadd, 1)) (k : rx_W V d kc ks M (pc + 1) L (.int (x + y) :: S) h Q) : rx_W V d kc ks M pc L (.int y :: .int x :: S) h Q :=
  fun p e R s m args below meth c H locs cells slots ls F G hl => lv_iadd F.1 F.2.1 hd (k p e R s m args below meth c H locs cells slots ls F G hl)
theorem rx_isub {x y : Int32} (hd : decode M.2.1 pc = .ok (.isub, 1)) (k : rx_W V d kc ks M (pc + 1) L (.int (x - y) :: S) h Q) : rx_W V d kc ks M pc L (.int y :: .int x :: S) h Q :=
  fun p e R s m args below meth c H locs cells slots ls F G hl => lv_isub F.1 F.2.1 hd (k p e R s m args below meth c H locs cells slots ls F G hl)
theorem rx_imul {x y : Int32} (hd : decode M.2.1 pc = .ok (.imul, 1)) (k : rx_W V d kc ks M (pc + 1) L (.int (x * y) :: S) h Q) : rx_W V d kc ks M pc L (.int y :: .int x :: S) h Q :=
  fun p e R s m args below meth c H locs cells slots ls F G hl => lv_imul F.1 F.2.1 hd (k p e R s m args below meth c H locs cells slots ls F G hl)
theorem rx_iand {x y : Int32} (hd : decode M.2.1 pc = .ok (.iand, 1)) (k : rx_W V d kc ks M (pc + 1) L (.int (x &&& y) :: S) h Q) : rx_W V d kc ks M pc L (.int y :: .int x :: S) h Q :=
  fun p e R s m args below meth c H locs cells slots ls F G hl => lv_iand F.1 F.2.1 hd (k p e R s m args below meth c H locs cells slots ls F G hl)
theorem rx_ior {x y : Int32} (hd : decode M.2.1 pc = .ok (.ior, 1)) (k : rx_W V d kc ks M (pc + 1) L (.int (x ||| y) :: S) h Q) : rx_W V d kc ks M pc L (.int y :: .int x :: S) h Q :=
  fun p e R s m args below meth c H locs cells slots ls F G hl => lv_ior F.1 F.2.1 hd (k p e R s m args below meth c H locs cells slots ls F G hl)
theorem rx_ixor {x y : Int32} (hd : decode M.2.1 pc = .ok (.ixor, 1)) (k : rx_W V d kc ks M (pc + 1) L (.int (x ^^^ y) :: S) h Q) : rx_W V d kc ks M pc L (.int y :: .int x :: S) h Q :=
  fun p e R s m args below meth c H locs cells slots ls F G hl => lv_ixor F.1 F.2.1 hd (k p e R s m args below meth c H locs cells slots ls F G hl)
theorem rx_ishl {x y : Int32} (hd : decode M.2.1 pc = .ok (.ishl, 1)) (k : rx_W V d kc ks M (pc + 1) L (.int (x <<< (y &&& 31)) :: S) h Q) : rx_W V d kc ks M pc L (.int y :: .int x :: S) h Q :=
  fun p e R s m args below meth c H locs cells slots ls F G hl => lv_ishl F.1 F.2.1 hd (k p e R s m args below meth c H locs cells slots ls F G hl)
theorem rx_ishr {x y : Int32} (hd : decode M.2.1 pc = .ok (.ishr, 1)) (k : rx_W V d kc ks M (pc + 1) L (.int (x >>> (y &&& 31)) :: S) h Q) : rx_W V d kc ks M pc L (.int y :: .int x :: S) h Q :=
  fun p e R s m args below meth c H locs cells slots ls F G hl => lv_ishr F.1 F.2.1 hd (k p e R s m args below meth c H locs cells slots ls F G hl)
theorem rx_idiv {x y : Int32} (hd : decode M.2.1 pc = .ok (.idiv, 1)) (hne : ¬ y = 0) (k : rx_W V d kc ks M (pc + 1) L (.int (x / y) :: S) h Q) : rx_W V d kc ks M pc L (.int y :: .int x :: S) h Q :=
  fun p e R s m args below meth c H locs cells slots ls F G hl => lv_idiv F.1 F.2.1 hd hne (k p e R s m args below meth c H locs cells slots ls F G hl)
theorem rx_irem {x y : Int32} (hd : decode M.2.1 pc = .ok (.irem, 1)) (hne : ¬ y = 0) (k : rx_W V d kc ks M (pc + 1) L (.int (x - x / y * y) :: S) h Q) : rx_W V d kc ks M pc L (.int y :: .int x :: S) h Q :=
  fun p e R s m args below meth c H locs cells slots ls F G hl => lv_irem F.1 F.2.1 hd hne (k p e R s m args below meth c H locs cells slots ls F G hl)
theorem rx_ineg {x : Int32} (hd : decode M.2.1 pc = .ok (.ineg, 1)) (k : rx_W V d kc ks M (pc + 1) L (.int (-x) :: S) h Q) : rx_W V d kc ks M pc L (.int x :: S) h Q :=
  fun p e R s m args below meth c H locs cells slots ls F G hl => lv_ineg F.1 F.2.1 hd (k p e R s m args below meth c H locs cells slots ls F G hl)
theorem rx_ladd {x y : Int64} (hd : decode M.2.1 pc = .ok (.ladd, 1)) (k : rx_W V d kc ks M (pc + 1) L (.long (x + y) :: S) h Q) : rx_W V d kc ks M pc L (.long y :: .long x :: S) h Q :=
  fun p e R s m args below meth c H locs cells slots ls F G hl => lv_ladd F.1 F.2.1 hd (k p e R s m args below meth c H locs cells slots ls F G hl)
theorem rx_lsub {x y : Int64} (hd : decode M.2.1 pc = .ok (.lsub, 1)) (k : rx_W V d kc ks M (pc + 1) L (.long (x - y) :: S) h Q) : rx_W V d kc ks M pc L (.long y :: .long x :: S) h Q :=
  fun p e R s m args below meth c H locs cells slots ls F G hl => lv_lsub F.1 F.2.1 hd (k p e R s m args below meth c H locs cells slots ls F G hl)
theorem rx_lmul {x y : Int64} (hd : decode M.2.1 pc = .ok (.lmul, 1)) (k : rx_W V d kc ks M (pc + 1) L (.long (x * y) :: S) h Q) : rx_W V d kc ks M pc L (.long y :: .long x :: S) h Q :=
  fun p e R s m args below meth c H locs cells slots ls F G hl => lv_lmul F.1 F.2.1 hd (k p e R s m args below meth c H locs cells slots ls F G hl)
theorem rx_land {x y : Int64} (hd : decode M.2.1 pc = .ok (.land, 1)) (k : rx_W V d kc ks M (pc + 1) L (.long (x &&& y) :: S) h Q) : rx_W V d kc ks M pc L (.long y :: .long x :: S) h Q :=
  fun p e R s m args below meth c H locs cells slots ls F G hl => lv_land F.1 F.2.1 hd (k p e R s m args below meth c H locs cells slots ls F G hl)
theorem rx_lor {x y : Int64} (hd : decode M.2.1 pc = .ok (.lor, 1)) (k : rx_W V d kc ks M (pc + 1) L (.long (x ||| y) :: S) h Q) : rx_W V d kc ks M pc L (.long y :: .long x :: S) h Q :=
  fun p e R s m args below meth c H locs cells slots ls F G hl => lv_lor F.1 F.2.1 hd (k p e R s m args below meth c H locs cells slots ls F G hl)
theorem rx_i2l {x : Int32} (hd : decode M.2.1 pc = .ok (.i2l, 1)) (k : rx_W V d kc ks M (pc + 1) L (.long x.toInt64 :: S) h Q) : rx_W V d kc ks M pc L (.int x :: S) h Q :=
  fun p e R s m args below meth c H locs cells slots ls F G hl => lv_i2l F.1 F.2.1 hd rfl (k p e R s m args below meth c H locs cells slots ls F G hl)
theorem rx_l2i {x : Int64} (hd : decode M.2.1 pc = .ok (.l2i, 1)) (k : rx_W V d kc ks M (pc + 1) L (.int x.toInt32 :: S) h Q) : rx_W V d kc ks M pc L (.long x :: S) h Q :=
  fun p e R s m args below meth c H locs cells slots ls F G hl => lv_l2i F.1 F.2.1 hd rfl (k p e R s m args below meth c H locs cells slots ls F G hl)
theorem rx_lshl {x : Int64} {y : Int32} (hd : decode M.2.1 pc = .ok (.lshl, 1)) (k : rx_W V d kc ks M (pc + 1) L (.long (x <<< (y.toInt64 &&& 63)) :: S) h Q) : rx_W V d kc ks M pc L (.int y :: .long x :: S) h Q :=
  fun p e R s m args below meth c H locs cells slots ls F G hl => lv_lshl F.1 F.2.1 hd rfl (k p e R s m args below meth c H locs cells slots ls F G hl)
theorem rx_lcmp {x y : Int64} (hd : decode M.2.1 pc = .ok (.lcmp, 1)) (k : rx_W V d kc ks M (pc + 1) L (.int (lg_cmp x y) :: S) h Q) : rx_W V d kc ks M pc L (.long y :: .long x :: S) h Q :=
  fun p e R s m args below meth c H locs cells slots ls F G hl => W.lcmp F.1 F.2.1 hd (k p e R s m args below meth c H locs cells slots ls F G hl)
theorem rx_dup {a : Value} (hd : decode M.2.1 pc = .ok (.dup, 1)) (ha : a.category = 1) (k : rx_W V d kc ks M (pc + 1) L (a :: a :: S) h Q) : rx_W V d kc ks M pc L (a :: S) h Q :=
  fun p e R s m args below meth c H locs cells slots ls F G hl => lv_dup F.1 F.2.1 hd ha (k p e R s m args below meth c H locs cells slots ls F G hl)
theorem rx_pop {a : Value} (hd : decode M.2.1 pc = .ok (.pop, 1)) (ha : a.category = 1) (k : rx_W V d kc ks M (pc + 1) L (S) h Q) : rx_W V d kc ks M pc L (a :: S) h Q :=
  fun p e R s m args below meth c H locs cells slots ls F G hl => lv_pop F.1 F.2.1 hd ha (k p e R s m args below meth c H locs cells slots ls F G hl)
theorem rx_dup_x1 {a b : Value} (hd : decode M.2.1 pc = .ok (.dup_x1, 1)) (ha : a.category = 1) (hb : b.category = 1) (k : rx_W V d kc ks M (pc + 1) L (a :: b :: a :: S) h Q) : rx_W V d kc ks M pc L (a :: b :: S) h Q :=
  fun p e R s m args below meth c H locs cells slots ls F G hl => lv_dup_x1 F.1 F.2.1 hd ha hb (k p e R s m args below meth c H locs cells slots ls F G hl)
theorem rx_dup2 {a b : Value} (hd : decode M.2.1 pc = .ok (.dup2, 1)) (ha : a.category = 1) (hb : b.category = 1) (k : rx_W V d kc ks M (pc + 1) L (a :: b :: a :: b :: S) h Q) : rx_W V d kc ks M pc L (a :: b :: S) h Q :=
  fun p e R s m args below meth c H locs cells slots ls F G hl => lv_dup2_11 F.1 F.2.1 hd ha hb (k p e R s m args below meth c H locs cells slots ls F G hl)
theorem rx_if_eq {x : Int32} {off : Int} {tgt : Nat} (hd : decode M.2.1 pc = .ok (.ifCond .eq off, 3)) (ht : (pc : Int) + off = (tgt : Int)) (kt : x = 0 → rx_W V d kc ks M tgt L S h Q) (kf : ¬ x = 0 → rx_W V d kc ks M (pc + 3) L S h Q) : rx_W V d kc ks M pc L (.int x :: S) h Q :=
  fun p e R s m args below meth c H locs cells slots ls F G hl => lv_if_eq F.1 F.2.1 hd ht (fun q => kt q p e R s m args below meth c H locs cells slots ls F G hl) (fun q => kf q p e R s m args below meth c H locs cells slots ls F G hl)
theorem rx_icmp_eq {x y : Int32} {off : Int} {tgt : Nat} (hd : decode M.2.1 pc = .ok (.if_icmp .eq off, 3)) (ht : (pc : Int) + off = (tgt : Int)) (kt : x = y → rx_W V d kc ks M tgt L S h Q) (kf : ¬ x = y → rx_W V d kc ks M (pc + 3) L S h Q) : rx_W V d kc ks M pc L (.int y :: .int x :: S) h Q :=
  fun p e R s m args below meth c H locs cells slots ls F G hl => lv_icmp_eq F.1 F.2.1 hd ht (fun q => kt q p e R s m args below meth c H locs cells slots ls F G hl) (fun q => kf q p e R s m args below meth c H locs cells slots ls F G hl)
theorem rx_if_ne {x : Int32} {off : Int} {tgt : Nat} (hd : decode M.2.1 pc = .ok (.ifCond .ne off, 3)) (ht : (pc : Int) + off = (tgt : Int)) (kt : ¬ x = 0 → rx_W V d kc ks M tgt L S h Q) (kf : x = 0 → rx_W V d kc ks M (pc + 3) L S h Q) : rx_W V d kc ks M pc L (.int x :: S) h Q :=
  fun p e R s m args below meth c H locs cells slots ls F G hl => lv_if_ne F.1 F.2.1 hd ht (fun q => kt q p e R s m args below meth c H locs cells slots ls F G hl) (fun q => kf q p e R s m args below meth c H locs cells slots ls F G hl)
theorem rx_icmp_ne {x y : Int32} {off : Int} {tgt : Nat} (hd : decode M.2.1 pc = .ok (.if_icmp .ne off, 3)) (ht : (pc : Int) + off = (tgt : Int)) (kt : ¬ x = y → rx_W V d kc ks M tgt L S h Q) (kf : x = y → rx_W V d kc ks M (pc + 3) L S h Q) : rx_W V d kc ks M pc L (.int y :: .int x :: S) h Q :=
  fun p e R s m args below meth c H locs cells slots ls F G hl => lv_icmp_ne F.1 F.2.1 hd ht (fun q => kt q p e R s m args below meth c H locs cells slots ls F G hl) (fun q => kf q p e R s m args below meth c H locs cells slots ls F G hl)
theorem rx_if_lt {x : Int32} {off : Int} {tgt : Nat} (hd : decode M.2.1 pc = .ok (.ifCond .lt off, 3)) (ht : (pc : Int) + off = (tgt : Int)) (kt : x < 0 → rx_W V d kc ks M tgt L S h Q) (kf : ¬ x < 0 → rx_W V d kc ks M (pc + 3) L S h Q) : rx_W V d kc ks M pc L (.int x :: S) h Q :=
  fun p e R s m args below meth c H locs cells slots ls F G hl => lv_if_lt F.1 F.2.1 hd ht (fun q => kt q p e R s m args below meth c H locs cells slots ls F G hl) (fun q => kf q p e R s m args below meth c H locs cells slots ls F G hl)
theorem rx_icmp_lt {x y : Int32} {off : Int} {tgt : Nat} (hd : decode M.2.1 pc = .ok (.if_icmp .lt off, 3)) (ht : (pc : Int) + off = (tgt : Int)) (kt : x < y → rx_W V d kc ks M tgt L S h Q) (kf : ¬ x < y → rx_W V d kc ks M (pc + 3) L S h Q) : rx_W V d kc ks M pc L (.int y :: .int x :: S) h Q :=
  fun p e R s m args below meth c H locs cells slots ls F G hl => lv_icmp_lt F.1 F.2.1 hd ht (fun q => kt q p e R s m args below meth c H locs cells slots ls F G hl) (fun q => kf q p e R s m args below meth c H locs cells slots ls F G hl)
theorem rx_if_ge {x : Int32} {off : Int} {tgt : Nat} (hd : decode M.2.1 pc = .ok (.ifCond .ge off, 3)) (ht : (pc : Int) + off = (tgt : Int)) (kt : 0 ≤ x → rx_W V d kc ks M tgt L S h Q) (kf : ¬ 0 ≤ x → rx_W V d kc ks M (pc + 3) L S h Q) : rx_W V d kc ks M pc L (.int x :: S) h Q :=
  fun p e R s m args below meth c H locs cells slots ls F G hl => lv_if_ge F.1 F.2.1 hd ht (fun q => kt q p e R s m args below meth c H locs cells slots ls F G hl) (fun q => kf q p e R s m args below meth c H locs cells slots ls F G hl)
theorem rx_icmp_ge {x y : Int32} {off : Int} {tgt : Nat} (hd : decode M.2.1 pc = .ok (.if_icmp .ge off, 3)) (ht : (pc : Int) + off = (tgt : Int)) (kt : y ≤ x → rx_W V d kc ks M tgt L S h Q) (kf : ¬ y ≤ x → rx_W V d kc ks M (pc + 3) L S h Q) : rx_W V d kc ks M pc L (.int y :: .int x :: S) h Q :=
  fun p e R s m args below meth c H locs cells slots ls F G hl => lv_icmp_ge F.1 F.2.1 hd ht (fun q => kt q p e R s m args below meth c H locs cells slots ls F G hl) (fun q => kf q p e R s m args below meth c H locs cells slots ls F G hl)
theorem rx_if_gt {x : Int32} {off : Int} {tgt : Nat} (hd : decode M.2.1 pc = .ok (.ifCond .gt off, 3)) (ht : (pc : Int) + off = (tgt : Int)) (kt : 0 < x → rx_W V d kc ks M tgt L S h Q) (kf : ¬ 0 < x → rx_W V d kc ks M (pc + 3) L S h Q) : rx_W V d kc ks M pc L (.int x :: S) h Q :=
  fun p e R s m args below meth c H locs cells slots ls F G hl => lv_if_gt F.1 F.2.1 hd ht (fun q => kt q p e R s m args below meth c H locs cells slots ls F G hl) (fun q => kf q p e R s m args below meth c H locs cells slots ls F G hl)
theorem rx_icmp_gt {x y : Int32} {off : Int} {tgt : Nat} (hd : decode M.2.1 pc = .ok (.if_icmp .gt off, 3)) (ht : (pc : Int) + off = (tgt : Int)) (kt : y < x → rx_W V d kc ks M tgt L S h Q) (kf : ¬ y < x → rx_W V d kc ks M (pc + 3) L S h Q) : rx_W V d kc ks M pc L (.int y :: .int x :: S) h Q :=
  fun p e R s m args below meth c H locs cells slots ls F G hl => lv_icmp_gt F.1 F.2.1 hd ht (fun q => kt q p e R s m args below meth c H locs cells slots ls F G hl) (fun q => kf q p e R s m args below meth c H locs cells slots ls F G hl)
theorem rx_if_le {x : Int32} {off : Int} {tgt : Nat} (hd : decode M.2.1 pc = .ok (.ifCond .le off, 3)) (ht : (pc : Int) + off = (tgt : Int)) (kt : x ≤ 0 → rx_W V d kc ks M tgt L S h Q) (kf : ¬ x ≤ 0 → rx_W V d kc ks M (pc + 3) L S h Q) : rx_W V d kc ks M pc L (.int x :: S) h Q :=
  fun p e R s m args below meth c H locs cells slots ls F G hl => lv_if_le F.1 F.2.1 hd ht (fun q => kt q p e R s m args below meth c H locs cells slots ls F G hl) (fun q => kf q p e R s m args below meth c H locs cells slots ls F G hl)
theorem rx_icmp_le {x y : Int32} {off : Int} {tgt : Nat} (hd : decode M.2.1 pc = .ok (.if_icmp .le off, 3)) (ht : (pc : Int) + off = (tgt : Int)) (kt : x ≤ y → rx_W V d kc ks M tgt L S h Q) (kf : ¬ x ≤ y → rx_W V d kc ks M (pc + 3) L S h Q) : rx_W V d kc ks M pc L (.int y :: .int x :: S) h Q :=
  fun p e R s m args below meth c H locs cells slots ls F G hl => lv_icmp_le F.1 F.2.1 hd ht (fun q => kt q p e R s m args below meth c H locs cells slots ls F G hl) (fun q => kf q p e R s m args below meth c H locs cells slots ls F G hl)
theorem rx_acmp_eq {rx ry : Option Nat} {off : Int} {tgt : Nat} (hd : decode M.2.1 pc = .ok (.if_acmp .eq off, 3)) (ht : (pc : Int) + off = (tgt : Int)) (kt : rx = ry → rx_W V d kc ks M tgt L S h Q) (kf : ¬ rx = ry → rx_W V d kc ks M (pc + 3) L S h Q) : rx_W V d kc ks M pc L (va_rf ry :: va_rf rx :: S) h Q :=
  fun p e R s m args below meth c H locs cells slots ls F G hl => lv_acmp_eq F.1 F.2.1 hd ht (fun q => kt q p e R s m args below meth c H locs cells slots ls F G hl) (fun q => kf q p e R s m args below meth c H locs cells slots ls F G hl)
theorem rx_acmp_ne {rx ry : Option Nat} {off : Int} {tgt : Nat} (hd : decode M.2.1 pc = .ok (.if_acmp .ne off, 3)) (ht : (pc : Int) + off = (tgt : Int)) (kt : ¬ rx = ry → rx_W V d kc ks M tgt L S h Q) (kf : rx = ry → rx_W V d kc ks M (pc + 3) L S h Q) : rx_W V d kc ks M pc L (va_rf ry :: va_rf rx :: S) h Q :=
  fun p e R s m args below meth c H locs cells slots ls F G hl => lv_acmp_ne F.1 F.2.1 hd ht (fun q => kt q p e R s m args below meth c H locs cells slots ls F G hl) (fun q => kf q p e R s m args below meth c H locs cells slots ls F G hl)
theorem rx_ifnull {x : Option Nat} {off : Int} {tgt : Nat} (hd : decode M.2.1 pc = .ok (.ifnull off, 3)) (ht : (pc : Int) + off = (tgt : Int)) (kt : x = none → rx_W V d kc ks M tgt L S h Q) (kf : ∀ a, x = some a → rx_W V d kc ks M (pc + 3) L S h Q) : rx_W V d kc ks M pc L (va_rf x :: S) h Q :=
  fun p e R s m args below meth c H locs cells slots ls F G hl => by
    cases x with
    | none => exact lv_ifnullN F.1 F.2.1 hd ht (kt rfl p e R s m args below meth c H locs cells slots ls F G hl)
    | some a => exact lv_ifnull F.1 F.2.1 hd (kf a rfl p e R s m args below meth c H locs cells slots ls F G hl)
theorem rx_ifnonnull {x : Option Nat} {off : Int} {tgt : Nat} (hd : decode M.2.1 pc = .ok (.ifnonnull off, 3)) (ht : (pc : Int) + off = (tgt : Int)) (kt : ∀ a, x = some a → rx_W V d kc ks M tgt L S h Q) (kf : x = none → rx_W V d kc ks M (pc + 3) L S h Q) : rx_W V d kc ks M pc L (va_rf x :: S) h Q :=
  fun p e R s m args below meth c H locs cells slots ls F G hl => by
    cases x with
    | none => exact lv_ifnonnullN F.1 F.2.1 hd (kf rfl p e R s m args below meth c H locs cells slots ls F G hl)
    | some a => exact lv_ifnonnull F.1 F.2.1 hd ht (kt a rfl p e R s m args below meth c H locs cells slots ls F G hl)
theorem rx_goto {off : Int} {tgt : Nat} (hd : decode M.2.1 pc = .ok (.goto off, 3)) (ht : (pc : Int) + off = (tgt : Int)) (k : rx_W V d kc ks M tgt L S h Q) : rx_W V d kc ks M pc L S h Q :=
  fun p e R s m args below meth c H locs cells slots ls F G hl => lv_goto F.1 F.2.1 hd ht (k p e R s m args below meth c H locs cells slots ls F G hl)
theorem rx_tableOut {dflt lo hi : Int} {offs : Array Int} {len : Nat} {x : Int32} {tgt : Nat} (hd : decode M.2.1 pc = .ok (.tableswitch dflt lo hi offs, len)) (hx : x.toInt < lo ∨ hi < x.toInt) (ht : (pc : Int) + dflt = (tgt : Int)) (k : rx_W V d kc ks M tgt L S h Q) : rx_W V d kc ks M pc L (.int x :: S) h Q :=
  fun p e R s m args below meth c H locs cells slots ls F G hl => lv_tableOut F.1 F.2.1 hd hx ht (k p e R s m args below meth c H locs cells slots ls F G hl)
theorem rx_tableIn {dflt lo hi : Int} {offs : Array Int} {len : Nat} {x : Int32} {off : Int} {tgt : Nat} (hd : decode M.2.1 pc = .ok (.tableswitch dflt lo hi offs, len)) (h1 : ¬ x.toInt < lo) (h2 : ¬ hi < x.toInt) (ho : offs[(x.toInt - lo).toNat]? = some off) (ht : (pc : Int) + off = (tgt : Int)) (k : rx_W V d kc ks M tgt L S h Q) : rx_W V d kc ks M pc L (.int x :: S) h Q :=
  fun p e R s m args below meth c H locs cells slots ls F G hl => lv_tableIn F.1 F.2.1 hd h1 h2 ho ht (k p e R s m args below meth c H locs cells slots ls F G hl)
end RX
