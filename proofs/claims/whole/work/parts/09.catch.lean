/-! an exception is caught by the method that it lies over: the catch types linked or not yet -/
theorem rx_goC {Q : Handler → Pre} {K : CtlPost} {e : Env} {d : Bool} {acts : List Action} {s : State} {f : JFrame} {a : Addr} {x : ExceptionTableEntry} {t : List ExceptionTableEntry} {c : ClassId} {cell : Cell} {b : Bool} (hx : covers x f.pc = true) (h0 : x.catchType ≠ 0)
    (hl : s.vm.ClassLinks e.platform f.method.cls x.catchType c) (hcell : s.heap[a]? = some cell) (hobj : ∀ k, cell.vm ≠ .statics k) (hk : ∃ k, s.vm.classes[cell.cls]? = some k) (hc : ∃ k, s.vm.classes[c]? = some k) (hb : s.vm.assignable cell.cls c = b) :
    wp (findHandler.go f a (x :: t)) Q K e d acts s ↔ (if b = true then Q (.found x.handlerPc) d acts (s.setVm (s.vm.noted f.method.cls x.catchType (.cls c))) else wp (findHandler.go f a t) Q K e d acts (s.setVm (s.vm.noted f.method.cls x.catchType (.cls c)))) := by
  simp only [covers] at hx
  obtain ⟨ha, ht⟩ := (resolveClass_links e.toSetting hl).op (op := VmOp.resolveClass f.method.cls x.catchType) rfl
  have hal : s.vm.Alike (s.vm.noted f.method.cls x.catchType (.cls c)) := (Vm.Alike.refl s.vm).noted _ _ _
  obtain ⟨k1, hk1⟩ := hk
  obtain ⟨k2, hk2⟩ := hc
  obtain ⟨k1', hk1', -⟩ := hal.2.2 _ _ hk1
  obtain ⟨k2', hk2', -⟩ := hal.2.2 _ _ hk2
  have hb' : (s.vm.noted f.method.cls x.catchType (.cls c)).assignable cell.cls c = b := by rw [hal.assignable]; exact hb
  cases b <;> simp [findHandler.go, hx, h0, ha, ht, hcell, hobj, hk1', hk2', hb', VmOp.dirties, VmOp.acts]
/-- a row that is passed, a row that catches -/
def rx_pas (pl : Platform) (s : State) (dc : ClassId) (pc : Nat) (th : ClassId) (y : ExceptionTableEntry) : Prop := covers y pc = false ∨ (y.catchType ≠ 0 ∧ ∃ c, s.vm.ClassLinks pl dc y.catchType c ∧ s.vm.assignable th c = false)
theorem rx_goT {e : Env} {s : State} {f : JFrame} {a : Addr} {cell : Cell} (hobj : ∀ k, cell.vm ≠ .statics k) (hk0 : ∃ k, s.vm.classes[cell.cls]? = some k) (x : ExceptionTableEntry) (rest : List ExceptionTableEntry) (hx : covers x f.pc = true) (h0 : x.catchType ≠ 0)
    {c : ClassId} (hl : s.vm.ClassLinks e.platform f.method.cls x.catchType c) (hfit : s.vm.assignable cell.cls c = true) :
    ∀ (pre : List ExceptionTableEntry) (T : State), s.WarmedH T.vm → T.heap[a]? = some cell → (∀ y ∈ pre, rx_pas e.platform s f.method.cls f.pc cell.cls y) →
      ∃ vm', s.WarmedH vm' ∧ ∀ (Q : Handler → Pre) (K : CtlPost) (d : Bool) (acts : List Action), wp (findHandler.go f a (pre ++ x :: rest)) Q K e d acts T ↔ Q (.found x.handlerPc) d acts (T.setVm vm') := by
  obtain ⟨k0, hk0⟩ := hk0
  intro pre
  induction pre with
  | nil =>
    intro T hW hcell _
    obtain ⟨k0', hk0', -⟩ := hW.alike.2.2 _ _ hk0
    obtain ⟨dk, _, _, kt, hd, _, _, _, _, hkt, _, hopen⟩ := hl.here
    obtain ⟨kt', hkt', -⟩ := hW.alike.2.2 _ _ hkt
    refine ⟨_, hW.noted hd hopen (State.rightAt_cls hl), fun Q K d acts => ?_⟩
    rw [List.nil_append, rx_goC (b := true) hx h0 (hW.classLinks hl) hcell hobj ⟨k0', hk0'⟩ ⟨kt', hkt'⟩ (by rw [hW.alike.assignable]; exact hfit), if_pos rfl]
  | cons y ys ih =>
    intro T hW hcell hpass
    obtain ⟨k0', hk0', -⟩ := hW.alike.2.2 _ _ hk0
    have hrest : ∀ z ∈ ys, rx_pas e.platform s f.method.cls f.pc cell.cls z := fun z hz => hpass z (List.mem_cons_of_mem _ hz)
    by_cases hcov : covers y f.pc = true
    · rcases hpass y List.mem_cons_self with h | ⟨hy0, cy, hly, hno⟩
      · rw [h] at hcov; cases hcov
      · obtain ⟨dk, _, _, kt, hd, _, _, _, _, hkt, _, hopen⟩ := hly.here
        obtain ⟨kt', hkt', -⟩ := hW.alike.2.2 _ _ hkt
        obtain ⟨vm', hW', hq⟩ := ih (T.setVm (T.vm.noted f.method.cls y.catchType (.cls cy))) (hW.noted hd hopen (State.rightAt_cls hly)) hcell hrest
        refine ⟨vm', hW', fun Q K d acts => ?_⟩
        rw [List.cons_append, rx_goC (b := false) hcov hy0 (hW.classLinks hly) hcell hobj ⟨k0', hk0'⟩ ⟨kt', hkt'⟩ (by rw [hW.alike.assignable]; exact hno), if_neg (by decide)]
        exact hq Q K d acts
    · obtain ⟨vm', hW', hq⟩ := ih T hW hcell hrest
      refine ⟨vm', hW', fun Q K d acts => ?_⟩
      rw [List.cons_append, W.findHandler_go_skip (by simpa using hcov)]
      exact hq Q K d acts
theorem rx_stepC {e : Env} {s : State} {a : Addr} {f : JFrame} {r : List Frame} {pc : Nat} {vm' : Vm} (hfind : ∀ (Q : Handler → Pre) (K : CtlPost) (d : Bool) (acts : List Action), wp (findHandler f a) Q K e d acts s ↔ Q (.found pc) d acts (s.setVm vm')) :
    (stepThrowing e s a (.java f :: r)).Is ((s.setVm vm').setFrames (.java { f with pc := pc, stack := [.ref a] } :: r)) [] := by
  simp only [stepThrowing, searchFrame, vmDo]
  generalize hr : Sem.go _ e false [] s = res
  obtain ⟨as, rfl, ha⟩ := Sem.eq_ok_of hr (a := Handler.found pc) (s' := s.setVm vm') (acts' := []) (by simp [hfind _ _ _ _])
  exact ⟨rfl, ha⟩
theorem rx_fvf (u : State) (vm' : Vm) (A B : List Frame) : ((u.setFrames A).setVm vm').setFrames B = (u.setVm vm').setFrames B := by
  have h1 : (u.setFrames A).setVm vm' = (u.setVm vm').setFrames A := rfl
  rw [h1, State.setFrames_setFrames]
theorem rx_caught {tb : Tables} {e : Env} {s target : State} {g : JFrame} {c : Code} {below : List Frame} {a : Addr} (h : At s g.method c below) {pc : Nat} {vm' : Vm}
    (hfind : ∀ (Q : Handler → Pre) (K : CtlPost) (d : Bool) (acts : List Action), wp (findHandler g a) Q K e d acts ((s.setTop g).pushFrame (.throwing a)) ↔ Q (.found pc) d acts (((s.setTop g).pushFrame (.throwing a)).setVm vm'))
    (hrest : Steps tb e below ((s.setVm vm').setTop { g with pc := pc, stack := [.ref a] }) target) : Steps tb e below ((s.setTop g).pushFrame (.throwing a)) target := by
  obtain ⟨hgo, hw⟩ := h.throwing a
  refine Steps.head hgo hw ?_
  rw [stepThread_throwing (frames_entered h.top _), (rx_stepC (s := (s.setTop g).pushFrame (.throwing a)) hfind).1]
  obtain ⟨g₀, hg⟩ := Option.isSome_iff_exists.mp h.top
  obtain ⟨r, hr⟩ := State.topJava?_eq_some.mp hg
  have hr' : (s.setVm vm').frames = .java g₀ :: r := hr
  rw [State.setTop_of_frames _ hr'] at hrest
  rw [hr, List.tail_cons, State.pushFrame, rx_fvf, State.setTop_of_frames _ hr, rx_fvf]
  exact hrest
theorem rx_casx {E : Nat} (hE : E < 3) : Cond.castable (rx_exn E) (rx_exn E) ∈ rx_tbl := by
  match E, hE with
  | 0, _ => exact rx_in 388 (by decide +kernel) (by decide +kernel)
  | 1, _ => exact rx_in 465 (by decide +kernel) (by decide +kernel)
  | 2, _ => exact rx_in 619 (by decide +kernel) (by decide +kernel)
/-- the exception E is caught by the row x of the method's table -/
theorem rx_catch {V : rx_V} {d kc ks : Nat} {M : rx_T} {pc : Nat} {L : rx_L} {h : List va_E} {Q : rx_R → List va_E → Prop} {E : Nat} (pre : List (Nat × Nat × Nat × Nat)) (x : Nat × Nat × Nat × Nat) (suf : List (Nat × Nat × Nat × Nat)) (hE : E < 3) (hsplit : M.2.2.2.2 = pre ++ x :: suf)
    (hpass : ∀ z ∈ pre, z.2.2.2 ≠ 0 ∧ ∃ E', E' < 3 ∧ E ≠ E' ∧ Cond.classLink M.1.cls z.2.2.2 (rx_exn E') ∈ rx_tbl) (hx1 : x.1 ≤ pc) (hx2 : pc < x.2.1) (h0 : x.2.2.2 ≠ 0) (hlink : Cond.classLink M.1.cls x.2.2.2 (rx_exn E) ∈ rx_tbl)
    (k : ∀ q, rx_W V d kc ks M x.2.2.1 L [.ref q] h Q) : rx_Y V d kc ks M pc L h Q E := by
  intro p e R s m args below meth c H locs cells slots ls rest q ce F G hl hce hcv hcl T hT X
  have hts := F.2.2.2.2.2.2.1
  have hown := F.2.2.2.2.2.1
  have hpl : e.platform.magicAccessors = ({} : Platform).magicAccessors := by rw [X.admits.platform]
  have htab := F.2.2.2.2.2.2.2.2.2.2
  rw [hsplit] at htab
  obtain ⟨P, Z, hPZ, hP, hZ⟩ := List.map_eq_append_iff.mp htab
  obtain ⟨x', S', rfl, hx', hS'⟩ := List.map_eq_cons_iff.mp hZ
  obtain ⟨c5, hc5, hcl5⟩ := Cond.classLink_spec hown (hts _ hlink) e.platform hpl
  obtain ⟨c3, c4, hc3, hc4, hasg⟩ := Cond.castable_spec (hts _ (rx_casx hE))
  cases Option.some.inj (hc3.symm.trans hcl)
  cases Option.some.inj (hc4.symm.trans hc5)
  subst hx'
  obtain ⟨vm', hW', hq⟩ := rx_goT (e := e) (s := s) (f := F0 m pc ls rest) (a := q) (cell := ce) (fun k h9 => by rw [hcv] at h9; cases h9) (by obtain ⟨k9, h9, -⟩ := Vm.findClass_spec hcl; exact ⟨k9, h9⟩) x' S'
    (by simp only [covers, Bool.and_eq_true, decide_eq_true_eq]; exact ⟨hx1, hx2⟩) h0 hcl5 hasg P ((T.setTop (F0 m pc ls rest)).pushFrame (.throwing q)) X.warmed (by show T.heap[q]? = _; rw [hT]; exact hce)
    (fun y hy => by
      have hy' : (y.startPc, y.endPc, y.handlerPc, y.catchType) ∈ pre := by rw [← hP]; exact List.mem_map.mpr ⟨y, hy, rfl⟩
      obtain ⟨hz0, E', hE', hne, hlk⟩ := hpass _ hy'
      obtain ⟨c6, hc6, hcl6⟩ := Cond.classLink_spec hown (hts _ hlk) e.platform hpl
      obtain ⟨a8, b8, h1, h2, h3⟩ := G.2.2.2.2.1.2.2.2.2.2.2.2 E E' hE hE' hne
      cases Option.some.inj (h1.symm.trans hcl)
      cases Option.some.inj (h2.symm.trans hc6)
      exact Or.inr ⟨hz0, _, hcl6, h3⟩)
  obtain ⟨t, a1, b1⟩ := k q p e R s m args below meth c H locs cells slots ls F G hl (T.setVm vm') hT (X.noted hW')
  refine ⟨t, rx_caught (g := F0 m pc ls rest) X.here (vm' := vm') (pc := x'.handlerPc) (fun Q9 K9 d9 acts9 => ?_) a1, b1⟩
  rw [W.findHandler_eq X.method' X.code, hPZ]
  exact hq Q9 K9 d9 acts9
