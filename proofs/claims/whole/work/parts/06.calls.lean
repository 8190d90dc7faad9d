/-! contracts and calls -/
def rx_P (V : rx_V) (As : List Value) (h : List va_E) : Array Value → State → Prop := fun a U => a = As.toArray ∧ U.heap.size = V.2.1 + h.length ∧ va_P V.2.2.1 rx_cl (rx_ws V.2.1 h) U.heap ∧ va_K V.2.2.1 rx_cl (rx_tys V) U ∧ rx_E V U
def rx_rm (d kc ks : Nat) : Room := { frames := d, cells := kc, slots := ks, locals := 32 * d }
def rx_Met (V : rx_V) (d kc ks : Nat) (y : rx_T) (As : List Value) (h : List va_E) (Q : rx_R → List va_E → Prop) : Prop :=
  MetFree V.1 y.1 (headSpec rx_tbl (rx_rm d kc ks)) (rx_P V As h) (fun _ _ _ _ _ => True) (fun _ st o t => rx_O V st Q o t ∧ rx_N V st t kc ks)
/-- a method from its entry on -/
def rx_C (V : rx_V) (d kc ks : Nat) (y : rx_T) (As : List Value) (h : List va_E) (Q : rx_R → List va_E → Prop) : Prop := rx_W V d kc ks y 0 (rx_en y.2.2.1 As) [] h Q
theorem rx_met {V : rx_V} {d kc ks : Nat} {y : rx_T} {As : List Value} {h : List va_E} {Q : rx_R → List va_E → Prop} (hy : plainName y.1.cls = true) (hsl : (lg_sl As).length ≤ y.2.2.1) (hh : y.2.2.2.2 = []) (hw : Cond.code y.1 y.2.1 y.2.2.1 y.2.2.2.1 ∈ rx_tbl) (K : rx_C V d kc ks y As h Q) : rx_Met V d kc ks y As h Q := by
  refine MetFree.of_bodyS (code := y.2.1) (maxLocals := y.2.2.1) (ret := y.2.2.2.1) hy ?_ ?_
  · intro args s m hp hn
    obtain ⟨meth, c, h1, h2, h3, h4, h5, h6, -, -⟩ := Cond.code_spec hn (atoms_spec (ws := rx_tbl) hp _ hw)
    exact ⟨meth, c, h1, h2, h3, h4, h5, h6⟩
  · intro p e s m args below meth c s₁ B hml hP _
    obtain ⟨rfl, hsz, hPw, hK, hE⟩ := hP
    have hh0 : s₁.heap = s.heap := by rw [B.state]; rfl
    have hts := atoms_spec (ws := rx_tbl) B.pre
    have hne : c.exceptionTable.toList = [] := by
      have h9 := B.noHandlers (hts _ hw)
      cases h8 : c.exceptionTable.toList with
      | nil => rfl
      | cons x xs =>
        have h7 : c.exceptionTable.size = 0 := by simpa using h9
        have h6 : c.exceptionTable.toList.length = 0 := by rw [Array.length_toList]; exact h7
        rw [h8] at h6
        cases h6
    have F : rx_F d y p (headSpec rx_tbl (rx_rm d kc ks)).room s m As.toArray meth c :=
      ⟨B.exec, B.bytes, hml, B.returns, B.notSynchronized, findClass_of_methodNamed B.named, hts, (name_of_methodNamed B.named B.method).1, Nat.le_refl _, Nat.le_refl _, by rw [hne, hh]; rfl⟩
    have G : rx_G V kc ks (headSpec rx_tbl (rx_rm d kc ks)).room s h s.heap [] 0 0 :=
      ⟨hsz, hPw, va_S.rf, hK, hE, by rw [hsz]; exact Nat.le_add_right _ _, by rw [Nat.zero_add]; exact Nat.le_refl _, by rw [Nat.zero_add]; exact Nat.le_refl _⟩
    obtain ⟨t, a1, o, b1, b2, b3, b4⟩ := K p e _ s m As.toArray below meth c s.heap [] 0 0 _ F G (rx_entry hsl) s₁ hh0 (Stand.of_body B)
    rw [Nat.zero_add, Nat.zero_add] at b4
    refine ⟨t, o, ?_, b1, b2, b3, b4⟩
    rw [lg_entry_eq]
    exact a1
theorem rx_metW {V : rx_V} {d kc ks : Nat} {y : rx_T} {As : List Value} {h : List va_E} {Q : rx_R → List va_E → Prop} (hy : plainName y.1.cls = true) (hsl : (lg_sl As).length ≤ y.2.2.1) (hw : Cond.codeWith y.1 y.2.1 y.2.2.1 y.2.2.2.1 y.2.2.2.2 ∈ rx_tbl) (K : rx_C V d kc ks y As h Q) : rx_Met V d kc ks y As h Q := by
  refine MetFree.of_bodyS (code := y.2.1) (maxLocals := y.2.2.1) (ret := y.2.2.2.1) hy ?_ ?_
  · intro args s m hp hn
    obtain ⟨m9, meth, c, hn9, h1, h2, h3, h4, -, h5, h6, -⟩ := Cond.codeWith_spec (atoms_spec (ws := rx_tbl) hp _ hw)
    cases hn.symm.trans hn9
    exact ⟨meth, c, h1, h2, h3, h4, h5, h6⟩
  · intro p e s m args below meth c s₁ B hml hP _
    obtain ⟨rfl, hsz, hPw, hK, hE⟩ := hP
    have hh0 : s₁.heap = s.heap := by rw [B.state]; rfl
    have hts := atoms_spec (ws := rx_tbl) B.pre
    have hne : c.exceptionTable.toList.map (fun x => (x.startPc, x.endPc, x.handlerPc, x.catchType)) = y.2.2.2.2 := by
      obtain ⟨m9, meth9, c9, hn9, h1, h2, -, -, h5, -, -, -⟩ := Cond.codeWith_spec (hts _ hw)
      cases B.named.symm.trans hn9
      cases B.method.symm.trans h1
      cases (Stand.of_body B).code.symm.trans h2
      exact h5
    have F : rx_F d y p (headSpec rx_tbl (rx_rm d kc ks)).room s m As.toArray meth c :=
      ⟨B.exec, B.bytes, hml, B.returns, B.notSynchronized, findClass_of_methodNamed B.named, hts, (name_of_methodNamed B.named B.method).1, Nat.le_refl _, Nat.le_refl _, hne⟩
    have G : rx_G V kc ks (headSpec rx_tbl (rx_rm d kc ks)).room s h s.heap [] 0 0 :=
      ⟨hsz, hPw, va_S.rf, hK, hE, by rw [hsz]; exact Nat.le_add_right _ _, by rw [Nat.zero_add]; exact Nat.le_refl _, by rw [Nat.zero_add]; exact Nat.le_refl _⟩
    obtain ⟨t, a1, o, b1, b2, b3, b4⟩ := K p e _ s m As.toArray below meth c s.heap [] 0 0 _ F G (rx_entry hsl) s₁ hh0 (Stand.of_body B)
    rw [Nat.zero_add, Nat.zero_add] at b4
    refine ⟨t, o, ?_, b1, b2, b3, b4⟩
    rw [lg_entry_eq]
    exact a1
section RXB
variable {V : rx_V} {p : Program} {e : Env} {R : Room} {s : State} {m : MethodId} {args : Array Value} {below : List Frame} {meth : Method} {c : Code} {T : State} {locs : List Loc} {cells slots : Nat}
/-- the callee comes back, with its answer, or with an exception over the caller's frame -/
theorem rx_back {d mc ms : Nat} {y : rx_T} {As : List Value} {h : List va_E} {Q1 : rx_R → List va_E → Prop} (hM : rx_Met V d mc ms y As h Q1)
    (X : Stand p V.1 e R s m args below meth c T locs cells slots) {g : JFrame} {ig : Instr} {len : Nat} {mk : MethodId} (hg : g.method = m) (hsize : g.locals.size = c.maxLocals) (hdg : decode c.code g.pc = .ok (ig, len)) (hW : 2 * g.monitorRoom + (g.stack.map fun v => v.category).sum ≤ 8)
    (hn : T.methodNamed? y.1 = some mk) (hfr : d + 1 ≤ R.frames) (hlo : 8 + (y.2.2.1 + 11) + 32 * d ≤ R.locals) (hws : ∀ w ∈ rx_tbl, w.before As.toArray T = true)
    (hcode : Cond.code y.1 y.2.1 y.2.2.1 y.2.2.2.1 ∈ rx_tbl ∨ Cond.codeWith y.1 y.2.1 y.2.2.1 y.2.2.2.1 y.2.2.2.2 ∈ rx_tbl) (hinit : (Cond.initialized y.1.cls).before As.toArray T = true) (hc : cells + mc ≤ R.cells) (hs : slots + ms ≤ R.slots)
    (hP : rx_P V As h As.toArray (T.calling g mk As.toArray)) :
    ∃ (o : Outcome) (t T' : State) (L : List Loc), Stand p V.1 e R s m args below meth c T' (locs ++ L) (cells + mc) (slots + ms) ∧ (∀ q ∈ L, rx_A V q.base) ∧ T'.heap = t.heap ∧ T'.vm = t.vm ∧ rx_O V (T.calling g mk As.toArray) Q1 o t ∧
      (∀ v, o = .returned v → Steps p.tables e below (doInvoke e (T.setTop g) [] mk As.toArray).1 (T'.setTop { g with pc := g.pc + len, stack := v.toList ++ g.stack })) ∧
      (∀ q, o = .threw q → Steps p.tables e below (doInvoke e (T.setTop g) [] mk As.toArray).1 ((T'.setTop g).pushFrame (.throwing q))) := by
  obtain ⟨methY, cY, hmY, hcY, hlY⟩ : ∃ methY cY, T.vm.method? mk = some methY ∧ methY.code = some cY ∧ cY.maxLocals = y.2.2.1 := by
    rcases hcode with hcode | hcode
    · obtain ⟨methY, cY, hmY, hcY, -, hlY, -, -, -, -⟩ := Cond.code_spec hn (hws _ hcode)
      exact ⟨methY, cY, hmY, hcY, hlY⟩
    · obtain ⟨m9, methY, cY, hn9, hmY, hcY, -, hlY, -⟩ := Cond.codeWith_spec (hws _ hcode)
      cases hn.symm.trans hn9
      exact ⟨methY, cY, hmY, hcY, hlY⟩
  obtain ⟨kY, hkY, -⟩ := className_of_methodNamed hn
  have hinitY : kY.init = .initialized := Cond.initialized_spec (findClass_of_methodNamed hn) hkY hinit
  have hat : At T g.method c below := by rw [hg]; exact X.here
  have happ : (headSpec rx_tbl (rx_rm d mc ms)).appliesLoose y.1 e.platform (T.calling g mk As.toArray) = true :=
    Spec.appliesLoose_calling (g := g) hat hdg hn hkY hinitY
      (X.room_calling (g := g) (R' := (headSpec rx_tbl (rx_rm d mc ms)).room) hsize hmY hcY hfr (by rw [hlY]; show _ + _ + 32 * d ≤ _; omega) hc hs) (atoms_intro hws)
  obtain ⟨mid, hmid⟩ := hat.above
  have hfr9 : (T.setTop g).frames = (.java g :: mid) ++ below := by rw [State.frames_setTop' g hat.top, hmid]; rfl
  obtain ⟨o, t, hsteps, -, hend, hq⟩ := Steps.callFree hM p X.admits X.cas X.clock (acts := []) hfr9 happ hP trivial
  have hq' : rx_O V (T.calling g mk As.toArray) Q1 o t ∧ rx_N V (T.calling g mk As.toArray) t mc ms := hq
  obtain ⟨hO, L, hW₂, hsm, hL⟩ := hq'
  rw [State.frames_setTop' g hat.top] at hend
  obtain ⟨g₀, hg0⟩ := Option.isSome_iff_exists.mp hat.top
  obtain ⟨r, hr⟩ := State.topJava?_eq_some.mp hg0
  have hr' : (({ T with heap := t.heap, slotsUsed := t.slotsUsed } : State).setVm t.vm).frames = .java g₀ :: r := hr
  obtain ⟨e2, q2, q3, q4, q5, q6⟩ := id hsm
  have e3 : t = ({ (T.calling g mk As.toArray).setFrames t.frames with heap := t.heap, slotsUsed := t.slotsUsed } : State).setVm t.vm := by
    have h9 : t = ({ t with vm := (T.calling g mk As.toArray).vm } : State).setVm t.vm := rfl
    rw [e2] at h9
    exact h9
  have hW' : T.WarmedH t.vm := hW₂
  have hsame : T.sameButNew ({ T with heap := t.heap, slotsUsed := t.slotsUsed } : State) L mc ms := by
    refine ⟨?_, q2, q3, q4, q5, q6⟩
    obtain ⟨th, hth, -⟩ := State.frames_cons hr
    show ({ T with heap := t.heap, slotsUsed := t.slotsUsed } : State) = { T.setFrames T.frames with heap := t.heap, slotsUsed := t.slotsUsed }
    rw [State.setFrames_self hth]
  have X' : Stand p V.1 e R s m args below meth c (({ T with heap := t.heap, slotsUsed := t.slotsUsed } : State).setVm t.vm) (locs ++ L) (cells + mc) (slots + ms) :=
    ⟨X.admits, X.cas, X.clock, X.frames, X.room, X.hears, X.method, X.code, (X.here.setHeapUsed t.heap t.slotsUsed).setVm hW'.alike, X.tail, State.WarmedH.trans X.warmed hW', X.limits, X.bytes, X.same.trans (hsame.setVm s.vm)⟩
  refine ⟨o, t, _, L, X', hL, rfl, rfl, hO, fun v hv => ?_, fun q hv => ?_⟩
  · subst hv
    obtain ⟨c₂, i₂, len₂, hc₂, hd₂, hf₂⟩ := hend
    have hcc : c₂ = c := by
      have h1 : t.code? g.method = T.code? g.method := by
        rw [State.code?_eq, State.code?_eq, hW'.alike.method?]
      exact Option.some.inj (hc₂.symm.trans (h1.trans hat.code))
    subst hcc
    have hlen : len₂ = len := by rw [hdg] at hd₂; cases hd₂; rfl
    subst hlen
    have hs₂ : t = (({ T with heap := t.heap, slotsUsed := t.slotsUsed } : State).setVm t.vm).setTop { g with pc := g.pc + len₂, stack := v.toList ++ g.stack } := by
      refine e3.trans ?_
      rw [hf₂, State.calling_eq hat.top, State.setFrames_setFrames, State.setTop_of_frames _ hr', hr]
      rfl
    rw [← hs₂]
    exact hsteps
  · subst hv
    have hf₂ : t.frames = .throwing q :: .java g :: T.frames.tail := hend
    have hs₂ : t = ((({ T with heap := t.heap, slotsUsed := t.slotsUsed } : State).setVm t.vm).setTop g).pushFrame (.throwing q) := by
      refine e3.trans ?_
      rw [hf₂, State.calling_eq hat.top, State.setFrames_setFrames, State.pushFrame, State.frames_setTop _ hr', State.setTop_of_frames _ hr', State.setFrames_setFrames, hr]
      rfl
    rw [← hs₂]
    exact hsteps
end RXB
/-- an exception of the kind E lies over the frame at pc -/
def rx_Y (V : rx_V) (d kc ks : Nat) (M : rx_T) (pc : Nat) (L : rx_L) (h : List va_E) (Q : rx_R → List va_E → Prop) (E : Nat) : Prop :=
  ∀ (p : Program) (e : Env) (R : Room) (s : State) (m : MethodId) (args : Array Value) (below : List Frame) (meth : Method) (c : Code) (H : Heap) (locs : List Loc) (cells slots : Nat) (ls : Array Slot) (rest : List Value) (q : Nat) (ce : Cell),
    rx_F d M p R s m args meth c → rx_G V kc ks R s h H locs cells slots → rx_lv ls M.2.2.1 L → H[q]? = some ce → ce.vm = .none → s.vm.findClass (rx_exn E) = some ce.cls →
    ∀ T : State, T.heap = H → Stand p V.1 e R s m args below meth c T locs cells slots → ∃ t, Steps p.tables e below ((T.setTop (F0 m pc ls rest)).pushFrame (.throwing q)) t ∧ rx_Z V below s (cells + kc) (slots + ks) Q t
theorem rx_out {V : rx_V} {d kc ks : Nat} {M : rx_T} {pc : Nat} {L : rx_L} {h : List va_E} {Q : rx_R → List va_E → Prop} {E : Nat} (hh : M.2.2.2.2 = []) (hq : Q (.inr E) h) : rx_Y V d kc ks M pc L h Q E := by
  intro p e R s m args below meth c H locs cells slots ls rest q ce F G hl hce hcv hcl T hT X
  have hne : c.exceptionTable.toList = [] := by
    have h9 := F.2.2.2.2.2.2.2.2.2.2
    rw [hh] at h9
    exact List.map_eq_nil_iff.mp h9
  obtain ⟨st1, hrun, hend, hW, hsm⟩ := X.leaveThrown q (g := F0 m pc ls rest) rfl rfl rfl (by rw [hne]; intro x hx; cases hx) (hlocks := F.2.2.2.2.1)
  refine ⟨_, st1, .threw q, hrun, hend, ⟨.inr E, h, hq, ?_, ?_, G.2.2.1.F hT, q, ce, rfl, ?_, hcv, hcl⟩, locs, hW, hsm.mono (Nat.le_add_right _ _) (Nat.le_add_right _ _), G.2.2.1.2.2⟩
  · show T.heap.size = _
    rw [hT]; exact G.1
  · show va_P _ _ _ T.heap
    rw [hT]; exact G.2.1
  · show T.heap[q]? = _
    rw [hT]; exact hce
section RXK
variable {V : rx_V} {d kc ks mc ms : Nat} {M y : rx_T} {pc : Nat} {L : rx_L} {S Sr As : List Value} {h : List va_E} {Q Q1 : rx_R → List va_E → Prop} {index : Nat}
/-- what every call needs of the callee -/
def rx_cl9 (y : rx_T) (n k : Nat) : Prop := plainName y.1.cls = true ∧ (y.1.cls ≠ "java/lang/invoke/MethodHandle" ∧ y.1.cls ≠ "java/lang/invoke/VarHandle") ∧ (parseMethodDescriptor y.1.desc).map (fun t => t.parameters.length) = some n ∧ Cond.code y.1 y.2.1 y.2.2.1 y.2.2.2.1 ∈ rx_tbl ∧ Cond.initialized y.1.cls ∈ rx_tbl ∧ y.2.2.2.2 = [] ∧ k ≤ y.2.2.1 ∧ y.2.2.1 ≤ 13
theorem rx_pre {R : Room} {s : State} {H : Heap} {locs : List Loc} {cells slots : Nat} {T : State} {kc ks : Nat} (G : rx_G V kc ks R s h H locs cells slots) (hT : T.heap = H) (hW : s.WarmedH T.vm) (g : JFrame) (mk : MethodId) (As : List Value) : rx_P V As h As.toArray (T.calling g mk As.toArray) := by
  obtain ⟨g1, g2, g3, g4, g5, g6, -, -⟩ := G
  refine ⟨rfl, ?_, ?_, va_K.moved hW.alike g4, rx_E_moved (U := T.calling g mk As.toArray) hW ?_ (fun q hq => ?_) g5⟩
  · show T.heap.size = _
    rw [hT]; exact g1
  · show va_P _ _ _ T.heap
    rw [hT]; exact g2
  · show V.2.1 ≤ T.heap.size
    rw [hT, g1]; exact Nat.le_add_right _ _
  · show T.heap[q]? = _
    rw [hT]
    exact g3.2.1 q (Nat.lt_of_lt_of_le hq g6) (fun z => Nat.not_le.mpr hq z)
theorem rx_after {R : Room} {s : State} {H : Heap} {locs L9 : List Loc} {cells slots : Nat} {T' t st : State} {h1 : List va_E} (G : rx_G V (mc + kc) (ms + ks) R s h H locs cells slots) (hst : st.heap = H) (hz : t.heap.size = V.2.1 + h1.length) (hP : va_P V.2.2.1 rx_cl (rx_ws V.2.1 h1) t.heap) (hF : va_F (rx_A V) st t) (hL : ∀ q ∈ L9, rx_A V q.base) (ht : T'.heap = t.heap) :
    rx_G V kc ks R s h1 T'.heap (locs ++ L9) (cells + mc) (slots + ms) := by
  obtain ⟨g1, g2, g3, g4, g5, g6, g7, g8⟩ := G
  obtain ⟨f1, f2⟩ := hF
  rw [hst] at f1 f2
  rw [ht]
  refine ⟨hz, hP, ⟨Nat.le_trans g3.1 f1, fun q h1 h2 => (f2 q (Nat.lt_of_lt_of_le h1 g3.1) h2).trans (g3.2.1 q h1 h2), fun q hq => ?_⟩, g4, g5, g6, by omega, by omega⟩
  rcases List.mem_append.mp hq with hq | hq
  · exact g3.2.2 q hq
  · exact hL q hq
/-- the end of every call row -/
theorem rx_goonM {p : Program} {e : Env} {R : Room} {s : State} {m : MethodId} {args : Array Value} {below : List Frame} {meth : Method} {c : Code} {H : Heap} {locs : List Loc} {cells slots : Nat} {ls : Array Slot} {T : State} {vm₁ : Vm} {mk : MethodId} {ig : Instr} {Av : List Value}
    (F : rx_F (d + 1) M p R s m args meth c) (G : rx_G V (mc + kc) (ms + ks) R s h H locs cells slots) (hl : rx_lv ls M.2.2.1 L) (hT : T.heap = H) (c4 : Cond.code y.1 y.2.1 y.2.2.1 y.2.2.2.1 ∈ rx_tbl ∨ Cond.codeWith y.1 y.2.1 y.2.2.1 y.2.2.2.1 y.2.2.2.2 ∈ rx_tbl) (c5 : Cond.initialized y.1.cls ∈ rx_tbl) (c8 : y.2.2.1 ≤ 13) (hw8 : (Sr.map fun v => v.category).sum ≤ 8) (hd : decode M.2.1 pc = .ok (ig, 3))
    (hM : rx_Met V d mc ms y Av h Q1) (kx : ∀ E h1, Q1 (.inr E) h1 → rx_Y V (d + 1) kc ks M pc L h1 Q E) (k : ∀ v h1, Q1 (.inl v) h1 → rx_W V (d + 1) kc ks M (pc + 3) L (v.toList ++ Sr) h1 Q)
    (X₁ : Stand p V.1 e R s m args below meth c (T.setVm vm₁) locs cells slots) (hn : s.methodNamed? y.1 = some mk) :
    ∃ t, Steps p.tables e below (doInvoke e ((T.setVm vm₁).setTop (F0 m pc ls Sr)) [] mk Av.toArray).1 t ∧ rx_Z V below s (cells + (mc + kc)) (slots + (ms + ks)) Q t := by
  have hd1 := F.2.2.2.2.2.2.2.2.1
  have hd2 := F.2.2.2.2.2.2.2.2.2.1
  have hts := F.2.2.2.2.2.2.1
  obtain ⟨-, -, -, -, -, -, g7, g8⟩ := id G
  obtain ⟨o, t, T', L9, X', hL9, e1, e2, ⟨r, h1, hQ, hz, hP, hF, hr⟩, s1, s2⟩ := rx_back hM X₁ (g := F0 m pc ls Sr) (ig := ig) (len := 3) rfl (by rw [F.2.2.1]; exact hl.1) (by rw [F.2.1]; exact hd) (lv_room hw8) (X₁.named hn) hd1 (by omega)
    (fun w hw => rx_at X₁.warmed (rx_good hw) (hts w hw)) c4 (rx_at X₁.warmed (rx_good c5) (hts _ c5)) (by omega) (by omega) (rx_pre (T := T.setVm vm₁) G hT X₁.warmed _ _ _)
  have G1 := rx_after G (st := (T.setVm vm₁).calling (F0 m pc ls Sr) mk Av.toArray) hT hz hP hF hL9 e1
  rw [← Nat.add_assoc, ← Nat.add_assoc]
  cases r with
  | inl v =>
    obtain ⟨u, a1, b1⟩ := k v h1 hQ p e R s m args below meth c T'.heap (locs ++ L9) (cells + mc) (slots + ms) ls F G1 hl T' rfl X'
    exact ⟨u, (s1 v hr).trans a1, b1⟩
  | inr E =>
    obtain ⟨a, ce, ho, hce, hcv, hcls⟩ := hr
    have hcls' : s.vm.findClass (rx_exn E) = some ce.cls := by
      have h9 : (T.setVm vm₁).vm.findClass (rx_exn E) = some ce.cls := hcls
      rw [X₁.warmed.alike.findClass] at h9
      exact h9
    obtain ⟨u, a1, b1⟩ := kx E h1 hQ p e R s m args below meth c T'.heap (locs ++ L9) (cells + mc) (slots + ms) ls Sr a ce F G1 hl (by rw [e1]; exact hce) hcv hcls' T' rfl X'
    exact ⟨u, (s2 a ho).trans a1, b1⟩
theorem rx_goon {p : Program} {e : Env} {R : Room} {s : State} {m : MethodId} {args : Array Value} {below : List Frame} {meth : Method} {c : Code} {H : Heap} {locs : List Loc} {cells slots : Nat} {ls : Array Slot} {T : State} {vm₁ : Vm} {mk : MethodId} {ig : Instr} {Av : List Value}
    (F : rx_F (d + 1) M p R s m args meth c) (G : rx_G V (mc + kc) (ms + ks) R s h H locs cells slots) (hl : rx_lv ls M.2.2.1 L) (hT : T.heap = H) (hcl : rx_cl9 y As.length (lg_sl Av).length) (hw8 : (Sr.map fun v => v.category).sum ≤ 8) (hd : decode M.2.1 pc = .ok (ig, 3))
    (K : rx_C V d mc ms y Av h Q1) (kx : ∀ E h1, Q1 (.inr E) h1 → rx_Y V (d + 1) kc ks M pc L h1 Q E) (k : ∀ v h1, Q1 (.inl v) h1 → rx_W V (d + 1) kc ks M (pc + 3) L (v.toList ++ Sr) h1 Q)
    (X₁ : Stand p V.1 e R s m args below meth c (T.setVm vm₁) locs cells slots) (hn : s.methodNamed? y.1 = some mk) :
    ∃ t, Steps p.tables e below (doInvoke e ((T.setVm vm₁).setTop (F0 m pc ls Sr)) [] mk Av.toArray).1 t ∧ rx_Z V below s (cells + (mc + kc)) (slots + (ms + ks)) Q t :=
  rx_goonM F G hl hT (Or.inl hcl.2.2.2.1) hcl.2.2.2.2.1 hcl.2.2.2.2.2.2.2 hw8 hd (rx_met hcl.1 hcl.2.2.2.2.2.2.1 hcl.2.2.2.2.2.1 hcl.2.2.2.1 K) kx k X₁ hn
theorem rx_len {As : List Value} {n : Nat} {y : rx_T} (h : (parseMethodDescriptor y.1.desc).map (fun t => t.parameters.length) = some As.length) (sig : MethodDescriptor) (hs : parseMethodDescriptor y.1.desc = some sig) : As.length = sig.parameters.length := by
  rw [hs] at h
  exact (Option.some.inj h).symm
/-- invokevirtual on an object of the class with the number ci -/
theorem rx_callV {b ci : Nat} {fs : List Value} {r : vw_C} (hd : decode M.2.1 pc = .ok (.invokevirtual index, 3)) (hc : rx_cl[ci]? = some r) (w1 : Cond.methodLink M.1.cls index y.1 ∈ rx_tbl) (w2 : Cond.instanceMethod y.1 ∈ rx_tbl) (w3 : Cond.selects r.1 y.1 y.1 ∈ rx_tbl) (hcl : rx_cl9 y As.length (lg_sl (.ref b :: As)).length)
    (he : rx_rd V h b = some (.inr (ci, fs))) (hS : S = As.reverse ++ .ref b :: Sr) (hw8 : (Sr.map fun v => v.category).sum ≤ 8)
    (K : rx_C V d mc ms y (.ref b :: As) h Q1) (kx : ∀ E h1, Q1 (.inr E) h1 → rx_Y V (d + 1) kc ks M pc L h1 Q E) (k : ∀ v h1, Q1 (.inl v) h1 → rx_W V (d + 1) kc ks M (pc + 3) L (v.toList ++ Sr) h1 Q) : rx_W V (d + 1) (mc + kc) (ms + ks) M pc L S h Q := by
  intro p e R s m args below meth c H locs cells slots ls F G hl T hT X
  subst hS
  have hts := F.2.2.2.2.2.2.1
  obtain ⟨q, rfl, hq, -⟩ := rx_rd_at he
  obtain ⟨cellB, hcB, hoB, hclB⟩ := va_recv G.2.2.2.1 G.2.1 hc (rx_ws_of hq)
  obtain ⟨mk, methM, hnamed, hmethM, hstM, habM⟩ := Cond.instanceMethod_spec (hts _ w2)
  obtain ⟨methM', cM, hmethM', -, -, -, -, -, -, hsigM⟩ := Cond.code_spec hnamed (hts _ hcl.2.2.2.1)
  cases hmethM.symm.trans hmethM'
  obtain ⟨c2, r2, m2, q1, q2, q3, q4, kP, hkP, hkPi⟩ := Cond.selects_spec (hts _ w3)
  cases hclB.symm.trans q1
  cases (State.methodFound?_of_named hnamed hcl.2.1).symm.trans q2
  cases hnamed.symm.trans q3
  have hselP : selectMethod e.platform s.vm cellB.cls mk = .method mk := by rw [Launch.admits_selectMethod X.admits]; exact q4
  obtain ⟨vm₁, X₁, hstep₁⟩ := X.invokevirtual F.1 F.2.2.2.2.2.1 (hts _ w1) hnamed hmethM hstM hkP hkPi hcl.2.1 (a := V.2.1 + q) (cell := cellB) (by rw [hT]; exact hcB)
    (fun z h => by rw [h] at hoB; cases hoB) hselP hmethM habM hkP hkPi (g := F0 m pc ls (As.reverse ++ .ref (V.2.1 + q) :: Sr)) rfl (argsL := As) (rest := Sr) (rx_len (n := 0) hcl.2.2.1 _ hsigM) rfl (by rw [F.2.1]; exact hd)
  obtain ⟨t, a1, b1⟩ := rx_goon F G hl hT hcl hw8 hd K kx k X₁ hnamed
  exact ⟨t, hstep₁ _ fun acts => by rw [doInvoke_state]; exact a1, b1⟩
theorem rx_callS (hd : decode M.2.1 pc = .ok (.invokestatic index, 3)) (w1 : Cond.methodLink M.1.cls index y.1 ∈ rx_tbl) (w2 : Cond.static y.1 ∈ rx_tbl) (hcl : rx_cl9 y As.length (lg_sl As).length)
    (hS : S = As.reverse ++ Sr) (hw8 : (Sr.map fun v => v.category).sum ≤ 8)
    (K : rx_C V d mc ms y As h Q1) (kx : ∀ E h1, Q1 (.inr E) h1 → rx_Y V (d + 1) kc ks M pc L h1 Q E) (k : ∀ v h1, Q1 (.inl v) h1 → rx_W V (d + 1) kc ks M (pc + 3) L (v.toList ++ Sr) h1 Q) : rx_W V (d + 1) (mc + kc) (ms + ks) M pc L S h Q := by
  intro p e R s m args below meth c H locs cells slots ls F G hl T hT X
  subst hS
  have hts := F.2.2.2.2.2.2.1
  obtain ⟨mk, hnamed⟩ := Cond.code_named (hts _ hcl.2.2.2.1)
  obtain ⟨methM, cM, hmethM, -, -, -, -, -, -, hsigM⟩ := Cond.code_spec hnamed (hts _ hcl.2.2.2.1)
  have hstatic : methM.isStatic = true := Cond.static_spec hnamed hmethM (hts _ w2)
  obtain ⟨kP, hkP, -⟩ := className_of_methodNamed hnamed
  have hinitP : kP.init = .initialized := Cond.initialized_spec (findClass_of_methodNamed hnamed) hkP (hts _ hcl.2.2.2.2.1)
  obtain ⟨vm₁, X₁, hstep₁⟩ := X.invokestatic F.1 F.2.2.2.2.2.1 (hts _ w1) hnamed hmethM hstatic hkP hinitP hcl.2.1 (g := F0 m pc ls (As.reverse ++ Sr)) rfl (argsL := As) (rest := Sr) (rx_len (n := 0) hcl.2.2.1 _ hsigM) rfl (by rw [F.2.1]; exact hd)
  obtain ⟨t, a1, b1⟩ := rx_goon F G hl hT hcl hw8 hd K kx k X₁ hnamed
  exact ⟨t, hstep₁ _ fun acts => by rw [doInvoke_state]; exact a1, b1⟩
theorem rx_callSW (hd : decode M.2.1 pc = .ok (.invokestatic index, 3)) (w1 : Cond.methodLink M.1.cls index y.1 ∈ rx_tbl) (w2 : Cond.static y.1 ∈ rx_tbl) (w4 : Cond.codeWith y.1 y.2.1 y.2.2.1 y.2.2.2.1 y.2.2.2.2 ∈ rx_tbl) (w5 : Cond.initialized y.1.cls ∈ rx_tbl)
    (hy : plainName y.1.cls = true) (hy2 : y.1.cls ≠ "java/lang/invoke/MethodHandle" ∧ y.1.cls ≠ "java/lang/invoke/VarHandle") (hlen : (parseMethodDescriptor y.1.desc).map (fun t => t.parameters.length) = some As.length) (hsl : (lg_sl As).length ≤ y.2.2.1) (h13 : y.2.2.1 ≤ 13)
    (hS : S = As.reverse ++ Sr) (hw8 : (Sr.map fun v => v.category).sum ≤ 8)
    (K : rx_C V d mc ms y As h Q1) (kx : ∀ E h1, Q1 (.inr E) h1 → rx_Y V (d + 1) kc ks M pc L h1 Q E) (k : ∀ v h1, Q1 (.inl v) h1 → rx_W V (d + 1) kc ks M (pc + 3) L (v.toList ++ Sr) h1 Q) : rx_W V (d + 1) (mc + kc) (ms + ks) M pc L S h Q := by
  intro p e R s m args below meth c H locs cells slots ls F G hl T hT X
  subst hS
  have hts := F.2.2.2.2.2.2.1
  obtain ⟨mk, methM, cM, hnamed, hmethM, -, -, -, -, -, -, hsigM⟩ := Cond.codeWith_spec (hts _ w4)
  have hstatic : methM.isStatic = true := Cond.static_spec hnamed hmethM (hts _ w2)
  obtain ⟨kP, hkP, -⟩ := className_of_methodNamed hnamed
  have hinitP : kP.init = .initialized := Cond.initialized_spec (findClass_of_methodNamed hnamed) hkP (hts _ w5)
  obtain ⟨vm₁, X₁, hstep₁⟩ := X.invokestatic F.1 F.2.2.2.2.2.1 (hts _ w1) hnamed hmethM hstatic hkP hinitP hy2 (g := F0 m pc ls (As.reverse ++ Sr)) rfl (argsL := As) (rest := Sr) (rx_len (n := 0) hlen _ hsigM) rfl (by rw [F.2.1]; exact hd)
  obtain ⟨t, a1, b1⟩ := rx_goonM F G hl hT (Or.inr w4) w5 h13 hw8 hd (rx_metW hy hsl w4 K) kx k X₁ hnamed
  exact ⟨t, hstep₁ _ fun acts => by rw [doInvoke_state]; exact a1, b1⟩
theorem rx_callI {b : Nat} (hd : decode M.2.1 pc = .ok (.invokespecial index, 3)) (w1 : Cond.methodLink M.1.cls index y.1 ∈ rx_tbl) (w2 : Cond.instanceMethod y.1 ∈ rx_tbl) (hy1 : y.1.name = "<init>") (hret : y.2.2.2.1 = none) (hcl : rx_cl9 y As.length (lg_sl (.ref b :: As)).length)
    (hS : S = As.reverse ++ .ref b :: Sr) (hw8 : (Sr.map fun v => v.category).sum ≤ 8)
    (K : rx_C V d mc ms y (.ref b :: As) h Q1) (kx : ∀ E h1, Q1 (.inr E) h1 → rx_Y V (d + 1) kc ks M pc L h1 Q E) (k : ∀ v h1, Q1 (.inl v) h1 → rx_W V (d + 1) kc ks M (pc + 3) L (v.toList ++ Sr) h1 Q) : rx_W V (d + 1) (mc + kc) (ms + ks) M pc L S h Q := by
  intro p e R s m args below meth c H locs cells slots ls F G hl T hT X
  subst hS
  have hts := F.2.2.2.2.2.2.1
  have hpl : e.platform.magicAccessors = ({} : Platform).magicAccessors := by rw [X.admits.platform]
  have hcode := hts _ hcl.2.2.2.1
  rw [hret] at hcode
  obtain ⟨mk, methM, cM, kP, vm₁, hnamed, hmethM, hcodeM, -, hlocalsM, -, hkP, -, hW₁, hstep₁⟩ := Steps.initColdArgs (e := e) X.here F.1 X.warmed hpl F.2.2.2.2.2.1 hy1 hcl.2.1 (hts _ w1) (hts _ w2) hcode (f := F0 m pc ls (As.reverse ++ .ref b :: Sr)) rfl (rx_len (n := 0) hcl.2.2.1) rfl (by rw [F.2.1]; exact hd)
  obtain ⟨t, a1, b1⟩ := rx_goon F G hl hT hcl hw8 hd K kx k (X.noted hW₁) hnamed
  exact ⟨t, hstep₁ _ fun acts => by rw [doInvoke_state]; exact a1, b1⟩
theorem rx_callSN {host : String} (hd : decode M.2.1 pc = .ok (.invokestatic index, 3)) (w1 : Cond.methodLinkNest M.1.cls index y.1 host ∈ rx_tbl) (w2 : Cond.static y.1 ∈ rx_tbl) (hcl : rx_cl9 y As.length (lg_sl As).length)
    (hS : S = As.reverse ++ Sr) (hw8 : (Sr.map fun v => v.category).sum ≤ 8)
    (K : rx_C V d mc ms y As h Q1) (kx : ∀ E h1, Q1 (.inr E) h1 → rx_Y V (d + 1) kc ks M pc L h1 Q E) (k : ∀ v h1, Q1 (.inl v) h1 → rx_W V (d + 1) kc ks M (pc + 3) L (v.toList ++ Sr) h1 Q) : rx_W V (d + 1) (mc + kc) (ms + ks) M pc L S h Q := by
  intro p e R s m args below meth c H locs cells slots ls F G hl T hT X
  subst hS
  have hts := F.2.2.2.2.2.2.1
  obtain ⟨mk, hnamed⟩ := Cond.code_named (hts _ hcl.2.2.2.1)
  obtain ⟨methM, cM, hmethM, -, -, -, -, -, -, hsigM⟩ := Cond.code_spec hnamed (hts _ hcl.2.2.2.1)
  have hstatic : methM.isStatic = true := Cond.static_spec hnamed hmethM (hts _ w2)
  obtain ⟨kP, hkP, -⟩ := className_of_methodNamed hnamed
  have hinitP : kP.init = .initialized := Cond.initialized_spec (findClass_of_methodNamed hnamed) hkP (hts _ hcl.2.2.2.2.1)
  obtain ⟨vm₁, X₁, hstep₁⟩ := X.invokestaticNest F.1 F.2.2.2.2.2.1 (hts _ w1) hnamed hmethM hstatic hkP hinitP hcl.2.1 (g := F0 m pc ls (As.reverse ++ Sr)) rfl (argsL := As) (rest := Sr) (rx_len (n := 0) hcl.2.2.1 _ hsigM) rfl (by rw [F.2.1]; exact hd)
  obtain ⟨t, a1, b1⟩ := rx_goon F G hl hT hcl hw8 hd K kx k X₁ hnamed
  exact ⟨t, hstep₁ _ fun acts => by rw [doInvoke_state]; exact a1, b1⟩
theorem rx_callIN {b : Nat} {host : String} (hd : decode M.2.1 pc = .ok (.invokespecial index, 3)) (w1 : Cond.methodLinkNest M.1.cls index y.1 host ∈ rx_tbl) (w2 : Cond.instanceMethod y.1 ∈ rx_tbl) (hy1 : y.1.name = "<init>") (hret : y.2.2.2.1 = none) (hcl : rx_cl9 y As.length (lg_sl (.ref b :: As)).length)
    (hS : S = As.reverse ++ .ref b :: Sr) (hw8 : (Sr.map fun v => v.category).sum ≤ 8)
    (K : rx_C V d mc ms y (.ref b :: As) h Q1) (kx : ∀ E h1, Q1 (.inr E) h1 → rx_Y V (d + 1) kc ks M pc L h1 Q E) (k : ∀ v h1, Q1 (.inl v) h1 → rx_W V (d + 1) kc ks M (pc + 3) L (v.toList ++ Sr) h1 Q) : rx_W V (d + 1) (mc + kc) (ms + ks) M pc L S h Q := by
  intro p e R s m args below meth c H locs cells slots ls F G hl T hT X
  subst hS
  have hts := F.2.2.2.2.2.2.1
  have hpl : e.platform.magicAccessors = ({} : Platform).magicAccessors := by rw [X.admits.platform]
  have hcode := hts _ hcl.2.2.2.1
  rw [hret] at hcode
  obtain ⟨mk, methM, cM, kP, vm₁, hnamed, hmethM, hcodeM, -, hlocalsM, -, hkP, -, hW₁, hstep₁⟩ := Steps.initColdArgsNest (e := e) X.here F.1 X.warmed hpl F.2.2.2.2.2.1 hy1 hcl.2.1 (hts _ w1) (hts _ w2) hcode (f := F0 m pc ls (As.reverse ++ .ref b :: Sr)) rfl (rx_len (n := 0) hcl.2.2.1) rfl (by rw [F.2.1]; exact hd)
  obtain ⟨t, a1, b1⟩ := rx_goon F G hl hT hcl hw8 hd K kx k (X.noted hW₁) hnamed
  exact ⟨t, hstep₁ _ fun acts => by rw [doInvoke_state]; exact a1, b1⟩
end RXK
