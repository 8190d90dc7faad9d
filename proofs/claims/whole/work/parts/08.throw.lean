/-! 'throw new E("text")' -/
theorem rx_isRef {C n d : String} {v : Value} {A : Nat → Prop} {s : State} {args : Array Value} (h : va_Z C n d v A s s.heap) (hv : v.isRef = true) : (Cond.isRef (.static C n d)).before args s = true := by
  obtain ⟨cf, kf, fi, f, a, cell, h1, h2, h3, h4, h5, h6, h7, -⟩ := h
  have he : (Term.static C n d).eval args s none [] s = some v := by
    simp [Term.eval, State.fieldNamed?, h1, h2, h4, h5, h6, h7]
  simp only [Cond.before, Cond.holds, Cond.value, he]
  cases v <;> simp_all [Value.isRef]
theorem rx_isRefq {C n d : String} {A : Nat → Prop} {s : State} {args : Array Value} (h : va_Zq C n d A s s.heap) : (Cond.isRef (.static C n d)).before args s = true := by
  rcases h with h | ⟨t, h⟩
  · exact rx_isRef h rfl
  · exact rx_isRef h rfl
/-- a Stand, seen anew from the state that it has come to -/
theorem rx_rebase {p : Program} {l : Launch} {e : Env} {R R' : Room} {s T : State} {m : MethodId} {args : Array Value} {below : List Frame} {meth : Method} {c : Code} {locs : List Loc} {cells slots : Nat}
    (X : Stand p l e R s m args below meth c T locs cells slots) (hf : R'.frames ≤ R.frames) (hl : R'.locals ≤ R.locals) (hc : cells + R'.cells ≤ R.cells) (hs : slots + R'.slots ≤ R.slots) :
    Stand p l e R' ((T.setVm s.vm).setFrames (.invoking m args :: below)) m args below meth c T [] 0 0 := by
  have htop : (T.setVm s.vm).topJava?.isSome := X.here.top
  have hF : ((T.setVm s.vm).setFrames (.invoking m args :: below)).frames = .invoking m args :: below := State.frames_setFrames _ (State.cur_lt_of_top htop)
  obtain ⟨g₀, hg0⟩ := Option.isSome_iff_exists.mp htop
  obtain ⟨r, hr⟩ := State.topJava?_eq_some.mp hg0
  obtain ⟨th, hth, -⟩ := State.frames_cons hr
  refine ⟨X.admits, X.cas, X.clock, hF, ?_, X.hears, X.method, X.code, X.here, X.tail, X.warmed, ?_, ?_, ?_⟩
  · have h := X.room
    have hU : ((T.setVm s.vm).setFrames (.invoking m args :: below)).localsInUse = s.localsInUse := by
      rw [State.localsInUse_invoking hF (meth := meth) (c := c) X.method X.code, State.localsInUse_invoking X.frames X.method X.code]
    have hlim : e.platform.stackLimits (T.setVm s.vm).me = e.platform.stackLimits s.me := X.limits
    have hbytes : (T.setVm s.vm).me.stackBytes = s.me.stackBytes := X.bytes
    have hz := X.heapSize
    have hu := X.used
    simp only [State.hasRoom, Bool.and_eq_true, decide_eq_true_eq] at h ⊢
    obtain ⟨⟨⟨⟨h1, h2, h3, h4, h5, h6⟩, h7⟩, h8⟩, h9⟩ := h
    rw [X.frames, List.length_cons] at h2 h3
    simp only [hF, hU, List.length_cons, State.stackLimits_setFrames, State.stackBytes_setFrames, hlim, hbytes]
    refine ⟨⟨⟨⟨by omega, by omega, by omega, by omega, by omega, h6⟩, ?_⟩, ?_⟩, X.book⟩
    · show T.heap.size + R'.cells ≤ e.platform.maxCells
      omega
    · show T.slotsUsed + R'.slots ≤ e.platform.maxSlots
      omega
  · rw [State.stackLimits_setFrames]; rfl
  · rw [State.stackBytes_setFrames]; rfl
  · have hdr : T.heap.toList.drop T.heap.size = [] := List.drop_eq_nil_of_le (Nat.le_of_eq Array.length_toList)
    refine ⟨?_, Nat.le_refl _, Nat.le_refl _, ?_, ?_, fun a c9 h9 => ⟨c9, h9, rfl, rfl, fun _ _ => rfl⟩⟩
    · show T.setVm s.vm = { ((T.setVm s.vm).setFrames (.invoking m args :: below)).setFrames (T.setVm s.vm).frames with heap := T.heap, slotsUsed := T.slotsUsed }
      rw [State.setFrames_setFrames, State.setFrames_self hth]
      rfl
    · show T.slotsUsed = T.slotsUsed + ((T.heap.toList.drop T.heap.size).map (·.slots.size)).sum
      rw [hdr]; rfl
    · show ((T.heap.toList.drop T.heap.size).map (·.slots.size)).sum ≤ 0
      rw [hdr]
      exact Nat.le_refl _
/-- the four words of a throw that speak of the heap -/
def rx_hw (w : Cond) : Bool := decide (w = .isRef (.static Bundle.tN "UNASSIGNED_STACK" Bundle.steD)) || decide (w = .isRef (.static Bundle.tN "SUPPRESSED_SENTINEL" Bundle.listD)) || decide (w = .laysStatic Bundle.tN "UNASSIGNED_STACK" Bundle.steD) || decide (w = .laysStatic Bundle.tN "SUPPRESSED_SENTINEL" Bundle.listD)
def rx_sup : List String := ["java/lang/RuntimeException", "java/lang/Exception"]
def rx_ic : Nat → Nat := fun k => match k with
  | 0 => 58
  | 1 => 69
  | _ => 225
def rx_okw (E : Nat) : Bool := (Bundle.ownAtoms "ScoreRoads" (rx_ic E) (rx_exn E) rx_sup).all (fun w => rx_hw w || (decide (w ∈ tables_1) && rx_gd w))
set_option maxRecDepth 100000 in
theorem rx_okw_0 : rx_okw 0 = true := by decide +kernel
set_option maxRecDepth 100000 in
theorem rx_okw_1 : rx_okw 1 = true := by decide +kernel
set_option maxRecDepth 100000 in
theorem rx_okw_2 : rx_okw 2 = true := by decide +kernel
theorem rx_ownw {V : rx_V} {E : Nat} {s : State} {args : Array Value} (hE : E < 3) (hts : ∀ w ∈ rx_tbl, w.before args s = true) (hx : rx_E V s) : ∀ w ∈ Bundle.ownAtoms "ScoreRoads" (rx_ic E) (rx_exn E) rx_sup, w.before args s = true := by
  intro w hw
  have hok : rx_okw E = true := by
    match E, hE with
    | 0, _ => exact rx_okw_0
    | 1, _ => exact rx_okw_1
    | 2, _ => exact rx_okw_2
  have h1 := List.all_eq_true.mp hok w hw
  simp only [Bool.or_eq_true, Bool.and_eq_true, decide_eq_true_eq] at h1
  obtain ⟨-, -, -, -, ⟨z1, l1⟩, ⟨z2, l2⟩, -⟩ := hx
  rcases h1 with h1 | ⟨h1, h2⟩
  · simp only [rx_hw, Bool.or_eq_true, decide_eq_true_eq] at h1
    rcases h1 with ((h1 | h1) | h1) | h1
    · rw [h1]; exact rx_isRefq z1
    · rw [h1]; exact rx_isRefq z2
    · rw [h1]; exact rx_Ls_word l1
    · rw [h1]; exact rx_Ls_word l2
  · exact hts _ (List.mem_filter.mpr ⟨List.mem_append_right _ h1, h2⟩)
theorem rx_fitx {E : Nat} (hE : E < 3) : Bundle.fit (rx_exn E) = true := by
  match E, hE with
  | 0, _ => decide +kernel
  | 1, _ => decide +kernel
  | 2, _ => decide +kernel
theorem rx_clx {E : Nat} (hE : E < 3) : rx_cl[9 + E]? = some (rx_exn E, F_none, 0) := by
  match E, hE with
  | 0, _ => rfl
  | 1, _ => rfl
  | 2, _ => rfl
theorem rx_inix {E : Nat} (hE : E < 3) : Cond.initialized (rx_exn E) ∈ rx_tbl := by
  match E, hE with
  | 0, _ => exact rx_in 13 (by decide +kernel) (by decide +kernel)
  | 1, _ => exact rx_in 15 (by decide +kernel) (by decide +kernel)
  | 2, _ => exact rx_in 19 (by decide +kernel) (by decide +kernel)
section RXT
variable {V : rx_V} {d kc ks : Nat} {M : rx_T} {pc : Nat} {L : rx_L} {S : List Value} {h : List va_E} {Q : rx_R → List va_E → Prop}
set_option maxHeartbeats 1000000 in
theorem rx_throw {E ik is : Nat} {text : String} (htr : V.1.stackTraces = false) (hM : M.1.cls = "ScoreRoads") (hh : M.2.2.2.2 = []) (hE : E < 3)
    (d0 : decode M.2.1 pc = .ok (.new ik, 3)) (d3 : decode M.2.1 (pc + 3) = .ok (.dup, 1)) (d4 : decode M.2.1 (pc + 4) = .ok (.ldc is, 2)) (d6 : decode M.2.1 (pc + 6) = .ok (.invokespecial (rx_ic E), 3)) (d9 : decode M.2.1 (pc + 9) = .ok (.athrow, 1))
    (w1 : Cond.classLink "ScoreRoads" ik (rx_exn E) ∈ rx_tbl) (hst : (is, text) ∈ rx_strs) (hw8 : (S.map fun v => v.category).sum ≤ 8)
    (hq : Q (.inr E) (h ++ [.inr (9 + E, [])])) : rx_W V (d + 6) (kc + 1) (ks + 6) M pc L S h Q := by
  intro p e R s m args below meth c H locs cells slots ls F G hl T hT X
  have hd1 := F.2.2.2.2.2.2.2.2.1
  have hd2 := F.2.2.2.2.2.2.2.2.2.1
  obtain ⟨g1, g2, g3, g4, g5, g6, g7, g8⟩ := id G
  have hne : c.exceptionTable.toList = [] := by
    have h9 := F.2.2.2.2.2.2.2.2.2.2
    rw [hh] at h9
    exact List.map_eq_nil_iff.mp h9
  have hout : ∀ x ∈ c.exceptionTable.toList, covers x (pc + 9) = false := by rw [hne]; intro x hx; cases hx
  have htr' : e.platform.stackTraces = false := (show e.platform.stackTraces = V.1.stackTraces by rw [X.admits.platform]).trans htr
  have Y := rx_rebase X (R' := { frames := R.frames, locals := R.locals, cells := 1, slots := 6 }) (Nat.le_refl _) (Nat.le_refl _) (show cells + 1 ≤ _ by omega) (show slots + 6 ≤ _ by omega)
  obtain ⟨s', hA⟩ : ∃ z, z = (T.setVm s.vm).setFrames (.invoking m args :: below) := ⟨_, rfl⟩
  rw [← hA] at Y
  have hvm : s'.vm = s.vm := by rw [hA]; rfl
  have hhp : s'.heap = H := by rw [hA]; exact hT
  have hW0 : s.WarmedH s'.vm := by rw [hvm]; exact State.WarmedH.refl s
  have hts' : ∀ w ∈ rx_tbl, w.before args s' = true := fun w hw => rx_at hW0 (rx_good hw) (F.2.2.2.2.2.2.1 w hw)
  have hx' : rx_E V s' := rx_E_moved hW0 (by rw [hhp, g1]; exact Nat.le_add_right _ _) (fun q hq => by rw [hhp]; exact g3.2.1 q (Nat.lt_of_lt_of_le hq g6) (fun z => Nat.not_le.mpr hq z)) g5
  have hat := rx_ownw hE hts' hx'
  have hown' : s'.vm.findClass "ScoreRoads" = some m.cls := by rw [hvm, ← hM]; exact F.2.2.2.2.2.1
  have hins : (Cond.instantiable (rx_exn E) 6).before args s' = true := hat _ (by simp [Bundle.ownAtoms])
  obtain ⟨vm₁, cX, kX, hfX, hkX, -, -, X₁, st1⟩ := Y.newCold F.1 (own := "ScoreRoads") (C := rx_exn E) (index := ik) (n := 6) hown' (hts' _ w1) hins (hts' _ (rx_inix hE))
    (g := F0 m pc ls S) rfl (by rw [F.2.1]; exact d0) (Nat.le_refl _) (Nat.le_refl _)
  generalize hT1 : (T.setVm vm₁).pushCell { cls := cX, slots := kX.instanceTypes.map defaultValue, vm := .none } = T1 at X₁ st1
  have hcat : (Value.ref T.heap.size).category = 1 := rfl
  have hcellA : T1.heap[T.heap.size]? = some (freshCell cX kX) := by rw [← hT1]; exact State.heap_pushCell_size _ _
  have d3' : decode c.code (pc + 3) = .ok (.dup, 1) := by rw [F.2.1]; exact d3
  have d4' : decode c.code (pc + 4) = .ok (.ldc is, 2) := by rw [F.2.1]; exact d4
  obtain ⟨sa, hstr⟩ := hx'.2.2.2.2.2.2.1 _ hst
  obtain ⟨U, hsteps, hrun, hend, hW, hsame, ce, hce, hO⟩ := X₁.ctorThrowS F.1 htr' (own := "ScoreRoads") (cls := rx_exn E) (names := rx_sup) (ic := rx_ic E) hown' (rx_fitx hE) (by decide +kernel) hat (fun x hx => nomatch hx) hfX hkX hcellA (by rw [hhp, hT]; exact Nat.le_refl _) (msg := .ref sa) rfl
    (g := { method := m, pc := pc + 6, locals := ls, stack := .ref sa :: .ref T.heap.size :: .ref T.heap.size :: S, locked := none }) rfl (by rw [F.2.2.1]; exact hl.1) rfl rfl (rest := S) rfl
    (by rw [F.2.1]; exact d6) (by rw [F.2.1]; exact d9) hout (by show 2 + 3 < R.frames; omega)
    (by
      have h9 := lv_room (m := m) (pc := pc + 6) (ls := ls) (rest := .ref sa :: .ref T.heap.size :: .ref T.heap.size :: S) (st := S) hw8
      show _ + _ + (13 * (2 + 1) + 42) ≤ R.locals
      simp only [List.map_cons, List.sum_cons, hcat]
      have h8 : 2 * ({ method := m, pc := pc + 6, locals := ls, stack := .ref sa :: .ref T.heap.size :: .ref T.heap.size :: S, locked := none } : JFrame).monitorRoom + (S.map fun v => v.category).sum ≤ 8 := h9
      omega) (hlocks := F.2.2.2.2.1)
  obtain ⟨e1, q2, q3, q4, q5, q6⟩ := id hsame
  have hz : H.size ≤ U.heap.size := by rw [← hhp]; exact q2
  have hz2 : U.heap.size ≤ H.size + 1 := by rw [← hhp]; exact q3
  have hz3 : T.heap.size < U.heap.size := (Array.getElem?_eq_some_iff.mp hce).1
  rw [hT] at hz3 hce
  have hold : ∀ q : Nat, q < H.size → U.heap[q]? = H[q]? := by
    intro q hq
    rw [← hhp] at hq ⊢
    obtain ⟨c9, f1, f2, f3, f4⟩ := q6 q _ (Array.getElem?_eq_getElem hq)
    have hs : c9.slots = (s'.heap[q]).slots := Array.ext_getElem? fun i => f4 i (fun z => nomatch z)
    have h9 : c9 = s'.heap[q] := by
      rw [hs] at f2
      exact f2
    have f5 : U.heap[q]? = some c9 := f1
    rw [f5, h9, Array.getElem?_eq_getElem hq]
  have hcl : s.vm.findClass (rx_exn E) = some ce.cls := by
    have h9 := hO.cls
    rw [hvm] at h9
    exact h9
  have hall : s.sameButNew ({ U with vm := s.vm } : State) locs (cells + (kc + 1)) (slots + (ks + 6)) := by
    subst hA
    obtain ⟨f1, f2⟩ := hsame
    rw [State.setFrames_setFrames] at f1
    have h2 : (T.setVm s.vm).sameButNew ({ U with vm := s.vm } : State) [] (0 + 1) (0 + 6) := ⟨f1, f2⟩
    have h3 := X.same.trans h2
    rw [List.append_nil] at h3
    exact h3.mono (by omega) (by omega)
  refine ⟨U, ?_, .threw T.heap.size, hrun, hend, ⟨.inr E, h ++ [.inr (9 + E, [])], hq, ?_, ?_, ?_, T.heap.size, ce, rfl, by rw [hT]; exact hce, hO.vm, hcl⟩, locs, State.WarmedH.trans hW0 hW, hall, g3.2.2⟩
  · refine st1 _ ?_
    show Steps p.tables e below (T1.setTop { method := m, pc := pc + 3, locals := ls, stack := .ref T.heap.size :: S, locked := none }) _
    jvm_step X₁.here [X₁.here.top, F.1, d3', Value.category]
    exact X₁.ldcString F.1 (own := "ScoreRoads") (text := text) (index := is) (a := sa) hown' hstr.1 hstr.2
      (g := { method := m, pc := pc + 4, locals := ls, stack := .ref T.heap.size :: .ref T.heap.size :: S, locked := none }) rfl d4' _ hsteps
  · rw [List.length_append]
    show _ = V.2.1 + (h.length + 1)
    omega
  · rw [← rx_ws_push]
    refine (g2.kept (fun k x hx => hold x.1 ((g2 k x hx).lt))).app (fun k x hx => ?_)
    have hz9 : k < 1 := (List.getElem?_eq_some_iff.mp hx).1
    rw [show k = 0 by omega] at hx
    cases hx
    refine ⟨_, rx_clx hE, ce, ?_, ?_, hO.vm, fun k hk => absurd hk (Nat.not_lt_zero _)⟩
    · rw [← g1]; exact hce
    · have h9 := (g4.1 (9 + E) _ (rx_clx hE)).2.1
      exact Option.some.inj (hcl.symm.trans h9)
  · refine ⟨Nat.le_trans g3.1 hz, fun q h1 h2 => (hold q (Nat.lt_of_lt_of_le h1 g3.1)).trans (g3.2.1 q h1 h2)⟩
end RXT
