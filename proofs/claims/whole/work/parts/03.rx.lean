/-! rx: one judgement for a frame of any method of the program, over the whole world: the cells from the address z on, as one list -/
abbrev rx_R : Type := Option Value ⊕ Nat
abbrev rx_L : Type := List (Option Value)
/-- launch, the first address, the classes' numbers and slots, the array classes, the int arrays that lie outside -/
abbrev rx_V : Type := Launch × Nat × va_G × (Nat → ClassId) × List (Nat × Nat × (Nat → Int32))
def rx_ws (z : Nat) (h : List va_E) : va_W := h.mapIdx (fun i e => (z + i, e))
theorem rx_ws_at (z : Nat) (h : List va_E) (i : Nat) : (rx_ws z h)[i]? = (h[i]?).map (fun e => (z + i, e)) := by
  unfold rx_ws
  rw [List.getElem?_mapIdx]
theorem rx_ws_of {z : Nat} {h : List va_E} {i : Nat} {e : va_E} (he : h[i]? = some e) : (rx_ws z h)[i]? = some (z + i, e) := by
  rw [rx_ws_at, he]; rfl
theorem rx_ws_set (z : Nat) (h : List va_E) (k : Nat) (e : va_E) : (rx_ws z h).set k (z + k, e) = rx_ws z (h.set k e) := by
  apply List.ext_getElem?
  intro i
  rw [rx_ws_at, List.getElem?_set, List.getElem?_set]
  have hl : (rx_ws z h).length = h.length := by unfold rx_ws; exact List.length_mapIdx
  by_cases hk : k = i
  · subst hk
    rw [if_pos rfl, if_pos rfl, hl]
    by_cases hlt : k < h.length
    · rw [if_pos hlt, if_pos hlt]; rfl
    · rw [if_neg hlt, if_neg hlt]; rfl
  · rw [if_neg hk, if_neg hk, rx_ws_at]
theorem rx_ws_push (z : Nat) (h : List va_E) (e : va_E) : rx_ws z h ++ [(z + h.length, e)] = rx_ws z (h ++ [e]) := by
  unfold rx_ws
  rw [List.mapIdx_append]
  simp
theorem rx_ws_D (z : Nat) (h : List va_E) : va_D (fun q => z ≤ q) (rx_ws z h) := by
  refine ⟨fun i j p q hp hq e => ?_, fun k q hk => ?_⟩
  · rw [rx_ws_at] at hp hq
    cases h1 : h[i]? with
    | none => rw [h1] at hp; cases hp
    | some a =>
      cases h2 : h[j]? with
      | none => rw [h2] at hq; cases hq
      | some b =>
        rw [h1] at hp; rw [h2] at hq
        cases hp; cases hq
        have e' : z + i = z + j := e
        omega
  · rw [rx_ws_at] at hk
    cases h1 : h[k]? with
    | none => rw [h1] at hk; cases hk
    | some a =>
      rw [h1] at hk
      cases hk
      exact Nat.le_add_right _ _
/-- reading and writing by an address -/
def rx_rd (V : rx_V) (h : List va_E) (a : Nat) : Option va_E := if V.2.1 ≤ a then h[a - V.2.1]? else none
def rx_wr (V : rx_V) (h : List va_E) (a : Nat) (e : va_E) : List va_E := h.set (a - V.2.1) e
theorem rx_rd_at {V : rx_V} {h : List va_E} {a : Nat} {e : va_E} (he : rx_rd V h a = some e) : ∃ q, a = V.2.1 + q ∧ h[q]? = some e ∧ a - V.2.1 = q := by
  unfold rx_rd at he
  by_cases hz : V.2.1 ≤ a
  · rw [if_pos hz] at he
    exact ⟨a - V.2.1, by omega, he, rfl⟩
  · rw [if_neg hz] at he; cases he
theorem rx_rd_in {V : rx_V} {h : List va_E} {k : Nat} : rx_rd V h (V.2.1 + k) = h[k]? := by
  unfold rx_rd
  rw [if_pos (Nat.le_add_right _ _), Nat.add_sub_cancel_left]
theorem rx_wr_in {V : rx_V} {h : List va_E} {k : Nat} {e : va_E} : rx_wr V h (V.2.1 + k) e = h.set k e := by
  unfold rx_wr
  rw [Nat.add_sub_cancel_left]
/-! locals -/
def rx_clr (L : rx_L) : Nat → rx_L
  | 0 => L
  | j + 1 => match L[j]? with
    | some (some v) => if v.category = 2 then L.set j none else L
    | _ => L
def rx_st1 (L : rx_L) (i : Nat) (v : Value) : rx_L := (rx_clr L i).set i (some v)
def rx_st2 (L : rx_L) (i : Nat) (v : Value) : rx_L := ((rx_clr L i).set i (some v)).set (i + 1) none
theorem rx_clr_len (L : rx_L) (i : Nat) : (rx_clr L i).length = L.length := by
  cases i with
  | zero => rfl
  | succ k =>
    unfold rx_clr
    dsimp only
    split
    · split
      · exact List.length_set
      · rfl
    · rfl
theorem rx_clr_at {L : rx_L} {i j : Nat} {w : Value} (h : (rx_clr L i)[j]? = some (some w)) : L[j]? = some (some w) ∧ ¬ (j + 1 = i ∧ w.category = 2) := by
  cases i with
  | zero => exact ⟨h, fun q => by omega⟩
  | succ k =>
    unfold rx_clr at h
    dsimp only at h
    split at h
    · rename_i v hv
      split at h
      · rename_i hc
        rw [List.getElem?_set] at h
        by_cases e : k = j
        · rw [if_pos e] at h
          split at h <;> simp at h
        · rw [if_neg e] at h
          exact ⟨h, fun q => by omega⟩
      · rename_i hc
        refine ⟨h, fun q => ?_⟩
        have e : j = k := by omega
        subst e
        rw [hv] at h
        cases h
        exact hc q.2
    · rename_i hn
      refine ⟨h, fun q => ?_⟩
      have e : j = k := by omega
      subst e
      exact hn w h
def rx_al (L : rx_L) : List (Nat × Value) := (List.range L.length).filterMap (fun i => (L[i]?.join).map (fun v => (i, v)))
theorem rx_al_in {L : rx_L} {i : Nat} {v : Value} : (i, v) ∈ rx_al L ↔ L[i]? = some (some v) := by
  unfold rx_al
  rw [List.mem_filterMap]
  constructor
  · rintro ⟨j, -, hj⟩
    cases h : L[j]? with
    | none => rw [h] at hj; cases hj
    | some o =>
      cases o with
      | none => rw [h] at hj; cases hj
      | some w =>
        rw [h] at hj
        cases hj
        exact h
  · intro h
    refine ⟨i, List.mem_range.mpr (List.getElem?_eq_some_iff.mp h).1, ?_⟩
    rw [h]; rfl
def rx_lv (ls : Array Slot) (n : Nat) (L : rx_L) : Prop := ls.size = n ∧ lv_wf ls ∧ L.length = n ∧ ∀ (i : Nat) (v : Value), L[i]? = some (some v) → ls[i]? = some (.val v)
theorem rx_has {ls : Array Slot} {n : Nat} {L : rx_L} (h : rx_lv ls n L) : lv_has ls n (rx_al L) := ⟨h.1, h.2.1, fun q hq => h.2.2.2 q.1 q.2 (rx_al_in.mp hq)⟩
theorem rx_has1 {ls : Array Slot} {n : Nat} {L : rx_L} {i : Nat} {v : Value} (h : rx_lv ls n L) (hi : L[i]? = some (some v)) : lv_has ls n ((i, v) :: rx_al L) := ⟨h.1, h.2.1, fun q hq => by
  rcases List.mem_cons.mp hq with rfl | hq
  · exact h.2.2.2 _ _ hi
  · exact h.2.2.2 q.1 q.2 (rx_al_in.mp hq)⟩
theorem rx_lv1 {ls' : Array Slot} {n : Nat} {L : rx_L} {i : Nat} {v : Value} {l : List (Nat × Value)} (hn : L.length = n) (hall : ∀ (j : Nat) (w : Value), L[j]? = some (some w) → (j, w) ∈ l)
    (h' : lv_has ls' n ((i, v) :: l.filter (fun q => !(q.1 == i) && !(q.1 + 1 == i && q.2.category == 2)))) : rx_lv ls' n (rx_st1 L i v) := by
  refine ⟨h'.1, h'.2.1, ?_, fun j w hj => ?_⟩
  · unfold rx_st1
    rw [List.length_set, rx_clr_len]
    exact hn
  · unfold rx_st1 at hj
    rw [List.getElem?_set] at hj
    by_cases e : i = j
    · subst e
      rw [if_pos rfl] at hj
      split at hj
      · cases hj
        exact h'.2.2 (i, v) List.mem_cons_self
      · cases hj
    · rw [if_neg e] at hj
      obtain ⟨h1, h2⟩ := rx_clr_at hj
      refine h'.2.2 (j, w) (List.mem_cons_of_mem _ (List.mem_filter.mpr ⟨hall j w h1, ?_⟩))
      have e' : ¬ j = i := fun q => e q.symm
      by_cases hc : j + 1 = i
      · have h3 : ¬ w.category = 2 := fun q => h2 ⟨hc, q⟩
        simp [e', h3]
      · simp [e', hc]
theorem rx_lv2 {ls' : Array Slot} {n : Nat} {L : rx_L} {i : Nat} {v : Value} {l : List (Nat × Value)} (hn : L.length = n) (hall : ∀ (j : Nat) (w : Value), L[j]? = some (some w) → (j, w) ∈ l)
    (h' : lv_has ls' n ((i, v) :: l.filter (fun q => !(q.1 == i) && (!(q.1 == i + 1) && !(q.1 + 1 == i && q.2.category == 2))))) : rx_lv ls' n (rx_st2 L i v) := by
  refine ⟨h'.1, h'.2.1, ?_, fun j w hj => ?_⟩
  · unfold rx_st2
    rw [List.length_set, List.length_set, rx_clr_len]
    exact hn
  · unfold rx_st2 at hj
    rw [List.getElem?_set] at hj
    by_cases e1 : i + 1 = j
    · rw [if_pos e1] at hj
      split at hj <;> simp at hj
    · rw [if_neg e1, List.getElem?_set] at hj
      by_cases e : i = j
      · subst e
        rw [if_pos rfl] at hj
        split at hj
        · cases hj
          exact h'.2.2 (i, v) List.mem_cons_self
        · cases hj
      · rw [if_neg e] at hj
        obtain ⟨h1, h2⟩ := rx_clr_at hj
        refine h'.2.2 (j, w) (List.mem_cons_of_mem _ (List.mem_filter.mpr ⟨hall j w h1, ?_⟩))
        have e' : ¬ j = i := fun q => e q.symm
        have e2 : ¬ j = i + 1 := fun q => e1 q.symm
        by_cases hc : j + 1 = i
        · have h3 : ¬ w.category = 2 := fun q => h2 ⟨hc, q⟩
          simp [e', e2, h3]
        · simp [e', e2, hc]
/-- the locals with which a method begins -/
def rx_ea (As : List Value) : rx_L := As.flatMap (fun v => if v.category = 2 then [some v, none] else [some v])
def rx_en (n : Nat) (As : List Value) : rx_L := rx_ea As ++ List.replicate (n - (rx_ea As).length) none
theorem rx_ea_len (As : List Value) : (rx_ea As).length = (lg_sl As).length := by
  induction As with
  | nil => rfl
  | cons v vs ih =>
    have e1 : rx_ea (v :: vs) = (if v.category = 2 then [some v, none] else [some v]) ++ rx_ea vs := rfl
    have e2 : lg_sl (v :: vs) = (if v.category = 2 then [Slot.val v, Slot.second] else [Slot.val v]) ++ lg_sl vs := rfl
    rw [e1, e2, List.length_append, List.length_append, ih]
    by_cases hc : v.category = 2
    · rw [if_pos hc, if_pos hc]; rfl
    · rw [if_neg hc, if_neg hc]; rfl
theorem rx_ea_args : ∀ (As : List Value) (k i : Nat) (v : Value), (rx_ea As)[i]? = some (some v) → (k + i, v) ∈ lv_args k As := by
  intro As
  induction As with
  | nil => intro k i v h; cases h
  | cons w vs ih =>
    intro k i v h
    have e1 : rx_ea (w :: vs) = (if w.category = 2 then [some w, none] else [some w]) ++ rx_ea vs := rfl
    rw [e1] at h
    unfold lv_args
    by_cases hc : w.category = 2
    · rw [if_pos hc] at h
      rw [if_pos hc]
      match i, h with
      | 0, h =>
        cases h
        exact List.mem_cons_self
      | 1, h => simp at h
      | j + 2, h =>
        have h' : (rx_ea vs)[j]? = some (some v) := by simpa using h
        have h3 := ih (k + 2) j v h'
        rw [show k + (j + 2) = k + 2 + j by omega]
        exact List.mem_cons_of_mem _ h3
    · rw [if_neg hc] at h
      rw [if_neg hc]
      match i, h with
      | 0, h =>
        cases h
        exact List.mem_cons_self
      | j + 1, h =>
        have h' : (rx_ea vs)[j]? = some (some v) := by simpa using h
        have h3 := ih (k + 1) j v h'
        rw [show k + (j + 1) = k + 1 + j by omega]
        exact List.mem_cons_of_mem _ h3
theorem rx_entry {As : List Value} {n : Nat} (hn : (lg_sl As).length ≤ n) : rx_lv ((lg_sl As ++ List.replicate (n - (lg_sl As).length) Slot.unset).toArray) n (rx_en n As) := by
  have h := lv_entry As hn
  refine ⟨h.1, h.2.1, ?_, fun i v hi => ?_⟩
  · unfold rx_en
    rw [List.length_append, List.length_replicate, rx_ea_len]
    omega
  · unfold rx_en at hi
    by_cases hl : i < (rx_ea As).length
    · rw [List.getElem?_append_left hl] at hi
      have h3 := rx_ea_args As 0 i v hi
      rw [Nat.zero_add] at h3
      exact h.2.2 (i, v) h3
    · rw [List.getElem?_append_right (by omega)] at hi
      have h3 := List.eq_of_mem_replicate (List.mem_of_getElem? hi)
      cases h3
/-! what lies outside the world, and stays: the int arrays, the statics, the texts -/
def rx_A (V : rx_V) : Nat → Prop := fun q => V.2.1 ≤ q
/-- where a static field lies, its class's statics cell in the heap -/
def rx_Ls (C n d : String) (A : Nat → Prop) (U : State) : Prop := ∃ (c : ClassId) (k : Class) (i : Nat) (f : Field) (a : Nat) (cell : Cell), U.vm.findClass C = some c ∧ U.fieldFound? C n d = some (c, k, i, f) ∧ f.isStatic = true ∧ k.statics = some a ∧ U.heap[a]? = some cell ∧ cell.vm.isStatics = true ∧ cell.cls = c ∧ f.slot < cell.slots.size ∧ k.staticTypes[f.slot]? = some f.type ∧ ¬ A a
theorem rx_Ls_moved {C n d : String} {A : Nat → Prop} {s U : State} (hvm : s.vm.Alike U.vm) (hq : ∀ q : Nat, ¬ A q → U.heap[q]? = s.heap[q]?) (h : rx_Ls C n d A s) : rx_Ls C n d A U := by
  obtain ⟨c, k, i, f, a, cell, h1, h2, h3, h4, h5, h6, h7, h8, h9, h10⟩ := h
  obtain ⟨k', hi', he⟩ := State.fieldFound?_setVm hvm h2
  exact ⟨c, k', i, f, a, cell, by rw [hvm.findClass]; exact h1, hi', h3, by rw [he]; exact h4, by rw [hq a h10]; exact h5, h6, h7, h8, by rw [he]; exact h9, h10⟩
theorem rx_Ls_word {C n d : String} {A : Nat → Prop} {s : State} {args : Array Value} (h : rx_Ls C n d A s) : (Cond.laysStatic C n d).before args s = true := by
  obtain ⟨c, k, i, f, a, cell, h1, h2, h3, h4, h5, h6, h7, h8, h9, -⟩ := h
  show (Cond.laysStatic C n d).holds args s none s [] = true
  exact Cond.laysStatic_of h1 h2 h3 h4 h5 h6 h7 h8 h9
def rx_tN : String := "java/lang/Throwable"
def rx_E (V : rx_V) (U : State) : Prop :=
  (∀ q ∈ V.2.2.2.2, q.1 < V.2.1 ∧ va_X q.1 q.2.1 q.2.2 U U.heap) ∧ V.2.1 ≤ U.heap.size ∧
  (∀ q, V.2.2.2.2[1]? = some q → va_Z "ScoreRoads" "LEAST_VALUES" "[I" (.ref q.1) (rx_A V) U U.heap) ∧ (∀ q, V.2.2.2.2[2]? = some q → va_Z "ScoreRoads" "MOST_VALUES" "[I" (.ref q.1) (rx_A V) U U.heap) ∧
  (va_Zq rx_tN "UNASSIGNED_STACK" "[Ljava/lang/StackTraceElement;" (rx_A V) U U.heap ∧ rx_Ls rx_tN "UNASSIGNED_STACK" "[Ljava/lang/StackTraceElement;" (rx_A V) U) ∧
  (va_Zq rx_tN "SUPPRESSED_SENTINEL" "Ljava/util/List;" (rx_A V) U U.heap ∧ rx_Ls rx_tN "SUPPRESSED_SENTINEL" "Ljava/util/List;" (rx_A V) U) ∧
  (∀ q ∈ rx_strs, ∃ sa, vk_R "ScoreRoads" q.1 q.2 sa U) ∧
  (∀ E E' : Nat, E < 3 → E' < 3 → E ≠ E' → ∃ a b, U.vm.findClass (rx_exn E) = some a ∧ U.vm.findClass (rx_exn E') = some b ∧ U.vm.assignable a b = false)
theorem rx_E_moved {V : rx_V} {s U : State} (hW : s.WarmedH U.vm) (hz : V.2.1 ≤ U.heap.size) (hq : ∀ q : Nat, q < V.2.1 → U.heap[q]? = s.heap[q]?) (h : rx_E V s) : rx_E V U := by
  obtain ⟨h1, h2, h3, h4, ⟨h5, h6⟩, ⟨h7, h8⟩, h9, h10⟩ := h
  have hvm := hW.alike
  have hA : ∀ q : Nat, ¬ rx_A V q → U.heap[q]? = s.heap[q]? := fun q hn => hq q (Nat.not_le.mp hn)
  have hA' : ∀ q : Nat, q < s.heap.size → ¬ rx_A V q → U.heap[q]? = s.heap[q]? := fun q _ hn => hA q hn
  refine ⟨fun q hm => ⟨(h1 q hm).1, ?_⟩, hz, fun q hm => va_Z.moved hvm ((h3 q hm).kept hA'), fun q hm => va_Z.moved hvm ((h4 q hm).kept hA'), ⟨va_Zq.moved hvm (h5.kept hA'), rx_Ls_moved hvm hA h6⟩, ⟨va_Zq.moved hvm (h7.kept hA'), rx_Ls_moved hvm hA h8⟩, fun q hm => ?_, fun E E' e1 e2 e3 => ?_⟩
  · exact va_X.moved hvm ((h1 q hm).2.kept (hq _ (h1 q hm).1))
  · obtain ⟨sa, hs⟩ := h9 q hm
    exact ⟨sa, vk_R.warm hW hs⟩
  · obtain ⟨a, b, f1, f2, f3⟩ := h10 E E' e1 e2 e3
    exact ⟨a, b, by rw [hvm.findClass]; exact f1, by rw [hvm.findClass]; exact f2, by rw [hvm.assignable]; exact f3⟩
