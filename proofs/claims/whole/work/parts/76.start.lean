/-! the beginning: what the Statement gives -/
theorem tw {args : Array Value} {s : State} (hts : ∀ w ∈ lw_tbl, w.before args s = true) {w : Cond} (i : Nat) (h : tables_1[i]? = some w) : w.before args s = true := hts w (List.mem_append_right _ (List.mem_of_getElem? h))
theorem st_X {args : Array Value} {s : State} {tm : Term} {f : Nat → Int32} (harr : (Cond.arrayOf tm .int).before args s = true) (hlen : (Cond.eq (.length tm) (.int 10)).before args s = true) (hel : ∀ j, j < 10 → (Cond.eq (.elem tm (.int (Int32.ofNat j))) (.int (f j))).before args s = true) : ∃ t, tm.eval args s none [] s = some (.ref t) ∧ t < s.heap.size ∧ va_X t 10 f s s.heap := by
  have hl := va_eqt hlen
  obtain ⟨t, ht, cell, h1, h2, h3, h4, h5, h6, -⟩ := va_Tof (A := fun _ => False) (N := 10) (f := fun j => .int (f j)) (by decide) harr hl (fun j hj => va_eqt (hel j hj)) (fun _ _ z => z)
  obtain ⟨t', cell', ht', hat, -⟩ := Term.length_spec hl
  cases ht.symm.trans ht'
  obtain ⟨hc', -, -, -⟩ := State.arrayAt?_spec hat
  cases h1.symm.trans hc'
  have hsz : cell.slots.size < 2 ^ 31 := by
    simp only [Term.eval, ht', hat, Option.bind_eq_bind, Option.bind_some] at hl
    by_cases hlt : cell.slots.size < 2147483648
    · exact hlt
    · simp [hlt] at hl
  have e : cell.slots.size = 10 := by
    have := congrArg Int32.toInt h5
    rw [show cell.slots.size.toInt32 = Int32.ofNat cell.slots.size from rfl, Int32.toInt_ofNat_small hsz, show (Int32.ofNat 10).toInt = 10 from by decide] at this
    omega
  exact ⟨t, ht, (Array.getElem?_eq_some_iff.mp h1).1, cell, h1, h2, h3, e, fun j hj => h6 j hj⟩
theorem st_nc {args : Array Value} {s : State} {A B : String} {a b : ClassId} (ha : s.vm.findClass A = some a) (hb : s.vm.findClass B = some b) (h : (Cond.not (Cond.castable A B)).before args s = true) : s.vm.assignable a b = false := by
  simpa [Cond.before, Cond.holds, Cond.value, ha, hb] using h
theorem st_cl {args : Array Value} {s : State} (hts : ∀ w ∈ lw_tbl, w.before args s = true) : ∀ c : Nat, ∃ q : ClassId × (Nat → Nat), ∀ r, rx_cl[c]? = some r → u_Kn s r.1 r.2.1 r.2.2 q.1 q.2 := by
  have h9 : ∀ w ∈ rx_tbl, w.before args s = true := fun w hw => hts w (List.mem_filter.mp hw).1
  intro c
  match c with
  | 0 =>
    obtain ⟨cC, iS, h⟩ := u_known (C := "ScoreRoads") (T := F_SR) (N := 7) (n := 7) h9 w_SR (tw hts 21 (by decide +kernel))
    exact ⟨(cC, iS), fun r hr => by cases hr; exact h⟩
  | 1 =>
    obtain ⟨cC, iS, h⟩ := u_known (C := "ScoreRoads$Page") (T := F_Page) (N := 4) (n := 4) h9 w_Page (tw hts 29 (by decide +kernel))
    exact ⟨(cC, iS), fun r hr => by cases hr; exact h⟩
  | 2 =>
    obtain ⟨cC, iS, h⟩ := u_known (C := "ScoreRoads$Notes") (T := F_Notes) (N := 2) (n := 2) h9 w_Notes (tw hts 55 (by decide +kernel))
    exact ⟨(cC, iS), fun r hr => by cases hr; exact h⟩
  | 3 =>
    obtain ⟨cC, iS, h⟩ := u_known (C := "ScoreRoads$Repeats") (T := F_Repeats) (N := 4) (n := 4) h9 w_Repeats (tw hts 72 (by decide +kernel))
    exact ⟨(cC, iS), fun r hr => by cases hr; exact h⟩
  | 4 =>
    obtain ⟨cC, iS, h⟩ := u_known (C := "ScoreRoads$Repeat") (T := F_Repeat) (N := 7) (n := 7) h9 w_Repeat (tw hts 79 (by decide +kernel))
    exact ⟨(cC, iS), fun r hr => by cases hr; exact h⟩
  | 5 =>
    obtain ⟨cC, iS, h⟩ := u_known (C := "ScoreRoads$Road") (T := F_Road) (N := 6) (n := 6) h9 w_Road (tw hts 132 (by decide +kernel))
    exact ⟨(cC, iS), fun r hr => by cases hr; exact h⟩
  | 6 =>
    obtain ⟨cC, iS, h⟩ := u_known (C := "ScoreRoads$Sounding") (T := F_Sounding) (N := 4) (n := 4) h9 w_Sounding (tw hts 159 (by decide +kernel))
    exact ⟨(cC, iS), fun r hr => by cases hr; exact h⟩
  | 7 =>
    obtain ⟨cC, iS, h⟩ := u_known (C := "ScoreRoads$Note") (T := F_Note) (N := 6) (n := 6) h9 w_Note (tw hts 543 (by decide +kernel))
    exact ⟨(cC, iS), fun r hr => by cases hr; exact h⟩
  | 8 =>
    obtain ⟨cC, iS, h⟩ := u_known (C := "ScoreRoadsModel") (T := F_Mo) (N := 29) (n := 29) h9 w_Mo (tw hts 790 (by decide +kernel))
    exact ⟨(cC, iS), fun r hr => by cases hr; exact h⟩
  | 9 =>
    obtain ⟨cC, iS, h⟩ := u_known (C := "java/lang/IllegalArgumentException") (T := F_none) (N := 0) (n := 6) h9 (fun w hw => by cases hw) (tw hts 387 (by decide +kernel))
    exact ⟨(cC, iS), fun r hr => by cases hr; exact h⟩
  | 10 =>
    obtain ⟨cC, iS, h⟩ := u_known (C := "java/lang/IllegalStateException") (T := F_none) (N := 0) (n := 6) h9 (fun w hw => by cases hw) (tw hts 464 (by decide +kernel))
    exact ⟨(cC, iS), fun r hr => by cases hr; exact h⟩
  | 11 =>
    obtain ⟨cC, iS, h⟩ := u_known (C := "java/lang/IndexOutOfBoundsException") (T := F_none) (N := 0) (n := 6) h9 (fun w hw => by cases hw) (tw hts 618 (by decide +kernel))
    exact ⟨(cC, iS), fun r hr => by cases hr; exact h⟩
  | c + 12 => exact ⟨(0, fun _ => 0), fun r hr => by
      have h1 := (List.getElem?_eq_some_iff.mp hr).1
      have h2 : rx_cl.length = 12 := rfl
      omega⟩
theorem st_ar {args : Array Value} {s : State} (hts : ∀ w ∈ lw_tbl, w.before args s = true) : ∀ i : Nat, ∃ cA : ClassId, ∀ ty, rx_ats[i]? = some ty → ArrOfT s cA ty ∧ va_RA s cA ty := by
  intro i
  match i with
  | 0 =>
    obtain ⟨c, k, comp, f1, f2, f3⟩ := Cond.arrayClass_spec (tw hts (w := .arrayClass .int) 53 (by decide +kernel))
    exact ⟨c, fun ty hy => by cases hy; exact ⟨fun N z => ⟨(fun k h => by cases h), k, f2, comp, f3⟩, f1⟩⟩
  | 1 =>
    obtain ⟨c, k, comp, f1, f2, f3⟩ := Cond.arrayClass_spec (tw hts (w := .arrayClass .long) 1104 (by decide +kernel))
    exact ⟨c, fun ty hy => by cases hy; exact ⟨fun N z => ⟨(fun k h => by cases h), k, f2, comp, f3⟩, f1⟩⟩
  | 2 =>
    obtain ⟨c, k, comp, f1, f2, f3⟩ := Cond.arrayClass_spec (tw hts (w := .arrayClass .boolean) 883 (by decide +kernel))
    exact ⟨c, fun ty hy => by cases hy; exact ⟨fun N z => ⟨(fun k h => by cases h), k, f2, comp, f3⟩, f1⟩⟩
  | 3 =>
    obtain ⟨comp, c, k, f1, -, f2, f3, f4⟩ := Cond.arrayOver_spec (tw hts (w := .arrayOver (.object "ScoreRoads$Repeat")) 78 (by decide +kernel))
    exact ⟨c, fun ty hy => by cases hy; exact ⟨fun N z => ⟨(fun k h => by cases h), k, f2, comp, f3⟩, k, comp, f2, f3, f1, f4⟩⟩
  | 4 =>
    obtain ⟨comp, c, k, f1, -, f2, f3, f4⟩ := Cond.arrayOver_spec (tw hts (w := .arrayOver (.object "ScoreRoads$Note")) 61 (by decide +kernel))
    exact ⟨c, fun ty hy => by cases hy; exact ⟨fun N z => ⟨(fun k h => by cases h), k, f2, comp, f3⟩, k, comp, f2, f3, f1, f4⟩⟩
  | i + 5 => exact ⟨0, fun r hr => by
      have h1 := (List.getElem?_eq_some_iff.mp hr).1
      have h2 : rx_ats.length = 5 := rfl
      omega⟩
theorem st_Ls {args : Array Value} {s : State} {C n d : String} {A : Nat → Prop} (hl : (Cond.laysStatic C n d).before args s = true) (hA : ∀ a : Nat, a < s.heap.size → ¬ A a) : rx_Ls C n d A s := by
  obtain ⟨c, k, i, f, a, cell, hc, hi, hst, ha, hcell, hs, hcls, hlt, hty⟩ := Cond.laysStatic_spec hl
  exact ⟨c, k, i, f, a, cell, hc, hi, hst, ha, hcell, hs, hcls, hlt, hty, hA a (Array.getElem?_eq_some_iff.mp hcell).1⟩
theorem st_LEAST {args : Array Value} {s : State} (hs : ∀ w ∈ flatC (Jvm.Cond.and given_1 narrow_1), w.before args s = true) : ∃ t, (Term.static "ScoreRoads" "LEAST_VALUES" "[I").eval args s none [] s = some (.ref t) ∧ t < s.heap.size ∧ va_X t 10 lsF s s.heap := by
  refine st_X (hs (.arrayOf (.static "ScoreRoads" "LEAST_VALUES" "[I") .int) (by decide +kernel)) (hs (.eq (.length (.static "ScoreRoads" "LEAST_VALUES" "[I")) (.int 10)) (by decide +kernel)) (fun j hj => ?_)
  match j, hj with
  | 0, _ => exact hs (.eq (.elem (.static "ScoreRoads" "LEAST_VALUES" "[I") (.int 0)) (.int 1)) (by decide +kernel)
  | 1, _ => exact hs (.eq (.elem (.static "ScoreRoads" "LEAST_VALUES" "[I") (.int 1)) (.int 2)) (by decide +kernel)
  | 2, _ => exact hs (.eq (.elem (.static "ScoreRoads" "LEAST_VALUES" "[I") (.int 2)) (.int 1)) (by decide +kernel)
  | 3, _ => exact hs (.eq (.elem (.static "ScoreRoads" "LEAST_VALUES" "[I") (.int 3)) (.int 1)) (by decide +kernel)
  | 4, _ => exact hs (.eq (.elem (.static "ScoreRoads" "LEAST_VALUES" "[I") (.int 4)) (.int 1)) (by decide +kernel)
  | 5, _ => exact hs (.eq (.elem (.static "ScoreRoads" "LEAST_VALUES" "[I") (.int 5)) (.int 1)) (by decide +kernel)
  | 6, _ => exact hs (.eq (.elem (.static "ScoreRoads" "LEAST_VALUES" "[I") (.int 6)) (.int 1)) (by decide +kernel)
  | 7, _ => exact hs (.eq (.elem (.static "ScoreRoads" "LEAST_VALUES" "[I") (.int 7)) (.int 1)) (by decide +kernel)
  | 8, _ => exact hs (.eq (.elem (.static "ScoreRoads" "LEAST_VALUES" "[I") (.int 8)) (.int 1)) (by decide +kernel)
  | 9, _ => exact hs (.eq (.elem (.static "ScoreRoads" "LEAST_VALUES" "[I") (.int 9)) (.int 1)) (by decide +kernel)
  | j + 10, h => exact absurd h (by omega)
theorem st_MOST {args : Array Value} {s : State} (hs : ∀ w ∈ flatC (Jvm.Cond.and given_1 narrow_1), w.before args s = true) : ∃ t, (Term.static "ScoreRoads" "MOST_VALUES" "[I").eval args s none [] s = some (.ref t) ∧ t < s.heap.size ∧ va_X t 10 msF s s.heap := by
  refine st_X (hs (.arrayOf (.static "ScoreRoads" "MOST_VALUES" "[I") .int) (by decide +kernel)) (hs (.eq (.length (.static "ScoreRoads" "MOST_VALUES" "[I")) (.int 10)) (by decide +kernel)) (fun j hj => ?_)
  match j, hj with
  | 0, _ => exact hs (.eq (.elem (.static "ScoreRoads" "MOST_VALUES" "[I") (.int 0)) (.int 1)) (by decide +kernel)
  | 1, _ => exact hs (.eq (.elem (.static "ScoreRoads" "MOST_VALUES" "[I") (.int 1)) (.int 4)) (by decide +kernel)
  | 2, _ => exact hs (.eq (.elem (.static "ScoreRoads" "MOST_VALUES" "[I") (.int 2)) (.int 15)) (by decide +kernel)
  | 3, _ => exact hs (.eq (.elem (.static "ScoreRoads" "MOST_VALUES" "[I") (.int 3)) (.int 1)) (by decide +kernel)
  | 4, _ => exact hs (.eq (.elem (.static "ScoreRoads" "MOST_VALUES" "[I") (.int 4)) (.int 1)) (by decide +kernel)
  | 5, _ => exact hs (.eq (.elem (.static "ScoreRoads" "MOST_VALUES" "[I") (.int 5)) (.int 1)) (by decide +kernel)
  | 6, _ => exact hs (.eq (.elem (.static "ScoreRoads" "MOST_VALUES" "[I") (.int 6)) (.int 1)) (by decide +kernel)
  | 7, _ => exact hs (.eq (.elem (.static "ScoreRoads" "MOST_VALUES" "[I") (.int 7)) (.int 12)) (by decide +kernel)
  | 8, _ => exact hs (.eq (.elem (.static "ScoreRoads" "MOST_VALUES" "[I") (.int 8)) (.int 1)) (by decide +kernel)
  | 9, _ => exact hs (.eq (.elem (.static "ScoreRoads" "MOST_VALUES" "[I") (.int 9)) (.int 1)) (by decide +kernel)
  | j + 10, h => exact absurd h (by omega)
theorem st_str {args : Array Value} {s : State} (hts : ∀ w ∈ lw_tbl, w.before args s = true) (hs : ∀ w ∈ flatC (Jvm.Cond.and given_1 narrow_1), w.before args s = true) : ∀ q ∈ rx_strs, ∃ sa, vk_R "ScoreRoads" q.1 q.2 sa s := by
  have key : ∀ (k : Nat) (t : String), (Cond.stringRef "ScoreRoads" k t).before args s = true → (Cond.exactly (.string "ScoreRoads" k) "java/lang/String").before args s = true → ∃ sa, vk_R "ScoreRoads" k t sa s := by
    intro k t h1 h2
    obtain ⟨a, c, cell, k9, ht, -⟩ := Cond.exactly_spec h2
    exact ⟨a, vk_R.of h1 ht⟩
  unfold rx_strs
  refine List.forall_mem_cons.mpr ⟨key 56 "no such bar, length or tempo" (tw hts (w := .stringRef "ScoreRoads" 56 "no such bar, length or tempo") 427 (by decide +kernel)) (hs (.exactly (.string "ScoreRoads" 56) "java/lang/String") (by decide +kernel)), ?_⟩
  refine List.forall_mem_cons.mpr ⟨key 67 "a note would go over the bar's end" (tw hts (w := .stringRef "ScoreRoads" 67 "a note would go over the bar's end") 472 (by decide +kernel)) (hs (.exactly (.string "ScoreRoads" 67) "java/lang/String") (by decide +kernel)), ?_⟩
  refine List.forall_mem_cons.mpr ⟨key 84 "no such bar, kind or value" (tw hts (w := .stringRef "ScoreRoads" 84 "no such bar, kind or value") 505 (by decide +kernel)) (hs (.exactly (.string "ScoreRoads" 84) "java/lang/String") (by decide +kernel)), ?_⟩
  refine List.forall_mem_cons.mpr ⟨key 90 "there is such a sign with another value" (tw hts (w := .stringRef "ScoreRoads" 90 "there is such a sign with another value") 506 (by decide +kernel)) (hs (.exactly (.string "ScoreRoads" 90) "java/lang/String") (by decide +kernel)), ?_⟩
  refine List.forall_mem_cons.mpr ⟨key 219 "no such part" (tw hts (w := .stringRef "ScoreRoads" 219 "no such part") 522 (by decide +kernel)) (hs (.exactly (.string "ScoreRoads" 219) "java/lang/String") (by decide +kernel)), ?_⟩
  refine List.forall_mem_cons.mpr ⟨key 102 "no such bar or pitch" (tw hts (w := .stringRef "ScoreRoads" 102 "no such bar or pitch") 523 (by decide +kernel)) (hs (.exactly (.string "ScoreRoads" 102) "java/lang/String") (by decide +kernel)), ?_⟩
  refine List.forall_mem_cons.mpr ⟨key 107 "the note does not lie in the bar" (tw hts (w := .stringRef "ScoreRoads" 107 "the note does not lie in the bar") 528 (by decide +kernel)) (hs (.exactly (.string "ScoreRoads" 107) "java/lang/String") (by decide +kernel)), ?_⟩
  refine List.forall_mem_cons.mpr ⟨key 117 "there are too many notes, or there is this one" (tw hts (w := .stringRef "ScoreRoads" 117 "there are too many notes, or there is this one") 541 (by decide +kernel)) (hs (.exactly (.string "ScoreRoads" 117) "java/lang/String") (by decide +kernel)), ?_⟩
  refine List.forall_mem_cons.mpr ⟨key 135 "a pitch would be out of its bounds" (tw hts (w := .stringRef "ScoreRoads" 135 "a pitch would be out of its bounds") 596 (by decide +kernel)) (hs (.exactly (.string "ScoreRoads" 135) "java/lang/String") (by decide +kernel)), ?_⟩
  refine List.forall_mem_cons.mpr ⟨key 217 "the map has a fault" (tw hts (w := .stringRef "ScoreRoads" 217 "the map has a fault") 613 (by decide +kernel)) (hs (.exactly (.string "ScoreRoads" 217) "java/lang/String") (by decide +kernel)), ?_⟩
  refine List.forall_mem_cons.mpr ⟨key 223 "not so many bars are played" (tw hts (w := .stringRef "ScoreRoads" 223 "not so many bars are played") 626 (by decide +kernel)) (hs (.exactly (.string "ScoreRoads" 223) "java/lang/String") (by decide +kernel)), ?_⟩
  exact fun q hq => by cases hq
theorem st_ex {args : Array Value} {s : State} {F : Nat → ClassId × (Nat → Nat)} (hF : ∀ (c : Nat) r, rx_cl[c]? = some r → u_Kn s r.1 r.2.1 r.2.2 (F c).1 (F c).2) (hs : ∀ w ∈ flatC (Jvm.Cond.and given_1 narrow_1), w.before args s = true) : ∀ E E' : Nat, E < 3 → E' < 3 → E ≠ E' → ∃ a b, s.vm.findClass (rx_exn E) = some a ∧ s.vm.findClass (rx_exn E') = some b ∧ s.vm.assignable a b = false := by
  have f0 : s.vm.findClass (rx_exn 0) = some (F 9).1 := (hF 9 _ rfl).2.1
  have f1 : s.vm.findClass (rx_exn 1) = some (F 10).1 := (hF 10 _ rfl).2.1
  have f2 : s.vm.findClass (rx_exn 2) = some (F 11).1 := (hF 11 _ rfl).2.1
  intro E E' h1 h2 h3
  match E, E', h1, h2, h3 with
  | 0, 0, _, _, h => exact absurd rfl h
  | 0, 1, _, _, _ => exact ⟨_, _, f0, f1, st_nc f0 f1 (hs (.not (.castable "java/lang/IllegalArgumentException" "java/lang/IllegalStateException")) (by decide +kernel))⟩
  | 0, 2, _, _, _ => exact ⟨_, _, f0, f2, st_nc f0 f2 (hs (.not (.castable "java/lang/IllegalArgumentException" "java/lang/IndexOutOfBoundsException")) (by decide +kernel))⟩
  | 1, 0, _, _, _ => exact ⟨_, _, f1, f0, st_nc f1 f0 (hs (.not (.castable "java/lang/IllegalStateException" "java/lang/IllegalArgumentException")) (by decide +kernel))⟩
  | 1, 1, _, _, h => exact absurd rfl h
  | 1, 2, _, _, _ => exact ⟨_, _, f1, f2, st_nc f1 f2 (hs (.not (.castable "java/lang/IllegalStateException" "java/lang/IndexOutOfBoundsException")) (by decide +kernel))⟩
  | 2, 0, _, _, _ => exact ⟨_, _, f2, f0, st_nc f2 f0 (hs (.not (.castable "java/lang/IndexOutOfBoundsException" "java/lang/IllegalArgumentException")) (by decide +kernel))⟩
  | 2, 1, _, _, _ => exact ⟨_, _, f2, f1, st_nc f2 f1 (hs (.not (.castable "java/lang/IndexOutOfBoundsException" "java/lang/IllegalStateException")) (by decide +kernel))⟩
  | 2, 2, _, _, h => exact absurd rfl h
  | E + 3, _, h, _, _ => exact absurd h (by omega)
  | _, E + 3, _, h, _ => exact absurd h (by omega)
