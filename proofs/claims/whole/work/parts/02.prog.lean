/-! the words, the classes, the methods: by program (wip/gen.py) -/
/-- a method: name, bytes, locals, answer, handlers -/
abbrev rx_T : Type := MethodName × ByteArray × Nat × Option FieldType × List (Nat × Nat × Nat × Nat)
def rx_gd : Cond → Bool
  | .arrayClass _ => true
  | .arrayOver (.object _) => true
  | .methodLinkNest .. => true
  | w => w.onTables && w.keepsFace
theorem rx_at {args a' : Array Value} {s U : State} {w : Cond} (hW : s.WarmedH U.vm) (hg : rx_gd w = true) (h : w.before args s = true) : w.before a' U = true := by
  unfold rx_gd at hg
  split at hg
  · exact word_at hW (Or.inr ⟨_, rfl⟩) h
  · exact va_AO.use (va_AO.moved hW.alike (va_AO.of h))
  · exact va_Nw.use rfl (va_Nw.warmM hW (va_Nw.of rfl h))
  · simp only [Bool.and_eq_true] at hg
    exact va_tabs hg.1 (u := s.setVm U.vm) (U := U) rfl (Cond.before_shiftedFace (State.Shifted.of_warmed hW) _ hg.2 h)
def rx_tbl : List Cond := lw_tbl.filter rx_gd
theorem rx_good {w : Cond} (h : w ∈ rx_tbl) : rx_gd w = true := (List.mem_filter.mp h).2
theorem rx_in {w : Cond} (i : Nat) (h : tables_1[i]? = some w) (g : rx_gd w = true) : w ∈ rx_tbl := List.mem_filter.mpr ⟨List.mem_append_right _ (List.mem_of_getElem? h), g⟩
theorem rx_ip {w : Cond} (i : Nat) (h : (k2_sels lw_privs)[i]? = some w) (g : rx_gd w = true) : w ∈ rx_tbl := List.mem_filter.mpr ⟨List.mem_append_left _ (List.mem_of_getElem? h), g⟩
def F_SR : u_T := fun k => match k with
  | 0 => ("ScoreRoads", "page", "LScoreRoads$Page;", true)
  | 1 => ("ScoreRoads", "notes", "LScoreRoads$Notes;", true)
  | 2 => ("ScoreRoads", "repeats", "LScoreRoads$Repeats;", true)
  | 3 => ("ScoreRoads", "road", "LScoreRoads$Road;", true)
  | 4 => ("ScoreRoads", "sounding", "LScoreRoads$Sounding;", true)
  | 5 => ("ScoreRoads", "roadKnown", "Z", false)
  | _ => ("ScoreRoads", "fault", "I", false)
def t_SR : Nat → FieldType := fun k => match k with
  | 0 => .object "ScoreRoads$Page"
  | 1 => .object "ScoreRoads$Notes"
  | 2 => .object "ScoreRoads$Repeats"
  | 3 => .object "ScoreRoads$Road"
  | 4 => .object "ScoreRoads$Sounding"
  | 5 => .boolean
  | _ => .int
theorem n_SR : ∀ a, a < 7 → ∀ b, b < 7 → a ≠ b → (F_SR a).2.1 ≠ (F_SR b).2.1 := by decide +kernel
theorem t_SR_ok : ∀ k, k < 7 → parseFieldDescriptor (F_SR k).2.2.1 = some (t_SR k) := by decide +kernel
def F_Page : u_T := fun k => match k with
  | 0 => ("ScoreRoads$Page", "bars", "I", true)
  | 1 => ("ScoreRoads$Page", "lengths", "[I", true)
  | 2 => ("ScoreRoads$Page", "tempos", "[I", true)
  | _ => ("ScoreRoads$Page", "values", "[I", true)
def t_Page : Nat → FieldType := fun k => match k with
  | 0 => .int
  | 1 => (.array .int)
  | 2 => (.array .int)
  | _ => (.array .int)
theorem n_Page : ∀ a, a < 4 → ∀ b, b < 4 → a ≠ b → (F_Page a).2.1 ≠ (F_Page b).2.1 := by decide +kernel
theorem t_Page_ok : ∀ k, k < 4 → parseFieldDescriptor (F_Page k).2.2.1 = some (t_Page k) := by decide +kernel
def F_Notes : u_T := fun k => match k with
  | 0 => ("ScoreRoads$Notes", "row", "[LScoreRoads$Note;", true)
  | _ => ("ScoreRoads$Notes", "number", "I", false)
def t_Notes : Nat → FieldType := fun k => match k with
  | 0 => (.array (.object "ScoreRoads$Note"))
  | _ => .int
theorem n_Notes : ∀ a, a < 2 → ∀ b, b < 2 → a ≠ b → (F_Notes a).2.1 ≠ (F_Notes b).2.1 := by decide +kernel
theorem t_Notes_ok : ∀ k, k < 2 → parseFieldDescriptor (F_Notes k).2.2.1 = some (t_Notes k) := by decide +kernel
def F_Repeats : u_T := fun k => match k with
  | 0 => ("ScoreRoads$Repeats", "all", "[LScoreRoads$Repeat;", true)
  | 1 => ("ScoreRoads$Repeats", "byEnd", "[LScoreRoads$Repeat;", true)
  | 2 => ("ScoreRoads$Repeats", "byEnding", "[LScoreRoads$Repeat;", true)
  | _ => ("ScoreRoads$Repeats", "number", "I", false)
def t_Repeats : Nat → FieldType := fun k => match k with
  | 0 => (.array (.object "ScoreRoads$Repeat"))
  | 1 => (.array (.object "ScoreRoads$Repeat"))
  | 2 => (.array (.object "ScoreRoads$Repeat"))
  | _ => .int
theorem n_Repeats : ∀ a, a < 4 → ∀ b, b < 4 → a ≠ b → (F_Repeats a).2.1 ≠ (F_Repeats b).2.1 := by decide +kernel
theorem t_Repeats_ok : ∀ k, k < 4 → parseFieldDescriptor (F_Repeats k).2.2.1 = some (t_Repeats k) := by decide +kernel
def F_Repeat : u_T := fun k => match k with
  | 0 => ("ScoreRoads$Repeat", "first", "I", false)
  | 1 => ("ScoreRoads$Repeat", "firstEnd", "I", false)
  | 2 => ("ScoreRoads$Repeat", "lastEnd", "I", false)
  | 3 => ("ScoreRoads$Repeat", "firstEnding", "I", false)
  | 4 => ("ScoreRoads$Repeat", "lastEnding", "I", false)
  | 5 => ("ScoreRoads$Repeat", "count", "I", false)
  | _ => ("ScoreRoads$Repeat", "pass", "I", false)
def t_Repeat : Nat → FieldType := fun k => match k with
  | 0 => .int
  | 1 => .int
  | 2 => .int
  | 3 => .int
  | 4 => .int
  | 5 => .int
  | _ => .int
theorem n_Repeat : ∀ a, a < 7 → ∀ b, b < 7 → a ≠ b → (F_Repeat a).2.1 ≠ (F_Repeat b).2.1 := by decide +kernel
theorem t_Repeat_ok : ∀ k, k < 7 → parseFieldDescriptor (F_Repeat k).2.2.1 = some (t_Repeat k) := by decide +kernel
def F_Road : u_T := fun k => match k with
  | 0 => ("ScoreRoads$Road", "order", "[I", true)
  | 1 => ("ScoreRoads$Road", "number", "I", false)
  | 2 => ("ScoreRoads$Road", "jumped", "Z", false)
  | 3 => ("ScoreRoads$Road", "wentOver", "Z", false)
  | 4 => ("ScoreRoads$Road", "way", "I", false)
  | _ => ("ScoreRoads$Road", "taken", "Z", false)
def t_Road : Nat → FieldType := fun k => match k with
  | 0 => (.array .int)
  | 1 => .int
  | 2 => .boolean
  | 3 => .boolean
  | 4 => .int
  | _ => .boolean
theorem n_Road : ∀ a, a < 6 → ∀ b, b < 6 → a ≠ b → (F_Road a).2.1 ≠ (F_Road b).2.1 := by decide +kernel
theorem t_Road_ok : ∀ k, k < 6 → parseFieldDescriptor (F_Road k).2.2.1 = some (t_Road k) := by decide +kernel
def F_Sounding : u_T := fun k => match k with
  | 0 => ("ScoreRoads$Sounding", "firsts", "[LScoreRoads$Note;", true)
  | 1 => ("ScoreRoads$Sounding", "indexes", "[I", true)
  | 2 => ("ScoreRoads$Sounding", "number", "I", false)
  | _ => ("ScoreRoads$Sounding", "knownPart", "I", false)
def t_Sounding : Nat → FieldType := fun k => match k with
  | 0 => (.array (.object "ScoreRoads$Note"))
  | 1 => (.array .int)
  | 2 => .int
  | _ => .int
theorem n_Sounding : ∀ a, a < 4 → ∀ b, b < 4 → a ≠ b → (F_Sounding a).2.1 ≠ (F_Sounding b).2.1 := by decide +kernel
theorem t_Sounding_ok : ∀ k, k < 4 → parseFieldDescriptor (F_Sounding k).2.2.1 = some (t_Sounding k) := by decide +kernel
def F_Note : u_T := fun k => match k with
  | 0 => ("ScoreRoads$Note", "part", "I", true)
  | 1 => ("ScoreRoads$Note", "bar", "I", true)
  | 2 => ("ScoreRoads$Note", "start", "I", true)
  | 3 => ("ScoreRoads$Note", "length", "I", true)
  | 4 => ("ScoreRoads$Note", "pitch", "I", false)
  | _ => ("ScoreRoads$Note", "tie", "Z", true)
def t_Note : Nat → FieldType := fun k => match k with
  | 0 => .int
  | 1 => .int
  | 2 => .int
  | 3 => .int
  | 4 => .int
  | _ => .boolean
theorem n_Note : ∀ a, a < 6 → ∀ b, b < 6 → a ≠ b → (F_Note a).2.1 ≠ (F_Note b).2.1 := by decide +kernel
theorem t_Note_ok : ∀ k, k < 6 → parseFieldDescriptor (F_Note k).2.2.1 = some (t_Note k) := by decide +kernel
def F_Mo : u_T := fun k => match k with
  | 0 => ("ScoreRoadsModel", "mostOf", "[I", true)
  | 1 => ("ScoreRoadsModel", "thrown", "I", false)
  | 2 => ("ScoreRoadsModel", "bars", "I", true)
  | 3 => ("ScoreRoadsModel", "lengths", "[I", true)
  | 4 => ("ScoreRoadsModel", "tempos", "[I", true)
  | 5 => ("ScoreRoadsModel", "signs", "[I", true)
  | 6 => ("ScoreRoadsModel", "notes", "I", false)
  | 7 => ("ScoreRoadsModel", "part", "[I", true)
  | 8 => ("ScoreRoadsModel", "place", "[I", true)
  | 9 => ("ScoreRoadsModel", "start", "[I", true)
  | 10 => ("ScoreRoadsModel", "length", "[I", true)
  | 11 => ("ScoreRoadsModel", "pitch", "[I", true)
  | 12 => ("ScoreRoadsModel", "tied", "[Z", true)
  | 13 => ("ScoreRoadsModel", "repeats", "I", false)
  | 14 => ("ScoreRoadsModel", "first", "[I", true)
  | 15 => ("ScoreRoadsModel", "ends", "[I", true)
  | 16 => ("ScoreRoadsModel", "endings", "[I", true)
  | 17 => ("ScoreRoadsModel", "count", "[I", true)
  | 18 => ("ScoreRoadsModel", "pass", "[I", true)
  | 19 => ("ScoreRoadsModel", "fault", "I", false)
  | 20 => ("ScoreRoadsModel", "here", "I", false)
  | 21 => ("ScoreRoadsModel", "again", "Z", false)
  | 22 => ("ScoreRoadsModel", "jumped", "I", false)
  | 23 => ("ScoreRoadsModel", "went", "Z", false)
  | 24 => ("ScoreRoadsModel", "plays", "I", false)
  | 25 => ("ScoreRoadsModel", "played", "[I", true)
  | 26 => ("ScoreRoadsModel", "soundTick", "J", false)
  | 27 => ("ScoreRoadsModel", "soundLength", "J", false)
  | _ => ("ScoreRoadsModel", "soundTicks", "J", false)
def t_Mo : Nat → FieldType := fun k => match k with
  | 0 => (.array .int)
  | 1 => .int
  | 2 => .int
  | 3 => (.array .int)
  | 4 => (.array .int)
  | 5 => (.array .int)
  | 6 => .int
  | 7 => (.array .int)
  | 8 => (.array .int)
  | 9 => (.array .int)
  | 10 => (.array .int)
  | 11 => (.array .int)
  | 12 => (.array .boolean)
  | 13 => .int
  | 14 => (.array .int)
  | 15 => (.array .int)
  | 16 => (.array .int)
  | 17 => (.array .int)
  | 18 => (.array .int)
  | 19 => .int
  | 20 => .int
  | 21 => .boolean
  | 22 => .int
  | 23 => .boolean
  | 24 => .int
  | 25 => (.array .int)
  | 26 => .long
  | 27 => .long
  | _ => .long
theorem n_Mo : ∀ a, a < 29 → ∀ b, b < 29 → a ≠ b → (F_Mo a).2.1 ≠ (F_Mo b).2.1 := by decide +kernel
theorem t_Mo_ok : ∀ k, k < 29 → parseFieldDescriptor (F_Mo k).2.2.1 = some (t_Mo k) := by decide +kernel
def F_none : u_T := fun _ => ("", "", "", false)
def rx_cl : List vw_C := [("ScoreRoads", F_SR, 7), ("ScoreRoads$Page", F_Page, 4), ("ScoreRoads$Notes", F_Notes, 2), ("ScoreRoads$Repeats", F_Repeats, 4), ("ScoreRoads$Repeat", F_Repeat, 7), ("ScoreRoads$Road", F_Road, 6), ("ScoreRoads$Sounding", F_Sounding, 4), ("ScoreRoads$Note", F_Note, 6), ("ScoreRoadsModel", F_Mo, 29), ("java/lang/IllegalArgumentException", F_none, 0), ("java/lang/IllegalStateException", F_none, 0), ("java/lang/IndexOutOfBoundsException", F_none, 0)]
def rx_ats : List FieldType := [.int, .long, .boolean, .object "ScoreRoads$Repeat", .object "ScoreRoads$Note"]
def rx_exn : Nat → String := fun k => match k with
  | 0 => "java/lang/IllegalArgumentException"
  | 1 => "java/lang/IllegalStateException"
  | _ => "java/lang/IndexOutOfBoundsException"
theorem w_SR : ∀ w ∈ u_ws "ScoreRoads" F_SR 7, w ∈ rx_tbl := by
  intro w hw
  obtain ⟨k, hk, rfl⟩ := List.mem_map.mp hw
  have hk := List.mem_range.mp hk
  match k, hk with
  | 0, _ => exact rx_in 186 (by decide +kernel) (by decide +kernel)
  | 1, _ => exact rx_in 188 (by decide +kernel) (by decide +kernel)
  | 2, _ => exact rx_in 190 (by decide +kernel) (by decide +kernel)
  | 3, _ => exact rx_in 192 (by decide +kernel) (by decide +kernel)
  | 4, _ => exact rx_in 194 (by decide +kernel) (by decide +kernel)
  | 5, _ => exact rx_in 196 (by decide +kernel) (by decide +kernel)
  | 6, _ => exact rx_in 198 (by decide +kernel) (by decide +kernel)
  | k + 7, h => exact absurd h (by omega)
theorem w_Page : ∀ w ∈ u_ws "ScoreRoads$Page" F_Page 4, w ∈ rx_tbl := by
  intro w hw
  obtain ⟨k, hk, rfl⟩ := List.mem_map.mp hw
  have hk := List.mem_range.mp hk
  match k, hk with
  | 0, _ => exact rx_in 44 (by decide +kernel) (by decide +kernel)
  | 1, _ => exact rx_in 46 (by decide +kernel) (by decide +kernel)
  | 2, _ => exact rx_in 48 (by decide +kernel) (by decide +kernel)
  | 3, _ => exact rx_in 50 (by decide +kernel) (by decide +kernel)
  | k + 4, h => exact absurd h (by omega)
theorem w_Notes : ∀ w ∈ u_ws "ScoreRoads$Notes" F_Notes 2, w ∈ rx_tbl := by
  intro w hw
  obtain ⟨k, hk, rfl⟩ := List.mem_map.mp hw
  have hk := List.mem_range.mp hk
  match k, hk with
  | 0, _ => exact rx_in 66 (by decide +kernel) (by decide +kernel)
  | 1, _ => exact rx_in 68 (by decide +kernel) (by decide +kernel)
  | k + 2, h => exact absurd h (by omega)
theorem w_Repeats : ∀ w ∈ u_ws "ScoreRoads$Repeats" F_Repeats 4, w ∈ rx_tbl := by
  intro w hw
  obtain ⟨k, hk, rfl⟩ := List.mem_map.mp hw
  have hk := List.mem_range.mp hk
  match k, hk with
  | 0, _ => exact rx_in 122 (by decide +kernel) (by decide +kernel)
  | 1, _ => exact rx_in 124 (by decide +kernel) (by decide +kernel)
  | 2, _ => exact rx_in 126 (by decide +kernel) (by decide +kernel)
  | 3, _ => exact rx_in 128 (by decide +kernel) (by decide +kernel)
  | k + 4, h => exact absurd h (by omega)
theorem w_Repeat : ∀ w ∈ u_ws "ScoreRoads$Repeat" F_Repeat 7, w ∈ rx_tbl := by
  intro w hw
  obtain ⟨k, hk, rfl⟩ := List.mem_map.mp hw
  have hk := List.mem_range.mp hk
  match k, hk with
  | 0, _ => exact rx_in 103 (by decide +kernel) (by decide +kernel)
  | 1, _ => exact rx_in 105 (by decide +kernel) (by decide +kernel)
  | 2, _ => exact rx_in 107 (by decide +kernel) (by decide +kernel)
  | 3, _ => exact rx_in 109 (by decide +kernel) (by decide +kernel)
  | 4, _ => exact rx_in 111 (by decide +kernel) (by decide +kernel)
  | 5, _ => exact rx_in 113 (by decide +kernel) (by decide +kernel)
  | 6, _ => exact rx_in 115 (by decide +kernel) (by decide +kernel)
  | k + 7, h => exact absurd h (by omega)
theorem w_Road : ∀ w ∈ u_ws "ScoreRoads$Road" F_Road 6, w ∈ rx_tbl := by
  intro w hw
  obtain ⟨k, hk, rfl⟩ := List.mem_map.mp hw
  have hk := List.mem_range.mp hk
  match k, hk with
  | 0, _ => exact rx_in 145 (by decide +kernel) (by decide +kernel)
  | 1, _ => exact rx_in 147 (by decide +kernel) (by decide +kernel)
  | 2, _ => exact rx_in 149 (by decide +kernel) (by decide +kernel)
  | 3, _ => exact rx_in 151 (by decide +kernel) (by decide +kernel)
  | 4, _ => exact rx_in 153 (by decide +kernel) (by decide +kernel)
  | 5, _ => exact rx_in 155 (by decide +kernel) (by decide +kernel)
  | k + 6, h => exact absurd h (by omega)
theorem w_Sounding : ∀ w ∈ u_ws "ScoreRoads$Sounding" F_Sounding 4, w ∈ rx_tbl := by
  intro w hw
  obtain ⟨k, hk, rfl⟩ := List.mem_map.mp hw
  have hk := List.mem_range.mp hk
  match k, hk with
  | 0, _ => exact rx_in 170 (by decide +kernel) (by decide +kernel)
  | 1, _ => exact rx_in 172 (by decide +kernel) (by decide +kernel)
  | 2, _ => exact rx_in 174 (by decide +kernel) (by decide +kernel)
  | 3, _ => exact rx_in 176 (by decide +kernel) (by decide +kernel)
  | k + 4, h => exact absurd h (by omega)
theorem w_Note : ∀ w ∈ u_ws "ScoreRoads$Note" F_Note 6, w ∈ rx_tbl := by
  intro w hw
  obtain ⟨k, hk, rfl⟩ := List.mem_map.mp hw
  have hk := List.mem_range.mp hk
  match k, hk with
  | 0, _ => exact rx_in 562 (by decide +kernel) (by decide +kernel)
  | 1, _ => exact rx_in 564 (by decide +kernel) (by decide +kernel)
  | 2, _ => exact rx_in 566 (by decide +kernel) (by decide +kernel)
  | 3, _ => exact rx_in 568 (by decide +kernel) (by decide +kernel)
  | 4, _ => exact rx_in 570 (by decide +kernel) (by decide +kernel)
  | 5, _ => exact rx_in 572 (by decide +kernel) (by decide +kernel)
  | k + 6, h => exact absurd h (by omega)
theorem w_Mo : ∀ w ∈ u_ws "ScoreRoadsModel" F_Mo 29, w ∈ rx_tbl := by
  intro w hw
  obtain ⟨k, hk, rfl⟩ := List.mem_map.mp hw
  have hk := List.mem_range.mp hk
  match k, hk with
  | 0, _ => exact rx_in 824 (by decide +kernel) (by decide +kernel)
  | 1, _ => exact rx_in 826 (by decide +kernel) (by decide +kernel)
  | 2, _ => exact rx_in 828 (by decide +kernel) (by decide +kernel)
  | 3, _ => exact rx_in 830 (by decide +kernel) (by decide +kernel)
  | 4, _ => exact rx_in 832 (by decide +kernel) (by decide +kernel)
  | 5, _ => exact rx_in 834 (by decide +kernel) (by decide +kernel)
  | 6, _ => exact rx_in 836 (by decide +kernel) (by decide +kernel)
  | 7, _ => exact rx_in 838 (by decide +kernel) (by decide +kernel)
  | 8, _ => exact rx_in 840 (by decide +kernel) (by decide +kernel)
  | 9, _ => exact rx_in 842 (by decide +kernel) (by decide +kernel)
  | 10, _ => exact rx_in 844 (by decide +kernel) (by decide +kernel)
  | 11, _ => exact rx_in 846 (by decide +kernel) (by decide +kernel)
  | 12, _ => exact rx_in 848 (by decide +kernel) (by decide +kernel)
  | 13, _ => exact rx_in 850 (by decide +kernel) (by decide +kernel)
  | 14, _ => exact rx_in 852 (by decide +kernel) (by decide +kernel)
  | 15, _ => exact rx_in 854 (by decide +kernel) (by decide +kernel)
  | 16, _ => exact rx_in 856 (by decide +kernel) (by decide +kernel)
  | 17, _ => exact rx_in 858 (by decide +kernel) (by decide +kernel)
  | 18, _ => exact rx_in 860 (by decide +kernel) (by decide +kernel)
  | 19, _ => exact rx_in 862 (by decide +kernel) (by decide +kernel)
  | 20, _ => exact rx_in 864 (by decide +kernel) (by decide +kernel)
  | 21, _ => exact rx_in 866 (by decide +kernel) (by decide +kernel)
  | 22, _ => exact rx_in 868 (by decide +kernel) (by decide +kernel)
  | 23, _ => exact rx_in 870 (by decide +kernel) (by decide +kernel)
  | 24, _ => exact rx_in 872 (by decide +kernel) (by decide +kernel)
  | 25, _ => exact rx_in 874 (by decide +kernel) (by decide +kernel)
  | 26, _ => exact rx_in 876 (by decide +kernel) (by decide +kernel)
  | 27, _ => exact rx_in 878 (by decide +kernel) (by decide +kernel)
  | 28, _ => exact rx_in 880 (by decide +kernel) (by decide +kernel)
  | k + 29, h => exact absurd h (by omega)
def rx_strs : List (Nat × String) := [(56, "no such bar, length or tempo"), (67, "a note would go over the bar's end"), (84, "no such bar, kind or value"), (90, "there is such a sign with another value"), (219, "no such part"), (102, "no such bar or pitch"), (107, "the note does not lie in the bar"), (117, "there are too many notes, or there is this one"), (135, "a pitch would be out of its bounds"), (217, "the map has a fault"), (223, "not so many bars are played")]
def m_SR_init : rx_T := (⟨"ScoreRoads", "<init>", "(I)V"⟩, prog_1_method_1_code, 3, none, [])
def m_Page_init : rx_T := (⟨"ScoreRoads$Page", "<init>", "(I)V"⟩, prog_6_method_1_code, 2, none, [])
def m_JA_fill : rx_T := (⟨"java/util/Arrays", "fill", "([II)V"⟩, prog_21_method_103_code, 4, none, [])
def m_Notes_init : rx_T := (⟨"ScoreRoads$Notes", "<init>", "()V"⟩, prog_5_method_1_code, 1, none, [])
def m_Repeats_init : rx_T := (⟨"ScoreRoads$Repeats", "<init>", "(I)V"⟩, prog_8_method_1_code, 3, none, [])
def m_Repeat_init : rx_T := (⟨"ScoreRoads$Repeat", "<init>", "()V"⟩, prog_7_method_1_code, 1, none, [])
def m_Road_init : rx_T := (⟨"ScoreRoads$Road", "<init>", "(I)V"⟩, prog_9_method_1_code, 2, none, [])
def m_Sounding_init : rx_T := (⟨"ScoreRoads$Sounding", "<init>", "()V"⟩, prog_10_method_1_code, 1, none, [])
def m_SR_signAt : rx_T := (⟨"ScoreRoads", "signAt", "(II)I"⟩, prog_1_method_4_code, 3, (some .int), [])
def m_Page_value : rx_T := (⟨"ScoreRoads$Page", "value", "(II)I"⟩, prog_6_method_7_code, 4, (some .int), [])
def m_SR_check : rx_T := (⟨"ScoreRoads", "check", "()I"⟩, prog_1_method_7_code, 1, (some .int), [])
def m_SR_knowRoad : rx_T := (⟨"ScoreRoads", "knowRoad", "()V"⟩, prog_1_method_19_code, 1, none, [])
def m_Repeats_gather : rx_T := (⟨"ScoreRoads$Repeats", "gather", "(LScoreRoads$Page;)V"⟩, prog_8_method_2_code, 3, none, [])
def m_Repeats_gatherEnds : rx_T := (⟨"ScoreRoads$Repeats", "gatherEnds", "(LScoreRoads$Page;)V"⟩, prog_8_method_3_code, 4, none, [])
def m_Page_has : rx_T := (⟨"ScoreRoads$Page", "has", "(II)Z"⟩, prog_6_method_8_code, 3, (some .boolean), [])
def m_Repeats_begin : rx_T := (⟨"ScoreRoads$Repeats", "begin", "(LScoreRoads$Page;II)LScoreRoads$Repeat;"⟩, prog_8_method_5_code, 6, (some (.object "ScoreRoads$Repeat")), [])
def m_Page_lastWith : rx_T := (⟨"ScoreRoads$Page", "lastWith", "(III)I"⟩, prog_6_method_11_code, 5, (some .int), [])
def m_JM_min : rx_T := (⟨"java/lang/Math", "min", "(II)I"⟩, prog_17_method_69_code, 2, (some .int), [])
def m_JM_max : rx_T := (⟨"java/lang/Math", "max", "(II)I"⟩, prog_17_method_65_code, 2, (some .int), [])
def m_Repeats_goesOn : rx_T := (⟨"ScoreRoads$Repeats", "goesOn", "(LScoreRoads$Page;II)Z"⟩, prog_8_method_4_code, 3, (some .boolean), [])
def m_Repeats_gatherEndings : rx_T := (⟨"ScoreRoads$Repeats", "gatherEndings", "(LScoreRoads$Page;LScoreRoads$Repeat;)V"⟩, prog_8_method_6_code, 4, none, [])
def m_Repeats_takeEnding : rx_T := (⟨"ScoreRoads$Repeats", "takeEnding", "(LScoreRoads$Page;LScoreRoads$Repeat;I)V"⟩, prog_8_method_7_code, 4, none, [])
def m_Repeat_hasEndings : rx_T := (⟨"ScoreRoads$Repeat", "hasEndings", "()Z"⟩, prog_7_method_2_code, 1, (some .boolean), [])
def m_Repeats_ofEnd : rx_T := (⟨"ScoreRoads$Repeats", "ofEnd", "(I)LScoreRoads$Repeat;"⟩, prog_8_method_8_code, 2, (some (.object "ScoreRoads$Repeat")), [])
def m_Faults_least : rx_T := (⟨"ScoreRoads$Faults", "least", "(LScoreRoads$Page;LScoreRoads$Repeats;)I"⟩, prog_2_method_2_code, 4, (some .int), [])
def m_Faults_isThere : rx_T := (⟨"ScoreRoads$Faults", "isThere", "(ILScoreRoads$Page;LScoreRoads$Repeats;I)Z"⟩, prog_2_method_3_code, 4, (some .boolean), [])
def m_Faults_isNeverEnded : rx_T := (⟨"ScoreRoads$Faults", "isNeverEnded", "(LScoreRoads$Page;I)Z"⟩, prog_2_method_4_code, 3, (some .boolean), [])
def m_Faults_isStrayEnding : rx_T := (⟨"ScoreRoads$Faults", "isStrayEnding", "(LScoreRoads$Repeats;I)Z"⟩, prog_2_method_5_code, 3, (some .boolean), [])
def m_Repeats_ofEnding : rx_T := (⟨"ScoreRoads$Repeats", "ofEnding", "(I)LScoreRoads$Repeat;"⟩, prog_8_method_9_code, 2, (some (.object "ScoreRoads$Repeat")), [])
def m_Faults_isUnlikeItsRepeat : rx_T := (⟨"ScoreRoads$Faults", "isUnlikeItsRepeat", "(LScoreRoads$Page;LScoreRoads$Repeats;I)Z"⟩, prog_2_method_6_code, 4, (some .boolean), [])
def m_Faults_isFirstOfWrongPasses : rx_T := (⟨"ScoreRoads$Faults", "isFirstOfWrongPasses", "(LScoreRoads$Page;LScoreRoads$Repeats;I)Z"⟩, prog_2_method_7_code, 7, (some .boolean), [])
def m_Repeats_around : rx_T := (⟨"ScoreRoads$Repeats", "around", "(I)LScoreRoads$Repeat;"⟩, prog_8_method_10_code, 3, (some (.object "ScoreRoads$Repeat")), [])
def m_Repeat_spans : rx_T := (⟨"ScoreRoads$Repeat", "spans", "(I)Z"⟩, prog_7_method_3_code, 2, (some .boolean), [])
def m_Page_hasPass : rx_T := (⟨"ScoreRoads$Page", "hasPass", "(II)Z"⟩, prog_6_method_9_code, 3, (some .boolean), [])
def m_Page_passBit : rx_T := (⟨"ScoreRoads$Page", "passBit", "(I)I"⟩, prog_6_method_10_code, 1, (some .int), [])
def m_Faults_isSecond : rx_T := (⟨"ScoreRoads$Faults", "isSecond", "(LScoreRoads$Page;II)Z"⟩, prog_2_method_8_code, 3, (some .boolean), [])
def m_Jump_target : rx_T := (⟨"ScoreRoads$Jump", "target", "(LScoreRoads$Page;I)I"⟩, prog_3_method_5_code, 2, (some .int), [])
def m_Jump_isToSegno : rx_T := (⟨"ScoreRoads$Jump", "isToSegno", "(I)Z"⟩, prog_3_method_2_code, 1, (some .boolean), [])
def m_Faults_lacksItsWay : rx_T := (⟨"ScoreRoads$Faults", "lacksItsWay", "(LScoreRoads$Page;I)Z"⟩, prog_2_method_9_code, 4, (some .boolean), [])
def m_Jump_way : rx_T := (⟨"ScoreRoads$Jump", "way", "(I)I"⟩, prog_3_method_3_code, 1, (some .int), [])
def m_Road_walk : rx_T := (⟨"ScoreRoads$Road", "walk", "(LScoreRoads$Page;LScoreRoads$Repeats;)V"⟩, prog_9_method_2_code, 6, none, [])
def m_Repeats_resetPasses : rx_T := (⟨"ScoreRoads$Repeats", "resetPasses", "()V"⟩, prog_8_method_11_code, 2, none, [])
def m_Road_insteadOf : rx_T := (⟨"ScoreRoads$Road", "insteadOf", "(ILScoreRoads$Page;LScoreRoads$Repeats;)I"⟩, prog_9_method_3_code, 8, (some .int), [])
def m_Road_isToComeAgain : rx_T := (⟨"ScoreRoads$Road", "isToComeAgain", "(ILScoreRoads$Repeats;)Z"⟩, prog_9_method_4_code, 4, (some .boolean), [])
def m_Road_leaveRepeatAtLastPass : rx_T := (⟨"ScoreRoads$Road", "leaveRepeatAtLastPass", "(ILScoreRoads$Page;LScoreRoads$Repeats;)V"⟩, prog_9_method_5_code, 4, none, [])
def m_Road_behind : rx_T := (⟨"ScoreRoads$Road", "behind", "(IZLScoreRoads$Page;LScoreRoads$Repeats;)I"⟩, prog_9_method_6_code, 6, (some .int), [])
def m_Road_jumpFrom : rx_T := (⟨"ScoreRoads$Road", "jumpFrom", "(ILScoreRoads$Page;LScoreRoads$Repeats;)I"⟩, prog_9_method_7_code, 5, (some .int), [])
def m_Jump_hasRepeats : rx_T := (⟨"ScoreRoads$Jump", "hasRepeats", "(I)Z"⟩, prog_3_method_4_code, 1, (some .boolean), [])
def m_Page_hasBar : rx_T := (⟨"ScoreRoads$Page", "hasBar", "(I)Z"⟩, prog_6_method_2_code, 2, (some .boolean), [])
def m_SR_plays : rx_T := (⟨"ScoreRoads", "plays", "()I"⟩, prog_1_method_8_code, 1, (some .int), [])
def m_La_cell : rx_T := (⟨"ScoreRoadsLaw", "cell", "([II)I"⟩, method_2_code, 2, (some .int), [])
def m_La_bar : rx_T := (⟨"ScoreRoadsLaw", "bar", "(LScoreRoads;III)I"⟩, method_3_code, 5, (some .int), [((0 : Nat), (7 : Nat), (10 : Nat), (13 : Nat)), ((0 : Nat), (7 : Nat), (14 : Nat), (15 : Nat))])
def m_SR_bar : rx_T := (⟨"ScoreRoads", "bar", "(III)V"⟩, prog_1_method_2_code, 4, none, [])
def m_SR_isWithin : rx_T := (⟨"ScoreRoads", "isWithin", "(III)Z"⟩, prog_1_method_25_code, 3, (some .boolean), [])
def m_Notes_endIn : rx_T := (⟨"ScoreRoads$Notes", "endIn", "(I)I"⟩, prog_5_method_7_code, 4, (some .int), [])
def m_Note_end : rx_T := (⟨"ScoreRoads$Note", "end", "()I"⟩, prog_4_method_2_code, 1, (some .int), [])
def m_Page_shape : rx_T := (⟨"ScoreRoads$Page", "shape", "(III)V"⟩, prog_6_method_3_code, 4, none, [])
def m_Sounding_forget : rx_T := (⟨"ScoreRoads$Sounding", "forget", "()V"⟩, prog_10_method_2_code, 1, none, [])
def m_La_sign : rx_T := (⟨"ScoreRoadsLaw", "sign", "(LScoreRoads;III[J)I"⟩, method_4_code, 6, (some .int), [((0 : Nat), (19 : Nat), (22 : Nat), (13 : Nat)), ((0 : Nat), (19 : Nat), (26 : Nat), (15 : Nat))])
def m_SR_sign : rx_T := (⟨"ScoreRoads", "sign", "(III)Z"⟩, prog_1_method_3_code, 5, (some .boolean), [])
def m_SR_isKind : rx_T := (⟨"ScoreRoads", "isKind", "(I)Z"⟩, prog_1_method_23_code, 1, (some .boolean), [])
def m_SR_isValue : rx_T := (⟨"ScoreRoads", "isValue", "(II)Z"⟩, prog_1_method_24_code, 2, (some .boolean), [])
def m_Page_put : rx_T := (⟨"ScoreRoads$Page", "put", "(III)V"⟩, prog_6_method_6_code, 4, none, [])
def m_La_note : rx_T := (⟨"ScoreRoadsLaw", "note", "(LScoreRoads;IIIIIZ[J)I"⟩, method_5_code, 9, (some .int), [((0 : Nat), (18 : Nat), (21 : Nat), (13 : Nat)), ((0 : Nat), (18 : Nat), (25 : Nat), (15 : Nat))])
def m_SR_note : rx_T := (⟨"ScoreRoads", "note", "(IIIIIZ)I"⟩, prog_1_method_5_code, 7, (some .int), [])
def m_SR_needPart : rx_T := (⟨"ScoreRoads", "needPart", "(I)V"⟩, prog_1_method_21_code, 1, none, [])
def m_Page_lengthOf : rx_T := (⟨"ScoreRoads$Page", "lengthOf", "(I)I"⟩, prog_6_method_4_code, 2, (some .int), [])
def m_Notes_isFull : rx_T := (⟨"ScoreRoads$Notes", "isFull", "()Z"⟩, prog_5_method_2_code, 1, (some .boolean), [])
def m_Notes_seek : rx_T := (⟨"ScoreRoads$Notes", "seek", "(IIII)LScoreRoads$Note;"⟩, prog_5_method_5_code, 7, (some (.object "ScoreRoads$Note")), [])
def m_Note_isIn : rx_T := (⟨"ScoreRoads$Note", "isIn", "(II)Z"⟩, prog_4_method_3_code, 3, (some .boolean), [])
def m_Note_init : rx_T := (⟨"ScoreRoads$Note", "<init>", "(IIIIIZ)V"⟩, prog_4_method_1_code, 7, none, [])
def m_Notes_add : rx_T := (⟨"ScoreRoads$Notes", "add", "(LScoreRoads$Note;)V"⟩, prog_5_method_3_code, 3, none, [])
def m_Note_isBehind : rx_T := (⟨"ScoreRoads$Note", "isBehind", "(LScoreRoads$Note;)Z"⟩, prog_4_method_5_code, 2, (some .boolean), [])
def m_La_transpose : rx_T := (⟨"ScoreRoadsLaw", "transpose", "(LScoreRoads;II[J)I"⟩, method_6_code, 5, (some .int), [((0 : Nat), (10 : Nat), (13 : Nat), (13 : Nat))])
def m_SR_transpose : rx_T := (⟨"ScoreRoads", "transpose", "(II)I"⟩, prog_1_method_6_code, 3, (some .int), [])
def m_Notes_canShift : rx_T := (⟨"ScoreRoads$Notes", "canShift", "(II)Z"⟩, prog_5_method_8_code, 6, (some .boolean), [])
def m_Notes_shift : rx_T := (⟨"ScoreRoads$Notes", "shift", "(II)I"⟩, prog_5_method_9_code, 5, (some .int), [])
def m_La_played : rx_T := (⟨"ScoreRoadsLaw", "played", "(LScoreRoads;I[J)I"⟩, method_7_code, 4, (some .int), [((0 : Nat), (9 : Nat), (12 : Nat), (15 : Nat)), ((0 : Nat), (9 : Nat), (15 : Nat), (33 : Nat))])
def m_SR_played : rx_T := (⟨"ScoreRoads", "played", "(I)I"⟩, prog_1_method_9_code, 2, (some .int), [])
def m_SR_needRoad : rx_T := (⟨"ScoreRoads", "needRoad", "()V"⟩, prog_1_method_20_code, 1, none, [])
def m_SR_needPlayed : rx_T := (⟨"ScoreRoads", "needPlayed", "(II)V"⟩, prog_1_method_22_code, 2, none, [])
def m_Road_barOf : rx_T := (⟨"ScoreRoads$Road", "barOf", "(I)I"⟩, prog_9_method_8_code, 2, (some .int), [])
def m_La_time : rx_T := (⟨"ScoreRoadsLaw", "time", "(LScoreRoads;I[J)I"⟩, method_8_code, 4, (some .int), [((0 : Nat), (9 : Nat), (12 : Nat), (15 : Nat)), ((0 : Nat), (9 : Nat), (15 : Nat), (33 : Nat))])
def m_SR_time : rx_T := (⟨"ScoreRoads", "time", "(I)I"⟩, prog_1_method_10_code, 2, (some .int), [])
def m_Road_timesUpTo : rx_T := (⟨"ScoreRoads$Road", "timesUpTo", "(I)I"⟩, prog_9_method_9_code, 4, (some .int), [])
def m_La_find : rx_T := (⟨"ScoreRoadsLaw", "find", "(LScoreRoads;II[J)I"⟩, method_9_code, 5, (some .int), [((0 : Nat), (10 : Nat), (13 : Nat), (15 : Nat))])
def m_SR_find : rx_T := (⟨"ScoreRoads", "find", "(II)I"⟩, prog_1_method_11_code, 3, (some .int), [])
def m_Road_indexOf : rx_T := (⟨"ScoreRoads$Road", "indexOf", "(II)I"⟩, prog_9_method_10_code, 5, (some .int), [])
def m_La_tick : rx_T := (⟨"ScoreRoadsLaw", "tick", "(LScoreRoads;I[J)I"⟩, method_10_code, 4, (some .int), [((0 : Nat), (8 : Nat), (11 : Nat), (15 : Nat)), ((0 : Nat), (8 : Nat), (14 : Nat), (33 : Nat))])
def m_SR_tick : rx_T := (⟨"ScoreRoads", "tick", "(I)J"⟩, prog_1_method_12_code, 2, (some .long), [])
def m_Road_ticksTo : rx_T := (⟨"ScoreRoads$Road", "ticksTo", "(LScoreRoads$Page;I)J"⟩, prog_9_method_11_code, 6, (some .long), [])
def m_Road_ticksOf : rx_T := (⟨"ScoreRoads$Road", "ticksOf", "(LScoreRoads$Page;I)J"⟩, prog_9_method_13_code, 2, (some .long), [])
def m_Page_tempoOf : rx_T := (⟨"ScoreRoads$Page", "tempoOf", "(I)I"⟩, prog_6_method_5_code, 2, (some .int), [])
def m_La_at : rx_T := (⟨"ScoreRoadsLaw", "at", "(LScoreRoads;J[J)I"⟩, method_11_code, 5, (some .int), [((0 : Nat), (9 : Nat), (12 : Nat), (15 : Nat))])
def m_SR_at : rx_T := (⟨"ScoreRoads", "at", "(J)I"⟩, prog_1_method_13_code, 3, (some .int), [])
def m_Road_indexAt : rx_T := (⟨"ScoreRoads$Road", "indexAt", "(LScoreRoads$Page;J)I"⟩, prog_9_method_12_code, 7, (some .int), [])
def m_La_sounds : rx_T := (⟨"ScoreRoadsLaw", "sounds", "(LScoreRoads;I[J)I"⟩, method_12_code, 4, (some .int), [((0 : Nat), (9 : Nat), (12 : Nat), (13 : Nat)), ((0 : Nat), (9 : Nat), (15 : Nat), (15 : Nat))])
def m_SR_sounds : rx_T := (⟨"ScoreRoads", "sounds", "(I)I"⟩, prog_1_method_14_code, 2, (some .int), [])
def m_Sounding_know : rx_T := (⟨"ScoreRoads$Sounding", "know", "(ILScoreRoads$Page;LScoreRoads$Notes;LScoreRoads$Road;)V"⟩, prog_10_method_3_code, 6, none, [])
def m_Sounding_gather : rx_T := (⟨"ScoreRoads$Sounding", "gather", "(IILScoreRoads$Page;LScoreRoads$Notes;LScoreRoads$Road;)V"⟩, prog_10_method_4_code, 8, none, [])
def m_Notes_get : rx_T := (⟨"ScoreRoads$Notes", "get", "(I)LScoreRoads$Note;"⟩, prog_5_method_4_code, 2, (some (.object "ScoreRoads$Note")), [])
def m_Notes_isGoingOn : rx_T := (⟨"ScoreRoads$Notes", "isGoingOn", "(LScoreRoads$Note;LScoreRoads$Page;I)Z"⟩, prog_5_method_11_code, 6, (some .boolean), [])
def m_Note_reachesOver : rx_T := (⟨"ScoreRoads$Note", "reachesOver", "(LScoreRoads$Page;)Z"⟩, prog_4_method_4_code, 2, (some .boolean), [])
def m_La_sound : rx_T := (⟨"ScoreRoadsLaw", "sound", "(LScoreRoads;III[J)I"⟩, method_13_code, 6, (some .int), [((0 : Nat), (11 : Nat), (14 : Nat), (13 : Nat)), ((0 : Nat), (11 : Nat), (18 : Nat), (15 : Nat))])
def m_SR_sound : rx_T := (⟨"ScoreRoads", "sound", "(III)J"⟩, prog_1_method_15_code, 4, (some .long), [])
def m_Sounding_beginOf : rx_T := (⟨"ScoreRoads$Sounding", "beginOf", "(ILScoreRoads$Page;LScoreRoads$Road;)J"⟩, prog_10_method_6_code, 5, (some .long), [])
def m_Sounding_firstOf : rx_T := (⟨"ScoreRoads$Sounding", "firstOf", "(I)LScoreRoads$Note;"⟩, prog_10_method_5_code, 2, (some (.object "ScoreRoads$Note")), [])
def m_Sounding_pitchOf : rx_T := (⟨"ScoreRoads$Sounding", "pitchOf", "(I)I"⟩, prog_10_method_7_code, 3, (some .int), [])
def m_Sounding_lengthOf : rx_T := (⟨"ScoreRoads$Sounding", "lengthOf", "(IZLScoreRoads$Page;LScoreRoads$Notes;LScoreRoads$Road;)J"⟩, prog_10_method_8_code, 10, (some .long), [])
def m_Notes_goingOn : rx_T := (⟨"ScoreRoads$Notes", "goingOn", "(LScoreRoads$Note;LScoreRoads$Page;I)LScoreRoads$Note;"⟩, prog_5_method_10_code, 4, (some (.object "ScoreRoads$Note")), [])
def m_La_rest : rx_T := (⟨"ScoreRoadsLaw", "rest", "(LScoreRoads;II[J)I"⟩, method_14_code, 5, (some .int), [((0 : Nat), (10 : Nat), (13 : Nat), (13 : Nat))])
def m_SR_rest : rx_T := (⟨"ScoreRoads", "rest", "(II)I"⟩, prog_1_method_16_code, 5, (some .int), [])
def m_Notes_isRest : rx_T := (⟨"ScoreRoads$Notes", "isRest", "(II)Z"⟩, prog_5_method_6_code, 4, (some .boolean), [])
def m_SR_goesOnResting : rx_T := (⟨"ScoreRoads", "goesOnResting", "(II)Z"⟩, prog_1_method_18_code, 3, (some .boolean), [])
def m_Page_isCutBefore : rx_T := (⟨"ScoreRoads$Page", "isCutBefore", "(I)Z"⟩, prog_6_method_12_code, 2, (some .boolean), [])
def m_Page_opensCut : rx_T := (⟨"ScoreRoads$Page", "opensCut", "(I)Z"⟩, prog_6_method_13_code, 2, (some .boolean), [])
def m_Page_closesCut : rx_T := (⟨"ScoreRoads$Page", "closesCut", "(I)Z"⟩, prog_6_method_14_code, 2, (some .boolean), [])
def m_SR_restBars : rx_T := (⟨"ScoreRoads", "restBars", "(II)I"⟩, prog_1_method_17_code, 4, (some .int), [])
def m_Mo_init : rx_T := (⟨"ScoreRoadsModel", "<init>", "(I)V"⟩, prog_12_method_1_code, 3, none, [])
def m_Mo_thrown : rx_T := (⟨"ScoreRoadsModel", "thrown", "()I"⟩, prog_12_method_2_code, 1, (some .int), [])
def m_Mo_bar : rx_T := (⟨"ScoreRoadsModel", "bar", "(III)V"⟩, prog_12_method_10_code, 5, none, [])
def m_Mo_isBar : rx_T := (⟨"ScoreRoadsModel", "isBar", "(I)Z"⟩, prog_12_method_5_code, 2, (some .boolean), [])
def m_Mo_within : rx_T := (⟨"ScoreRoadsModel", "within", "(III)Z"⟩, prog_12_method_4_code, 3, (some .boolean), [])
def m_Mo_sign : rx_T := (⟨"ScoreRoadsModel", "sign", "(III)Z"⟩, prog_12_method_11_code, 6, (some .boolean), [])
def m_Mo_signAt : rx_T := (⟨"ScoreRoadsModel", "signAt", "(II)I"⟩, prog_12_method_12_code, 3, (some .int), [])
def m_Mo_note : rx_T := (⟨"ScoreRoadsModel", "note", "(IIIIIZ)I"⟩, prog_12_method_13_code, 10, (some .int), [])
def m_Mo_isPart : rx_T := (⟨"ScoreRoadsModel", "isPart", "(I)Z"⟩, prog_12_method_6_code, 1, (some .boolean), [])
def m_Mo_refuse : rx_T := (⟨"ScoreRoadsModel", "refuse", "(I)I"⟩, prog_12_method_3_code, 2, (some .int), [])
def m_Mo_transpose : rx_T := (⟨"ScoreRoadsModel", "transpose", "(II)I"⟩, prog_12_method_14_code, 7, (some .int), [])
def m_Mo_check : rx_T := (⟨"ScoreRoadsModel", "check", "()I"⟩, prog_12_method_29_code, 1, (some .int), [])
def m_Mo_findFault : rx_T := (⟨"ScoreRoadsModel", "findFault", "()I"⟩, prog_12_method_28_code, 4, (some .int), [])
def m_Mo_findRepeats : rx_T := (⟨"ScoreRoadsModel", "findRepeats", "()V"⟩, prog_12_method_20_code, 6, none, [])
def m_Mo_has : rx_T := (⟨"ScoreRoadsModel", "has", "(II)Z"⟩, prog_12_method_8_code, 3, (some .boolean), [])
def m_Mo_signOf : rx_T := (⟨"ScoreRoadsModel", "signOf", "(II)I"⟩, prog_12_method_7_code, 3, (some .int), [])
def m_Mo_lastStart : rx_T := (⟨"ScoreRoadsModel", "lastStart", "(II)I"⟩, prog_12_method_15_code, 5, (some .int), [])
def m_Mo_lowest : rx_T := (⟨"ScoreRoadsModel", "lowest", "(I)I"⟩, prog_12_method_16_code, 3, (some .int), [])
def m_Mo_in : rx_T := (⟨"ScoreRoadsModel", "in", "(II)Z"⟩, prog_12_method_9_code, 2, (some .boolean), [])
def m_Mo_withEnding : rx_T := (⟨"ScoreRoadsModel", "withEnding", "(I)I"⟩, prog_12_method_18_code, 3, (some .int), [])
def m_Mo_checkStart : rx_T := (⟨"ScoreRoadsModel", "checkStart", "(I)V"⟩, prog_12_method_22_code, 5, none, [])
def m_Mo_wrong : rx_T := (⟨"ScoreRoadsModel", "wrong", "(ZII)V"⟩, prog_12_method_21_code, 5, none, [])
def m_Mo_checkEnding : rx_T := (⟨"ScoreRoadsModel", "checkEnding", "(I)V"⟩, prog_12_method_23_code, 3, none, [])
def m_Mo_isThere : rx_T := (⟨"ScoreRoadsModel", "isThere", "(III)Z"⟩, prog_12_method_25_code, 6, (some .boolean), [])
def m_Mo_checkJump : rx_T := (⟨"ScoreRoadsModel", "checkJump", "(I)V"⟩, prog_12_method_27_code, 6, none, [])
def m_Mo_firstOf : rx_T := (⟨"ScoreRoadsModel", "firstOf", "(I)I"⟩, prog_12_method_26_code, 3, (some .int), [])
def m_Mo_checkRepeat : rx_T := (⟨"ScoreRoadsModel", "checkRepeat", "(I)V"⟩, prog_12_method_24_code, 5, none, [])
def m_Mo_highest : rx_T := (⟨"ScoreRoadsModel", "highest", "(I)I"⟩, prog_12_method_17_code, 3, (some .int), [])
def m_Mo_plays : rx_T := (⟨"ScoreRoadsModel", "plays", "()I"⟩, prog_12_method_37_code, 1, (some .int), [])
def m_Mo_walk : rx_T := (⟨"ScoreRoadsModel", "walk", "()Z"⟩, prog_12_method_36_code, 2, (some .boolean), [])
def m_Mo_resetPasses : rx_T := (⟨"ScoreRoadsModel", "resetPasses", "()V"⟩, prog_12_method_32_code, 2, none, [])
def m_Mo_come : rx_T := (⟨"ScoreRoadsModel", "come", "(I)V"⟩, prog_12_method_33_code, 5, none, [])
def m_Mo_takes : rx_T := (⟨"ScoreRoadsModel", "takes", "()Z"⟩, prog_12_method_30_code, 1, (some .boolean), [])
def m_Mo_goOn : rx_T := (⟨"ScoreRoadsModel", "goOn", "()Z"⟩, prog_12_method_35_code, 2, (some .boolean), [])
def m_Mo_withEnd : rx_T := (⟨"ScoreRoadsModel", "withEnd", "(I)I"⟩, prog_12_method_19_code, 3, (some .int), [])
def m_Mo_how : rx_T := (⟨"ScoreRoadsModel", "how", "()I"⟩, prog_12_method_31_code, 1, (some .int), [])
def m_Mo_resetJumped : rx_T := (⟨"ScoreRoadsModel", "resetJumped", "(I)V"⟩, prog_12_method_34_code, 2, none, [])
def m_Mo_played : rx_T := (⟨"ScoreRoadsModel", "played", "(I)I"⟩, prog_12_method_39_code, 2, (some .int), [])
def m_Mo_wrongBar : rx_T := (⟨"ScoreRoadsModel", "wrongBar", "(II)I"⟩, prog_12_method_38_code, 3, (some .int), [])
def m_Mo_time : rx_T := (⟨"ScoreRoadsModel", "time", "(I)I"⟩, prog_12_method_40_code, 4, (some .int), [])
def m_Mo_find : rx_T := (⟨"ScoreRoadsModel", "find", "(II)I"⟩, prog_12_method_41_code, 5, (some .int), [])
def m_Mo_tick : rx_T := (⟨"ScoreRoadsModel", "tick", "(I)J"⟩, prog_12_method_43_code, 2, (some .long), [])
def m_Mo_ticksBefore : rx_T := (⟨"ScoreRoadsModel", "ticksBefore", "(I)J"⟩, prog_12_method_42_code, 5, (some .long), [])
def m_Mo_at : rx_T := (⟨"ScoreRoadsModel", "at", "(J)I"⟩, prog_12_method_44_code, 5, (some .int), [])
def m_Mo_sounds : rx_T := (⟨"ScoreRoadsModel", "sounds", "(I)I"⟩, prog_12_method_52_code, 3, (some .int), [])
def m_Mo_wrongPart : rx_T := (⟨"ScoreRoadsModel", "wrongPart", "(I)I"⟩, prog_12_method_51_code, 2, (some .int), [])
def m_Mo_seek : rx_T := (⟨"ScoreRoadsModel", "seek", "(II)I"⟩, prog_12_method_50_code, 6, (some .int), [])
def m_Mo_nextNote : rx_T := (⟨"ScoreRoadsModel", "nextNote", "(III)I"⟩, prog_12_method_49_code, 8, (some .int), [])
def m_Mo_goesOn : rx_T := (⟨"ScoreRoadsModel", "goesOn", "(II)Z"⟩, prog_12_method_47_code, 5, (some .boolean), [])
def m_Mo_reaches : rx_T := (⟨"ScoreRoadsModel", "reaches", "(I)Z"⟩, prog_12_method_45_code, 2, (some .boolean), [])
def m_Mo_follow : rx_T := (⟨"ScoreRoadsModel", "follow", "(II)V"⟩, prog_12_method_48_code, 5, none, [])
def m_Mo_opening : rx_T := (⟨"ScoreRoadsModel", "opening", "(III)I"⟩, prog_12_method_46_code, 6, (some .int), [])
def m_Mo_sound : rx_T := (⟨"ScoreRoadsModel", "sound", "(III)J"⟩, prog_12_method_53_code, 5, (some .long), [])
def m_Mo_rest : rx_T := (⟨"ScoreRoadsModel", "rest", "(II)I"⟩, prog_12_method_56_code, 7, (some .int), [])
def m_Mo_isRest : rx_T := (⟨"ScoreRoadsModel", "isRest", "(II)Z"⟩, prog_12_method_54_code, 5, (some .boolean), [])
def m_Mo_joins : rx_T := (⟨"ScoreRoadsModel", "joins", "(II)Z"⟩, prog_12_method_55_code, 5, (some .boolean), [])
