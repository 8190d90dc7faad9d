/-! the class's public methods: sounds, sound, rest -/
def fsm (f : Nat → Nat) : Nat → Nat → Nat
  | _, 0 => 0
  | i, m + 1 => f i + fsm f (i + 1) m
theorem fsm_le {f g : Nat → Nat} : ∀ (m i : Nat), (∀ j, i ≤ j → j < i + m → f j ≤ g j) → fsm f i m ≤ fsm g i m := by
  intro m
  induction m with
  | zero => intro i _; exact Nat.le_refl _
  | succ m ih =>
    intro i h
    have h1 := h i (Nat.le_refl _) (by omega)
    have h2 := ih (i + 1) (fun j a b => h j (by omega) (by omega))
    show f i + fsm f (i + 1) m ≤ g i + fsm g (i + 1) m
    omega
theorem fsm_k {c : Nat} : ∀ (m i : Nat), fsm (fun _ => c) i m = m * c := by
  intro m
  induction m with
  | zero => intro i; exact (Nat.zero_mul c).symm
  | succ m ih =>
    intro i
    show c + fsm (fun _ => c) (i + 1) m = _
    rw [ih, Nat.succ_mul]; omega
theorem fsm_ad {f g : Nat → Nat} : ∀ (m i : Nat), fsm (fun j => f j + g j) i m = fsm f i m + fsm g i m := by
  intro m
  induction m with
  | zero => intro i; rfl
  | succ m ih =>
    intro i
    show f i + g i + fsm (fun j => f j + g j) (i + 1) m = f i + fsm f (i + 1) m + (g i + fsm g (i + 1) m)
    rw [ih]; omega
theorem fsm_sw {a : Nat → Nat → Nat} {k0 K : Nat} : ∀ (m i : Nat), fsm (fun i => fsm (fun k => a i k) k0 K) i m = fsm (fun k => fsm (fun i => a i k) i m) k0 K := by
  intro m
  induction m with
  | zero =>
    intro i
    show 0 = fsm (fun _ => 0) k0 K
    rw [fsm_k, Nat.mul_zero]
  | succ m ih =>
    intro i
    show fsm (fun k => a i k) k0 K + fsm (fun i => fsm (fun k => a i k) k0 K) (i + 1) m = fsm (fun k => a i k + fsm (fun i => a i k) (i + 1) m) k0 K
    rw [ih, fsm_ad]
theorem fsm_e {f : Nat → Nat} : ∀ (m i : Nat), fsm f i (m + 1) = fsm f i m + f (i + m) := by
  intro m
  induction m with
  | zero => intro i; show f i + 0 = 0 + f i; omega
  | succ m ih =>
    intro i
    show f i + fsm f (i + 1) (m + 1) = f i + fsm f (i + 1) m + f (i + (m + 1))
    rw [ih, show i + 1 + m = i + (m + 1) from by omega]; omega
theorem sgl_len {ok : Nat → Bool} {i : Nat} : ∀ (m k : Nat), (sgl ok i k m).length = fsm (fun k => if ok k = true then 1 else 0) k m := by
  intro m
  induction m with
  | zero => intro k; rfl
  | succ m ih =>
    intro k
    show (if ok k = true then (k, i) :: sgl ok i (k + 1) m else sgl ok i (k + 1) m).length = (if ok k = true then 1 else 0) + fsm (fun k => if ok k = true then 1 else 0) (k + 1) m
    rw [← ih]
    by_cases c : ok k = true
    · rw [if_pos c, if_pos c, List.length_cons]; omega
    · rw [if_neg c, if_neg c]; omega
theorem sll_len {ok : Nat → Nat → Bool} {num : Nat} : ∀ (m i : Nat), (sll ok num i m).length = fsm (fun i => fsm (fun k => if ok i k = true then 1 else 0) 0 num) i m := by
  intro m
  induction m with
  | zero => intro i; rfl
  | succ m ih =>
    intro i
    show (sgl (ok i) i 0 num ++ sll ok num (i + 1) m).length = fsm (fun k => if ok i k = true then 1 else 0) 0 num + fsm (fun i => fsm (fun k => if ok i k = true then 1 else 0) 0 num) (i + 1) m
    rw [List.length_append, sgl_len, ih]
theorem sgl_mem {ok : Nat → Bool} {i : Nat} {x : Nat × Nat} : ∀ (m k : Nat), x ∈ sgl ok i k m → k ≤ x.1 ∧ x.1 < k + m ∧ x.2 = i ∧ ok x.1 = true := by
  intro m
  induction m with
  | zero => intro k h; cases h
  | succ m ih =>
    intro k h
    have h : x ∈ (if ok k = true then (k, i) :: sgl ok i (k + 1) m else sgl ok i (k + 1) m) := h
    by_cases c : ok k = true
    · rw [if_pos c] at h
      obtain h | h := List.mem_cons.mp h
      · rw [h]; exact ⟨Nat.le_refl _, by show k < k + (m + 1); omega, rfl, c⟩
      · have := ih (k + 1) h; exact ⟨by omega, by omega, this.2.2⟩
    · rw [if_neg c] at h
      have := ih (k + 1) h; exact ⟨by omega, by omega, this.2.2⟩
theorem sll_mem {ok : Nat → Nat → Bool} {num : Nat} {x : Nat × Nat} : ∀ (m i : Nat), x ∈ sll ok num i m → x.1 < num ∧ i ≤ x.2 ∧ x.2 < i + m ∧ ok x.2 x.1 = true := by
  intro m
  induction m with
  | zero => intro i h; cases h
  | succ m ih =>
    intro i h
    have h : x ∈ sgl (ok i) i 0 num ++ sll ok num (i + 1) m := h
    obtain h | h := List.mem_append.mp h
    · obtain ⟨h1, h2, h3, h4⟩ := sgl_mem num 0 h
      exact ⟨by omega, by omega, by omega, by rw [h3]; exact h4⟩
    · have := ih (i + 1) h; exact ⟨this.1, by omega, by omega, this.2.2.2⟩
theorem wct_fsm {n : Nat} {Va : Nat → Int32} {s : gT} {g : Nat → Option Nat} {x : Nat} : ∀ N, fsm (fun i => if x = wbr n Va s g i then 1 else 0) 0 N = wct n Va s g x N := by
  intro N
  induction N with
  | zero => rfl
  | succ N ih => rw [fsm_e, ih, Nat.zero_add]; rfl
theorem wbr_lt {n : Nat} {Va : Nat → Int32} (hn : n ≤ 20) (h0 : 0 < n) (hv : vok n Va) (hz : flt n Va = 0) (k : Nat) : wbr n Va (gst Va n) (gGn n Va) k < n := by
  unfold wbr
  cases e : (wsq n Va (gst Va n) (gGn n Va) k).2 with
  | none => exact h0
  | some c => exact (win_ran (fun y r z => ((vok_gN hv).2.1 y r z).2.1) ((WI_k hn h0 (vok_gN hv) (lst_0 hn hz) k).2.1 c e)).2
theorem sdc_len {n : Nat} {Le Va : Nat → Int32} {num : Nat} {NS : Nat → Nat → Int32} {p : Int32} (hn : n ≤ 20) (h0 : 0 < n) (hv : vok n Va) (hz : flt n Va = 0) (h40 : num ≤ 40) : (sdc n Le Va num NS p).length ≤ 480 := by
  obtain ⟨p1, p2, p3, p4⟩ := pN_ok hn h0 hv hz
  unfold sdc sds
  rw [sll_len, fsm_sw]
  have key : ∀ k, fsm (fun i => if sok n Le (pN n Va) (wf n Va) num NS p i k = true then 1 else 0) 0 (pN n Va) ≤ 12 := by
    intro k
    by_cases ex : ∃ i0, i0 < pN n Va ∧ sok n Le (pN n Va) (wf n Va) num NS p i0 k = true
    · obtain ⟨i0, h1, h2⟩ := ex
      have b1 : ∀ i, i < pN n Va → sok n Le (pN n Va) (wf n Va) num NS p i k = true → NS k 1 = wf n Va i := by
        intro i hi w
        unfold sok at w
        rw [Bool.and_eq_true] at w
        have w := (of_decide_eq_true w.1).2
        rw [brf_n (by omega) hi] at w
        exact w
      have le1 := fsm_le (f := fun i => if sok n Le (pN n Va) (wf n Va) num NS p i k = true then 1 else 0) (g := fun i => if wbr n Va (gst Va n) (gGn n Va) i0 = wbr n Va (gst Va n) (gGn n Va) i then 1 else 0) (pN n Va) 0 (fun j _ hj => by
        by_cases c : sok n Le (pN n Va) (wf n Va) num NS p j k = true
        · have e : wf n Va i0 = wf n Va j := (b1 i0 h1 h2).symm.trans (b1 j (by omega) c)
          unfold wf at e
          have l1 := wbr_lt hn h0 hv hz i0
          have l2 := wbr_lt hn h0 hv hz j
          have e := (nI_eq (by omega) (by omega)).mp e
          rw [if_pos c, if_pos e]
          exact Nat.le_refl _
        · rw [if_neg c]; exact Nat.zero_le _)
      rw [wct_fsm] at le1
      have := wct_le (x := wbr n Va (gst Va n) (gGn n Va) i0) hn h0 hv (vok_gN hv) (gGn_K n Va) (lst_0 hn hz) (pN n Va) p3
      omega
    · have le1 := fsm_le (f := fun i => if sok n Le (pN n Va) (wf n Va) num NS p i k = true then 1 else 0) (g := fun _ => 0) (pN n Va) 0 (fun j _ hj => by
        rw [if_neg (fun c => ex ⟨j, by omega, c⟩)]; exact Nat.le_refl _)
      rw [fsm_k] at le1
      omega
  have le2 := fsm_le (f := fun k => fsm (fun i => if sok n Le (pN n Va) (wf n Va) num NS p i k = true then 1 else 0) 0 (pN n Va)) (g := fun _ => 12) num 0 (fun j _ _ => key j)
  rw [fsm_k] at le2
  omega
theorem sds_c {n : Nat} {Le : Nat → Int32} {N : Nat} {f f' : Nat → Int32} {num : Nat} {NS : Nat → Nat → Int32} {p : Int32} (h : ∀ j, j < N → f j = f' j) : sds n Le N f num NS p = sds n Le N f' num NS p := by
  have e : brf N f = brf N f' := by
    funext x
    unfold brf
    by_cases c : 0 ≤ x.toInt ∧ x.toInt < N
    · rw [if_pos c, if_pos c]; exact h _ (by omega)
    · rw [if_neg c, if_neg c]
  unfold sds sok sgo
  rw [e]
theorem snx_c {n : Nat} {Le : Nat → Int32} {N : Nat} {f f' : Nat → Int32} {num : Nat} {NS : Nat → Nat → Int32} (h : ∀ j, j < N → f j = f' j) : snx n Le N f num NS = snx n Le N f' num NS := by
  have e : brf N f = brf N f' := by
    funext x
    unfold brf
    by_cases c : 0 ≤ x.toInt ∧ x.toInt < N
    · rw [if_pos c, if_pos c]; exact h _ (by omega)
    · rw [if_neg c, if_neg c]
  unfold snx
  rw [e]
theorem slf_c {n : Nat} {Le Te : Nat → Int32} {N : Nat} {f f' : Nat → Int32} {num : Nat} {NS : Nat → Nat → Int32} {t : Bool} (h : ∀ j, j < N → f j = f' j) : ∀ (m i : Nat) (o : Option Nat) (x : Int64), slf n Le Te N f num NS t x o i m = slf n Le Te N f' num NS t x o i m := by
  intro m
  induction m with
  | zero => intro i o x; cases o <;> rfl
  | succ m ih =>
    intro i o x
    cases o with
    | none => rfl
    | some k =>
      show slf n Le Te N f num NS t (x + slw n Te NS t k) (snx n Le N f num NS k i) (i + 1) m = slf n Le Te N f' num NS t (x + slw n Te NS t k) (snx n Le N f' num NS k i) (i + 1) m
      rw [ih, snx_c h]
section C5
variable {V : rx_V} {d kc ks l1 l2 : Nat} {h h' : List va_E} {A ra na : Nat → Nat} {n num : Nat} {Le Te Va fl fm : Nat → Int32} {NS : Nat → Nat → Int32} {kn : Bool} {kp : Int32}
theorem iwn_p {p : Int32} (h : ¬ iwn p 0 2 = 0) : p ≠ -1 := by
  intro z
  rw [z] at h
  exact h (by decide)
theorem x_sounds1 (htr : V.1.stackTraces = false) (C : is_cl V h A ra na n Le Te Va num NS kn kp) {p : Int32} (hx : iwn p 0 2 = 0) : rx_C V (d + 8) 1 6 m_SR_sounds [.ref (A 0), .int p] h (cPo V h A ra na n num (.inr 0) na Le Te Va num NS) := by
  obtain ⟨fs, c0⟩ := C.c0
  obtain ⟨hn, h0, h40⟩ := C.n20
  refine rx_iload_n d_SR_sounds_0 (by rfl) ?_
  refine rx_xS d_SR_sounds_1 ml_SR_99 st_SR_needPart (by exact c9_SR_needPart) rfl (by rfl) (by exact Nat.le_of_ble_eq_true rfl) (x_needPart (d := d + 1) htr hx) ?_
  rintro h1 rfl
  exact ⟨rfl, ⟨kn, kp, C.ap⟩, rx_gr.ap, by rw [List.length_append]; exact Nat.le_refl _⟩
theorem x_sounds2 (htr : V.1.stackTraces = false) (hv : vok n Va) (C : is_cl V h A ra na n Le Te Va num NS kn kp) {p : Int32} (hp0 : ¬ iwn p 0 2 = 0) (hz : ¬ flt n Va = 0) : rx_C V (d + 8) 1 6 m_SR_sounds [.ref (A 0), .int p] h (cPo V h A ra na n num (.inr 1) na Le Te Va num NS) := by
  obtain ⟨fs, c0⟩ := C.c0
  obtain ⟨hn, h0, h40⟩ := C.n20
  refine rx_iload_n d_SR_sounds_0 (by rfl) ?_
  refine rx_cS d_SR_sounds_1 ml_SR_99 st_SR_needPart (by exact c9_SR_needPart) (by rfl) (by exact Nat.le_of_ble_eq_true rfl) (c_needPart hp0) ?_
  refine rx_aload_nr d_SR_sounds_4 (by rfl) ?_
  refine rx_xV d_SR_sounds_5 (by rfl) ml_SR_147 im_SR_needRoad se_SR_needRoad (by exact c9_SR_needRoad) rfl c0 (by rfl) (by exact Nat.le_of_ble_eq_true rfl) (x_needRoad htr hv C hz) ?_
  exact fun h1 z => ⟨rfl, ⟨true, kp, z.1⟩, z.2.1, Nat.le_of_eq z.2.2⟩
theorem x_sound1 (htr : V.1.stackTraces = false) (C : is_cl V h A ra na n Le Te Va num NS kn kp) {p : Int32} (hx : iwn p 0 2 = 0) (i w : Int32) : rx_C V (d + 8) 1 6 m_SR_sound [.ref (A 0), .int p, .int i, .int w] h (cPo V h A ra na n num (.inr 0) na Le Te Va num NS) := by
  obtain ⟨fs, c0⟩ := C.c0
  obtain ⟨hn, h0, h40⟩ := C.n20
  refine rx_iload_n d_SR_sound_0 (by rfl) ?_
  refine rx_xS d_SR_sound_1 ml_SR_99 st_SR_needPart (by exact c9_SR_needPart) rfl (by rfl) (by exact Nat.le_of_ble_eq_true rfl) (x_needPart (d := d + 1) htr hx) ?_
  rintro h1 rfl
  exact ⟨rfl, ⟨kn, kp, C.ap⟩, rx_gr.ap, by rw [List.length_append]; exact Nat.le_refl _⟩
theorem x_sound2 (htr : V.1.stackTraces = false) (hv : vok n Va) (C : is_cl V h A ra na n Le Te Va num NS kn kp) {p : Int32} (hp0 : ¬ iwn p 0 2 = 0) (hz : ¬ flt n Va = 0) (i w : Int32) : rx_C V (d + 8) 1 6 m_SR_sound [.ref (A 0), .int p, .int i, .int w] h (cPo V h A ra na n num (.inr 1) na Le Te Va num NS) := by
  obtain ⟨fs, c0⟩ := C.c0
  obtain ⟨hn, h0, h40⟩ := C.n20
  refine rx_iload_n d_SR_sound_0 (by rfl) ?_
  refine rx_cS d_SR_sound_1 ml_SR_99 st_SR_needPart (by exact c9_SR_needPart) (by rfl) (by exact Nat.le_of_ble_eq_true rfl) (c_needPart hp0) ?_
  refine rx_aload_nr d_SR_sound_4 (by rfl) ?_
  refine rx_xV d_SR_sound_5 (by rfl) ml_SR_147 im_SR_needRoad se_SR_needRoad (by exact c9_SR_needRoad) rfl c0 (by rfl) (by exact Nat.le_of_ble_eq_true rfl) (x_needRoad htr hv C hz) ?_
  exact fun h1 z => ⟨rfl, ⟨true, kp, z.1⟩, z.2.1, Nat.le_of_eq z.2.2⟩
theorem c_sounds (hv : vok n Va) (C : is_cl V h A ra na n Le Te Va num NS kn kp) {p : Int32} (hp0 : ¬ iwn p 0 2 = 0) (hz : flt n Va = 0) : rx_C V (d + 8) 1 6 m_SR_sounds [.ref (A 0), .int p] h (cPo V h A ra na n num (.inl (some (.int (nI (sdc n Le Va num NS p).length)))) na Le Te Va num NS) := by
  obtain ⟨fs, c0⟩ := C.c0
  obtain ⟨hn, h0, h40⟩ := C.n20
  refine rx_iload_n d_SR_sounds_0 (by rfl) ?_
  refine rx_cS d_SR_sounds_1 ml_SR_99 st_SR_needPart (by exact c9_SR_needPart) (by rfl) (by exact Nat.le_of_ble_eq_true rfl) (c_needPart hp0) ?_
  refine rx_aload_nr d_SR_sounds_4 (by rfl) ?_
  refine rx_pV d_SR_sounds_5 (by rfl) ml_SR_147 im_SR_needRoad se_SR_needRoad (by exact c9_SR_needRoad) c0 (by rfl) (by exact Nat.le_of_ble_eq_true rfl) (c_needRoad hv C hz) ?_
  intro h1 z9
  obtain ⟨C1, f1⟩ := z9
  obtain ⟨fa, fw, fA, fE, fG, numR, R, N0, jm, wo, wy, tk, f, m9, fF, fI, ⟨c1, hp, hN, H, hE, hG, D, S⟩, ⟨kc1, kc2⟩, st⟩ := id C1
  obtain ⟨e1, e2⟩ := kc1 rfl
  rw [e1] at e2
  obtain ⟨e3, w1⟩ := e2 hz
  subst e3
  have fpA : ∀ i, i < 16 → fp_c A ra na n num (A i) := fun i hi => Or.inl ⟨i, hi, rfl⟩
  have es : sds n Le (pN n Va) f num NS p = sdc n Le Va num NS p := sds_c w1
  refine rx_aload_nr d_SR_sounds_8 (by rfl) ?_
  refine rx_getfield d_SR_sounds_9 fl_SR_42 c1 (by rfl) ?_
  refine rx_iload_n d_SR_sounds_12 (by rfl) ?_
  refine rx_aload_nr d_SR_sounds_13 (by rfl) ?_
  refine rx_getfield d_SR_sounds_14 fl_SR_14 c1 (by rfl) ?_
  refine rx_aload_nr d_SR_sounds_17 (by rfl) ?_
  refine rx_getfield d_SR_sounds_18 fl_SR_21 c1 (by rfl) ?_
  refine rx_aload_nr d_SR_sounds_21 (by rfl) ?_
  refine rx_getfield d_SR_sounds_22 fl_SR_35 c1 (by rfl) ?_
  refine rx_pV d_SR_sounds_25 (by rfl) ml_SR_171 im_Sounding_know se_Sounding_know (by exact c9_Sounding_know) S.1 (by rfl) (by exact Nat.le_of_ble_eq_true rfl) (c_know hp hN D S p (fun z => by rw [es, ← z]; exact (kc2 (by rw [z]; exact iwn_p hp0)).2.2) (by rw [es]; exact sdc_len hn h0 hv hz h40)) ?_
  intro h2 z9
  obtain ⟨fF2, fI2, S2, L2, f2⟩ := z9
  rw [es] at S2 L2
  have tt2 := S.tS
  have c12 := ob_frT c1 f2 tt2 (by unfold tS; omega)
  have hp2 := hp.frT f2 tt2 (by unfold tS; omega) (by unfold tS; omega) (by unfold tS; omega)
  have hN2 := hN.frT f2 tt2 (by unfold tS; omega) (by unfold tS; omega) (by unfold tS; omega)
  have H2 := H.frT f2 tt2 (by unfold tS; omega) (by unfold tS; omega) (by unfold tS; omega)
  have D2 := D.frT f2 tt2 (by unfold tS; omega) (by unfold tS; omega)
  have C2 : is_cl V h2 A ra na n Le Te Va num NS true p := ⟨fa, fw, fA, fE, fG, numR, R, _, jm, wo, wy, tk, f, _, fF2, fI2, ⟨c12, hp2, hN2, H2, hE, hG, D2, S2⟩, ⟨fun _ => ⟨e1, fun _ => ⟨rfl, w1⟩⟩, fun _ => ⟨rfl, hz, rfl, L2⟩⟩, st⟩
  have F2 : rx_fr V h h2 (fp_c A ra na n num) := f1.tr (f2.mo (fun q z => by
    obtain z | z | z := z
    · rw [z]; exact fpA 13 (by omega)
    · rw [z]; exact fpA 14 (by omega)
    · rw [z]; exact fpA 15 (by omega)))
  refine rx_aload_nr d_SR_sounds_28 (by rfl) ?_
  refine rx_getfield d_SR_sounds_29 fl_SR_42 c12 (by rfl) ?_
  refine rx_getfield d_SR_sounds_32 fl_SR_175 S2.1 (by rfl) ?_
  refine rx_ireturn d_SR_sounds_35 (by rfl) ?_
  exact ⟨rfl, ⟨true, p, C2⟩, F2.gr, by rw [F2.1]; omega⟩
theorem c_sound0 (hv : vok n Va) (C : is_cl V h A ra na n Le Te Va num NS kn kp) {p : Int32} (hp0 : ¬ iwn p 0 2 = 0) (hz : flt n Va = 0) {i : Int32} (hi : iwn i 0 (nI (sdc n Le Va num NS p).length - 1) = 0) (w : Int32) : rx_C V (d + 8) 1 6 m_SR_sound [.ref (A 0), .int p, .int i, .int w] h (cPo V h A ra na n num (.inl (some (.long (-1)))) na Le Te Va num NS) := by
  obtain ⟨fs, c0⟩ := C.c0
  obtain ⟨hn, h0, h40⟩ := C.n20
  refine rx_iload_n d_SR_sound_0 (by rfl) ?_
  refine rx_cS d_SR_sound_1 ml_SR_99 st_SR_needPart (by exact c9_SR_needPart) (by rfl) (by exact Nat.le_of_ble_eq_true rfl) (c_needPart hp0) ?_
  refine rx_aload_nr d_SR_sound_4 (by rfl) ?_
  refine rx_pV d_SR_sound_5 (by rfl) ml_SR_147 im_SR_needRoad se_SR_needRoad (by exact c9_SR_needRoad) c0 (by rfl) (by exact Nat.le_of_ble_eq_true rfl) (c_needRoad hv C hz) ?_
  intro h1 z9
  obtain ⟨C1, f1⟩ := z9
  obtain ⟨fa, fw, fA, fE, fG, numR, R, N0, jm, wo, wy, tk, f, m9, fF, fI, ⟨c1, hp, hN, H, hE, hG, D, S⟩, ⟨kc1, kc2⟩, st⟩ := id C1
  obtain ⟨e1, e2⟩ := kc1 rfl
  rw [e1] at e2
  obtain ⟨e3, w1⟩ := e2 hz
  subst e3
  have fpA : ∀ i, i < 16 → fp_c A ra na n num (A i) := fun i hi => Or.inl ⟨i, hi, rfl⟩
  have es : sds n Le (pN n Va) f num NS p = sdc n Le Va num NS p := sds_c w1
  refine rx_aload_nr d_SR_sound_8 (by rfl) ?_
  refine rx_getfield d_SR_sound_9 fl_SR_42 c1 (by rfl) ?_
  refine rx_iload_n d_SR_sound_12 (by rfl) ?_
  refine rx_aload_nr d_SR_sound_13 (by rfl) ?_
  refine rx_getfield d_SR_sound_14 fl_SR_14 c1 (by rfl) ?_
  refine rx_aload_nr d_SR_sound_17 (by rfl) ?_
  refine rx_getfield d_SR_sound_18 fl_SR_21 c1 (by rfl) ?_
  refine rx_aload_nr d_SR_sound_21 (by rfl) ?_
  refine rx_getfield d_SR_sound_22 fl_SR_35 c1 (by rfl) ?_
  refine rx_pV d_SR_sound_25 (by rfl) ml_SR_171 im_Sounding_know se_Sounding_know (by exact c9_Sounding_know) S.1 (by rfl) (by exact Nat.le_of_ble_eq_true rfl) (c_know hp hN D S p (fun z => by rw [es, ← z]; exact (kc2 (by rw [z]; exact iwn_p hp0)).2.2) (by rw [es]; exact sdc_len hn h0 hv hz h40)) ?_
  intro h2 z9
  obtain ⟨fF2, fI2, S2, L2, f2⟩ := z9
  rw [es] at S2 L2
  have tt2 := S.tS
  have c12 := ob_frT c1 f2 tt2 (by unfold tS; omega)
  have hp2 := hp.frT f2 tt2 (by unfold tS; omega) (by unfold tS; omega) (by unfold tS; omega)
  have hN2 := hN.frT f2 tt2 (by unfold tS; omega) (by unfold tS; omega) (by unfold tS; omega)
  have H2 := H.frT f2 tt2 (by unfold tS; omega) (by unfold tS; omega) (by unfold tS; omega)
  have D2 := D.frT f2 tt2 (by unfold tS; omega) (by unfold tS; omega)
  have C2 : is_cl V h2 A ra na n Le Te Va num NS true p := ⟨fa, fw, fA, fE, fG, numR, R, _, jm, wo, wy, tk, f, _, fF2, fI2, ⟨c12, hp2, hN2, H2, hE, hG, D2, S2⟩, ⟨fun _ => ⟨e1, fun _ => ⟨rfl, w1⟩⟩, fun _ => ⟨rfl, hz, rfl, L2⟩⟩, st⟩
  have F2 : rx_fr V h h2 (fp_c A ra na n num) := f1.tr (f2.mo (fun q z => by
    obtain z | z | z := z
    · rw [z]; exact fpA 13 (by omega)
    · rw [z]; exact fpA 14 (by omega)
    · rw [z]; exact fpA 15 (by omega)))
  refine rx_iload_n d_SR_sound_28 (by rfl) ?_
  refine rx_iconst (v := 0) d_SR_sound_29 (by decide) ?_
  refine rx_aload_nr d_SR_sound_30 (by rfl) ?_
  refine rx_getfield d_SR_sound_31 fl_SR_42 c12 (by rfl) ?_
  refine rx_getfield d_SR_sound_34 fl_SR_175 S2.1 (by rfl) ?_
  refine rx_iconst (v := 1) d_SR_sound_37 (by decide) ?_
  refine rx_isub d_SR_sound_38 ?_
  refine rx_cS d_SR_sound_39 ml_SR_50 st_SR_isWithin (by exact c9_SR_isWithin) (by rfl) (by exact Nat.le_of_ble_eq_true rfl) (c_isWithin i 0 (nI (sdc n Le Va num NS p).length - 1)) ?_
  refine rx_if_ne (tgt := 49) d_SR_sound_42 (by rfl) (fun z => absurd hi z) (fun c42 => ?_)
  refine rx_ldc2 d_SR_sound_45 kl_SR_176 ?_
  refine rx_lreturn d_SR_sound_48 (by rfl) ?_
  exact ⟨rfl, ⟨true, p, C2⟩, F2.gr, by rw [F2.1]; omega⟩
theorem c_soundA0 (hv : vok n Va) (C : is_cl V h A ra na n Le Te Va num NS kn kp) {p : Int32} (hp0 : ¬ iwn p 0 2 = 0) (hz : flt n Va = 0) {j k a : Nat} (hx : (sdc n Le Va num NS p)[j]? = some (k, a)) : rx_C V (d + 8) 1 6 m_SR_sound [.ref (A 0), .int p, .int (nI j), .int (nI 0)] h (cPo V h A ra na n num (.inl (some (.long (ffo (tks n Le Te (wf n Va)) 0 0 a + (NS k 2).toInt64 * (pgl n Te (NS k 1)).toInt64)))) na Le Te Va num NS) := by
  obtain ⟨fs, c0⟩ := C.c0
  obtain ⟨hn, h0, h40⟩ := C.n20
  have hm := sll_mem (pN n Va) 0 (List.mem_of_getElem? hx)
  have hka : k < num ∧ a < pN n Va := ⟨hm.1, by have := hm.2.2.1; show a < pN n Va; exact Nat.lt_of_lt_of_eq this (Nat.zero_add _)⟩
  have hj : j < (sdc n Le Va num NS p).length := (List.getElem?_eq_some_iff.mp hx).1
  have h480 := sdc_len (Le := Le) (NS := NS) (p := p) hn h0 hv hz h40
  have hw9 : ¬ iwn (nI j) 0 (nI (sdc n Le Va num NS p).length - 1) = 0 := (iwn_N (by omega) (by omega)).mpr ⟨j, hj, rfl⟩
  refine rx_iload_n d_SR_sound_0 (by rfl) ?_
  refine rx_cS d_SR_sound_1 ml_SR_99 st_SR_needPart (by exact c9_SR_needPart) (by rfl) (by exact Nat.le_of_ble_eq_true rfl) (c_needPart hp0) ?_
  refine rx_aload_nr d_SR_sound_4 (by rfl) ?_
  refine rx_pV d_SR_sound_5 (by rfl) ml_SR_147 im_SR_needRoad se_SR_needRoad (by exact c9_SR_needRoad) c0 (by rfl) (by exact Nat.le_of_ble_eq_true rfl) (c_needRoad hv C hz) ?_
  intro h1 z9
  obtain ⟨C1, f1⟩ := z9
  obtain ⟨fa, fw, fA, fE, fG, numR, R, N0, jm, wo, wy, tk, f, m9, fF, fI, ⟨c1, hp, hN, H, hE, hG, D, S⟩, ⟨kc1, kc2⟩, st⟩ := id C1
  obtain ⟨e1, e2⟩ := kc1 rfl
  rw [e1] at e2
  obtain ⟨e3, w1⟩ := e2 hz
  subst e3
  have fpA : ∀ i, i < 16 → fp_c A ra na n num (A i) := fun i hi => Or.inl ⟨i, hi, rfl⟩
  have es : sds n Le (pN n Va) f num NS p = sdc n Le Va num NS p := sds_c w1
  refine rx_aload_nr d_SR_sound_8 (by rfl) ?_
  refine rx_getfield d_SR_sound_9 fl_SR_42 c1 (by rfl) ?_
  refine rx_iload_n d_SR_sound_12 (by rfl) ?_
  refine rx_aload_nr d_SR_sound_13 (by rfl) ?_
  refine rx_getfield d_SR_sound_14 fl_SR_14 c1 (by rfl) ?_
  refine rx_aload_nr d_SR_sound_17 (by rfl) ?_
  refine rx_getfield d_SR_sound_18 fl_SR_21 c1 (by rfl) ?_
  refine rx_aload_nr d_SR_sound_21 (by rfl) ?_
  refine rx_getfield d_SR_sound_22 fl_SR_35 c1 (by rfl) ?_
  refine rx_pV d_SR_sound_25 (by rfl) ml_SR_171 im_Sounding_know se_Sounding_know (by exact c9_Sounding_know) S.1 (by rfl) (by exact Nat.le_of_ble_eq_true rfl) (c_know hp hN D S p (fun z => by rw [es, ← z]; exact (kc2 (by rw [z]; exact iwn_p hp0)).2.2) (by rw [es]; exact sdc_len hn h0 hv hz h40)) ?_
  intro h2 z9
  obtain ⟨fF2, fI2, S2, L2, f2⟩ := z9
  rw [es] at S2 L2
  have tt2 := S.tS
  have c12 := ob_frT c1 f2 tt2 (by unfold tS; omega)
  have hp2 := hp.frT f2 tt2 (by unfold tS; omega) (by unfold tS; omega) (by unfold tS; omega)
  have hN2 := hN.frT f2 tt2 (by unfold tS; omega) (by unfold tS; omega) (by unfold tS; omega)
  have H2 := H.frT f2 tt2 (by unfold tS; omega) (by unfold tS; omega) (by unfold tS; omega)
  have D2 := D.frT f2 tt2 (by unfold tS; omega) (by unfold tS; omega)
  have C2 : is_cl V h2 A ra na n Le Te Va num NS true p := ⟨fa, fw, fA, fE, fG, numR, R, _, jm, wo, wy, tk, f, _, fF2, fI2, ⟨c12, hp2, hN2, H2, hE, hG, D2, S2⟩, ⟨fun _ => ⟨e1, fun _ => ⟨rfl, w1⟩⟩, fun _ => ⟨rfl, hz, rfl, L2⟩⟩, st⟩
  have F2 : rx_fr V h h2 (fp_c A ra na n num) := f1.tr (f2.mo (fun q z => by
    obtain z | z | z := z
    · rw [z]; exact fpA 13 (by omega)
    · rw [z]; exact fpA 14 (by omega)
    · rw [z]; exact fpA 15 (by omega)))
  refine rx_iload_n d_SR_sound_28 (by rfl) ?_
  refine rx_iconst (v := 0) d_SR_sound_29 (by decide) ?_
  refine rx_aload_nr d_SR_sound_30 (by rfl) ?_
  refine rx_getfield d_SR_sound_31 fl_SR_42 c12 (by rfl) ?_
  refine rx_getfield d_SR_sound_34 fl_SR_175 S2.1 (by rfl) ?_
  refine rx_iconst (v := 1) d_SR_sound_37 (by decide) ?_
  refine rx_isub d_SR_sound_38 ?_
  refine rx_cS d_SR_sound_39 ml_SR_50 st_SR_isWithin (by exact c9_SR_isWithin) (by rfl) (by exact Nat.le_of_ble_eq_true rfl) (c_isWithin (nI j) 0 (nI (sdc n Le Va num NS p).length - 1)) ?_
  refine rx_if_ne (tgt := 49) d_SR_sound_42 (by rfl) (fun c42 => ?_) (fun z => absurd z hw9)
  refine rx_iload_n d_SR_sound_49 (by rfl) ?_
  refine rx_tableIn (x := nI 0) (off := 30) (tgt := 80) d_SR_sound_50 (by decide) (by decide) (by decide) (by decide) ?_
  · refine rx_aload_nr d_SR_sound_80 (by rfl) ?_
    refine rx_getfield d_SR_sound_81 fl_SR_42 c12 (by rfl) ?_
    refine rx_iload_n d_SR_sound_84 (by rfl) ?_
    refine rx_aload_nr d_SR_sound_85 (by rfl) ?_
    refine rx_getfield d_SR_sound_86 fl_SR_14 c12 (by rfl) ?_
    refine rx_aload_nr d_SR_sound_89 (by rfl) ?_
    refine rx_getfield d_SR_sound_90 fl_SR_35 c12 (by rfl) ?_
    refine rx_cV d_SR_sound_93 (by rfl) ml_SR_178 im_Sounding_beginOf se_Sounding_beginOf (by exact c9_Sounding_beginOf) S2.1 (by rfl) (by exact Nat.le_of_ble_eq_true rfl) (c_beginOf S2 L2 hx hp2 hN2 D2 hka.1 hka.2) ?_
    rw [ffo_c (G := tks n Le Te (wf n Va)) a 0 0 (fun x j _ h2 => by unfold tks; rw [w1 j (by omega)])]
    refine rx_lreturn d_SR_sound_96 (by rfl) ?_
    exact ⟨rfl, ⟨true, p, C2⟩, F2.gr, by rw [F2.1]; omega⟩
theorem c_soundA1 (hv : vok n Va) (C : is_cl V h A ra na n Le Te Va num NS kn kp) {p : Int32} (hp0 : ¬ iwn p 0 2 = 0) (hz : flt n Va = 0) {j k a : Nat} (hx : (sdc n Le Va num NS p)[j]? = some (k, a)) : rx_C V (d + 8) 1 6 m_SR_sound [.ref (A 0), .int p, .int (nI j), .int (nI 1)] h (cPo V h A ra na n num (.inl (some (.long ((NS k 4).toInt64)))) na Le Te Va num NS) := by
  obtain ⟨fs, c0⟩ := C.c0
  obtain ⟨hn, h0, h40⟩ := C.n20
  have hm := sll_mem (pN n Va) 0 (List.mem_of_getElem? hx)
  have hka : k < num ∧ a < pN n Va := ⟨hm.1, by have := hm.2.2.1; show a < pN n Va; exact Nat.lt_of_lt_of_eq this (Nat.zero_add _)⟩
  have hj : j < (sdc n Le Va num NS p).length := (List.getElem?_eq_some_iff.mp hx).1
  have h480 := sdc_len (Le := Le) (NS := NS) (p := p) hn h0 hv hz h40
  have hw9 : ¬ iwn (nI j) 0 (nI (sdc n Le Va num NS p).length - 1) = 0 := (iwn_N (by omega) (by omega)).mpr ⟨j, hj, rfl⟩
  refine rx_iload_n d_SR_sound_0 (by rfl) ?_
  refine rx_cS d_SR_sound_1 ml_SR_99 st_SR_needPart (by exact c9_SR_needPart) (by rfl) (by exact Nat.le_of_ble_eq_true rfl) (c_needPart hp0) ?_
  refine rx_aload_nr d_SR_sound_4 (by rfl) ?_
  refine rx_pV d_SR_sound_5 (by rfl) ml_SR_147 im_SR_needRoad se_SR_needRoad (by exact c9_SR_needRoad) c0 (by rfl) (by exact Nat.le_of_ble_eq_true rfl) (c_needRoad hv C hz) ?_
  intro h1 z9
  obtain ⟨C1, f1⟩ := z9
  obtain ⟨fa, fw, fA, fE, fG, numR, R, N0, jm, wo, wy, tk, f, m9, fF, fI, ⟨c1, hp, hN, H, hE, hG, D, S⟩, ⟨kc1, kc2⟩, st⟩ := id C1
  obtain ⟨e1, e2⟩ := kc1 rfl
  rw [e1] at e2
  obtain ⟨e3, w1⟩ := e2 hz
  subst e3
  have fpA : ∀ i, i < 16 → fp_c A ra na n num (A i) := fun i hi => Or.inl ⟨i, hi, rfl⟩
  have es : sds n Le (pN n Va) f num NS p = sdc n Le Va num NS p := sds_c w1
  refine rx_aload_nr d_SR_sound_8 (by rfl) ?_
  refine rx_getfield d_SR_sound_9 fl_SR_42 c1 (by rfl) ?_
  refine rx_iload_n d_SR_sound_12 (by rfl) ?_
  refine rx_aload_nr d_SR_sound_13 (by rfl) ?_
  refine rx_getfield d_SR_sound_14 fl_SR_14 c1 (by rfl) ?_
  refine rx_aload_nr d_SR_sound_17 (by rfl) ?_
  refine rx_getfield d_SR_sound_18 fl_SR_21 c1 (by rfl) ?_
  refine rx_aload_nr d_SR_sound_21 (by rfl) ?_
  refine rx_getfield d_SR_sound_22 fl_SR_35 c1 (by rfl) ?_
  refine rx_pV d_SR_sound_25 (by rfl) ml_SR_171 im_Sounding_know se_Sounding_know (by exact c9_Sounding_know) S.1 (by rfl) (by exact Nat.le_of_ble_eq_true rfl) (c_know hp hN D S p (fun z => by rw [es, ← z]; exact (kc2 (by rw [z]; exact iwn_p hp0)).2.2) (by rw [es]; exact sdc_len hn h0 hv hz h40)) ?_
  intro h2 z9
  obtain ⟨fF2, fI2, S2, L2, f2⟩ := z9
  rw [es] at S2 L2
  have tt2 := S.tS
  have c12 := ob_frT c1 f2 tt2 (by unfold tS; omega)
  have hp2 := hp.frT f2 tt2 (by unfold tS; omega) (by unfold tS; omega) (by unfold tS; omega)
  have hN2 := hN.frT f2 tt2 (by unfold tS; omega) (by unfold tS; omega) (by unfold tS; omega)
  have H2 := H.frT f2 tt2 (by unfold tS; omega) (by unfold tS; omega) (by unfold tS; omega)
  have D2 := D.frT f2 tt2 (by unfold tS; omega) (by unfold tS; omega)
  have C2 : is_cl V h2 A ra na n Le Te Va num NS true p := ⟨fa, fw, fA, fE, fG, numR, R, _, jm, wo, wy, tk, f, _, fF2, fI2, ⟨c12, hp2, hN2, H2, hE, hG, D2, S2⟩, ⟨fun _ => ⟨e1, fun _ => ⟨rfl, w1⟩⟩, fun _ => ⟨rfl, hz, rfl, L2⟩⟩, st⟩
  have F2 : rx_fr V h h2 (fp_c A ra na n num) := f1.tr (f2.mo (fun q z => by
    obtain z | z | z := z
    · rw [z]; exact fpA 13 (by omega)
    · rw [z]; exact fpA 14 (by omega)
    · rw [z]; exact fpA 15 (by omega)))
  refine rx_iload_n d_SR_sound_28 (by rfl) ?_
  refine rx_iconst (v := 0) d_SR_sound_29 (by decide) ?_
  refine rx_aload_nr d_SR_sound_30 (by rfl) ?_
  refine rx_getfield d_SR_sound_31 fl_SR_42 c12 (by rfl) ?_
  refine rx_getfield d_SR_sound_34 fl_SR_175 S2.1 (by rfl) ?_
  refine rx_iconst (v := 1) d_SR_sound_37 (by decide) ?_
  refine rx_isub d_SR_sound_38 ?_
  refine rx_cS d_SR_sound_39 ml_SR_50 st_SR_isWithin (by exact c9_SR_isWithin) (by rfl) (by exact Nat.le_of_ble_eq_true rfl) (c_isWithin (nI j) 0 (nI (sdc n Le Va num NS p).length - 1)) ?_
  refine rx_if_ne (tgt := 49) d_SR_sound_42 (by rfl) (fun c42 => ?_) (fun z => absurd z hw9)
  refine rx_iload_n d_SR_sound_49 (by rfl) ?_
  refine rx_tableIn (x := nI 1) (off := 47) (tgt := 97) d_SR_sound_50 (by decide) (by decide) (by decide) (by decide) ?_
  · refine rx_aload_nr d_SR_sound_97 (by rfl) ?_
    refine rx_getfield d_SR_sound_98 fl_SR_42 c12 (by rfl) ?_
    refine rx_iload_n d_SR_sound_101 (by rfl) ?_
    refine rx_cV d_SR_sound_102 (by rfl) ml_SR_182 im_Sounding_pitchOf se_Sounding_pitchOf (by exact c9_Sounding_pitchOf) S2.1 (by rfl) (by exact Nat.le_of_ble_eq_true rfl) (c_pitchOf S2 L2 hx (hN2.2.2.2.1 k hka.1)) ?_
    refine rx_i2l d_SR_sound_105 ?_
    refine rx_lreturn d_SR_sound_106 (by rfl) ?_
    exact ⟨rfl, ⟨true, p, C2⟩, F2.gr, by rw [F2.1]; omega⟩
theorem c_soundA2 (hv : vok n Va) (C : is_cl V h A ra na n Le Te Va num NS kn kp) {p : Int32} (hp0 : ¬ iwn p 0 2 = 0) (hz : flt n Va = 0) {j k a : Nat} (hx : (sdc n Le Va num NS p)[j]? = some (k, a)) : rx_C V (d + 8) 1 6 m_SR_sound [.ref (A 0), .int p, .int (nI j), .int (nI 2)] h (cPo V h A ra na n num (.inl (some (.long (slf n Le Te (pN n Va) (wf n Va) num NS false 0 (some k) a (pN n Va - a))))) na Le Te Va num NS) := by
  obtain ⟨fs, c0⟩ := C.c0
  obtain ⟨hn, h0, h40⟩ := C.n20
  have hm := sll_mem (pN n Va) 0 (List.mem_of_getElem? hx)
  have hka : k < num ∧ a < pN n Va := ⟨hm.1, by have := hm.2.2.1; show a < pN n Va; exact Nat.lt_of_lt_of_eq this (Nat.zero_add _)⟩
  have hj : j < (sdc n Le Va num NS p).length := (List.getElem?_eq_some_iff.mp hx).1
  have h480 := sdc_len (Le := Le) (NS := NS) (p := p) hn h0 hv hz h40
  have hw9 : ¬ iwn (nI j) 0 (nI (sdc n Le Va num NS p).length - 1) = 0 := (iwn_N (by omega) (by omega)).mpr ⟨j, hj, rfl⟩
  refine rx_iload_n d_SR_sound_0 (by rfl) ?_
  refine rx_cS d_SR_sound_1 ml_SR_99 st_SR_needPart (by exact c9_SR_needPart) (by rfl) (by exact Nat.le_of_ble_eq_true rfl) (c_needPart hp0) ?_
  refine rx_aload_nr d_SR_sound_4 (by rfl) ?_
  refine rx_pV d_SR_sound_5 (by rfl) ml_SR_147 im_SR_needRoad se_SR_needRoad (by exact c9_SR_needRoad) c0 (by rfl) (by exact Nat.le_of_ble_eq_true rfl) (c_needRoad hv C hz) ?_
  intro h1 z9
  obtain ⟨C1, f1⟩ := z9
  obtain ⟨fa, fw, fA, fE, fG, numR, R, N0, jm, wo, wy, tk, f, m9, fF, fI, ⟨c1, hp, hN, H, hE, hG, D, S⟩, ⟨kc1, kc2⟩, st⟩ := id C1
  obtain ⟨e1, e2⟩ := kc1 rfl
  rw [e1] at e2
  obtain ⟨e3, w1⟩ := e2 hz
  subst e3
  have fpA : ∀ i, i < 16 → fp_c A ra na n num (A i) := fun i hi => Or.inl ⟨i, hi, rfl⟩
  have es : sds n Le (pN n Va) f num NS p = sdc n Le Va num NS p := sds_c w1
  refine rx_aload_nr d_SR_sound_8 (by rfl) ?_
  refine rx_getfield d_SR_sound_9 fl_SR_42 c1 (by rfl) ?_
  refine rx_iload_n d_SR_sound_12 (by rfl) ?_
  refine rx_aload_nr d_SR_sound_13 (by rfl) ?_
  refine rx_getfield d_SR_sound_14 fl_SR_14 c1 (by rfl) ?_
  refine rx_aload_nr d_SR_sound_17 (by rfl) ?_
  refine rx_getfield d_SR_sound_18 fl_SR_21 c1 (by rfl) ?_
  refine rx_aload_nr d_SR_sound_21 (by rfl) ?_
  refine rx_getfield d_SR_sound_22 fl_SR_35 c1 (by rfl) ?_
  refine rx_pV d_SR_sound_25 (by rfl) ml_SR_171 im_Sounding_know se_Sounding_know (by exact c9_Sounding_know) S.1 (by rfl) (by exact Nat.le_of_ble_eq_true rfl) (c_know hp hN D S p (fun z => by rw [es, ← z]; exact (kc2 (by rw [z]; exact iwn_p hp0)).2.2) (by rw [es]; exact sdc_len hn h0 hv hz h40)) ?_
  intro h2 z9
  obtain ⟨fF2, fI2, S2, L2, f2⟩ := z9
  rw [es] at S2 L2
  have tt2 := S.tS
  have c12 := ob_frT c1 f2 tt2 (by unfold tS; omega)
  have hp2 := hp.frT f2 tt2 (by unfold tS; omega) (by unfold tS; omega) (by unfold tS; omega)
  have hN2 := hN.frT f2 tt2 (by unfold tS; omega) (by unfold tS; omega) (by unfold tS; omega)
  have H2 := H.frT f2 tt2 (by unfold tS; omega) (by unfold tS; omega) (by unfold tS; omega)
  have D2 := D.frT f2 tt2 (by unfold tS; omega) (by unfold tS; omega)
  have C2 : is_cl V h2 A ra na n Le Te Va num NS true p := ⟨fa, fw, fA, fE, fG, numR, R, _, jm, wo, wy, tk, f, _, fF2, fI2, ⟨c12, hp2, hN2, H2, hE, hG, D2, S2⟩, ⟨fun _ => ⟨e1, fun _ => ⟨rfl, w1⟩⟩, fun _ => ⟨rfl, hz, rfl, L2⟩⟩, st⟩
  have F2 : rx_fr V h h2 (fp_c A ra na n num) := f1.tr (f2.mo (fun q z => by
    obtain z | z | z := z
    · rw [z]; exact fpA 13 (by omega)
    · rw [z]; exact fpA 14 (by omega)
    · rw [z]; exact fpA 15 (by omega)))
  refine rx_iload_n d_SR_sound_28 (by rfl) ?_
  refine rx_iconst (v := 0) d_SR_sound_29 (by decide) ?_
  refine rx_aload_nr d_SR_sound_30 (by rfl) ?_
  refine rx_getfield d_SR_sound_31 fl_SR_42 c12 (by rfl) ?_
  refine rx_getfield d_SR_sound_34 fl_SR_175 S2.1 (by rfl) ?_
  refine rx_iconst (v := 1) d_SR_sound_37 (by decide) ?_
  refine rx_isub d_SR_sound_38 ?_
  refine rx_cS d_SR_sound_39 ml_SR_50 st_SR_isWithin (by exact c9_SR_isWithin) (by rfl) (by exact Nat.le_of_ble_eq_true rfl) (c_isWithin (nI j) 0 (nI (sdc n Le Va num NS p).length - 1)) ?_
  refine rx_if_ne (tgt := 49) d_SR_sound_42 (by rfl) (fun c42 => ?_) (fun z => absurd z hw9)
  refine rx_iload_n d_SR_sound_49 (by rfl) ?_
  refine rx_tableIn (x := nI 2) (off := 57) (tgt := 107) d_SR_sound_50 (by decide) (by decide) (by decide) (by decide) ?_
  · refine rx_aload_nr d_SR_sound_107 (by rfl) ?_
    refine rx_getfield d_SR_sound_108 fl_SR_42 c12 (by rfl) ?_
    refine rx_iload_n d_SR_sound_111 (by rfl) ?_
    refine rx_iconst (v := 0) d_SR_sound_112 (by decide) ?_
    refine rx_aload_nr d_SR_sound_113 (by rfl) ?_
    refine rx_getfield d_SR_sound_114 fl_SR_14 c12 (by rfl) ?_
    refine rx_aload_nr d_SR_sound_117 (by rfl) ?_
    refine rx_getfield d_SR_sound_118 fl_SR_21 c12 (by rfl) ?_
    refine rx_aload_nr d_SR_sound_121 (by rfl) ?_
    refine rx_getfield d_SR_sound_122 fl_SR_35 c12 (by rfl) ?_
    refine rx_cV d_SR_sound_125 (by rfl) ml_SR_185 im_Sounding_lengthOf se_Sounding_lengthOf (by exact c9_Sounding_lengthOf) S2.1 (by rfl) (by exact Nat.le_of_ble_eq_true rfl) (c_lengthOfS S2 L2 hx hp2 hN2 D2 hka.1 hka.2 false) ?_
    rw [slf_c w1]
    refine rx_lreturn d_SR_sound_128 (by rfl) ?_
    exact ⟨rfl, ⟨true, p, C2⟩, F2.gr, by rw [F2.1]; omega⟩
theorem c_soundA3 (hv : vok n Va) (C : is_cl V h A ra na n Le Te Va num NS kn kp) {p : Int32} (hp0 : ¬ iwn p 0 2 = 0) (hz : flt n Va = 0) {j k a : Nat} (hx : (sdc n Le Va num NS p)[j]? = some (k, a)) : rx_C V (d + 8) 1 6 m_SR_sound [.ref (A 0), .int p, .int (nI j), .int (nI 3)] h (cPo V h A ra na n num (.inl (some (.long (slf n Le Te (pN n Va) (wf n Va) num NS true 0 (some k) a (pN n Va - a))))) na Le Te Va num NS) := by
  obtain ⟨fs, c0⟩ := C.c0
  obtain ⟨hn, h0, h40⟩ := C.n20
  have hm := sll_mem (pN n Va) 0 (List.mem_of_getElem? hx)
  have hka : k < num ∧ a < pN n Va := ⟨hm.1, by have := hm.2.2.1; show a < pN n Va; exact Nat.lt_of_lt_of_eq this (Nat.zero_add _)⟩
  have hj : j < (sdc n Le Va num NS p).length := (List.getElem?_eq_some_iff.mp hx).1
  have h480 := sdc_len (Le := Le) (NS := NS) (p := p) hn h0 hv hz h40
  have hw9 : ¬ iwn (nI j) 0 (nI (sdc n Le Va num NS p).length - 1) = 0 := (iwn_N (by omega) (by omega)).mpr ⟨j, hj, rfl⟩
  refine rx_iload_n d_SR_sound_0 (by rfl) ?_
  refine rx_cS d_SR_sound_1 ml_SR_99 st_SR_needPart (by exact c9_SR_needPart) (by rfl) (by exact Nat.le_of_ble_eq_true rfl) (c_needPart hp0) ?_
  refine rx_aload_nr d_SR_sound_4 (by rfl) ?_
  refine rx_pV d_SR_sound_5 (by rfl) ml_SR_147 im_SR_needRoad se_SR_needRoad (by exact c9_SR_needRoad) c0 (by rfl) (by exact Nat.le_of_ble_eq_true rfl) (c_needRoad hv C hz) ?_
  intro h1 z9
  obtain ⟨C1, f1⟩ := z9
  obtain ⟨fa, fw, fA, fE, fG, numR, R, N0, jm, wo, wy, tk, f, m9, fF, fI, ⟨c1, hp, hN, H, hE, hG, D, S⟩, ⟨kc1, kc2⟩, st⟩ := id C1
  obtain ⟨e1, e2⟩ := kc1 rfl
  rw [e1] at e2
  obtain ⟨e3, w1⟩ := e2 hz
  subst e3
  have fpA : ∀ i, i < 16 → fp_c A ra na n num (A i) := fun i hi => Or.inl ⟨i, hi, rfl⟩
  have es : sds n Le (pN n Va) f num NS p = sdc n Le Va num NS p := sds_c w1
  refine rx_aload_nr d_SR_sound_8 (by rfl) ?_
  refine rx_getfield d_SR_sound_9 fl_SR_42 c1 (by rfl) ?_
  refine rx_iload_n d_SR_sound_12 (by rfl) ?_
  refine rx_aload_nr d_SR_sound_13 (by rfl) ?_
  refine rx_getfield d_SR_sound_14 fl_SR_14 c1 (by rfl) ?_
  refine rx_aload_nr d_SR_sound_17 (by rfl) ?_
  refine rx_getfield d_SR_sound_18 fl_SR_21 c1 (by rfl) ?_
  refine rx_aload_nr d_SR_sound_21 (by rfl) ?_
  refine rx_getfield d_SR_sound_22 fl_SR_35 c1 (by rfl) ?_
  refine rx_pV d_SR_sound_25 (by rfl) ml_SR_171 im_Sounding_know se_Sounding_know (by exact c9_Sounding_know) S.1 (by rfl) (by exact Nat.le_of_ble_eq_true rfl) (c_know hp hN D S p (fun z => by rw [es, ← z]; exact (kc2 (by rw [z]; exact iwn_p hp0)).2.2) (by rw [es]; exact sdc_len hn h0 hv hz h40)) ?_
  intro h2 z9
  obtain ⟨fF2, fI2, S2, L2, f2⟩ := z9
  rw [es] at S2 L2
  have tt2 := S.tS
  have c12 := ob_frT c1 f2 tt2 (by unfold tS; omega)
  have hp2 := hp.frT f2 tt2 (by unfold tS; omega) (by unfold tS; omega) (by unfold tS; omega)
  have hN2 := hN.frT f2 tt2 (by unfold tS; omega) (by unfold tS; omega) (by unfold tS; omega)
  have H2 := H.frT f2 tt2 (by unfold tS; omega) (by unfold tS; omega) (by unfold tS; omega)
  have D2 := D.frT f2 tt2 (by unfold tS; omega) (by unfold tS; omega)
  have C2 : is_cl V h2 A ra na n Le Te Va num NS true p := ⟨fa, fw, fA, fE, fG, numR, R, _, jm, wo, wy, tk, f, _, fF2, fI2, ⟨c12, hp2, hN2, H2, hE, hG, D2, S2⟩, ⟨fun _ => ⟨e1, fun _ => ⟨rfl, w1⟩⟩, fun _ => ⟨rfl, hz, rfl, L2⟩⟩, st⟩
  have F2 : rx_fr V h h2 (fp_c A ra na n num) := f1.tr (f2.mo (fun q z => by
    obtain z | z | z := z
    · rw [z]; exact fpA 13 (by omega)
    · rw [z]; exact fpA 14 (by omega)
    · rw [z]; exact fpA 15 (by omega)))
  refine rx_iload_n d_SR_sound_28 (by rfl) ?_
  refine rx_iconst (v := 0) d_SR_sound_29 (by decide) ?_
  refine rx_aload_nr d_SR_sound_30 (by rfl) ?_
  refine rx_getfield d_SR_sound_31 fl_SR_42 c12 (by rfl) ?_
  refine rx_getfield d_SR_sound_34 fl_SR_175 S2.1 (by rfl) ?_
  refine rx_iconst (v := 1) d_SR_sound_37 (by decide) ?_
  refine rx_isub d_SR_sound_38 ?_
  refine rx_cS d_SR_sound_39 ml_SR_50 st_SR_isWithin (by exact c9_SR_isWithin) (by rfl) (by exact Nat.le_of_ble_eq_true rfl) (c_isWithin (nI j) 0 (nI (sdc n Le Va num NS p).length - 1)) ?_
  refine rx_if_ne (tgt := 49) d_SR_sound_42 (by rfl) (fun c42 => ?_) (fun z => absurd z hw9)
  refine rx_iload_n d_SR_sound_49 (by rfl) ?_
  refine rx_tableIn (x := nI 3) (off := 79) (tgt := 129) d_SR_sound_50 (by decide) (by decide) (by decide) (by decide) ?_
  · refine rx_aload_nr d_SR_sound_129 (by rfl) ?_
    refine rx_getfield d_SR_sound_130 fl_SR_42 c12 (by rfl) ?_
    refine rx_iload_n d_SR_sound_133 (by rfl) ?_
    refine rx_iconst (v := 1) d_SR_sound_134 (by decide) ?_
    refine rx_aload_nr d_SR_sound_135 (by rfl) ?_
    refine rx_getfield d_SR_sound_136 fl_SR_14 c12 (by rfl) ?_
    refine rx_aload_nr d_SR_sound_139 (by rfl) ?_
    refine rx_getfield d_SR_sound_140 fl_SR_21 c12 (by rfl) ?_
    refine rx_aload_nr d_SR_sound_143 (by rfl) ?_
    refine rx_getfield d_SR_sound_144 fl_SR_35 c12 (by rfl) ?_
    refine rx_cV d_SR_sound_147 (by rfl) ml_SR_185 im_Sounding_lengthOf se_Sounding_lengthOf (by exact c9_Sounding_lengthOf) S2.1 (by rfl) (by exact Nat.le_of_ble_eq_true rfl) (c_lengthOfS S2 L2 hx hp2 hN2 D2 hka.1 hka.2 true) ?_
    rw [slf_c w1]
    refine rx_lreturn d_SR_sound_150 (by rfl) ?_
    exact ⟨rfl, ⟨true, p, C2⟩, F2.gr, by rw [F2.1]; omega⟩
theorem c_soundA9 (hv : vok n Va) (C : is_cl V h A ra na n Le Te Va num NS kn kp) {p : Int32} (hp0 : ¬ iwn p 0 2 = 0) (hz : flt n Va = 0) {j k a : Nat} (hx : (sdc n Le Va num NS p)[j]? = some (k, a)) {w : Int32} (hw : w.toInt < 0 ∨ 3 < w.toInt) : rx_C V (d + 8) 1 6 m_SR_sound [.ref (A 0), .int p, .int (nI j), .int w] h (cPo V h A ra na n num (.inl (some (.long (-1)))) na Le Te Va num NS) := by
  obtain ⟨fs, c0⟩ := C.c0
  obtain ⟨hn, h0, h40⟩ := C.n20
  have hm := sll_mem (pN n Va) 0 (List.mem_of_getElem? hx)
  have hka : k < num ∧ a < pN n Va := ⟨hm.1, by have := hm.2.2.1; show a < pN n Va; exact Nat.lt_of_lt_of_eq this (Nat.zero_add _)⟩
  have hj : j < (sdc n Le Va num NS p).length := (List.getElem?_eq_some_iff.mp hx).1
  have h480 := sdc_len (Le := Le) (NS := NS) (p := p) hn h0 hv hz h40
  have hw9 : ¬ iwn (nI j) 0 (nI (sdc n Le Va num NS p).length - 1) = 0 := (iwn_N (by omega) (by omega)).mpr ⟨j, hj, rfl⟩
  refine rx_iload_n d_SR_sound_0 (by rfl) ?_
  refine rx_cS d_SR_sound_1 ml_SR_99 st_SR_needPart (by exact c9_SR_needPart) (by rfl) (by exact Nat.le_of_ble_eq_true rfl) (c_needPart hp0) ?_
  refine rx_aload_nr d_SR_sound_4 (by rfl) ?_
  refine rx_pV d_SR_sound_5 (by rfl) ml_SR_147 im_SR_needRoad se_SR_needRoad (by exact c9_SR_needRoad) c0 (by rfl) (by exact Nat.le_of_ble_eq_true rfl) (c_needRoad hv C hz) ?_
  intro h1 z9
  obtain ⟨C1, f1⟩ := z9
  obtain ⟨fa, fw, fA, fE, fG, numR, R, N0, jm, wo, wy, tk, f, m9, fF, fI, ⟨c1, hp, hN, H, hE, hG, D, S⟩, ⟨kc1, kc2⟩, st⟩ := id C1
  obtain ⟨e1, e2⟩ := kc1 rfl
  rw [e1] at e2
  obtain ⟨e3, w1⟩ := e2 hz
  subst e3
  have fpA : ∀ i, i < 16 → fp_c A ra na n num (A i) := fun i hi => Or.inl ⟨i, hi, rfl⟩
  have es : sds n Le (pN n Va) f num NS p = sdc n Le Va num NS p := sds_c w1
  refine rx_aload_nr d_SR_sound_8 (by rfl) ?_
  refine rx_getfield d_SR_sound_9 fl_SR_42 c1 (by rfl) ?_
  refine rx_iload_n d_SR_sound_12 (by rfl) ?_
  refine rx_aload_nr d_SR_sound_13 (by rfl) ?_
  refine rx_getfield d_SR_sound_14 fl_SR_14 c1 (by rfl) ?_
  refine rx_aload_nr d_SR_sound_17 (by rfl) ?_
  refine rx_getfield d_SR_sound_18 fl_SR_21 c1 (by rfl) ?_
  refine rx_aload_nr d_SR_sound_21 (by rfl) ?_
  refine rx_getfield d_SR_sound_22 fl_SR_35 c1 (by rfl) ?_
  refine rx_pV d_SR_sound_25 (by rfl) ml_SR_171 im_Sounding_know se_Sounding_know (by exact c9_Sounding_know) S.1 (by rfl) (by exact Nat.le_of_ble_eq_true rfl) (c_know hp hN D S p (fun z => by rw [es, ← z]; exact (kc2 (by rw [z]; exact iwn_p hp0)).2.2) (by rw [es]; exact sdc_len hn h0 hv hz h40)) ?_
  intro h2 z9
  obtain ⟨fF2, fI2, S2, L2, f2⟩ := z9
  rw [es] at S2 L2
  have tt2 := S.tS
  have c12 := ob_frT c1 f2 tt2 (by unfold tS; omega)
  have hp2 := hp.frT f2 tt2 (by unfold tS; omega) (by unfold tS; omega) (by unfold tS; omega)
  have hN2 := hN.frT f2 tt2 (by unfold tS; omega) (by unfold tS; omega) (by unfold tS; omega)
  have H2 := H.frT f2 tt2 (by unfold tS; omega) (by unfold tS; omega) (by unfold tS; omega)
  have D2 := D.frT f2 tt2 (by unfold tS; omega) (by unfold tS; omega)
  have C2 : is_cl V h2 A ra na n Le Te Va num NS true p := ⟨fa, fw, fA, fE, fG, numR, R, _, jm, wo, wy, tk, f, _, fF2, fI2, ⟨c12, hp2, hN2, H2, hE, hG, D2, S2⟩, ⟨fun _ => ⟨e1, fun _ => ⟨rfl, w1⟩⟩, fun _ => ⟨rfl, hz, rfl, L2⟩⟩, st⟩
  have F2 : rx_fr V h h2 (fp_c A ra na n num) := f1.tr (f2.mo (fun q z => by
    obtain z | z | z := z
    · rw [z]; exact fpA 13 (by omega)
    · rw [z]; exact fpA 14 (by omega)
    · rw [z]; exact fpA 15 (by omega)))
  refine rx_iload_n d_SR_sound_28 (by rfl) ?_
  refine rx_iconst (v := 0) d_SR_sound_29 (by decide) ?_
  refine rx_aload_nr d_SR_sound_30 (by rfl) ?_
  refine rx_getfield d_SR_sound_31 fl_SR_42 c12 (by rfl) ?_
  refine rx_getfield d_SR_sound_34 fl_SR_175 S2.1 (by rfl) ?_
  refine rx_iconst (v := 1) d_SR_sound_37 (by decide) ?_
  refine rx_isub d_SR_sound_38 ?_
  refine rx_cS d_SR_sound_39 ml_SR_50 st_SR_isWithin (by exact c9_SR_isWithin) (by rfl) (by exact Nat.le_of_ble_eq_true rfl) (c_isWithin (nI j) 0 (nI (sdc n Le Va num NS p).length - 1)) ?_
  refine rx_if_ne (tgt := 49) d_SR_sound_42 (by rfl) (fun c42 => ?_) (fun z => absurd z hw9)
  refine rx_iload_n d_SR_sound_49 (by rfl) ?_
  refine rx_tableOut (tgt := 151) d_SR_sound_50 hw (by decide) ?_
  · refine rx_ldc2 d_SR_sound_151 kl_SR_176 ?_
    refine rx_lreturn d_SR_sound_154 (by rfl) ?_
    exact ⟨rfl, ⟨true, p, C2⟩, F2.gr, by rw [F2.1]; omega⟩
def rsB (NS : Nat → Nat → Int32) (num : Nat) (p : Int32) (b : Nat) : Bool := !(fix (fun i => decide (NS i 0 = p ∧ NS i 1 = nI b)) 0 num).isSome
noncomputable def goB (n : Nat) (Le Va : Nat → Int32) (NS : Nat → Nat → Int32) (num : Nat) (p : Int32) (b : Nat) : Bool := decide (0 < b) && rsB NS num p (b - 1) && !(pB (copen n Va (nI b) ∨ cclos n Va (nI b - 1) ∨ ¬ pgl n Le (nI b) = pgl n Le (nI b - 1)))
def rbf (P : Nat → Bool) : Nat → Nat → Nat
  | _, 0 => 0
  | b, m + 1 => if P b = true then 1 + rbf P (b + 1) m else 0
def rsf (n : Nat) (rs go : Nat → Bool) (i : Int32) : Int32 → Nat → Nat → Int32
  | _, _, 0 => -1
  | q, b, m + 1 => if (rs b && !(go b)) = true then (if q = i then nI (100 * b + (1 + rbf (fun x => rs x && go x) (b + 1) (n - (b + 1)))) else rsf n rs go i (q + 1) (b + 1) m) else rsf n rs go i q (b + 1) m
theorem c_goesOnR (C : is_cl V h A ra na n Le Te Va num NS kn kp) (p : Int32) {b : Nat} (hbn : b < n) : rx_C V (d + 4) kc ks m_SR_goesOnResting [.ref (A 0), .int p, .int (nI b)] h (rx_X (.inl (some (.int (bi (goB n Le Va NS num p b))))) h) := by
  obtain ⟨fa, fw, fA, fE, fG, numR, R, N0, jm, wo, wy, tk, f, m9, fF, fI, ⟨c1, hp, hN, H, hE, hG, D, S⟩, ⟨kc1, kc2⟩, st⟩ := id C
  have hn : n ≤ 20 := hp.2.2.2.2
  have h0 : 0 < n := st.2.2.2
  have fpA : ∀ i, i < 16 → fp_c A ra na n num (A i) := fun i hi => Or.inl ⟨i, hi, rfl⟩
  have cc := c1
  have ir : ∀ (x : Int32), (if (fix (fun i => decide (NS i 0 = p ∧ NS i 1 = x)) 0 num).isSome = true then (0 : Int32) else 1) = bi (!(fix (fun i => decide (NS i 0 = p ∧ NS i 1 = x)) 0 num).isSome) := by
    intro x
    cases (fix (fun i => decide (NS i 0 = p ∧ NS i 1 = x)) 0 num).isSome <;> rfl
  cases b with
  | zero =>
    refine rx_iload_n d_SR_goesOnResting_0 (by rfl) ?_
    refine rx_if_le (tgt := 33) d_SR_goesOnResting_1 (by rfl) (fun c1 => ?_) (fun z => absurd (by decide) z)
    refine rx_iconst (v := 0) d_SR_goesOnResting_33 (by decide) ?_
    refine rx_zreturn d_SR_goesOnResting_34 (by rfl) (by rfl) ?_
    exact ⟨rfl, rfl⟩
  | succ b =>
    have gb : goB n Le Va NS num p (b + 1) = (rsB NS num p b && !(pB (copen n Va (nI (b + 1)) ∨ cclos n Va (nI (b + 1) - 1) ∨ ¬ pgl n Le (nI (b + 1)) = pgl n Le (nI (b + 1) - 1)))) := by
      unfold goB
      rw [decide_eq_true (show 0 < b + 1 by omega), Bool.true_and, Nat.add_sub_cancel]
    refine rx_iload_n d_SR_goesOnResting_0 (by rfl) ?_
    refine rx_if_le (tgt := 33) d_SR_goesOnResting_1 (by rfl) (fun z => absurd z (nI_nle (by omega) (by omega))) (fun c1 => ?_)
    refine rx_aload_nr d_SR_goesOnResting_4 (by rfl) ?_
    refine rx_getfield d_SR_goesOnResting_5 fl_SR_21 cc (by rfl) ?_
    refine rx_iload_n d_SR_goesOnResting_8 (by rfl) ?_
    refine rx_iload_n d_SR_goesOnResting_9 (by rfl) ?_
    refine rx_iconst (v := 1) d_SR_goesOnResting_10 (by decide) ?_
    refine rx_isub d_SR_goesOnResting_11 ?_
    rw [nI_pred]
    refine rx_cV d_SR_goesOnResting_12 (by rfl) ml_SR_191 im_Notes_isRest se_Notes_isRest (by exact c9_Notes_isRest) hN.1 (by rfl) (by exact Nat.le_of_ble_eq_true rfl) (c_isRest hN p (nI b)) ?_
    rw [ir]
    refine rx_if_eq (tgt := 33) d_SR_goesOnResting_15 (by rfl) (fun c15 => ?_) (fun c15 => ?_)
    · have e : rsB NS num p b = false := bi_0.mp c15
      rw [gb, e]
      refine rx_iconst (v := 0) d_SR_goesOnResting_33 (by decide) ?_
      refine rx_zreturn d_SR_goesOnResting_34 (by rfl) (by rfl) ?_
      exact ⟨rfl, rfl⟩
    · have e : rsB NS num p b = true := bi_1.mp c15
      rw [gb, e]
      refine rx_aload_nr d_SR_goesOnResting_18 (by rfl) ?_
      refine rx_getfield d_SR_goesOnResting_19 fl_SR_14 cc (by rfl) ?_
      refine rx_iload_n d_SR_goesOnResting_22 (by rfl) ?_
      refine rx_cV d_SR_goesOnResting_23 (by rfl) ml_SR_200 im_Page_isCutBefore se_Page_isCutBefore (by exact c9_Page_isCutBefore) hp.1 (by rfl) (by exact Nat.le_of_ble_eq_true rfl) (c_isCutBefore hp (nI (b + 1))) ?_
      refine rx_if_ne (tgt := 33) d_SR_goesOnResting_26 (by rfl) (fun c26 => ?_) (fun c26 => ?_)
      · rw [pB_t.mpr (bP_1.mp c26)]
        refine rx_iconst (v := 0) d_SR_goesOnResting_33 (by decide) ?_
        refine rx_zreturn d_SR_goesOnResting_34 (by rfl) (by rfl) ?_
        exact ⟨rfl, rfl⟩
      · rw [pB_f.mpr (bP_0.mp c26)]
        refine rx_iconst (v := 1) d_SR_goesOnResting_29 (by decide) ?_
        refine rx_goto (tgt := 34) d_SR_goesOnResting_30 (by rfl) ?_
        refine rx_zreturn d_SR_goesOnResting_34 (by rfl) (by rfl) ?_
        exact ⟨rfl, rfl⟩
theorem l_restBars (C : is_cl V h A ra na n Le Te Va num NS kn kp) (p : Int32) (x2 : Option Value) {b : Nat} : ∀ (m e : Nat), e + m = n → rx_W V (d + 5) kc ks m_SR_restBars 4 [some (.ref (A 0)), some (.int p), some (.int (nI b)), some (.int (nI e))] [] h (rx_X (.inl (some (.int (nI (e + rbf (fun x => rsB NS num p x && goB n Le Va NS num p x) e m) - nI b)))) h) := by
  obtain ⟨fa, fw, fA, fE, fG, numR, R, N0, jm, wo, wy, tk, f, m9, fF, fI, ⟨c1, hp, hN, H, hE, hG, D, S⟩, ⟨kc1, kc2⟩, st⟩ := id C
  have hn : n ≤ 20 := hp.2.2.2.2
  have h0 : 0 < n := st.2.2.2
  have fpA : ∀ i, i < 16 → fp_c A ra na n num (A i) := fun i hi => Or.inl ⟨i, hi, rfl⟩
  have ir : ∀ (x : Int32), (if (fix (fun i => decide (NS i 0 = p ∧ NS i 1 = x)) 0 num).isSome = true then (0 : Int32) else 1) = bi (!(fix (fun i => decide (NS i 0 = p ∧ NS i 1 = x)) 0 num).isSome) := by
    intro x
    cases (fix (fun i => decide (NS i 0 = p ∧ NS i 1 = x)) 0 num).isSome <;> rfl
  intro m
  induction m with
  | zero =>
    intro e he
    have e9 : e = n := by omega
    refine rx_iload_n d_SR_restBars_4 (by rfl) ?_
    refine rx_aload_nr d_SR_restBars_5 (by rfl) ?_
    refine rx_getfield d_SR_restBars_6 fl_SR_14 c1 (by rfl) ?_
    refine rx_getfield d_SR_restBars_9 fl_SR_188 hp.1 (by rfl) ?_
    refine rx_icmp_ge (tgt := 42) d_SR_restBars_12 (by rfl) (fun c12 => ?_) (fun z => absurd (show nI n ≤ nI e by rw [e9]; exact Int32.le_refl _) z)
    refine rx_iload_n d_SR_restBars_42 (by rfl) ?_
    refine rx_iload_n d_SR_restBars_43 (by rfl) ?_
    refine rx_isub d_SR_restBars_44 ?_
    refine rx_ireturn d_SR_restBars_45 (by rfl) ?_
    exact ⟨rfl, rfl⟩
  | succ m ih =>
    intro e he
    refine rx_iload_n d_SR_restBars_4 (by rfl) ?_
    refine rx_aload_nr d_SR_restBars_5 (by rfl) ?_
    refine rx_getfield d_SR_restBars_6 fl_SR_14 c1 (by rfl) ?_
    refine rx_getfield d_SR_restBars_9 fl_SR_188 hp.1 (by rfl) ?_
    refine rx_icmp_ge (tgt := 42) d_SR_restBars_12 (by rfl) (fun z => absurd z (nI_ge (by omega) (by omega))) (fun c12 => ?_)
    refine rx_aload_nr d_SR_restBars_15 (by rfl) ?_
    refine rx_getfield d_SR_restBars_16 fl_SR_21 c1 (by rfl) ?_
    refine rx_iload_n d_SR_restBars_19 (by rfl) ?_
    refine rx_iload_n d_SR_restBars_20 (by rfl) ?_
    refine rx_cV d_SR_restBars_21 (by rfl) ml_SR_191 im_Notes_isRest se_Notes_isRest (by exact c9_Notes_isRest) hN.1 (by rfl) (by exact Nat.le_of_ble_eq_true rfl) (c_isRest hN p (nI e)) ?_
    rw [ir]
    refine rx_if_eq (tgt := 42) d_SR_restBars_24 (by rfl) (fun c24 => ?_) (fun c24 => ?_)
    · have z : rsB NS num p e = false := bi_0.mp c24
      rw [show rbf (fun x => rsB NS num p x && goB n Le Va NS num p x) e (m + 1) = 0 from if_neg (by show ¬ (rsB NS num p e && goB n Le Va NS num p e) = true; rw [z]; simp)]
      refine rx_iload_n d_SR_restBars_42 (by rfl) ?_
      refine rx_iload_n d_SR_restBars_43 (by rfl) ?_
      refine rx_isub d_SR_restBars_44 ?_
      refine rx_ireturn d_SR_restBars_45 (by rfl) ?_
      exact ⟨rfl, rfl⟩
    · refine rx_aload_nr d_SR_restBars_27 (by rfl) ?_
      refine rx_iload_n d_SR_restBars_28 (by rfl) ?_
      refine rx_iload_n d_SR_restBars_29 (by rfl) ?_
      refine rx_cV d_SR_restBars_30 (by rfl) ml_SR_194 im_SR_goesOnResting se_SR_goesOnResting (by exact c9_SR_goesOnResting) c1 (by rfl) (by exact Nat.le_of_ble_eq_true rfl) (c_goesOnR C p (by omega)) ?_
      refine rx_if_eq (tgt := 42) d_SR_restBars_33 (by rfl) (fun c33 => ?_) (fun c33 => ?_)
      · have z : goB n Le Va NS num p e = false := bi_0.mp c33
        rw [show rbf (fun x => rsB NS num p x && goB n Le Va NS num p x) e (m + 1) = 0 from if_neg (by show ¬ (rsB NS num p e && goB n Le Va NS num p e) = true; rw [z]; simp)]
        refine rx_iload_n d_SR_restBars_42 (by rfl) ?_
        refine rx_iload_n d_SR_restBars_43 (by rfl) ?_
        refine rx_isub d_SR_restBars_44 ?_
        refine rx_ireturn d_SR_restBars_45 (by rfl) ?_
        exact ⟨rfl, rfl⟩
      · have z : (rsB NS num p e && goB n Le Va NS num p e) = true := by rw [show rsB NS num p e = true from bi_1.mp c24, bi_1.mp c33]; rfl
        rw [show rbf (fun x => rsB NS num p x && goB n Le Va NS num p x) e (m + 1) = 1 + rbf (fun x => rsB NS num p x && goB n Le Va NS num p x) (e + 1) m from if_pos z, ← Nat.add_assoc]
        refine rx_iinc (v := nI (e + 1)) d_SR_restBars_36 (by rfl) (i_inc e) ?_
        refine rx_goto (tgt := 4) d_SR_restBars_39 (by rfl) ?_
        exact ih (e + 1) (by omega)
theorem c_restBars (C : is_cl V h A ra na n Le Te Va num NS kn kp) (p : Int32) {b : Nat} (hbn : b < n) : rx_C V (d + 5) kc ks m_SR_restBars [.ref (A 0), .int p, .int (nI b)] h (rx_X (.inl (some (.int (nI (1 + rbf (fun x => rsB NS num p x && goB n Le Va NS num p x) (b + 1) (n - (b + 1))))))) h) := by
  refine rx_iload_n d_SR_restBars_0 (by rfl) ?_
  refine rx_iconst (v := 1) d_SR_restBars_1 (by decide) ?_
  refine rx_iadd d_SR_restBars_2 ?_
  rw [nI_1]
  refine rx_istore_n d_SR_restBars_3 (Nat.le_of_ble_eq_true rfl) ?_
  refine rx_cons (l_restBars C p none (n - (b + 1)) (b + 1) (by omega)) (fun r h9 z => ⟨z.1.trans ?_, z.2⟩)
  rw [show b + 1 + rbf (fun x => rsB NS num p x && goB n Le Va NS num p x) (b + 1) (n - (b + 1)) = (1 + rbf (fun x => rsB NS num p x && goB n Le Va NS num p x) (b + 1) (n - (b + 1))) + b from by omega, ← nI_add, Int32.add_sub_cancel]
theorem x_rest (htr : V.1.stackTraces = false) (C : is_cl V h A ra na n Le Te Va num NS kn kp) {p : Int32} (hx : iwn p 0 2 = 0) (i : Int32) : rx_C V (d + 8) 1 6 m_SR_rest [.ref (A 0), .int p, .int i] h (cPo V h A ra na n num (.inr 0) na Le Te Va num NS) := by
  obtain ⟨fs, c0⟩ := C.c0
  obtain ⟨hn, h0, h40⟩ := C.n20
  refine rx_iload_n d_SR_rest_0 (by rfl) ?_
  refine rx_xS d_SR_rest_1 ml_SR_99 st_SR_needPart (by exact c9_SR_needPart) rfl (by rfl) (by exact Nat.le_of_ble_eq_true rfl) (x_needPart (d := d + 1) htr hx) ?_
  rintro h1 rfl
  exact ⟨rfl, ⟨kn, kp, C.ap⟩, rx_gr.ap, by rw [List.length_append]; exact Nat.le_refl _⟩
theorem l_rest (C : is_cl V h A ra na n Le Te Va num NS kn kp) (p i : Int32) : ∀ (m b : Nat) (q : Int32), b + m = n → rx_W V (d + 8) kc ks m_SR_rest 9 [some (.ref (A 0)), some (.int p), some (.int i), some (.int q), some (.int (nI b))] [] h (rx_X (.inl (some (.int (rsf n (rsB NS num p) (goB n Le Va NS num p) i q b m)))) h) := by
  obtain ⟨fa, fw, fA, fE, fG, numR, R, N0, jm, wo, wy, tk, f, m9, fF, fI, ⟨c1, hp, hN, H, hE, hG, D, S⟩, ⟨kc1, kc2⟩, st⟩ := id C
  have hn : n ≤ 20 := hp.2.2.2.2
  have h0 : 0 < n := st.2.2.2
  have fpA : ∀ i, i < 16 → fp_c A ra na n num (A i) := fun i hi => Or.inl ⟨i, hi, rfl⟩
  have ir : ∀ (x : Int32), (if (fix (fun i => decide (NS i 0 = p ∧ NS i 1 = x)) 0 num).isSome = true then (0 : Int32) else 1) = bi (!(fix (fun i => decide (NS i 0 = p ∧ NS i 1 = x)) 0 num).isSome) := by
    intro x
    cases (fix (fun i => decide (NS i 0 = p ∧ NS i 1 = x)) 0 num).isSome <;> rfl
  intro m
  induction m with
  | zero =>
    intro b q hb9
    have e9 : b = n := by omega
    refine rx_iload d_SR_rest_9 (by rfl) ?_
    refine rx_aload_nr d_SR_rest_11 (by rfl) ?_
    refine rx_getfield d_SR_rest_12 fl_SR_14 c1 (by rfl) ?_
    refine rx_getfield d_SR_rest_15 fl_SR_188 hp.1 (by rfl) ?_
    refine rx_icmp_ge (tgt := 72) d_SR_rest_18 (by rfl) (fun c18 => ?_) (fun z => absurd (show nI n ≤ nI b by rw [e9]; exact Int32.le_refl _) z)
    refine rx_iconst (v := -1) d_SR_rest_72 (by decide) ?_
    refine rx_ireturn d_SR_rest_73 (by rfl) ?_
    exact ⟨rfl, rfl⟩
  | succ m ih =>
    intro b q hb9
    refine rx_iload d_SR_rest_9 (by rfl) ?_
    refine rx_aload_nr d_SR_rest_11 (by rfl) ?_
    refine rx_getfield d_SR_rest_12 fl_SR_14 c1 (by rfl) ?_
    refine rx_getfield d_SR_rest_15 fl_SR_188 hp.1 (by rfl) ?_
    refine rx_icmp_ge (tgt := 72) d_SR_rest_18 (by rfl) (fun z => absurd z (nI_ge (by omega) (by omega))) (fun c18 => ?_)
    refine rx_aload_nr d_SR_rest_21 (by rfl) ?_
    refine rx_getfield d_SR_rest_22 fl_SR_21 c1 (by rfl) ?_
    refine rx_iload_n d_SR_rest_25 (by rfl) ?_
    refine rx_iload d_SR_rest_26 (by rfl) ?_
    refine rx_cV d_SR_rest_28 (by rfl) ml_SR_191 im_Notes_isRest se_Notes_isRest (by exact c9_Notes_isRest) hN.1 (by rfl) (by exact Nat.le_of_ble_eq_true rfl) (c_isRest hN p (nI b)) ?_
    rw [ir]
    refine rx_if_eq (tgt := 66) d_SR_rest_31 (by rfl) (fun c31 => ?_) (fun c31 => ?_)
    · have z : ((rsB NS num p) b && !((goB n Le Va NS num p) b)) = false := by rw [show rsB NS num p b = false from bi_0.mp c31]; rfl
      rw [show rsf n (rsB NS num p) (goB n Le Va NS num p) i q b (m + 1) = rsf n (rsB NS num p) (goB n Le Va NS num p) i q (b + 1) m from if_neg (by rw [z]; decide)]
      refine rx_iinc (v := nI (b + 1)) d_SR_rest_66 (by rfl) (i_inc b) ?_
      refine rx_goto (tgt := 9) d_SR_rest_69 (by rfl) ?_
      exact ih (b + 1) _ (by omega)
    · refine rx_aload_nr d_SR_rest_34 (by rfl) ?_
      refine rx_iload_n d_SR_rest_35 (by rfl) ?_
      refine rx_iload d_SR_rest_36 (by rfl) ?_
      refine rx_cV d_SR_rest_38 (by rfl) ml_SR_194 im_SR_goesOnResting se_SR_goesOnResting (by exact c9_SR_goesOnResting) c1 (by rfl) (by exact Nat.le_of_ble_eq_true rfl) (c_goesOnR C p (by omega)) ?_
      refine rx_if_ne (tgt := 66) d_SR_rest_41 (by rfl) (fun c41 => ?_) (fun c41 => ?_)
      · have z : ((rsB NS num p) b && !((goB n Le Va NS num p) b)) = false := by rw [show goB n Le Va NS num p b = true from bi_1.mp c41]; exact Bool.and_false _
        rw [show rsf n (rsB NS num p) (goB n Le Va NS num p) i q b (m + 1) = rsf n (rsB NS num p) (goB n Le Va NS num p) i q (b + 1) m from if_neg (by rw [z]; decide)]
        refine rx_iinc (v := nI (b + 1)) d_SR_rest_66 (by rfl) (i_inc b) ?_
        refine rx_goto (tgt := 9) d_SR_rest_69 (by rfl) ?_
        exact ih (b + 1) _ (by omega)
      · have z : ((rsB NS num p) b && !((goB n Le Va NS num p) b)) = true := by rw [show rsB NS num p b = true from bi_1.mp c31, show goB n Le Va NS num p b = false from bi_0.mp c41]; rfl
        refine rx_iload_n d_SR_rest_44 (by rfl) ?_
        refine rx_iload_n d_SR_rest_45 (by rfl) ?_
        refine rx_icmp_ne (tgt := 63) d_SR_rest_46 (by rfl) (fun c46 => ?_) (fun c46 => ?_)
        · rw [show rsf n (rsB NS num p) (goB n Le Va NS num p) i q b (m + 1) = rsf n (rsB NS num p) (goB n Le Va NS num p) i (q + 1) (b + 1) m from (if_pos z).trans (if_neg c46)]
          refine rx_iinc d_SR_rest_63 (by rfl) (by rfl) ?_
          refine rx_iinc (v := nI (b + 1)) d_SR_rest_66 (by rfl) (i_inc b) ?_
          refine rx_goto (tgt := 9) d_SR_rest_69 (by rfl) ?_
          exact ih (b + 1) _ (by omega)
        · refine rx_bipush (v := 100) d_SR_rest_49 (by decide) ?_
          refine rx_iload d_SR_rest_51 (by rfl) ?_
          refine rx_imul d_SR_rest_53 ?_
          refine rx_aload_nr d_SR_rest_54 (by rfl) ?_
          refine rx_iload_n d_SR_rest_55 (by rfl) ?_
          refine rx_iload d_SR_rest_56 (by rfl) ?_
          refine rx_cV d_SR_rest_58 (by rfl) ml_SR_197 im_SR_restBars se_SR_restBars (by exact c9_SR_restBars) c1 (by rfl) (by exact Nat.le_of_ble_eq_true rfl) (c_restBars C p (by omega)) ?_
          refine rx_iadd d_SR_rest_61 ?_
          refine rx_ireturn d_SR_rest_62 (by rfl) ?_
          exact ⟨by rw [show rsf n (rsB NS num p) (goB n Le Va NS num p) i q b (m + 1) = _ from (if_pos z).trans (if_pos c46), show (100 : Int32) = nI 100 from rfl, pk_mul, nI_add], rfl⟩
theorem c_rest (C : is_cl V h A ra na n Le Te Va num NS kn kp) {p : Int32} (hp0 : ¬ iwn p 0 2 = 0) (i : Int32) : rx_C V (d + 8) 1 6 m_SR_rest [.ref (A 0), .int p, .int i] h (cPo V h A ra na n num (.inl (some (.int (rsf n (rsB NS num p) (goB n Le Va NS num p) i 0 0 n)))) na Le Te Va num NS) := by
  refine rx_iload_n d_SR_rest_0 (by rfl) ?_
  refine rx_cS d_SR_rest_1 ml_SR_99 st_SR_needPart (by exact c9_SR_needPart) (by rfl) (by exact Nat.le_of_ble_eq_true rfl) (c_needPart hp0) ?_
  refine rx_iconst (v := 0) d_SR_rest_4 (by decide) ?_
  refine rx_istore_n d_SR_rest_5 (Nat.le_of_ble_eq_true rfl) ?_
  refine rx_iconst (v := 0) d_SR_rest_6 (by decide) ?_
  refine rx_istore d_SR_rest_7 (Nat.le_of_ble_eq_true rfl) ?_
  exact rx_exact (l_rest C p i n 0 0 (by omega)) ⟨rfl, ⟨kn, kp, C⟩, rx_gr.rf, by omega⟩
end C5
