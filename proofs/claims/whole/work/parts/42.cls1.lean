/-! the class's whole world; knowRoad -/
/-- what kind of cell -/
def tg (e : va_E) : Nat × Nat := match e with
  | .inr (ci, _) => (ci, 0)
  | .inl (_, n, .inl _) => (100, n)
  | .inl (_, n, .inr (.inl _)) => (101, n)
  | .inl (_, n, .inr (.inr (.inl _))) => (102, n)
  | .inl (_, n, .inr (.inr (.inr (.inl _)))) => (103, n)
  | .inl (_, n, .inr (.inr (.inr (.inr _)))) => (104, n)
def fpT (V : rx_V) (h : List va_E) (FP : Nat → Prop) (T : Nat → Nat → Prop) : Prop := ∀ q, FP q → ∃ e, rx_rd V h q = some e ∧ T (tg e).1 (tg e).2
theorem fpT.no {V : rx_V} {h : List va_E} {FP : Nat → Prop} {T : Nat → Nat → Prop} (t : fpT V h FP T) {q : Nat} {e : va_E} (he : rx_rd V h q = some e) (hT : ¬ T (tg e).1 (tg e).2) : ¬ FP q := fun z => by
  obtain ⟨e', h1, h2⟩ := t q z
  rw [he] at h1
  cases h1
  exact hT h2
def tG (n a b : Nat) : Prop := a = 3 ∨ a = 4 ∨ (a = 104 ∧ b = n)
def tW (n a b : Nat) : Prop := a = 5 ∨ a = 4 ∨ (a = 100 ∧ b = n * 12)
def tS (a b : Nat) : Prop := a = 6 ∨ (a = 104 ∧ b = 480) ∨ (a = 100 ∧ b = 480)
def tO (a b : Nat) : Prop := a = 0 ∧ b = 0
def tP (n a b : Nat) : Prop := a = 100 ∧ (b = n ∨ b = 10 * n)
def tN (a b : Nat) : Prop := a = 2 ∨ (a = 104 ∧ b = 40)
def tM (a b : Nat) : Prop := a = 7 ∧ b = 0
section CL
variable {V : rx_V} {d kc ks a aF aI n al at_ av aP aN ar num aR aA aE aG aD aO N q m9 : Nat} {h h' : List va_E} {Le Te Va f : Nat → Int32} {fw fA fE fG : Nat → Option Nat} {ra na : Nat → Nat} {R NS : Nat → Nat → Int32} {jm wo wy tk kp : Int32} {fF : Nat → Option Nat} {fI : Nat → Int32} {FP : Nat → Prop} {T : Nat → Nat → Prop}
theorem is_rp.tG (H : is_rp V h aR n aA aE aG num fA fE fG ra R) : fpT V h (fp_g aR n aE aG ra) (tG n) := by
  rintro q (z | z | z | ⟨r, hr, z⟩)
  · rw [z]; exact ⟨_, H.1, Or.inl rfl⟩
  · rw [z]; exact ⟨_, H.2.2.1, Or.inr (Or.inr ⟨rfl, rfl⟩)⟩
  · rw [z]; exact ⟨_, H.2.2.2.1, Or.inr (Or.inr ⟨rfl, rfl⟩)⟩
  · rw [z]; exact ⟨_, H.cell hr, Or.inr (Or.inl rfl)⟩
theorem is_rd.tW (D : is_rd V h aD aO n N jm wo wy tk f) (H : is_rp V h aR n aA aE aG num fA fE fG ra R) : fpT V h (fp_w aD aO n ra) (tW n) := by
  rintro q (z | z | ⟨r, hr, z⟩)
  · rw [z]; exact ⟨_, D.1, Or.inl rfl⟩
  · rw [z]; exact ⟨_, D.2.1, Or.inr (Or.inr ⟨rfl, rfl⟩)⟩
  · rw [z]; exact ⟨_, H.cell hr, Or.inr (Or.inl rfl)⟩
theorem is_sd.tS (S : is_sd V h a aF aI m9 kp fF fI) : fpT V h (fp_s a aF aI) tS := by
  rintro q (z | z | z)
  · rw [z]; exact ⟨_, S.1, Or.inl rfl⟩
  · rw [z]; exact ⟨_, S.2.1, Or.inr (Or.inl ⟨rfl, rfl⟩)⟩
  · rw [z]; exact ⟨_, S.2.2.1, Or.inr (Or.inr ⟨rfl, rfl⟩)⟩
theorem is_pg.tP (hp : is_pg V h aP n al at_ av Le Te Va) : fpT V h (fun x => x = al ∨ x = at_ ∨ x = av) (tP n) := by
  rintro q (z | z | z)
  · rw [z]; exact ⟨_, hp.2.1, rfl, Or.inl rfl⟩
  · rw [z]; exact ⟨_, hp.2.2.1, rfl, Or.inl rfl⟩
  · rw [z]; exact ⟨_, hp.2.2.2.1, rfl, Or.inr rfl⟩
theorem is_nt.tN (hN : is_nt V h aN ar num fw na NS) : fpT V h (fun x => x = aN ∨ x = ar) tN := by
  rintro q (z | z)
  · rw [z]; exact ⟨_, hN.1, Or.inl rfl⟩
  · rw [z]; exact ⟨_, hN.2.1, Or.inr ⟨rfl, rfl⟩⟩
theorem is_nt.tM (hN : is_nt V h aN ar num fw na NS) : fpT V h (fp_na num na) tM := by
  rintro q ⟨i, hi, z⟩
  rw [z]; exact ⟨_, hN.2.2.2.1 i hi, rfl, rfl⟩
theorem tO_of {fs : List Value} (he : rx_rd V h q = some (.inr (0, fs))) : fpT V h (fun x => x = q) tO := by
  rintro x z
  rw [z]; exact ⟨_, he, rfl, rfl⟩
theorem is_pg.frT (hp : is_pg V h aP n al at_ av Le Te Va) (hf : rx_fr V h h' FP) (t : fpT V h FP T) (h1 : ¬ T 1 0) (h2 : ¬ T 100 n) (h3 : ¬ T 100 (10 * n)) : is_pg V h' aP n al at_ av Le Te Va :=
  hp.fr hf (t.no hp.1 h1) (t.no hp.2.1 h2) (t.no hp.2.2.1 h2) (t.no hp.2.2.2.1 h3)
theorem is_nt.frT (hN : is_nt V h aN ar num fw na NS) (hf : rx_fr V h h' FP) (t : fpT V h FP T) (h1 : ¬ T 2 0) (h2 : ¬ T 104 40) (h3 : ¬ T 7 0) : is_nt V h' aN ar num fw na NS :=
  hN.fr hf (t.no hN.1 h1) (t.no hN.2.1 h2) (fun i hi => t.no (hN.2.2.2.1 i hi) h3)
theorem is_rp.frT (H : is_rp V h aR n aA aE aG num fA fE fG ra R) (hf : rx_fr V h h' FP) (t : fpT V h FP T) (h1 : ¬ T 3 0) (h2 : ¬ T 104 n) (h3 : ¬ T 4 0) : is_rp V h' aR n aA aE aG num fA fE fG ra R :=
  H.fr hf (t.no H.1 h1) (t.no H.2.1 h2) (t.no H.2.2.1 h2) (t.no H.2.2.2.1 h2) (fun r hr => t.no (H.cell hr) h3)
theorem is_rd.frT (D : is_rd V h aD aO n N jm wo wy tk f) (hf : rx_fr V h h' FP) (t : fpT V h FP T) (h1 : ¬ T 5 0) (h2 : ¬ T 100 (n * 12)) : is_rd V h' aD aO n N jm wo wy tk f :=
  D.fr hf (t.no D.1 h1) (t.no D.2.1 h2)
theorem is_sd.frT (S : is_sd V h a aF aI m9 kp fF fI) (hf : rx_fr V h h' FP) (t : fpT V h FP T) (h1 : ¬ T 6 0) (h2 : ¬ T 104 480) (h3 : ¬ T 100 480) : is_sd V h' a aF aI m9 kp fF fI :=
  ⟨(hf.2 _ (t.no S.1 h1)).trans S.1, (hf.2 _ (t.no S.2.1 h2)).trans S.2.1, (hf.2 _ (t.no S.2.2.1 h3)).trans S.2.2.1, S.2.2.2⟩
theorem ob_frT {ci : Nat} {fs : List Value} (he : rx_rd V h q = some (.inr (ci, fs))) (hf : rx_fr V h h' FP) (t : fpT V h FP T) (h1 : ¬ T ci 0) : rx_rd V h' q = some (.inr (ci, fs)) := (hf.2 _ (t.no he h1)).trans he
end CL
noncomputable def flt (n : Nat) (Va : Nat → Int32) : Int32 := lst n (FT n Va (gst Va n) (gGn n Va))
def pN (n : Nat) (Va : Nat → Int32) : Nat := pNn n Va (gst Va n) (gGn n Va)
def wf (n : Nat) (Va : Nat → Int32) (j : Nat) : Int32 := nI (wbr n Va (gst Va n) (gGn n Va) j)
def sdc (n : Nat) (Le Va : Nat → Int32) (num : Nat) (NS : Nat → Nat → Int32) (p : Int32) : List (Nat × Nat) := sds n Le (pN n Va) (wf n Va) num NS p
/-- the parts of the class's world -/
def is_c0 (V : rx_V) (h : List va_E) (A ra na : Nat → Nat) (n : Nat) (Le Te Va : Nat → Int32) (num : Nat) (NS : Nat → Nat → Int32) (kn : Bool) (kp fa : Int32) (fw fA fE fG : Nat → Option Nat) (numR : Nat) (R : Nat → Nat → Int32) (N0 : Nat) (jm wo wy tk : Int32) (f : Nat → Int32) (m9 : Nat) (fF : Nat → Option Nat) (fI : Nat → Int32) : Prop :=
  rx_rd V h (A 0) = some (.inr (0, [.ref (A 1), .ref (A 5), .ref (A 7), .ref (A 11), .ref (A 13), .int (bi kn), .int fa])) ∧ is_pg V h (A 1) n (A 2) (A 3) (A 4) Le Te Va ∧ is_nt V h (A 5) (A 6) num fw na NS ∧ is_rp V h (A 7) n (A 8) (A 9) (A 10) numR fA fE fG ra R ∧ (∀ x, n ≤ x → fE x = none) ∧ (∀ x, n ≤ x → fG x = none) ∧ is_rd V h (A 11) (A 12) n N0 jm wo wy tk f ∧ is_sd V h (A 13) (A 14) (A 15) m9 kp fF fI
/-- what is known of the class's world -/
def is_c1 (A na : Nat → Nat) (n : Nat) (Le Va : Nat → Int32) (num : Nat) (NS : Nat → Nat → Int32) (kn : Bool) (kp fa : Int32) (N0 : Nat) (f : Nat → Int32) (m9 : Nat) (fF : Nat → Option Nat) (fI : Nat → Int32) : Prop :=
  (kn = true → fa = flt n Va ∧ (fa = 0 → N0 = pN n Va ∧ ∀ j, j < N0 → f j = wf n Va j)) ∧ (kp ≠ -1 → kn = true ∧ flt n Va = 0 ∧ m9 = (sdc n Le Va num NS kp).length ∧ sdL na fF fI (sdc n Le Va num NS kp))
def is_st (A na : Nat → Nat) (n num : Nat) : Prop := (∀ i j, i < num → j < num → na i = na j → i = j) ∧ A 2 ≠ A 3 ∧ (A 8 ≠ A 9 ∧ A 8 ≠ A 10 ∧ A 9 ≠ A 10) ∧ 0 < n
def is_cl (V : rx_V) (h : List va_E) (A ra na : Nat → Nat) (n : Nat) (Le Te Va : Nat → Int32) (num : Nat) (NS : Nat → Nat → Int32) (kn : Bool) (kp : Int32) : Prop :=
  ∃ fa fw fA fE fG numR R N0 jm wo wy tk f m9 fF fI, is_c0 V h A ra na n Le Te Va num NS kn kp fa fw fA fE fG numR R N0 jm wo wy tk f m9 fF fI ∧ is_c1 A na n Le Va num NS kn kp fa N0 f m9 fF fI ∧ is_st A na n num
/-- the class's places -/
def fp_c (A ra na : Nat → Nat) (n num : Nat) : Nat → Prop := fun q => (∃ i, i < 16 ∧ q = A i) ∨ fp_ra n ra q ∨ fp_na num na q
theorem pN_ok {n : Nat} {Va : Nat → Int32} (hn : n ≤ 20) (h0 : 0 < n) (hv : vok n Va) (hz : flt n Va = 0) : pN n Va ≤ n * 12 ∧ (wsq n Va (gst Va n) (gGn n Va) (pN n Va)).2 = none ∧ (∀ k, k < pN n Va → ∃ c, (wsq n Va (gst Va n) (gGn n Va) k).2 = some c) ∧ 0 < pN n Va :=
  pNn_ok hn h0 hv (vok_gN hv) (gGn_K n Va) (lst_0 hn hz)
section KR
variable {V : rx_V} {d kc ks : Nat} {h : List va_E} {A ra na : Nat → Nat} {n num : Nat} {Le Te Va : Nat → Int32} {NS : Nat → Nat → Int32} {kn : Bool} {kp : Int32}
theorem is_st.pg {A na : Nat → Nat} {n num aP : Nat} {h : List va_E} (t : is_st A na n num) (hp : is_pg V h aP n (A 2) (A 3) (A 4) Le Te Va) : A 2 ≠ A 3 ∧ A 2 ≠ A 4 ∧ A 3 ≠ A 4 := by
  have h0 := t.2.2.2
  exact ⟨t.2.1, rx_ne hp.2.1 hp.2.2.2.1 (ne_len (by omega)), rx_ne hp.2.2.1 hp.2.2.2.1 (ne_len (by omega))⟩
theorem is_st.rd {A na : Nat → Nat} {n num aP aD N : Nat} {jm wo wy tk : Int32} {f : Nat → Int32} {h : List va_E} (t : is_st A na n num) (hp : is_pg V h aP n (A 2) (A 3) (A 4) Le Te Va) (D : is_rd V h aD (A 12) n N jm wo wy tk f) : A 12 ≠ A 2 ∧ A 12 ≠ A 3 ∧ A 12 ≠ A 4 := by
  have h0 := t.2.2.2
  exact ⟨rx_ne D.2.1 hp.2.1 (ne_len (by omega)), rx_ne D.2.1 hp.2.2.1 (ne_len (by omega)), rx_ne D.2.1 hp.2.2.2.1 (ne_len (by omega))⟩
theorem c_knowRoad (hv : vok n Va) (C : is_cl V h A ra na n Le Te Va num NS kn kp) : rx_C V (d + 6) kc ks m_SR_knowRoad [.ref (A 0)] h (fun r9 h' => r9 = .inl none ∧ is_cl V h' A ra na n Le Te Va num NS true kp ∧ rx_fr V h h' (fp_c A ra na n num)) := by
  obtain ⟨fa, fw, fA, fE, fG, numR, R, N0, jm, wo, wy, tk, f, m9, fF, fI, ⟨c1, hp, hN, H, hE, hG, D, S⟩, ⟨kc1, kc2⟩, st⟩ := C
  have hn : n ≤ 20 := hp.2.2.2.2
  have h0 : 0 < n := st.2.2.2
  have fpA : ∀ i, i < 16 → fp_c A ra na n num (A i) := fun i hi => Or.inl ⟨i, hi, rfl⟩
  have fpr : ∀ q, fp_ra n ra q → fp_c A ra na n num q := fun q z => Or.inr (Or.inl z)
  by_cases hkn : kn = true
  · subst hkn
    refine rx_aload_nr d_SR_knowRoad_0 (by rfl) ?_
    refine rx_getfield d_SR_knowRoad_1 fl_SR_95 c1 (by rfl) ?_
    refine rx_if_eq (tgt := 8) d_SR_knowRoad_4 (by rfl) (fun z => absurd z (by decide)) (fun c4 => ?_)
    refine rx_vreturn d_SR_knowRoad_7 (by rfl) ?_
    exact ⟨rfl, ⟨fa, fw, fA, fE, fG, numR, R, N0, jm, wo, wy, tk, f, m9, fF, fI, ⟨c1, hp, hN, H, hE, hG, D, S⟩, ⟨kc1, kc2⟩, st⟩, rx_fr.rf⟩
  · have hkf : kn = false := by cases kn; rfl; exact absurd rfl hkn
    subst hkf
    have hkp : kp = -1 := by
      by_cases z : kp = -1
      · exact z
      · exact absurd (kc2 z).1 (by decide)
    subst hkp
    refine rx_aload_nr d_SR_knowRoad_0 (by rfl) ?_
    refine rx_getfield d_SR_knowRoad_1 fl_SR_95 c1 (by rfl) ?_
    refine rx_if_eq (tgt := 8) d_SR_knowRoad_4 (by rfl) (fun c4 => ?_) (fun z => absurd (by decide) z)
    refine rx_aload_nr d_SR_knowRoad_8 (by rfl) ?_
    refine rx_getfield d_SR_knowRoad_9 fl_SR_28 c1 (by rfl) ?_
    refine rx_aload_nr d_SR_knowRoad_12 (by rfl) ?_
    refine rx_getfield d_SR_knowRoad_13 fl_SR_14 c1 (by rfl) ?_
    refine rx_pV d_SR_knowRoad_16 (by rfl) ml_SR_203 im_Repeats_gather se_Repeats_gather (by exact c9_Repeats_gather) H.1 (by rfl) (by exact Nat.le_of_ble_eq_true rfl) (c_gather st.2.2.1 hp H hE hG) ?_
    intro h1 z9
    obtain ⟨R1, H1, r1, f1⟩ := z9
    have t1 := H.tG
    have c11 := ob_frT c1 f1 t1 (by unfold tG; omega)
    have hp1 := hp.frT f1 t1 (by unfold tG; omega) (by unfold tG; omega) (by unfold tG; omega)
    have hN1 := hN.frT f1 t1 (by unfold tG; omega) (by unfold tG; omega) (by unfold tG; omega)
    have D1 := D.frT f1 t1 (by unfold tG; omega) (by unfold tG; omega)
    have S1 := S.frT f1 t1 (by unfold tG; omega) (by unfold tG; omega) (by unfold tG; omega)
    have G := vok_gN hv
    have F1 : rx_fr V h h1 (fp_c A ra na n num) := f1.mo (fun q z => by
      obtain z | z | z | z := z
      · rw [z]; exact fpA 7 (by omega)
      · rw [z]; exact fpA 9 (by omega)
      · rw [z]; exact fpA 10 (by omega)
      · exact fpr q z)
    have E1 : ∀ x, n ≤ x → (gO (gst Va n) x).map ra = none := fun x hx => by
      cases z : gO (gst Va n) x with
      | none => rfl
      | some r => have w := G.1.2.2.2.2.2.2.1 x r z; have w2 := G.1.2.2.2.2.1 r w.1; have w3 := G.1.2.1; omega
    have E2 : ∀ x, n ≤ x → (gGn n Va x).map ra = none := fun x hx => by
      cases z : gGn n Va x with
      | none => rfl
      | some r => have w := (gGn_K n Va x r z).2.1; omega
    refine rx_aload_nr d_SR_knowRoad_19 (by rfl) ?_
    refine rx_aload_nr d_SR_knowRoad_20 (by rfl) ?_
    refine rx_getfield d_SR_knowRoad_21 fl_SR_14 c11 (by rfl) ?_
    refine rx_aload_nr d_SR_knowRoad_24 (by rfl) ?_
    refine rx_getfield d_SR_knowRoad_25 fl_SR_28 c11 (by rfl) ?_
    refine rx_cS d_SR_knowRoad_28 ml_SR_207 st_Faults_least (by exact c9_Faults_least) (by rfl) (by exact Nat.le_of_ble_eq_true rfl) (c_least hp1 H1 r1 G.1 G.2.1) ?_
    refine rx_putfield d_SR_knowRoad_31 (fw_SR_143 rfl) c11 (Nat.le_of_ble_eq_true rfl) (by rfl) (by rfl) ?_
    have e9 : (lst n (FT n Va (gst Va n) (gG n Va (gst Va n) (gst Va n).1))) = flt n Va := rfl
    rw [e9]
    have c12 := rx_rd_wr (e := .inr (0, [.ref (A 1), .ref (A 5), .ref (A 7), .ref (A 11), .ref (A 13), .int (bi false), .int (flt n Va)])) c11
    have t2 := tO_of c11
    have f2 : rx_fr V h1 _ (fun x => x = A 0) := rx_fr.wr (e := .inr (0, [.ref (A 1), .ref (A 5), .ref (A 7), .ref (A 11), .ref (A 13), .int (bi false), .int (flt n Va)])) c11 rfl
    have hp2 := hp1.frT f2 t2 (by unfold tO; omega) (by unfold tO; omega) (by unfold tO; omega)
    have hN2 := hN1.frT f2 t2 (by unfold tO; omega) (by unfold tO; omega) (by unfold tO; omega)
    have H2 := H1.frT f2 t2 (by unfold tO; omega) (by unfold tO; omega) (by unfold tO; omega)
    have D2 := D1.frT f2 t2 (by unfold tO; omega) (by unfold tO; omega)
    have S2 := S1.frT f2 t2 (by unfold tO; omega) (by unfold tO; omega) (by unfold tO; omega)
    have F2 := F1.tr (f2.mo (fun q z => by rw [z]; exact fpA 0 (by omega)))
    refine rx_aload_nr d_SR_knowRoad_34 (by rfl) ?_
    refine rx_getfield d_SR_knowRoad_35 fl_SR_143 c12 (by rfl) ?_
    refine rx_if_ne (tgt := 56) d_SR_knowRoad_38 (by rfl) (fun c38 => ?_) (fun c38 => ?_)
    · have hz : ¬ flt n Va = 0 := c38
      first
      | have hend := c13
        have t4 := tO_of c13
        have f4 : rx_fr V h3 _ (fun x => x = A 0) := rx_fr.wr (e := .inr (0, [.ref (A 1), .ref (A 5), .ref (A 7), .ref (A 11), .ref (A 13), .int (bi true), .int (flt n Va)])) c13 rfl
        refine rx_aload_nr d_SR_knowRoad_56 (by rfl) ?_
        refine rx_iconst (v := 1) d_SR_knowRoad_57 (by decide) ?_
        refine rx_putfield d_SR_knowRoad_58 (fw_SR_95 rfl) c13 (Nat.le_of_ble_eq_true rfl) (by rfl) (by rfl) ?_
        refine rx_vreturn d_SR_knowRoad_61 (by rfl) ?_
        exact ⟨rfl, ⟨flt n Va, fw, fA, _, _, _, R3, pN n Va, jm3, wo3, wy3, tk3, f3, m9, fF, fI, ⟨rx_rd_wr c13, hp3.frT f4 t4 (by unfold tO; omega) (by unfold tO; omega) (by unfold tO; omega), hN3.frT f4 t4 (by unfold tO; omega) (by unfold tO; omega) (by unfold tO; omega), H3.frT f4 t4 (by unfold tO; omega) (by unfold tO; omega) (by unfold tO; omega), E1, E2, D3.frT f4 t4 (by unfold tO; omega) (by unfold tO; omega), S3.frT f4 t4 (by unfold tO; omega) (by unfold tO; omega) (by unfold tO; omega)⟩, ⟨fun _ => ⟨rfl, fun _ => ⟨rfl, w3⟩⟩, fun z => absurd rfl z⟩, st⟩, F3.tr (f4.mo (fun q z => by rw [z]; exact fpA 0 (by omega)))⟩
      | have t4 := tO_of c12
        have f4 : rx_fr V _ _ (fun x => x = A 0) := rx_fr.wr (e := .inr (0, [.ref (A 1), .ref (A 5), .ref (A 7), .ref (A 11), .ref (A 13), .int (bi true), .int (flt n Va)])) c12 rfl
        refine rx_aload_nr d_SR_knowRoad_56 (by rfl) ?_
        refine rx_iconst (v := 1) d_SR_knowRoad_57 (by decide) ?_
        refine rx_putfield d_SR_knowRoad_58 (fw_SR_95 rfl) c12 (Nat.le_of_ble_eq_true rfl) (by rfl) (by rfl) ?_
        refine rx_vreturn d_SR_knowRoad_61 (by rfl) ?_
        exact ⟨rfl, ⟨flt n Va, fw, fA, _, _, _, R1, N0, jm, wo, wy, tk, f, m9, fF, fI, ⟨rx_rd_wr c12, hp2.frT f4 t4 (by unfold tO; omega) (by unfold tO; omega) (by unfold tO; omega), hN2.frT f4 t4 (by unfold tO; omega) (by unfold tO; omega) (by unfold tO; omega), H2.frT f4 t4 (by unfold tO; omega) (by unfold tO; omega) (by unfold tO; omega), E1, E2, D2.frT f4 t4 (by unfold tO; omega) (by unfold tO; omega), S2.frT f4 t4 (by unfold tO; omega) (by unfold tO; omega) (by unfold tO; omega)⟩, ⟨fun _ => ⟨rfl, fun z => absurd z hz⟩, fun z => absurd rfl z⟩, st⟩, F2.tr (f4.mo (fun q z => by rw [z]; exact fpA 0 (by omega)))⟩
    · have hz : flt n Va = 0 := c38
      obtain ⟨p1, p2, p3, p4⟩ := pN_ok hn h0 hv hz
      refine rx_aload_nr d_SR_knowRoad_41 (by rfl) ?_
      refine rx_getfield d_SR_knowRoad_42 fl_SR_35 c12 (by rfl) ?_
      refine rx_aload_nr d_SR_knowRoad_45 (by rfl) ?_
      refine rx_getfield d_SR_knowRoad_46 fl_SR_14 c12 (by rfl) ?_
      refine rx_aload_nr d_SR_knowRoad_49 (by rfl) ?_
      refine rx_getfield d_SR_knowRoad_50 fl_SR_28 c12 (by rfl) ?_
      refine rx_pV d_SR_knowRoad_53 (by rfl) ml_SR_213 im_Road_walk se_Road_walk (by exact c9_Road_walk) D2.1 (by rfl) (by exact Nat.le_of_ble_eq_true rfl) (c_walk h0 (st.rd hp2 D2) p1 p2 p3 G (lst_0 hn hz) hp2 H2 r1 D2) ?_
      intro h3 z9
      obtain ⟨⟨R3, H3, r3⟩, ⟨jm3, wo3, wy3, tk3, f3, D3, w3⟩, fr3⟩ := z9
      have t3 := D2.tW H2
      have c13 := ob_frT c12 fr3 t3 (by unfold tW; omega)
      have hp3 := hp2.frT fr3 t3 (by unfold tW; omega) (by unfold tW; omega) (by unfold tW; omega)
      have hN3 := hN2.frT fr3 t3 (by unfold tW; omega) (by unfold tW; omega) (by unfold tW; omega)
      have S3 := S2.frT fr3 t3 (by unfold tW; omega) (by unfold tW; omega) (by unfold tW; omega)
      have F3 := F2.tr (fr3.mo (fun q z => by
        obtain z | z | z := z
        · rw [z]; exact fpA 11 (by omega)
        · rw [z]; exact fpA 12 (by omega)
        · exact fpr q z))
      first
      | have hend := c13
        have t4 := tO_of c13
        have f4 : rx_fr V h3 _ (fun x => x = A 0) := rx_fr.wr (e := .inr (0, [.ref (A 1), .ref (A 5), .ref (A 7), .ref (A 11), .ref (A 13), .int (bi true), .int (flt n Va)])) c13 rfl
        refine rx_aload_nr d_SR_knowRoad_56 (by rfl) ?_
        refine rx_iconst (v := 1) d_SR_knowRoad_57 (by decide) ?_
        refine rx_putfield d_SR_knowRoad_58 (fw_SR_95 rfl) c13 (Nat.le_of_ble_eq_true rfl) (by rfl) (by rfl) ?_
        refine rx_vreturn d_SR_knowRoad_61 (by rfl) ?_
        exact ⟨rfl, ⟨flt n Va, fw, fA, _, _, _, R3, pN n Va, jm3, wo3, wy3, tk3, f3, m9, fF, fI, ⟨rx_rd_wr c13, hp3.frT f4 t4 (by unfold tO; omega) (by unfold tO; omega) (by unfold tO; omega), hN3.frT f4 t4 (by unfold tO; omega) (by unfold tO; omega) (by unfold tO; omega), H3.frT f4 t4 (by unfold tO; omega) (by unfold tO; omega) (by unfold tO; omega), E1, E2, D3.frT f4 t4 (by unfold tO; omega) (by unfold tO; omega), S3.frT f4 t4 (by unfold tO; omega) (by unfold tO; omega) (by unfold tO; omega)⟩, ⟨fun _ => ⟨rfl, fun _ => ⟨rfl, w3⟩⟩, fun z => absurd rfl z⟩, st⟩, F3.tr (f4.mo (fun q z => by rw [z]; exact fpA 0 (by omega)))⟩
      | have t4 := tO_of c12
        have f4 : rx_fr V _ _ (fun x => x = A 0) := rx_fr.wr (e := .inr (0, [.ref (A 1), .ref (A 5), .ref (A 7), .ref (A 11), .ref (A 13), .int (bi true), .int (flt n Va)])) c12 rfl
        refine rx_aload_nr d_SR_knowRoad_56 (by rfl) ?_
        refine rx_iconst (v := 1) d_SR_knowRoad_57 (by decide) ?_
        refine rx_putfield d_SR_knowRoad_58 (fw_SR_95 rfl) c12 (Nat.le_of_ble_eq_true rfl) (by rfl) (by rfl) ?_
        refine rx_vreturn d_SR_knowRoad_61 (by rfl) ?_
        exact ⟨rfl, ⟨flt n Va, fw, fA, _, _, _, R1, N0, jm, wo, wy, tk, f, m9, fF, fI, ⟨rx_rd_wr c12, hp2.frT f4 t4 (by unfold tO; omega) (by unfold tO; omega) (by unfold tO; omega), hN2.frT f4 t4 (by unfold tO; omega) (by unfold tO; omega) (by unfold tO; omega), H2.frT f4 t4 (by unfold tO; omega) (by unfold tO; omega) (by unfold tO; omega), E1, E2, D2.frT f4 t4 (by unfold tO; omega) (by unfold tO; omega), S2.frT f4 t4 (by unfold tO; omega) (by unfold tO; omega) (by unfold tO; omega)⟩, ⟨fun _ => ⟨rfl, fun z => absurd z hz⟩, fun z => absurd rfl z⟩, st⟩, F2.tr (f4.mo (fun q z => by rw [z]; exact fpA 0 (by omega)))⟩
end KR
