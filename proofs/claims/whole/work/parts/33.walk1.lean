/-! the walk, as values; Road: insteadOf, isToComeAgain, leaveRepeatAtLastPass, jumpFrom, behind -/
def bi (b : Bool) : Int32 := if b = true then 1 else 0
theorem bi_0 {b : Bool} : bi b = 0 ↔ b = false := by cases b <;> decide
theorem bi_1 {b : Bool} : ¬ bi b = 0 ↔ b = true := by cases b <;> decide
def cn (s : gT) (r : Nat) : Nat := (gC s r).toNatClampNeg
def bt (Va : Nat → Int32) (e p : Nat) : Bool := decide (¬ Va (10 * e + 2) &&& (1 <<< ((nI p - 1) &&& 31)) = 0)
/-- passes, jumped, wentOver, way, taken -/
abbrev wT : Type := (Nat → Nat) × Bool × Bool × Int32 × Bool
def wdu (s : gT) (w : wT) (r : Nat) : Nat := if w.2.2.2.2 = true then w.1 r else cn s r
def lsg (n : Nat) (g : Nat → Option Nat) (r : Nat) : Nat := (lwf (fun e => decide (g e = some r)) 0 n).toNat
def wif (n : Nat) (Va : Nat → Int32) (g : Nat → Option Nat) (r du c : Nat) : Nat := match fix (fun e => decide (g e = some r) && bt Va e du) c (n - c) with
  | some e => e
  | none => lsg n g r
def win (n : Nat) (Va : Nat → Int32) (s : gT) (g : Nat → Option Nat) (w : wT) (c : Nat) : Nat := match g c with
  | none => c
  | some r => wif n Va g r (wdu s w r) c
def wag (s : gT) (w : wT) (b : Nat) : Bool := w.2.2.2.2 && (fix (fun r => decide (gF s r ≤ b ∧ b ≤ gL s r ∧ w.1 r < cn s r)) 0 s.1).isSome
def wlv (Va : Nat → Int32) (s : gT) (g : Nat → Option Nat) (w : wT) (b : Nat) : wT := match g b with
  | none => w
  | some r => if bt Va b (cn s r) = true then (up w.1 r 1, w.2) else w
def wco (n : Nat) (Va : Nat → Int32) : Nat := (lwf (hb Va 4) 0 n).toNat
def wta (Va : Nat → Int32) (b : Nat) : Nat := if (Va (10 * b + 7) - 1) - (Va (10 * b + 7) - 1) / 2 * 2 = 1 then (lwf (hb Va 3) 0 (b + 1)).toNat else 0
def wju (Va : Nat → Int32) (w : wT) (b : Nat) : wT := (fun _ => 1, true, w.2.2.1, jwy (Va (10 * b + 7)), decide (¬ Va (10 * b + 7) ≤ 6))
def wn2 (n : Nat) (Va : Nat → Int32) (w : wT) (b : Nat) (ag : Bool) : wT × Option Nat :=
  if ag = false ∧ w.2.1 = true ∧ w.2.2.2.1 = 1 ∧ hb Va 5 b = true then (w, none)
  else if ag = false ∧ w.2.1 = true ∧ w.2.2.2.1 = 2 ∧ w.2.2.1 = false ∧ hb Va 6 b = true then ((w.1, w.2.1, true, w.2.2.2.1, w.2.2.2.2), some (wco n Va))
  else if ag = false ∧ w.2.1 = false ∧ hb Va 7 b = true then (wju Va w b, some (wta Va b))
  else (w, if b + 1 < n then some (b + 1) else none)
def wnx (n : Nat) (Va : Nat → Int32) (s : gT) (w : wT) (b : Nat) (ag : Bool) : wT × Option Nat := match gO s b with
  | none => wn2 n Va w b ag
  | some r => if w.2.2.2.2 = true then (if w.1 r < cn s r then ((up w.1 r (w.1 r + 1), w.2), some (gF s r)) else wn2 n Va (up w.1 r 1, w.2) b ag) else wn2 n Va w b ag
theorem is_rp.fr {V : rx_V} {h h' : List va_E} {a n aA aE aG num : Nat} {fA fE fG : Nat → Option Nat} {ra : Nat → Nat} {R : Nat → Nat → Int32} {FP : Nat → Prop} (H : is_rp V h a n aA aE aG num fA fE fG ra R) (hf : rx_fr V h h' FP) (h1 : ¬ FP a) (h2 : ¬ FP aA) (h3 : ¬ FP aE) (h4 : ¬ FP aG) (h5 : ∀ r, r < n → ¬ FP (ra r)) : is_rp V h' a n aA aE aG num fA fE fG ra R := by
  obtain ⟨j1, j2, j3, j4, j5, j6, j7, j8, j9⟩ := H
  exact ⟨(hf.2 a h1).trans j1, (hf.2 aA h2).trans j2, (hf.2 aE h3).trans j3, (hf.2 aG h4).trans j4, j5, fun r hr => (hf.2 _ (h5 r hr)).trans (j6 r hr), j7, j8, j9⟩
/-- writing at a place with another kind of cell -/
theorem is_rp.wo {V : rx_V} {h : List va_E} {a n aA aE aG num q : Nat} {fA fE fG : Nat → Option Nat} {ra : Nat → Nat} {R : Nat → Nat → Int32} {e0 e : va_E} (H : is_rp V h a n aA aE aG num fA fE fG ra R) (he : rx_rd V h q = some e0) (h1 : ∀ fs, e0 ≠ .inr (3, fs)) (h2 : ∀ fs, e0 ≠ .inr (4, fs)) (h3 : ∀ c m f, e0 ≠ .inl (c, m, .inr (.inr (.inr (.inr f))))) : is_rp V (rx_wr V h q e) a n aA aE aG num fA fE fG ra R :=
  H.fr (FP := fun x => x = q) (rx_fr.wr he rfl) (rx_ne H.1 he (Ne.symm (h1 _))) (rx_ne H.2.1 he (Ne.symm (h3 _ _ _))) (rx_ne H.2.2.1 he (Ne.symm (h3 _ _ _))) (rx_ne H.2.2.2.1 he (Ne.symm (h3 _ _ _))) (fun r hr => rx_ne (H.cell hr) he (Ne.symm (h2 _)))
theorem is_rd.rc {V : rx_V} {h : List va_E} {a aO n N q : Nat} {jm wo wy tk : Int32} {f X : Nat → Int32} {e : va_E} (D : is_rd V h a aO n N jm wo wy tk f) (hc : rx_rd V h q = some (rcl X)) : is_rd V (rx_wr V h q e) a aO n N jm wo wy tk f :=
  ⟨(rx_rd_wn hc (rx_ne D.1 hc (fun z => by cases z))).trans D.1, (rx_rd_wn hc (rx_ne D.2.1 hc (fun z => by cases z))).trans D.2.1, D.2.2⟩
theorem is_rd.ob {V : rx_V} {h : List va_E} {a aO n N N' : Nat} {jm wo wy tk jm' wo' wy' tk' : Int32} {f : Nat → Int32} (D : is_rd V h a aO n N jm wo wy tk f) (hN : N' ≤ n * 12) : is_rd V (rx_wr V h a (.inr (5, [.ref aO, .int (nI N'), .int jm', .int wo', .int wy', .int tk']))) a aO n N' jm' wo' wy' tk' f :=
  ⟨rx_rd_wr D.1, (rx_rd_wn D.1 (rx_ne D.2.1 D.1 (fun z => by cases z))).trans D.2.1, hN, D.2.2.2⟩
theorem is_rd.fr {V : rx_V} {h h' : List va_E} {a aO n N : Nat} {jm wo wy tk : Int32} {f : Nat → Int32} {FP : Nat → Prop} (D : is_rd V h a aO n N jm wo wy tk f) (hf : rx_fr V h h' FP) (h1 : ¬ FP a) (h2 : ¬ FP aO) : is_rd V h' a aO n N jm wo wy tk f :=
  ⟨(hf.2 a h1).trans D.1, (hf.2 aO h2).trans D.2.1, D.2.2⟩
/-- the repeats and the walk's state stand in the cells -/
def is_wk (V : rx_V) (h : List va_E) (a n aA aE aG : Nat) (fA : Nat → Option Nat) (ra : Nat → Nat) (s : gT) (g : Nat → Option Nat) (ps : Nat → Nat) : Prop :=
  ∃ R, is_rp V h a n aA aE aG s.1 fA (fun x => (gO s x).map ra) (fun x => (g x).map ra) ra R ∧ roG s g R ∧ ∀ r, r < s.1 → R r 6 = nI (ps r)
/-- what is known of repeats without a fault -/
def gN (n : Nat) (Va : Nat → Int32) (s : gT) (g : Nat → Option Nat) : Prop := gI Va n s ∧ (∀ x r, g x = some r → r < s.1 ∧ x < n ∧ gF s r ≤ x) ∧ (∀ r, r < s.1 → gC s r = nI (cn s r) ∧ 2 ≤ cn s r ∧ cn s r ≤ 4)
theorem bt_t {Va : Nat → Int32} {e p : Nat} : bt Va e p = true ↔ ¬ Va (10 * e + 2) &&& (1 <<< ((nI p - 1) &&& 31)) = 0 := decide_eq_true_iff
theorem bt_f {Va : Nat → Int32} {e p : Nat} : bt Va e p = false ↔ Va (10 * e + 2) &&& (1 <<< ((nI p - 1) &&& 31)) = 0 := by
  unfold bt
  rw [decide_eq_false_iff_not, Decidable.not_not]
theorem lsg_eq {n r l : Nat} {g : Nat → Option Nat} (h1 : g l = some r) (h2 : l < n) (h3 : ∀ y, g y = some r → y ≤ l) : lsg n g r = l := by
  unfold lsg
  obtain e | ⟨j, e1, e2, e3, e4⟩ := lwf_ran (fun e => decide (g e = some r)) 0 n
  · exact absurd ((lwf_m1.mp e l (by omega) h2).symm.trans (decide_eq_true h1)) (by decide)
  · rw [e1]
    have j1 := h3 j (of_decide_eq_true e4)
    by_cases c : j = l
    · rw [c]; rfl
    · exfalso
      have key : ∀ m, lwf (fun e => decide (g e = some r)) 0 m = (j : Int) → j < m → ∀ y, j < y → y < m → decide (g y = some r) = false := by
        intro m
        induction m with
        | zero => intro _ h; omega
        | succ m ih =>
          intro hm hj y hy1 hy2
          cases hp : decide (g m = some r) with
          | true => rw [lwf_yes (by omega) hp] at hm; omega
          | false =>
            rw [lwf_no (by omega) hp] at hm
            by_cases e : y = m
            · rw [e]; exact hp
            · exact ih hm (by omega) y hy1 (by omega)
      have := key n e1 e3 l (by omega) h2
      rw [decide_eq_true h1] at this; cases this
section W1
variable {V : rx_V} {d kc ks a aO aR n N aA aE aG aP al at_ av b c : Nat} {h : List va_E} {fA : Nat → Option Nat} {ra : Nat → Nat} {R : Nat → Nat → Int32} {Le Te Va f : Nat → Int32} {s : gT} {g : Nat → Option Nat} {jm wo wy tk : Int32} {w : wT}
theorem l_insteadOf (hp : is_pg V h aP n al at_ av Le Te Va) (H : is_rp V h aR n aA aE aG s.1 fA (fun x => (gO s x).map ra) (fun x => (g x).map ra) ra R) (G : gN n Va s g) {r l du : Nat} (hrn : r < s.1) (hl : R r 4 = nI l) (hln : l < n) (hgl : g l = some r) (hmx : ∀ y, g y = some r → y ≤ l) : ∀ (m e en : Nat), e + m = l + 1 → (e ≤ l ∨ en = l) → rx_W V (d + 2) kc ks m_Road_insteadOf 42 [some (.ref a), some (.int (nI c)), some (.ref aP), some (.ref aR), some (.ref (ra r)), some (.int (nI du)), some (.int (nI en)), some (.int (nI e))] [] h (rx_X (.inl (some (.int (nI (wif n Va g r du e))))) h) := by
  have hn := H.n20
  have hrN : r < n := Nat.lt_of_lt_of_le hrn G.1.1
  intro m
  induction m with
  | zero =>
    intro e en hi he
    have e1 : e = l + 1 := by omega
    subst e1
    have e2 : en = l := by omega
    subst e2
    have e3 : wif n Va g r du (en + 1) = en := by
      unfold wif
      cases z : fix (fun e => decide (g e = some r) && bt Va e du) (en + 1) (n - (en + 1)) with
      | none => exact lsg_eq hgl hln hmx
      | some x =>
        obtain ⟨j1, -, j3, -⟩ := fix_s z
        rw [Bool.and_eq_true] at j3
        have := hmx x (of_decide_eq_true j3.1)
        omega
    rw [e3]
    refine rx_iload d_Road_insteadOf_42 (by rfl) ?_
    refine rx_aload_r d_Road_insteadOf_44 (by rfl) ?_
    refine rx_getfield d_Road_insteadOf_46 fl_Road_65 (H.cell hrN) (by rfl) ?_
    rw [hl]
    refine rx_icmp_gt (tgt := 87) d_Road_insteadOf_49 (by rfl) (fun c49 => ?_) (fun z => absurd (nI_lt (by omega) (by omega)) z)
    refine rx_iload d_Road_insteadOf_87 (by rfl) ?_
    refine rx_ireturn d_Road_insteadOf_89 (by rfl) ?_
    exact ⟨rfl, rfl⟩
  | succ m ih =>
    intro e en hi he
    have hin : e < n := by omega
    have hv : pgv n Va (nI e) 2 = Va (10 * e + 2) := pgv_k hn hin (by omega) rfl
    have hm : n - e = (n - (e + 1)) + 1 := by omega
    refine rx_iload d_Road_insteadOf_42 (by rfl) ?_
    refine rx_aload_r d_Road_insteadOf_44 (by rfl) ?_
    refine rx_getfield d_Road_insteadOf_46 fl_Road_65 (H.cell hrN) (by rfl) ?_
    rw [hl]
    refine rx_icmp_gt (tgt := 87) d_Road_insteadOf_49 (by rfl) (fun z => absurd z (nI_nlt (by omega) (by omega))) (fun c49 => ?_)
    refine rx_aload_nr d_Road_insteadOf_52 (by rfl) ?_
    refine rx_iload d_Road_insteadOf_53 (by rfl) ?_
    refine rx_cV d_Road_insteadOf_55 (by rfl) ml_Road_53 im_Repeats_ofEnding se_Repeats_ofEnding (by exact c9_Repeats_ofEnding) H.1 (by rfl) (by exact Nat.le_of_ble_eq_true rfl) (c_ofEnding H (nI e)) ?_
    rw [ogt_nn (by omega) hin]
    refine rx_aload_r d_Road_insteadOf_58 (by rfl) ?_
    refine rx_acmp_ne_r (tgt := 81) d_Road_insteadOf_60 (by rfl) (fun c60 => ?_) (fun c60 => ?_)
    · have w1 : ¬ g e = some r := fun z => c60 ((H.inj hrN (fun x e => Nat.lt_of_lt_of_le (G.2.1 _ x e).1 G.1.1)).mpr z)
      have hf : (decide (g e = some r) && bt Va e du) = false := by rw [decide_eq_false w1]; rfl
      have hne : e ≠ l := fun z => w1 (z ▸ hgl)
      have e4 : wif n Va g r du e = wif n Va g r du (e + 1) := by
        unfold wif
        rw [hm, fix_no hf]
      rw [e4]
      refine rx_iinc (v := nI (e + 1)) d_Road_insteadOf_81 (by rfl) (i_inc e) ?_
      refine rx_goto (tgt := 42) d_Road_insteadOf_84 (by rfl) ?_
      exact ih (e + 1) _ (by omega) (by omega)
    · have w1 := (H.inj hrN (fun x e => Nat.lt_of_lt_of_le (G.2.1 _ x e).1 G.1.1)).mp c60
      refine rx_iload d_Road_insteadOf_63 (by rfl) ?_
      refine rx_istore d_Road_insteadOf_65 (Nat.le_of_ble_eq_true rfl) ?_
      refine rx_aload_nr d_Road_insteadOf_67 (by rfl) ?_
      refine rx_iload d_Road_insteadOf_68 (by rfl) ?_
      refine rx_iload d_Road_insteadOf_70 (by rfl) ?_
      refine rx_cV d_Road_insteadOf_72 (by rfl) ml_Road_68 im_Page_hasPass se_Page_hasPass (by exact c9_Page_hasPass) hp.1 (by rfl) (by exact Nat.le_of_ble_eq_true rfl) (c_hasPass hp (nI e) (nI du)) ?_
      rw [hv]
      refine rx_if_eq (tgt := 81) d_Road_insteadOf_75 (by rfl) (fun c75 => ?_) (fun c75 => ?_)
      · have hf : (decide (g e = some r) && bt Va e du) = false := by rw [bt_f.mpr (ite01.mp c75), Bool.and_false]
        have e4 : wif n Va g r du e = wif n Va g r du (e + 1) := by
          unfold wif
          rw [hm, fix_no hf]
        rw [e4]
        refine rx_iinc (v := nI (e + 1)) d_Road_insteadOf_81 (by rfl) (i_inc e) ?_
        refine rx_goto (tgt := 42) d_Road_insteadOf_84 (by rfl) ?_
        exact ih (e + 1) _ (by omega) (by omega)
      · have ht : (decide (g e = some r) && bt Va e du) = true := by rw [bt_t.mpr (fun z => c75 (ite01.mpr z)), decide_eq_true w1]; rfl
        refine rx_iload d_Road_insteadOf_78 (by rfl) ?_
        refine rx_ireturn d_Road_insteadOf_80 (by rfl) ?_
        exact ⟨by unfold wif; rw [hm, fix_yes ht], rfl⟩
theorem roG.last {s : gT} {g : Nat → Option Nat} {R : Nat → Nat → Int32} (hr : roG s g R) {r x : Nat} (hrn : r < s.1) (hx : g x = some r) : ∃ l, R r 4 = nI l ∧ l < 20 ∧ g l = some r ∧ ∀ y, g y = some r → y ≤ l := by
  obtain ⟨-, z⟩ | z := (hr r hrn).2.2.2.2.2
  · exact absurd hx (z x)
  · exact z
theorem c_insteadOf (hp : is_pg V h aP n al at_ av Le Te Va) (H : is_rp V h aR n aA aE aG s.1 fA (fun x => (gO s x).map ra) (fun x => (g x).map ra) ra R) (hr : roG s g R) (hps : ∀ r, r < s.1 → R r 6 = nI (w.1 r) ∧ w.1 r ≤ 4) (G : gN n Va s g) (D : is_rd V h a aO n N (bi w.2.1) (bi w.2.2.1) w.2.2.2.1 (bi w.2.2.2.2) f) (hcn : c < n) : rx_C V (d + 2) kc ks m_Road_insteadOf [.ref a, .int (nI c), .ref aP, .ref aR] h (rx_X (.inl (some (.int (nI (win n Va s g w c))))) h) := by
  have hn := H.n20
  unfold win
  cases hgc : g c with
  | none =>
    show rx_C V (d + 2) kc ks m_Road_insteadOf [.ref a, .int (nI c), .ref aP, .ref aR] h (rx_X (.inl (some (.int (nI c)))) h)
    refine rx_aload_nr d_Road_insteadOf_0 (by rfl) ?_
    refine rx_iload_n d_Road_insteadOf_1 (by rfl) ?_
    refine rx_cV d_Road_insteadOf_2 (by rfl) ml_Road_53 im_Repeats_ofEnding se_Repeats_ofEnding (by exact c9_Repeats_ofEnding) H.1 (by rfl) (by exact Nat.le_of_ble_eq_true rfl) (c_ofEnding H (nI c)) ?_
    rw [ogt_nn (by omega) hcn, hgc]
    refine rx_astore_N d_Road_insteadOf_5 (Nat.le_of_ble_eq_true rfl) ?_
    refine rx_aload_N d_Road_insteadOf_7 (by rfl) ?_
    refine rx_ifnonnull_N (tgt := 14) d_Road_insteadOf_9 (by rfl) ?_
    refine rx_iload_n d_Road_insteadOf_12 (by rfl) ?_
    refine rx_ireturn d_Road_insteadOf_13 (by rfl) ?_
    exact ⟨rfl, rfl⟩
  | some r =>
    show rx_C V (d + 2) kc ks m_Road_insteadOf [.ref a, .int (nI c), .ref aP, .ref aR] h (rx_X (.inl (some (.int (nI (wif n Va g r (wdu s w r) c))))) h)
    obtain ⟨hrn, -, -⟩ := G.2.1 c r hgc
    have hrN : r < n := Nat.lt_of_lt_of_le hrn G.1.1
    obtain ⟨l, l1, l2, l3, l4⟩ := hr.last hrn hgc
    have hcl := l4 c hgc
    have hln := (G.2.1 l r l3).2.1
    refine rx_aload_nr d_Road_insteadOf_0 (by rfl) ?_
    refine rx_iload_n d_Road_insteadOf_1 (by rfl) ?_
    refine rx_cV d_Road_insteadOf_2 (by rfl) ml_Road_53 im_Repeats_ofEnding se_Repeats_ofEnding (by exact c9_Repeats_ofEnding) H.1 (by rfl) (by exact Nat.le_of_ble_eq_true rfl) (c_ofEnding H (nI c)) ?_
    rw [ogt_nn (by omega) hcn, hgc]
    show rx_W V (d + 2) kc ks m_Road_insteadOf 5 _ [.ref (ra r)] h _
    refine rx_astore_r d_Road_insteadOf_5 (Nat.le_of_ble_eq_true rfl) ?_
    refine rx_aload_r d_Road_insteadOf_7 (by rfl) ?_
    refine rx_ifnonnull_r (tgt := 14) d_Road_insteadOf_9 (by rfl) ?_
    refine rx_aload_nr d_Road_insteadOf_14 (by rfl) ?_
    refine rx_getfield d_Road_insteadOf_15 fl_Road_29 D.1 (by rfl) ?_
    refine rx_if_eq (tgt := 29) d_Road_insteadOf_18 (by rfl) (fun c18 => ?_) (fun c18 => ?_)
    · have e9 : R r 5 = nI (wdu s w r) := by unfold wdu; rw [bi_0.mp c18, (hr r hrn).2.2.2.1, (G.2.2 r hrn).1]; rfl
      refine rx_aload_r d_Road_insteadOf_29 (by rfl) ?_
      refine rx_getfield d_Road_insteadOf_31 fl_Road_62 (H.cell hrN) (by rfl) ?_
      rw [e9]
      refine rx_istore d_Road_insteadOf_34 (Nat.le_of_ble_eq_true rfl) ?_
      refine rx_iload_n d_Road_insteadOf_36 (by rfl) ?_
      refine rx_istore d_Road_insteadOf_37 (Nat.le_of_ble_eq_true rfl) ?_
      refine rx_iload_n d_Road_insteadOf_39 (by rfl) ?_
      refine rx_istore d_Road_insteadOf_40 (Nat.le_of_ble_eq_true rfl) ?_
      exact l_insteadOf hp H G hrn l1 hln l3 l4 (l + 1 - c) c c (by omega) (by omega)
    · have e9 : R r 6 = nI (wdu s w r) := by unfold wdu; rw [bi_1.mp c18, (hps r hrn).1]; rfl
      refine rx_aload_r d_Road_insteadOf_21 (by rfl) ?_
      refine rx_getfield d_Road_insteadOf_23 fl_Road_57 (H.cell hrN) (by rfl) ?_
      rw [e9]
      refine rx_goto (tgt := 34) d_Road_insteadOf_26 (by rfl) ?_
      refine rx_istore d_Road_insteadOf_34 (Nat.le_of_ble_eq_true rfl) ?_
      refine rx_iload_n d_Road_insteadOf_36 (by rfl) ?_
      refine rx_istore d_Road_insteadOf_37 (Nat.le_of_ble_eq_true rfl) ?_
      refine rx_iload_n d_Road_insteadOf_39 (by rfl) ?_
      refine rx_istore d_Road_insteadOf_40 (Nat.le_of_ble_eq_true rfl) ?_
      exact l_insteadOf hp H G hrn l1 hln l3 l4 (l + 1 - c) c c (by omega) (by omega)
theorem c_again (hp : is_pg V h aP n al at_ av Le Te Va) (H : is_rp V h aR n aA aE aG s.1 fA (fun x => (gO s x).map ra) (fun x => (g x).map ra) ra R) (hr : roG s g R) (hps : ∀ r, r < s.1 → R r 6 = nI (w.1 r) ∧ w.1 r ≤ 4) (G : gN n Va s g) (D : is_rd V h a aO n N (bi w.2.1) (bi w.2.2.1) w.2.2.2.1 (bi w.2.2.2.2) f) (hbn : b < n) : rx_C V (d + 2) kc ks m_Road_isToComeAgain [.ref a, .int (nI b), .ref aR] h (rx_X (.inl (some (.int (bi (wag s w b))))) h) := by
  have hn := H.n20
  have I := G.1
  have lo : ∀ r, r < s.1 → gL s r < n := fun r z => Nat.lt_of_lt_of_le (I.2.2.2.2.1 r z).2.2.1 I.2.1
  have q1 : ∀ r, r < s.1 → ((¬ (nI b < R r 0 ∨ R r 2 < nI b)) ↔ gF s r ≤ b ∧ b ≤ gL s r) := by
    intro r h1
    have j := I.2.2.2.2.1 r h1
    have := lo r h1
    rw [(hr r h1).1, (hr r h1).2.2.1, nI_ltI (by omega) (by omega), nI_ltI (by omega) (by omega)]
    omega
  cases hfx : fix (fun r => decide (¬ (nI b < R r 0 ∨ R r 2 < nI b))) 0 s.1 with
  | none =>
    have z : wag s w b = false := by
      unfold wag
      cases e : fix (fun r => decide (gF s r ≤ b ∧ b ≤ gL s r ∧ w.1 r < cn s r)) 0 s.1 with
      | none => exact Bool.and_false _
      | some r =>
        obtain ⟨-, j2, j3, -⟩ := fix_s e
        have j3 := of_decide_eq_true j3
        have := of_decide_eq_false (fix_n hfx r (Nat.zero_le _) (by omega))
        exact absurd ((q1 r (by omega)).mpr ⟨j3.1, j3.2.1⟩) this
    rw [z]
    refine rx_aload_nr d_Road_isToComeAgain_0 (by rfl) ?_
    refine rx_iload_n d_Road_isToComeAgain_1 (by rfl) ?_
    refine rx_cV d_Road_isToComeAgain_2 (by rfl) ml_Road_74 im_Repeats_around se_Repeats_around (by exact c9_Repeats_around) H.1 (by rfl) (by exact Nat.le_of_ble_eq_true rfl) (c_around H (nI b)) ?_
    rw [hfx]
    refine rx_astore_nN d_Road_isToComeAgain_5 (Nat.le_of_ble_eq_true rfl) ?_
    refine rx_aload_nr d_Road_isToComeAgain_6 (by rfl) ?_
    refine rx_getfield d_Road_isToComeAgain_7 fl_Road_29 D.1 (by rfl) ?_
    refine rx_if_eq (tgt := 32) d_Road_isToComeAgain_10 (by rfl) (fun c10 => ?_) (fun c10 => ?_)
    · refine rx_iconst (v := 0) d_Road_isToComeAgain_32 (by decide) ?_
      refine rx_zreturn d_Road_isToComeAgain_33 (by rfl) (by rfl) ?_
      exact ⟨rfl, rfl⟩
    · refine rx_aload_nN d_Road_isToComeAgain_13 (by rfl) ?_
      refine rx_ifnull_N (tgt := 32) d_Road_isToComeAgain_14 (by rfl) ?_
      refine rx_iconst (v := 0) d_Road_isToComeAgain_32 (by decide) ?_
      refine rx_zreturn d_Road_isToComeAgain_33 (by rfl) (by rfl) ?_
      exact ⟨rfl, rfl⟩
  | some r =>
    obtain ⟨-, hrn, z, -⟩ := fix_s hfx
    rw [Nat.zero_add] at hrn
    have hrN : r < n := Nat.lt_of_lt_of_le hrn G.1.1
    have z := (q1 r hrn).mp (of_decide_eq_true z)
    have hcm := G.2.2 r hrn
    refine rx_aload_nr d_Road_isToComeAgain_0 (by rfl) ?_
    refine rx_iload_n d_Road_isToComeAgain_1 (by rfl) ?_
    refine rx_cV d_Road_isToComeAgain_2 (by rfl) ml_Road_74 im_Repeats_around se_Repeats_around (by exact c9_Repeats_around) H.1 (by rfl) (by exact Nat.le_of_ble_eq_true rfl) (c_around H (nI b)) ?_
    rw [hfx]
    show rx_W V (d + 2) kc ks m_Road_isToComeAgain 5 _ [.ref (ra r)] h _
    refine rx_astore_nr d_Road_isToComeAgain_5 (Nat.le_of_ble_eq_true rfl) ?_
    refine rx_aload_nr d_Road_isToComeAgain_6 (by rfl) ?_
    refine rx_getfield d_Road_isToComeAgain_7 fl_Road_29 D.1 (by rfl) ?_
    refine rx_if_eq (tgt := 32) d_Road_isToComeAgain_10 (by rfl) (fun c10 => ?_) (fun c10 => ?_)
    · have y : wag s w b = false := by unfold wag; rw [bi_0.mp c10]; rfl
      refine rx_iconst (v := 0) d_Road_isToComeAgain_32 (by decide) ?_
      refine rx_zreturn d_Road_isToComeAgain_33 (by rfl) (by rfl) ?_
      exact ⟨by rw [y]; rfl, rfl⟩
    · refine rx_aload_nr d_Road_isToComeAgain_13 (by rfl) ?_
      refine rx_ifnull_r (tgt := 32) d_Road_isToComeAgain_14 (by rfl) ?_
      refine rx_aload_nr d_Road_isToComeAgain_17 (by rfl) ?_
      refine rx_getfield d_Road_isToComeAgain_18 fl_Road_57 (H.cell hrN) (by rfl) ?_
      rw [(hps r hrn).1]
      refine rx_aload_nr d_Road_isToComeAgain_21 (by rfl) ?_
      refine rx_getfield d_Road_isToComeAgain_22 fl_Road_62 (H.cell hrN) (by rfl) ?_
      rw [(hr r hrn).2.2.2.1, hcm.1]
      refine rx_icmp_ge (tgt := 32) d_Road_isToComeAgain_25 (by rfl) (fun c25 => ?_) (fun c25 => ?_)
      · have y : wag s w b = false := by
          unfold wag
          cases e : fix (fun r => decide (gF s r ≤ b ∧ b ≤ gL s r ∧ w.1 r < cn s r)) 0 s.1 with
          | none => exact Bool.and_false _
          | some r1 =>
            obtain ⟨-, j2, j3, -⟩ := fix_s e
            have j3 := of_decide_eq_true j3
            have e2 := I.dis (x := b) (show r1 < s.1 by omega) hrn j3.1 j3.2.1 z.1 z.2
            subst e2
            exact absurd c25 (nI_ge j3.2.2 (by omega))
        refine rx_iconst (v := 0) d_Road_isToComeAgain_32 (by decide) ?_
        refine rx_zreturn d_Road_isToComeAgain_33 (by rfl) (by rfl) ?_
        exact ⟨by rw [y]; rfl, rfl⟩
      · have y : wag s w b = true := by
          unfold wag
          rw [bi_1.mp c10, Bool.true_and, fix_iff]
          refine ⟨r, Nat.zero_le _, by omega, decide_eq_true ⟨z.1, z.2, ?_⟩⟩
          by_cases u : w.1 r < cn s r
          · exact u
          · exact absurd (nI_le (by omega) (by have := (hps r hrn).2; omega)) c25
        refine rx_iconst (v := 1) d_Road_isToComeAgain_28 (by decide) ?_
        refine rx_goto (tgt := 33) d_Road_isToComeAgain_29 (by rfl) ?_
        refine rx_zreturn d_Road_isToComeAgain_33 (by rfl) (by rfl) ?_
        exact ⟨by rw [y]; rfl, rfl⟩
theorem roG.p6 {s : gT} {g : Nat → Option Nat} {R : Nat → Nat → Int32} (hr : roG s g R) {r : Nat} {v : Int32} : roG s g (rup R r 6 v) := by
  intro r' h'
  by_cases e : r' = r
  · subst e
    rw [rup_k (by omega), rup_k (by omega), rup_k (by omega), rup_k (by omega), rup_k (by omega), rup_k (by omega)]
    exact hr r' h'
  · rw [rup_o e]
    exact hr r' h'
theorem hps6 {R : Nat → Nat → Int32} {p : Nat → Nat} {m r q : Nat} (hps : ∀ r, r < m → R r 6 = nI (p r) ∧ p r ≤ 4) (hq : q ≤ 4) : ∀ r', r' < m → rup R r 6 (nI q) r' 6 = nI (up p r q r') ∧ up p r q r' ≤ 4 := by
  intro r' h'
  by_cases e : r' = r
  · subst e
    rw [rup_s, up_s]
    exact ⟨rfl, hq⟩
  · rw [rup_o e, up_o e]
    exact hps r' h'
theorem c_leave (hp : is_pg V h aP n al at_ av Le Te Va) (H : is_rp V h aR n aA aE aG s.1 fA (fun x => (gO s x).map ra) (fun x => (g x).map ra) ra R) (hr : roG s g R) (hps : ∀ r, r < s.1 → R r 6 = nI (w.1 r) ∧ w.1 r ≤ 4) (G : gN n Va s g) (hbn : b < n) : rx_C V (d + 2) kc ks m_Road_leaveRepeatAtLastPass [.int (nI b), .ref aP, .ref aR] h (fun r9 h' => r9 = .inl none ∧ ∃ R', is_rp V h' aR n aA aE aG s.1 fA (fun x => (gO s x).map ra) (fun x => (g x).map ra) ra R' ∧ roG s g R' ∧ (∀ r, r < s.1 → R' r 6 = nI ((wlv Va s g w b).1 r) ∧ (wlv Va s g w b).1 r ≤ 4) ∧ rx_fr V h h' (fp_ra n ra)) := by
  have hn := H.n20
  have hv : pgv n Va (nI b) 2 = Va (10 * b + 2) := pgv_k hn hbn (by omega) rfl
  cases hgb : g b with
  | none =>
    have e9 : wlv Va s g w b = w := by unfold wlv; rw [hgb]
    rw [e9]
    refine rx_aload_nr d_Road_leaveRepeatAtLastPass_0 (by rfl) ?_
    refine rx_iload_n d_Road_leaveRepeatAtLastPass_1 (by rfl) ?_
    refine rx_cV d_Road_leaveRepeatAtLastPass_2 (by rfl) ml_Road_53 im_Repeats_ofEnding se_Repeats_ofEnding (by exact c9_Repeats_ofEnding) H.1 (by rfl) (by exact Nat.le_of_ble_eq_true rfl) (c_ofEnding H (nI b)) ?_
    rw [ogt_nn (by omega) hbn, hgb]
    refine rx_astore_nN d_Road_leaveRepeatAtLastPass_5 (Nat.le_of_ble_eq_true rfl) ?_
    refine rx_aload_nN d_Road_leaveRepeatAtLastPass_6 (by rfl) ?_
    refine rx_ifnull_N (tgt := 27) d_Road_leaveRepeatAtLastPass_7 (by rfl) ?_
    refine rx_vreturn d_Road_leaveRepeatAtLastPass_27 (by rfl) ?_
    exact ⟨rfl, R, H, hr, hps, rx_fr.rf⟩
  | some r =>
    obtain ⟨hrn, -, -⟩ := G.2.1 b r hgb
    have hrN : r < n := Nat.lt_of_lt_of_le hrn G.1.1
    refine rx_aload_nr d_Road_leaveRepeatAtLastPass_0 (by rfl) ?_
    refine rx_iload_n d_Road_leaveRepeatAtLastPass_1 (by rfl) ?_
    refine rx_cV d_Road_leaveRepeatAtLastPass_2 (by rfl) ml_Road_53 im_Repeats_ofEnding se_Repeats_ofEnding (by exact c9_Repeats_ofEnding) H.1 (by rfl) (by exact Nat.le_of_ble_eq_true rfl) (c_ofEnding H (nI b)) ?_
    rw [ogt_nn (by omega) hbn, hgb]
    show rx_W V (d + 2) kc ks m_Road_leaveRepeatAtLastPass 5 _ [.ref (ra r)] h _
    refine rx_astore_nr d_Road_leaveRepeatAtLastPass_5 (Nat.le_of_ble_eq_true rfl) ?_
    refine rx_aload_nr d_Road_leaveRepeatAtLastPass_6 (by rfl) ?_
    refine rx_ifnull_r (tgt := 27) d_Road_leaveRepeatAtLastPass_7 (by rfl) ?_
    refine rx_aload_nr d_Road_leaveRepeatAtLastPass_10 (by rfl) ?_
    refine rx_iload_n d_Road_leaveRepeatAtLastPass_11 (by rfl) ?_
    refine rx_aload_nr d_Road_leaveRepeatAtLastPass_12 (by rfl) ?_
    refine rx_getfield d_Road_leaveRepeatAtLastPass_13 fl_Road_62 (H.cell hrN) (by rfl) ?_
    rw [(hr r hrn).2.2.2.1, (G.2.2 r hrn).1]
    refine rx_cV d_Road_leaveRepeatAtLastPass_16 (by rfl) ml_Road_68 im_Page_hasPass se_Page_hasPass (by exact c9_Page_hasPass) hp.1 (by rfl) (by exact Nat.le_of_ble_eq_true rfl) (c_hasPass hp (nI b) (nI (cn s r))) ?_
    rw [hv]
    refine rx_if_eq (tgt := 27) d_Road_leaveRepeatAtLastPass_19 (by rfl) (fun c19 => ?_) (fun c19 => ?_)
    · have e9 : wlv Va s g w b = w := by unfold wlv; rw [hgb]; exact if_neg (by rw [bt_f.mpr (ite01.mp c19)]; decide)
      refine rx_vreturn d_Road_leaveRepeatAtLastPass_27 (by rfl) ?_
      rw [e9]
      first
      | exact ⟨rfl, R, H, hr, hps, rx_fr.rf⟩
      | exact ⟨rfl, _, H.set1 (k := 6) (v := nI 1) hrN, hr.p6, hps6 hps (by omega), rx_fr.wr (H.cell hrN) ⟨r, hrN, rfl⟩⟩
    · have e9 : wlv Va s g w b = (up w.1 r 1, w.2) := by unfold wlv; rw [hgb]; exact if_pos (bt_t.mpr (fun z => c19 (ite01.mpr z)))
      refine rx_aload_nr d_Road_leaveRepeatAtLastPass_22 (by rfl) ?_
      refine rx_iconst (v := 1) d_Road_leaveRepeatAtLastPass_23 (by decide) ?_
      refine rx_putfield d_Road_leaveRepeatAtLastPass_24 (fw_Road_57 rfl) (H.cell hrN) (Nat.le_of_ble_eq_true rfl) (by rfl) (by rfl) ?_
      refine rx_vreturn d_Road_leaveRepeatAtLastPass_27 (by rfl) ?_
      rw [e9]
      first
      | exact ⟨rfl, R, H, hr, hps, rx_fr.rf⟩
      | exact ⟨rfl, _, H.set1 (k := 6) (v := nI 1) hrN, hr.p6, hps6 hps (by omega), rx_fr.wr (H.cell hrN) ⟨r, hrN, rfl⟩⟩
theorem hb_ex {k : Nat} {m : Nat} (h : ∃ y, y < m ∧ hb Va k y = true) : ∃ j : Nat, lwf (hb Va k) 0 m = j ∧ j < m ∧ hb Va k j = true := by
  obtain e | ⟨j, e1, e2, e3, e4⟩ := lwf_ran (hb Va k) 0 m
  · obtain ⟨y, y1, y2⟩ := h
    exact absurd ((lwf_m1.mp e y (by omega) y1).symm.trans y2) (by decide)
  · exact ⟨j, e1, e3, e4⟩
theorem wta_eq (hn : n ≤ 20) (hbn : b < n) (h6 : ¬ jta n Va b = -1) : jta n Va b = nI (wta Va b) ∧ wta Va b ≤ b := by
  unfold jta at h6 ⊢
  unfold wta
  by_cases c : (Va (10 * b + 7) - 1) - (Va (10 * b + 7) - 1) / 2 * 2 = 1
  · rw [if_pos c] at h6 ⊢
    rw [if_pos c]
    have e := lwi_n (n := n) (k := 3) (f := 0) (b := b) (Va := Va) hn (by omega) hbn
    have m1 := lwi_m1 (n := n) (k := 3) (f := 0) (b := b) (Va := Va) hn (by omega) hbn
    have z : (0 : Int32) = nI 0 := rfl
    rw [z] at h6 ⊢
    rw [e] at h6 ⊢
    obtain e2 | ⟨j, e1, e2, e3, e4⟩ := lwf_ran (hb Va 3) ((0 : Nat) : Int) (b + 1)
    · exact absurd (e.symm.trans (m1.mpr e2)) h6
    · rw [e1, i_ofI]
      have e5 : lwf (hb Va 3) 0 (b + 1) = (j : Int) := e1
      rw [e5]
      exact ⟨rfl, by omega⟩
  · rw [if_neg c, if_neg c]
    exact ⟨rfl, Nat.zero_le _⟩
theorem c_jumpFrom (hp : is_pg V h aP n al at_ av Le Te Va) (H : is_rp V h aR n aA aE aG s.1 fA (fun x => (gO s x).map ra) (fun x => (g x).map ra) ra R) (hr : roG s g R) (hps : ∀ r, r < s.1 → R r 6 = nI (w.1 r) ∧ w.1 r ≤ 4) (G : gN n Va s g) (D : is_rd V h a aO n N (bi w.2.1) (bi w.2.2.1) w.2.2.2.1 (bi w.2.2.2.2) f) (hbn : b < n) (h6 : ¬ jta n Va b = -1) : rx_C V (d + 3) kc ks m_Road_jumpFrom [.ref a, .int (nI b), .ref aP, .ref aR] h (fun r9 h' => r9 = .inl (some (.int (nI (wta Va b)))) ∧ ∃ R', is_rp V h' aR n aA aE aG s.1 fA (fun x => (gO s x).map ra) (fun x => (g x).map ra) ra R' ∧ roG s g R' ∧ (∀ r, r < s.1 → R' r 6 = nI ((wju Va w b).1 r) ∧ (wju Va w b).1 r ≤ 4) ∧ is_rd V h' a aO n N (bi (wju Va w b).2.1) (bi (wju Va w b).2.2.1) (wju Va w b).2.2.2.1 (bi (wju Va w b).2.2.2.2) f ∧ rx_fr V h h' (fun q => q = a ∨ fp_ra n ra q)) := by
  have hn := H.n20
  have hv : pgv n Va (nI b) 7 = Va (10 * b + 7) := pgv_k hn hbn (by omega) rfl
  have hN : N ≤ n * 12 := D.2.2.1
  have hbz : (if Va (10 * b + 7) ≤ 6 then (0 : Int32) else 1) = bi (decide (¬ Va (10 * b + 7) ≤ 6)) := by
    by_cases z : Va (10 * b + 7) ≤ 6
    · rw [if_pos z, decide_eq_false (fun y => y z)]; rfl
    · rw [if_neg z, decide_eq_true z]; rfl
  have hfz : ∀ x : Bool, fits .boolean (.int (bi x)) = true := by intro x; cases x <;> rfl
  have hnz : ∀ x : Bool, narrow .boolean (.int (bi x)) = .int (bi x) := by intro x; cases x <;> rfl
  refine rx_aload_nr d_Road_jumpFrom_0 (by rfl) ?_
  refine rx_iload_n d_Road_jumpFrom_1 (by rfl) ?_
  refine rx_bipush (v := 7) d_Road_jumpFrom_2 (by decide) ?_
  refine rx_cV d_Road_jumpFrom_4 (by rfl) ml_Road_102 im_Page_value se_Page_value (by exact c9_Page_value) hp.1 (by rfl) (by exact Nat.le_of_ble_eq_true rfl) (c_value hp (nI b) 7) ?_
  rw [hv]
  refine rx_istore d_Road_jumpFrom_7 (Nat.le_of_ble_eq_true rfl) ?_
  refine rx_aload_nr d_Road_jumpFrom_9 (by rfl) ?_
  refine rx_iconst (v := 1) d_Road_jumpFrom_10 (by decide) ?_
  refine rx_putfield d_Road_jumpFrom_11 (fw_Road_19 rfl) D.1 (Nat.le_of_ble_eq_true rfl) (by rfl) (by rfl) ?_
  have D1 := D.ob (N' := N) (jm' := 1) (wo' := bi w.2.2.1) (wy' := w.2.2.2.1) (tk' := bi w.2.2.2.2) hN
  have f1 : rx_fr V h _ (fun q => q = a ∨ fp_ra n ra q) := rx_fr.wr (e := .inr (5, [.ref aO, .int (nI N), .int 1, .int (bi w.2.2.1), .int w.2.2.2.1, .int (bi w.2.2.2.2)])) D.1 (Or.inl rfl)
  refine rx_aload_nr d_Road_jumpFrom_14 (by rfl) ?_
  refine rx_iload d_Road_jumpFrom_15 (by rfl) ?_
  refine rx_cS d_Road_jumpFrom_17 ml_Road_106 st_Jump_way (by exact c9_Jump_way) (by rfl) (by exact Nat.le_of_ble_eq_true rfl) (c_way _) ?_
  rw [show (Va (10 * b + 7) - 1) / 2 - (Va (10 * b + 7) - 1) / 2 / 3 * 3 = jwy (Va (10 * b + 7)) from rfl]
  refine rx_putfield d_Road_jumpFrom_20 (fw_Road_26 rfl) D1.1 (Nat.le_of_ble_eq_true rfl) (by rfl) (by rfl) ?_
  rw [rx_wr_wr]
  have D2 := D.ob (N' := N) (jm' := 1) (wo' := bi w.2.2.1) (wy' := jwy (Va (10 * b + 7))) (tk' := bi w.2.2.2.2) hN
  refine rx_aload_nr d_Road_jumpFrom_23 (by rfl) ?_
  refine rx_iload d_Road_jumpFrom_24 (by rfl) ?_
  refine rx_cS d_Road_jumpFrom_26 ml_Road_109 st_Jump_hasRepeats (by exact c9_Jump_hasRepeats) (by rfl) (by exact Nat.le_of_ble_eq_true rfl) (c_hasRepeats _) ?_
  rw [hbz]
  refine rx_putfield d_Road_jumpFrom_29 (fw_Road_29 rfl) D2.1 (Nat.le_of_ble_eq_true rfl) (hnz _) (hfz _) ?_
  rw [rx_wr_wr]
  have D3 := D.ob (N' := N) (jm' := 1) (wo' := bi w.2.2.1) (wy' := jwy (Va (10 * b + 7))) (tk' := bi (decide (¬ Va (10 * b + 7) ≤ 6))) hN
  have H3 := H.wo (e := .inr (5, [.ref aO, .int (nI N), .int 1, .int (bi w.2.2.1), .int (jwy (Va (10 * b + 7))), .int (bi (decide (¬ Va (10 * b + 7) ≤ 6)))])) D.1 (fun _ z => by cases z) (fun _ z => by cases z) (fun _ _ _ z => by cases z)
  have f3 : rx_fr V h _ (fun q => q = a ∨ fp_ra n ra q) := rx_fr.wr (e := .inr (5, [.ref aO, .int (nI N), .int 1, .int (bi w.2.2.1), .int (jwy (Va (10 * b + 7))), .int (bi (decide (¬ Va (10 * b + 7) ≤ 6)))])) D.1 (Or.inl rfl)
  refine rx_aload_nr d_Road_jumpFrom_32 (by rfl) ?_
  refine rx_pV d_Road_jumpFrom_33 (by rfl) ml_Road_32 im_Repeats_resetPasses se_Repeats_resetPasses (by exact c9_Repeats_resetPasses) H3.1 (by rfl) (by exact Nat.le_of_ble_eq_true rfl) (c_resetPasses H3) ?_
  intro h4 z9
  obtain ⟨H4, f4⟩ := z9
  have D4 : is_rd V h4 a aO n N 1 (bi w.2.2.1) (jwy (Va (10 * b + 7))) (bi (decide (¬ Va (10 * b + 7) ≤ 6))) f := D3.fr f4 (fun ⟨r, hr9, z⟩ => rx_ne D3.1 (H3.cell hr9) (fun y => by cases y) z) (fun ⟨r, hr9, z⟩ => rx_ne D3.2.1 (H3.cell hr9) (fun y => by cases y) z)
  have hp4 : is_pg V h4 aP n al at_ av Le Te Va := (hp.wr D.1 (rx_ne hp.1 D.1 (fun y => by cases y)) (rx_ne hp.2.1 D.1 (fun y => by cases y)) (rx_ne hp.2.2.1 D.1 (fun y => by cases y)) (rx_ne hp.2.2.2.1 D.1 (fun y => by cases y))).frg H3 (f4.mo (fun q z => fp_g_ra q z))
  refine rx_aload_nr d_Road_jumpFrom_36 (by rfl) ?_
  refine rx_iload_n d_Road_jumpFrom_37 (by rfl) ?_
  refine rx_cS d_Road_jumpFrom_38 ml_Road_112 st_Jump_target (by exact c9_Jump_target) (by rfl) (by exact Nat.le_of_ble_eq_true rfl) (c_target hp4 hbn) ?_
  rw [(wta_eq hn hbn h6).1]
  refine rx_ireturn d_Road_jumpFrom_41 (by rfl) ?_
  refine ⟨rfl, _, H4, fun r hl => ?_, fun r hl => ⟨if_pos ⟨hl, rfl⟩, Nat.le_of_ble_eq_true rfl⟩, D4, f3.tr (f4.mo (fun q z => Or.inr z))⟩
  have := hr r hl
  simp only [show ¬ (r < s.1 ∧ (0 : Nat) = 6) from fun z => absurd z.2 (by decide), show ¬ (r < s.1 ∧ (1 : Nat) = 6) from fun z => absurd z.2 (by decide), show ¬ (r < s.1 ∧ (2 : Nat) = 6) from fun z => absurd z.2 (by decide), show ¬ (r < s.1 ∧ (3 : Nat) = 6) from fun z => absurd z.2 (by decide), show ¬ (r < s.1 ∧ (4 : Nat) = 6) from fun z => absurd z.2 (by decide), show ¬ (r < s.1 ∧ (5 : Nat) = 6) from fun z => absurd z.2 (by decide), if_false]
  exact this
end W1
