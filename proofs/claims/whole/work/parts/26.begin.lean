/-! Repeats: begin, goesOn -/
/-- the last bar with a sign, as the class says it -/
def lwi (n : Nat) (Va : Nat → Int32) (k : Nat) (f t : Int32) : Int32 := Int32.ofInt (lwf (fun i => decide (Va (10 * i + k) ≠ 0)) (max f.toInt 0) ((min t.toInt ((n : Int) - 1)) + 1).toNat)
def rsu (R : Nat → Nat → Int32) (r : Nat) (X : Nat → Int32) : Nat → Nat → Int32 := fun r' => if r' = r then X else R r'
theorem rsu_s {R : Nat → Nat → Int32} {r : Nat} {X : Nat → Int32} : rsu R r X r = X := if_pos rfl
theorem rsu_o {R : Nat → Nat → Int32} {r r' : Nat} {X : Nat → Int32} (h : r' ≠ r) : rsu R r X r' = R r' := if_neg h
theorem is_pg.fr {V : rx_V} {h h' : List va_E} {a n al at_ av : Nat} {Le Te Va : Nat → Int32} {FP : Nat → Prop} (hp : is_pg V h a n al at_ av Le Te Va) (hf : rx_fr V h h' FP) (h1 : ¬ FP a) (h2 : ¬ FP al) (h3 : ¬ FP at_) (h4 : ¬ FP av) : is_pg V h' a n al at_ av Le Te Va :=
  ⟨(hf.2 a h1).trans hp.1, (hf.2 al h2).trans hp.2.1, (hf.2 at_ h3).trans hp.2.2.1, (hf.2 av h4).trans hp.2.2.2.1, hp.2.2.2.2⟩
theorem is_pg.wr {V : rx_V} {h : List va_E} {a n al at_ av q : Nat} {Le Te Va : Nat → Int32} {e0 e : va_E} (hp : is_pg V h a n al at_ av Le Te Va) (hc : rx_rd V h q = some e0) (h1 : a ≠ q) (h2 : al ≠ q) (h3 : at_ ≠ q) (h4 : av ≠ q) : is_pg V (rx_wr V h q e) a n al at_ av Le Te Va :=
  hp.fr (FP := fun x => x = q) (rx_fr.wr hc rfl) h1 h2 h3 h4
theorem is_pg.rc {V : rx_V} {h : List va_E} {a n al at_ av q : Nat} {Le Te Va : Nat → Int32} {X : Nat → Int32} {e : va_E} (hp : is_pg V h a n al at_ av Le Te Va) (hc : rx_rd V h q = some (rcl X)) : is_pg V (rx_wr V h q e) a n al at_ av Le Te Va :=
  hp.wr hc (rx_ne hp.1 hc (fun z => by cases z)) (rx_ne hp.2.1 hc (fun z => by cases z)) (rx_ne hp.2.2.1 hc (fun z => by cases z)) (rx_ne hp.2.2.2.1 hc (fun z => by cases z))
theorem is_rp.num {V : rx_V} {h : List va_E} {a n aA aE aG num num' : Nat} {fA fE fG : Nat → Option Nat} {ra : Nat → Nat} {R : Nat → Nat → Int32} (H : is_rp V h a n aA aE aG num fA fE fG ra R) (hm : num' ≤ n) : is_rp V (rx_wr V h a (.inr (3, [.ref aA, .ref aE, .ref aG, .int (nI num')]))) a n aA aE aG num' fA fE fG ra R := by
  obtain ⟨h1, h2, h3, h4, h5, h6, h7, h8, h9⟩ := H
  refine ⟨rx_rd_wr h1, (rx_rd_wn h1 (rx_ne h2 h1 (fun z => by cases z))).trans h2, (rx_rd_wn h1 (rx_ne h3 h1 (fun z => by cases z))).trans h3, (rx_rd_wn h1 (rx_ne h4 h1 (fun z => by cases z))).trans h4, h5, fun r hr => (rx_rd_wn h1 (rx_ne (h6 r hr) h1 (fun z => by cases z))).trans (h6 r hr), h7, hm, h9⟩
/-- the places of the repeats: the object, the Repeats -/
def fp_rp (a n : Nat) (ra : Nat → Nat) : Nat → Prop := fun q => q = a ∨ fp_ra n ra q
section GA
variable {V : rx_V} {d kc ks a n aA aE aG num q aP al at_ av : Nat} {h : List va_E} {fA fE fG : Nat → Option Nat} {ra : Nat → Nat} {R : Nat → Nat → Int32} {Le Te Va : Nat → Int32}
theorem c_lw (hp : is_pg V h aP n al at_ av Le Te Va) {k : Nat} (hk : k < 10) (f t : Int32) : rx_C V (d + 1) kc ks m_Page_lastWith [.ref aP, .int (Int32.ofNat k), .int f, .int t] h (rx_X (.inl (some (.int (lwi n Va k f t)))) h) := c_lastWith hp hk f t
theorem c_goesOn (hp : is_pg V h aP n al at_ av Le Te Va) (f t : Int32) : rx_C V (d + 2) kc ks m_Repeats_goesOn [.ref aP, .int f, .int t] h (rx_X (.inl (some (.int (if ¬ pgv n Va f 2 = 0 ∧ lwi n Va 0 f t = -1 then 1 else 0)))) h) := by
  refine rx_aload_nr d_Repeats_goesOn_0 (by rfl) ?_
  refine rx_iload_n d_Repeats_goesOn_1 (by rfl) ?_
  refine rx_iconst (v := 2) d_Repeats_goesOn_2 (by decide) ?_
  refine rx_cV d_Repeats_goesOn_3 (by rfl) ml_Repeats_36 im_Page_has se_Page_has (by exact c9_Page_has) hp.1 (by rfl) (by exact Nat.le_of_ble_eq_true rfl) (c_has hp f 2) ?_
  refine rx_if_eq (tgt := 24) d_Repeats_goesOn_6 (by rfl) (fun c6 => ?_) (fun c6 => ?_)
  · have z := ite01.mp c6
    refine rx_iconst (v := 0) d_Repeats_goesOn_24 (by decide) ?_
    refine rx_zreturn d_Repeats_goesOn_25 (by rfl) (by rfl) ?_
    exact ⟨by first | (rw [if_pos ⟨z, c17⟩]; done) | (rw [if_neg (fun w => c17 w.2)]; done) | (rw [if_neg (fun w => w.1 z)]; done), rfl⟩
  · have z : ¬ pgv n Va f 2 = 0 := fun w => c6 (ite01.mpr w)
    refine rx_aload_nr d_Repeats_goesOn_9 (by rfl) ?_
    refine rx_iconst (v := 0) d_Repeats_goesOn_10 (by decide) ?_
    refine rx_iload_n d_Repeats_goesOn_11 (by rfl) ?_
    refine rx_iload_n d_Repeats_goesOn_12 (by rfl) ?_
    refine rx_cV d_Repeats_goesOn_13 (by rfl) ml_Repeats_53 im_Page_lastWith se_Page_lastWith (by exact c9_Page_lastWith) hp.1 (by rfl) (by exact Nat.le_of_ble_eq_true rfl) (c_lw hp (k := 0) (by omega) f t) ?_
    refine rx_iconst (v := -1) d_Repeats_goesOn_16 (by decide) ?_
    refine rx_icmp_ne (tgt := 24) d_Repeats_goesOn_17 (by rfl) (fun c17 => ?_) (fun c17 => ?_)
    · refine rx_iconst (v := 0) d_Repeats_goesOn_24 (by decide) ?_
      refine rx_zreturn d_Repeats_goesOn_25 (by rfl) (by rfl) ?_
      exact ⟨by first | (rw [if_pos ⟨z, c17⟩]; done) | (rw [if_neg (fun w => c17 w.2)]; done) | (rw [if_neg (fun w => w.1 z)]; done), rfl⟩
    · refine rx_iconst (v := 1) d_Repeats_goesOn_20 (by decide) ?_
      refine rx_goto (tgt := 25) d_Repeats_goesOn_21 (by rfl) ?_
      refine rx_zreturn d_Repeats_goesOn_25 (by rfl) (by rfl) ?_
      exact ⟨by first | (rw [if_pos ⟨z, c17⟩]; done) | (rw [if_neg (fun w => c17 w.2)]; done) | (rw [if_neg (fun w => w.1 z)]; done), rfl⟩
theorem c_begin (hp : is_pg V h aP n al at_ av Le Te Va) (H : is_rp V h a n aA aE aG num fA fE fG ra R) (hm : num < n) (f t : Int32) {v : Int32} (hv : lwi n Va 0 f t = v) : rx_C V (d + 2) kc ks m_Repeats_begin [.ref a, .ref aP, .int f, .int t] h (fun r h' => r = .inl (some (.ref (ra num))) ∧ is_rp V h' a n aA aE aG (num + 1) fA fE fG ra (rsu R num (upd (upd (upd (upd (upd (R num) 0 (if v = -1 then f else v)) 1 t) 3 (-1)) 4 (-1)) 5 (pgv n Va t 1))) ∧ rx_fr V h h' (fp_rp a n ra)) := by
  have hn : n ≤ 20 := H.2.2.2.2.2.2.2.2
  have hcl : (nI num).toNatClampNeg = num := i_cl (by omega)
  have hc := H.2.2.2.2.2.1 num hm
  refine rx_aload_nr d_Repeats_begin_0 (by rfl) ?_
  refine rx_iconst (v := 0) d_Repeats_begin_1 (by decide) ?_
  refine rx_iload_n d_Repeats_begin_2 (by rfl) ?_
  refine rx_iload_n d_Repeats_begin_3 (by rfl) ?_
  refine rx_cV d_Repeats_begin_4 (by rfl) ml_Repeats_53 im_Page_lastWith se_Page_lastWith (by exact c9_Page_lastWith) hp.1 (by rfl) (by exact Nat.le_of_ble_eq_true rfl) (c_lw hp (k := 0) (by omega) f t) ?_
  rw [hv]
  refine rx_istore d_Repeats_begin_7 (Nat.le_of_ble_eq_true rfl) ?_
  refine rx_aload_nr d_Repeats_begin_9 (by rfl) ?_
  refine rx_getfield d_Repeats_begin_10 fl_Repeats_11 H.1 (by rfl) ?_
  refine rx_aload_nr d_Repeats_begin_13 (by rfl) ?_
  refine rx_getfield d_Repeats_begin_14 fl_Repeats_24 H.1 (by rfl) ?_
  refine rx_aaload d_Repeats_begin_17 (by rfl) H.2.1 (vp_in_nI (by omega) (by omega)) ?_
  rw [hcl, H.2.2.2.2.1 num hm]
  refine rx_astore_r d_Repeats_begin_18 (Nat.le_of_ble_eq_true rfl) ?_
  refine rx_aload_r d_Repeats_begin_20 (by rfl) ?_
  refine rx_iload d_Repeats_begin_22 (by rfl) ?_
  refine rx_iconst (v := -1) d_Repeats_begin_24 (by decide) ?_
  refine rx_icmp_ne (tgt := 32) d_Repeats_begin_25 (by rfl) (fun c25 => ?_) (fun c25 => ?_)
  · have hst : (if v = -1 then f else v) = v := if_neg c25
    refine rx_iload d_Repeats_begin_32 (by rfl) ?_
    refine rx_putfield d_Repeats_begin_34 (fw_Repeats_57 rfl) hc (Nat.le_of_ble_eq_true rfl) (by rfl) (by rfl) ?_
    refine rx_aload_r d_Repeats_begin_37 (by rfl) ?_
    refine rx_iload_n d_Repeats_begin_39 (by rfl) ?_
    refine rx_putfield d_Repeats_begin_40 (fw_Repeats_60 rfl) (rx_rd_wr hc) (Nat.le_of_ble_eq_true rfl) (by rfl) (by rfl) ?_
    refine rx_aload_r d_Repeats_begin_43 (by rfl) ?_
    refine rx_iconst (v := -1) d_Repeats_begin_45 (by decide) ?_
    refine rx_putfield d_Repeats_begin_46 (fw_Repeats_63 rfl) (rx_rd_wr (rx_rd_wr hc)) (Nat.le_of_ble_eq_true rfl) (by rfl) (by rfl) ?_
    refine rx_aload_r d_Repeats_begin_49 (by rfl) ?_
    refine rx_iconst (v := -1) d_Repeats_begin_51 (by decide) ?_
    refine rx_putfield d_Repeats_begin_52 (fw_Repeats_66 rfl) (rx_rd_wr (rx_rd_wr (rx_rd_wr hc))) (Nat.le_of_ble_eq_true rfl) (by rfl) (by rfl) ?_
    refine rx_aload_r d_Repeats_begin_55 (by rfl) ?_
    refine rx_aload_nr d_Repeats_begin_57 (by rfl) ?_
    refine rx_iload_n d_Repeats_begin_58 (by rfl) ?_
    refine rx_iconst (v := 1) d_Repeats_begin_59 (by decide) ?_
    simp only [rx_wr_wr]
    refine rx_cV d_Repeats_begin_60 (by rfl) ml_Repeats_69 im_Page_value se_Page_value (by exact c9_Page_value) (hp.rc hc).1 (by rfl) (by exact Nat.le_of_ble_eq_true rfl) (c_value (hp.rc hc) t 1) ?_
    refine rx_putfield d_Repeats_begin_63 (fw_Repeats_73 rfl) (rx_rd_wr hc) (Nat.le_of_ble_eq_true rfl) (by rfl) (by rfl) ?_
    simp only [rx_wr_wr]
    refine rx_aload_nr d_Repeats_begin_66 (by rfl) ?_
    refine rx_dup d_Repeats_begin_67 (by rfl) ?_
    refine rx_getfield d_Repeats_begin_68 fl_Repeats_24 ((rx_rd_wn hc (rx_ne H.1 hc (fun z => by cases z))).trans H.1) (by rfl) ?_
    refine rx_iconst (v := 1) d_Repeats_begin_71 (by decide) ?_
    refine rx_iadd d_Repeats_begin_72 ?_
    rw [nI_1]
    refine rx_putfield d_Repeats_begin_73 (fw_Repeats_24 rfl) ((rx_rd_wn hc (rx_ne H.1 hc (fun z => by cases z))).trans H.1) (Nat.le_of_ble_eq_true rfl) (by rfl) (by rfl) ?_
    refine rx_aload_r d_Repeats_begin_76 (by rfl) ?_
    refine rx_areturn_r d_Repeats_begin_78 (by rfl) ?_
    refine ⟨rfl, ?_, (rx_fr.wr hc (Or.inr ⟨num, hm, rfl⟩)).tr (rx_fr.wr ((rx_rd_wn hc (rx_ne H.1 hc (fun z => by cases z))).trans H.1) (Or.inl rfl))⟩
    rw [hst]
    exact (H.set (X := (upd (upd (upd (upd (upd (R num) 0 _) 1 t) 3 (-1)) 4 (-1)) 5 (pgv n Va t 1))) hm (fun k _ => by rw [rsu_s]) (fun r' e => rsu_o e)).num (by omega)
  · have hst : (if v = -1 then f else v) = f := if_pos c25
    refine rx_iload_n d_Repeats_begin_28 (by rfl) ?_
    refine rx_goto (tgt := 34) d_Repeats_begin_29 (by rfl) ?_
    refine rx_putfield d_Repeats_begin_34 (fw_Repeats_57 rfl) hc (Nat.le_of_ble_eq_true rfl) (by rfl) (by rfl) ?_
    refine rx_aload_r d_Repeats_begin_37 (by rfl) ?_
    refine rx_iload_n d_Repeats_begin_39 (by rfl) ?_
    refine rx_putfield d_Repeats_begin_40 (fw_Repeats_60 rfl) (rx_rd_wr hc) (Nat.le_of_ble_eq_true rfl) (by rfl) (by rfl) ?_
    refine rx_aload_r d_Repeats_begin_43 (by rfl) ?_
    refine rx_iconst (v := -1) d_Repeats_begin_45 (by decide) ?_
    refine rx_putfield d_Repeats_begin_46 (fw_Repeats_63 rfl) (rx_rd_wr (rx_rd_wr hc)) (Nat.le_of_ble_eq_true rfl) (by rfl) (by rfl) ?_
    refine rx_aload_r d_Repeats_begin_49 (by rfl) ?_
    refine rx_iconst (v := -1) d_Repeats_begin_51 (by decide) ?_
    refine rx_putfield d_Repeats_begin_52 (fw_Repeats_66 rfl) (rx_rd_wr (rx_rd_wr (rx_rd_wr hc))) (Nat.le_of_ble_eq_true rfl) (by rfl) (by rfl) ?_
    refine rx_aload_r d_Repeats_begin_55 (by rfl) ?_
    refine rx_aload_nr d_Repeats_begin_57 (by rfl) ?_
    refine rx_iload_n d_Repeats_begin_58 (by rfl) ?_
    refine rx_iconst (v := 1) d_Repeats_begin_59 (by decide) ?_
    simp only [rx_wr_wr]
    refine rx_cV d_Repeats_begin_60 (by rfl) ml_Repeats_69 im_Page_value se_Page_value (by exact c9_Page_value) (hp.rc hc).1 (by rfl) (by exact Nat.le_of_ble_eq_true rfl) (c_value (hp.rc hc) t 1) ?_
    refine rx_putfield d_Repeats_begin_63 (fw_Repeats_73 rfl) (rx_rd_wr hc) (Nat.le_of_ble_eq_true rfl) (by rfl) (by rfl) ?_
    simp only [rx_wr_wr]
    refine rx_aload_nr d_Repeats_begin_66 (by rfl) ?_
    refine rx_dup d_Repeats_begin_67 (by rfl) ?_
    refine rx_getfield d_Repeats_begin_68 fl_Repeats_24 ((rx_rd_wn hc (rx_ne H.1 hc (fun z => by cases z))).trans H.1) (by rfl) ?_
    refine rx_iconst (v := 1) d_Repeats_begin_71 (by decide) ?_
    refine rx_iadd d_Repeats_begin_72 ?_
    rw [nI_1]
    refine rx_putfield d_Repeats_begin_73 (fw_Repeats_24 rfl) ((rx_rd_wn hc (rx_ne H.1 hc (fun z => by cases z))).trans H.1) (Nat.le_of_ble_eq_true rfl) (by rfl) (by rfl) ?_
    refine rx_aload_r d_Repeats_begin_76 (by rfl) ?_
    refine rx_areturn_r d_Repeats_begin_78 (by rfl) ?_
    refine ⟨rfl, ?_, (rx_fr.wr hc (Or.inr ⟨num, hm, rfl⟩)).tr (rx_fr.wr ((rx_rd_wn hc (rx_ne H.1 hc (fun z => by cases z))).trans H.1) (Or.inl rfl))⟩
    rw [hst]
    exact (H.set (X := (upd (upd (upd (upd (upd (R num) 0 _) 1 t) 3 (-1)) 4 (-1)) 5 (pgv n Va t 1))) hm (fun k _ => by rw [rsu_s]) (fun r' e => rsu_o e)).num (by omega)
end GA
