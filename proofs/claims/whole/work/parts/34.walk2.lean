/-! Road.behind, Road.walk -/
def onx (x : Option Nat) : Int32 := match x with
  | none => -1
  | some j => nI j
/-- how a step ends -/
def wPo (V : rx_V) (h : List va_E) (a aO aR n N aA aE aG : Nat) (fA : Nat → Option Nat) (ra : Nat → Nat) (s : gT) (g : Nat → Option Nat) (f : Nat → Int32) (w : wT) (h' : List va_E) : Prop :=
  (∃ R', is_rp V h' aR n aA aE aG s.1 fA (fun x => (gO s x).map ra) (fun x => (g x).map ra) ra R' ∧ roG s g R' ∧ (∀ r, r < s.1 → R' r 6 = nI (w.1 r) ∧ w.1 r ≤ 4)) ∧ is_rd V h' a aO n N (bi w.2.1) (bi w.2.2.1) w.2.2.2.1 (bi w.2.2.2.2) f ∧ rx_fr V h h' (fun q => q = a ∨ fp_ra n ra q)
section W2
variable {V : rx_V} {d kc ks a aO aR n N aA aE aG aP al at_ av b c : Nat} {h : List va_E} {fA : Nat → Option Nat} {ra : Nat → Nat} {R : Nat → Nat → Int32} {Le Te Va f : Nat → Int32} {s : gT} {g : Nat → Option Nat} {jm wo wy tk : Int32} {w : wT} {ag : Bool}
theorem l_b162 (hp : is_pg V h aP n al at_ av Le Te Va) (H : is_rp V h aR n aA aE aG s.1 fA (fun x => (gO s x).map ra) (fun x => (g x).map ra) ra R) (hr : roG s g R) (hps : ∀ r, r < s.1 → R r 6 = nI (w.1 r) ∧ w.1 r ≤ 4) (G : gN n Va s g) (D : is_rd V h a aO n N (bi w.2.1) (bi w.2.2.1) w.2.2.2.1 (bi w.2.2.2.2) f) (hbn : b < n) (x5 : Option Value) (e : wn2 n Va w b ag = (w, if b + 1 < n then some (b + 1) else none)) : rx_W V (d + 4) kc ks m_Road_behind 162 [some (.ref a), some (.int (nI b)), some (.int (bi ag)), some (.ref aP), some (.ref aR), x5] [] h (fun r9 h' => r9 = .inl (some (.int (onx (wn2 n Va w b ag).2))) ∧ wPo V h a aO aR n N aA aE aG fA ra s g f (wn2 n Va w b ag).1 h') := by
  have hn := H.n20
  rw [e]
  refine rx_aload_nr d_Road_behind_162 (by rfl) ?_
  refine rx_iload_n d_Road_behind_163 (by rfl) ?_
  refine rx_iconst (v := 1) d_Road_behind_164 (by decide) ?_
  refine rx_iadd d_Road_behind_165 ?_
  rw [nI_1]
  refine rx_cV d_Road_behind_166 (by rfl) ml_Road_98 im_Page_hasBar se_Page_hasBar (by exact c9_Page_hasBar) hp.1 (by rfl) (by exact Nat.le_of_ble_eq_true rfl) (c_hasBar hp (nI (b + 1))) ?_
  refine rx_if_eq (tgt := 178) d_Road_behind_169 (by rfl) (fun c169 => ?_) (fun c169 => ?_)
  · have z : ¬ b + 1 < n := fun y => by rw [pgh_nn hn y] at c169; exact absurd c169 (by decide)
    rw [if_neg z]
    refine rx_iconst (v := -1) d_Road_behind_178 (by decide) ?_
    refine rx_ireturn d_Road_behind_179 (by rfl) ?_
    exact ⟨rfl, ⟨⟨R, H, hr, hps⟩, D, rx_fr.rf⟩⟩
  · have z : b + 1 < n := by obtain ⟨j, -, -, y⟩ := pgh_in c169; rw [i_n (by omega)] at y; omega
    rw [if_pos z]
    refine rx_iload_n d_Road_behind_172 (by rfl) ?_
    refine rx_iconst (v := 1) d_Road_behind_173 (by decide) ?_
    refine rx_iadd d_Road_behind_174 ?_
    rw [nI_1]
    refine rx_goto (tgt := 179) d_Road_behind_175 (by rfl) ?_
    refine rx_ireturn d_Road_behind_179 (by rfl) ?_
    exact ⟨rfl, ⟨⟨R, H, hr, hps⟩, D, rx_fr.rf⟩⟩
theorem l_b136 (hp : is_pg V h aP n al at_ av Le Te Va) (H : is_rp V h aR n aA aE aG s.1 fA (fun x => (gO s x).map ra) (fun x => (g x).map ra) ra R) (hr : roG s g R) (hps : ∀ r, r < s.1 → R r 6 = nI (w.1 r) ∧ w.1 r ≤ 4) (G : gN n Va s g) (D : is_rd V h a aO n N (bi w.2.1) (bi w.2.2.1) w.2.2.2.1 (bi w.2.2.2.2) f) (hbn : b < n) (x5 : Option Value) (h6 : hb Va 7 b = true → ¬ jta n Va b = -1) (hag : ag = false) (n1 : ¬ (ag = false ∧ w.2.1 = true ∧ w.2.2.2.1 = 1 ∧ hb Va 5 b = true)) (n2 : ¬ (ag = false ∧ w.2.1 = true ∧ w.2.2.2.1 = 2 ∧ w.2.2.1 = false ∧ hb Va 6 b = true)) : rx_W V (d + 4) kc ks m_Road_behind 136 [some (.ref a), some (.int (nI b)), some (.int (bi ag)), some (.ref aP), some (.ref aR), x5] [] h (fun r9 h' => r9 = .inl (some (.int (onx (wn2 n Va w b ag).2))) ∧ wPo V h a aO aR n N aA aE aG fA ra s g f (wn2 n Va w b ag).1 h') := by
  have hn := H.n20
  have hv : pgv n Va (nI b) 7 = Va (10 * b + 7) := pgv_k hn hbn (by omega) rfl
  refine rx_aload_nr d_Road_behind_136 (by rfl) ?_
  refine rx_getfield d_Road_behind_137 fl_Road_19 D.1 (by rfl) ?_
  refine rx_if_ne (tgt := 162) d_Road_behind_140 (by rfl) (fun c140 => ?_) (fun c140 => ?_)
  · have n3 : ¬ (ag = false ∧ w.2.1 = false ∧ hb Va 7 b = true) := fun z => by rw [z.2.1] at c140; exact c140 rfl
    exact l_b162 hp H hr hps G D hbn x5 ((if_neg n1).trans ((if_neg n2).trans (if_neg n3)))
  · have j : w.2.1 = false := bi_0.mp c140
    refine rx_aload_nr d_Road_behind_143 (by rfl) ?_
    refine rx_iload_n d_Road_behind_144 (by rfl) ?_
    refine rx_bipush (v := 7) d_Road_behind_145 (by decide) ?_
    refine rx_cV d_Road_behind_147 (by rfl) ml_Road_85 im_Page_has se_Page_has (by exact c9_Page_has) hp.1 (by rfl) (by exact Nat.le_of_ble_eq_true rfl) (c_has hp (nI b) 7) ?_
    rw [hv]
    refine rx_if_eq (tgt := 162) d_Road_behind_150 (by rfl) (fun c150 => ?_) (fun c150 => ?_)
    · have n3 : ¬ (ag = false ∧ w.2.1 = false ∧ hb Va 7 b = true) := fun z => hb_t.mp z.2.2 (ite01.mp c150)
      exact l_b162 hp H hr hps G D hbn x5 ((if_neg n1).trans ((if_neg n2).trans (if_neg n3)))
    · have h7 : hb Va 7 b = true := hb_t.mpr (fun z => c150 (ite01.mpr z))
      have e : wn2 n Va w b ag = (wju Va w b, some (wta Va b)) := (if_neg n1).trans ((if_neg n2).trans (if_pos ⟨hag, j, h7⟩))
      rw [e]
      refine rx_aload_nr d_Road_behind_153 (by rfl) ?_
      refine rx_iload_n d_Road_behind_154 (by rfl) ?_
      refine rx_aload_nr d_Road_behind_155 (by rfl) ?_
      refine rx_aload_r d_Road_behind_156 (by rfl) ?_
      refine rx_pV d_Road_behind_158 (by rfl) ml_Road_95 im_Road_jumpFrom se_Road_jumpFrom (by exact c9_Road_jumpFrom) D.1 (by rfl) (by exact Nat.le_of_ble_eq_true rfl) (c_jumpFrom hp H hr hps G D hbn (h6 h7)) ?_
      intro h4 z9
      obtain ⟨R4, H4, r4, p4, D4, f4⟩ := z9
      refine rx_ireturn d_Road_behind_161 (by rfl) ?_
      exact ⟨rfl, ⟨R4, H4, r4, p4⟩, D4, f4⟩
theorem l_b86 (hp : is_pg V h aP n al at_ av Le Te Va) (H : is_rp V h aR n aA aE aG s.1 fA (fun x => (gO s x).map ra) (fun x => (g x).map ra) ra R) (hr : roG s g R) (hps : ∀ r, r < s.1 → R r 6 = nI (w.1 r) ∧ w.1 r ≤ 4) (G : gN n Va s g) (D : is_rd V h a aO n N (bi w.2.1) (bi w.2.2.1) w.2.2.2.1 (bi w.2.2.2.2) f) (hbn : b < n) (x5 : Option Value) (h6 : hb Va 7 b = true → ¬ jta n Va b = -1) (hco : w.2.1 = true → w.2.2.2.1 = 2 → ∃ y, y < n ∧ hb Va 4 y = true) (hag : ag = false) (n1 : ¬ (ag = false ∧ w.2.1 = true ∧ w.2.2.2.1 = 1 ∧ hb Va 5 b = true)) : rx_W V (d + 4) kc ks m_Road_behind 86 [some (.ref a), some (.int (nI b)), some (.int (bi ag)), some (.ref aP), some (.ref aR), x5] [] h (fun r9 h' => r9 = .inl (some (.int (onx (wn2 n Va w b ag).2))) ∧ wPo V h a aO aR n N aA aE aG fA ra s g f (wn2 n Va w b ag).1 h') := by
  have hn := H.n20
  have hN : N ≤ n * 12 := D.2.2.1
  have hv : pgv n Va (nI b) 6 = Va (10 * b + 6) := pgv_k hn hbn (by omega) rfl
  refine rx_aload_nr d_Road_behind_86 (by rfl) ?_
  refine rx_getfield d_Road_behind_87 fl_Road_19 D.1 (by rfl) ?_
  refine rx_if_eq (tgt := 136) d_Road_behind_90 (by rfl) (fun c90 => ?_) (fun c90 => ?_)
  · have n2 : ¬ (ag = false ∧ w.2.1 = true ∧ w.2.2.2.1 = 2 ∧ w.2.2.1 = false ∧ hb Va 6 b = true) := fun z => by rw [z.2.1] at c90; exact absurd c90 (by decide)
    exact l_b136 hp H hr hps G D hbn x5 h6 hag n1 n2
  · refine rx_aload_nr d_Road_behind_93 (by rfl) ?_
    refine rx_getfield d_Road_behind_94 fl_Road_26 D.1 (by rfl) ?_
    refine rx_iconst (v := 2) d_Road_behind_97 (by decide) ?_
    refine rx_icmp_ne (tgt := 136) d_Road_behind_98 (by rfl) (fun c98 => ?_) (fun c98 => ?_)
    · have n2 : ¬ (ag = false ∧ w.2.1 = true ∧ w.2.2.2.1 = 2 ∧ w.2.2.1 = false ∧ hb Va 6 b = true) := fun z => c98 z.2.2.1
      exact l_b136 hp H hr hps G D hbn x5 h6 hag n1 n2
    · refine rx_aload_nr d_Road_behind_101 (by rfl) ?_
      refine rx_getfield d_Road_behind_102 fl_Road_23 D.1 (by rfl) ?_
      refine rx_if_ne (tgt := 136) d_Road_behind_105 (by rfl) (fun c105 => ?_) (fun c105 => ?_)
      · have n2 : ¬ (ag = false ∧ w.2.1 = true ∧ w.2.2.2.1 = 2 ∧ w.2.2.1 = false ∧ hb Va 6 b = true) := fun z => by rw [z.2.2.2.1] at c105; exact c105 rfl
        exact l_b136 hp H hr hps G D hbn x5 h6 hag n1 n2
      · refine rx_aload_nr d_Road_behind_108 (by rfl) ?_
        refine rx_iload_n d_Road_behind_109 (by rfl) ?_
        refine rx_bipush (v := 6) d_Road_behind_110 (by decide) ?_
        refine rx_cV d_Road_behind_112 (by rfl) ml_Road_85 im_Page_has se_Page_has (by exact c9_Page_has) hp.1 (by rfl) (by exact Nat.le_of_ble_eq_true rfl) (c_has hp (nI b) 6) ?_
        rw [hv]
        refine rx_if_eq (tgt := 136) d_Road_behind_115 (by rfl) (fun c115 => ?_) (fun c115 => ?_)
        · have n2 : ¬ (ag = false ∧ w.2.1 = true ∧ w.2.2.2.1 = 2 ∧ w.2.2.1 = false ∧ hb Va 6 b = true) := fun z => hb_t.mp z.2.2.2.2 (ite01.mp c115)
          exact l_b136 hp H hr hps G D hbn x5 h6 hag n1 n2
        · have e : wn2 n Va w b ag = ((w.1, w.2.1, true, w.2.2.2.1, w.2.2.2.2), some (wco n Va)) := (if_neg n1).trans (if_pos ⟨hag, bi_1.mp c90, c98, bi_0.mp c105, hb_t.mpr (fun z => c115 (ite01.mpr z))⟩)
          rw [e]
          obtain ⟨co, co1, co2, co3⟩ := hb_ex (hco (bi_1.mp c90) c98)
          refine rx_aload_nr d_Road_behind_118 (by rfl) ?_
          refine rx_iconst (v := 1) d_Road_behind_119 (by decide) ?_
          refine rx_putfield d_Road_behind_120 (fw_Road_23 rfl) D.1 (Nat.le_of_ble_eq_true rfl) (by rfl) (by rfl) ?_
          have D1 := D.ob (N' := N) (jm' := bi w.2.1) (wo' := 1) (wy' := w.2.2.2.1) (tk' := bi w.2.2.2.2) hN
          have H1 := H.wo (e := .inr (5, [.ref aO, .int (nI N), .int (bi w.2.1), .int 1, .int w.2.2.2.1, .int (bi w.2.2.2.2)])) D.1 (fun _ z => by cases z) (fun _ z => by cases z) (fun _ _ _ z => by cases z)
          have hp1 := hp.wr (e := .inr (5, [.ref aO, .int (nI N), .int (bi w.2.1), .int 1, .int w.2.2.2.1, .int (bi w.2.2.2.2)])) D.1 (rx_ne hp.1 D.1 (fun y => by cases y)) (rx_ne hp.2.1 D.1 (fun y => by cases y)) (rx_ne hp.2.2.1 D.1 (fun y => by cases y)) (rx_ne hp.2.2.2.1 D.1 (fun y => by cases y))
          refine rx_aload_nr d_Road_behind_123 (by rfl) ?_
          refine rx_iconst (v := 4) d_Road_behind_124 (by decide) ?_
          refine rx_iconst (v := 0) d_Road_behind_125 (by decide) ?_
          refine rx_aload_nr d_Road_behind_126 (by rfl) ?_
          refine rx_getfield d_Road_behind_127 fl_Road_88 hp1.1 (by rfl) ?_
          refine rx_iconst (v := 1) d_Road_behind_130 (by decide) ?_
          refine rx_isub d_Road_behind_131 ?_
          refine rx_cV d_Road_behind_132 (by rfl) ml_Road_91 im_Page_lastWith se_Page_lastWith (by exact c9_Page_lastWith) hp1.1 (by rfl) (by exact Nat.le_of_ble_eq_true rfl) (c_lw hp1 (k := 4) (by omega) 0 (nI n - 1)) ?_
          have e7 : lwi n Va 4 0 (nI n - 1) = nI (wco n Va) := by
            have e0 : nI n - 1 = nI (n - 1) := by
              cases n with
              | zero => omega
              | succ j => exact nI_pred j
            rw [e0, show (0 : Int32) = nI 0 from rfl, lwi_n hn (by omega) (by omega), show n - 1 + 1 = n from by omega, show ((0 : Nat) : Int) = 0 from rfl, co1, i_ofI]
            unfold wco
            rw [co1]
            rfl
          rw [e7]
          refine rx_ireturn d_Road_behind_135 (by rfl) ?_
          exact ⟨rfl, ⟨R, H1, hr, hps⟩, D1, rx_fr.wr D.1 (Or.inl rfl)⟩
theorem l_b56 (hp : is_pg V h aP n al at_ av Le Te Va) (H : is_rp V h aR n aA aE aG s.1 fA (fun x => (gO s x).map ra) (fun x => (g x).map ra) ra R) (hr : roG s g R) (hps : ∀ r, r < s.1 → R r 6 = nI (w.1 r) ∧ w.1 r ≤ 4) (G : gN n Va s g) (D : is_rd V h a aO n N (bi w.2.1) (bi w.2.2.1) w.2.2.2.1 (bi w.2.2.2.2) f) (hbn : b < n) (x5 : Option Value) (h6 : hb Va 7 b = true → ¬ jta n Va b = -1) (hco : w.2.1 = true → w.2.2.2.1 = 2 → ∃ y, y < n ∧ hb Va 4 y = true) : rx_W V (d + 4) kc ks m_Road_behind 56 [some (.ref a), some (.int (nI b)), some (.int (bi ag)), some (.ref aP), some (.ref aR), x5] [] h (fun r9 h' => r9 = .inl (some (.int (onx (wn2 n Va w b ag).2))) ∧ wPo V h a aO aR n N aA aE aG fA ra s g f (wn2 n Va w b ag).1 h') := by
  have hn := H.n20
  have hv : pgv n Va (nI b) 5 = Va (10 * b + 5) := pgv_k hn hbn (by omega) rfl
  refine rx_iload_n d_Road_behind_56 (by rfl) ?_
  refine rx_if_ne (tgt := 162) d_Road_behind_57 (by rfl) (fun c57 => ?_) (fun c57 => ?_)
  · have ha : ag = true := bi_1.mp c57
    exact l_b162 hp H hr hps G D hbn x5 ((if_neg (fun z => by rw [ha] at z; cases z.1)).trans ((if_neg (fun z => by rw [ha] at z; cases z.1)).trans (if_neg (fun z => by rw [ha] at z; cases z.1))))
  · have hag : ag = false := bi_0.mp c57
    refine rx_aload_nr d_Road_behind_60 (by rfl) ?_
    refine rx_getfield d_Road_behind_61 fl_Road_19 D.1 (by rfl) ?_
    refine rx_if_eq (tgt := 86) d_Road_behind_64 (by rfl) (fun c64 => ?_) (fun c64 => ?_)
    · have n1 : ¬ (ag = false ∧ w.2.1 = true ∧ w.2.2.2.1 = 1 ∧ hb Va 5 b = true) := fun z => by rw [z.2.1] at c64; exact absurd c64 (by decide)
      exact l_b86 hp H hr hps G D hbn x5 h6 hco hag n1
    · refine rx_aload_nr d_Road_behind_67 (by rfl) ?_
      refine rx_getfield d_Road_behind_68 fl_Road_26 D.1 (by rfl) ?_
      refine rx_iconst (v := 1) d_Road_behind_71 (by decide) ?_
      refine rx_icmp_ne (tgt := 86) d_Road_behind_72 (by rfl) (fun c72 => ?_) (fun c72 => ?_)
      · have n1 : ¬ (ag = false ∧ w.2.1 = true ∧ w.2.2.2.1 = 1 ∧ hb Va 5 b = true) := fun z => c72 z.2.2.1
        exact l_b86 hp H hr hps G D hbn x5 h6 hco hag n1
      · refine rx_aload_nr d_Road_behind_75 (by rfl) ?_
        refine rx_iload_n d_Road_behind_76 (by rfl) ?_
        refine rx_iconst (v := 5) d_Road_behind_77 (by decide) ?_
        refine rx_cV d_Road_behind_78 (by rfl) ml_Road_85 im_Page_has se_Page_has (by exact c9_Page_has) hp.1 (by rfl) (by exact Nat.le_of_ble_eq_true rfl) (c_has hp (nI b) 5) ?_
        rw [hv]
        refine rx_if_eq (tgt := 86) d_Road_behind_81 (by rfl) (fun c81 => ?_) (fun c81 => ?_)
        · have n1 : ¬ (ag = false ∧ w.2.1 = true ∧ w.2.2.2.1 = 1 ∧ hb Va 5 b = true) := fun z => hb_t.mp z.2.2.2 (ite01.mp c81)
          exact l_b86 hp H hr hps G D hbn x5 h6 hco hag n1
        · rw [show wn2 n Va w b ag = (w, none) from if_pos ⟨hag, bi_1.mp c64, c72, hb_t.mpr (fun z => c81 (ite01.mpr z))⟩]
          refine rx_iconst (v := -1) d_Road_behind_84 (by decide) ?_
          refine rx_ireturn d_Road_behind_85 (by rfl) ?_
          exact ⟨rfl, ⟨⟨R, H, hr, hps⟩, D, rx_fr.rf⟩⟩
theorem c_behind (hp : is_pg V h aP n al at_ av Le Te Va) (H : is_rp V h aR n aA aE aG s.1 fA (fun x => (gO s x).map ra) (fun x => (g x).map ra) ra R) (hr : roG s g R) (hps : ∀ r, r < s.1 → R r 6 = nI (w.1 r) ∧ w.1 r ≤ 4) (G : gN n Va s g) (D : is_rd V h a aO n N (bi w.2.1) (bi w.2.2.1) w.2.2.2.1 (bi w.2.2.2.2) f) (hbn : b < n) (h6 : hb Va 7 b = true → ¬ jta n Va b = -1) (hco : w.2.1 = true → w.2.2.2.1 = 2 → ∃ y, y < n ∧ hb Va 4 y = true) : rx_C V (d + 4) kc ks m_Road_behind [.ref a, .int (nI b), .int (bi ag), .ref aP, .ref aR] h (fun r9 h' => r9 = .inl (some (.int (onx (wnx n Va s w b ag).2))) ∧ wPo V h a aO aR n N aA aE aG fA ra s g f (wnx n Va s w b ag).1 h') := by
  have hn := H.n20
  cases hgb : gO s b with
  | none =>
    have e9 : wnx n Va s w b ag = wn2 n Va w b ag := by unfold wnx; rw [hgb]
    rw [e9]
    refine rx_aload_r d_Road_behind_0 (by rfl) ?_
    refine rx_iload_n d_Road_behind_2 (by rfl) ?_
    refine rx_cV d_Road_behind_3 (by rfl) ml_Road_77 im_Repeats_ofEnd se_Repeats_ofEnd (by exact c9_Repeats_ofEnd) H.1 (by rfl) (by exact Nat.le_of_ble_eq_true rfl) (c_ofEnd H (nI b)) ?_
    rw [ogt_nn (by omega) hbn, hgb]
    refine rx_astore_N d_Road_behind_6 (Nat.le_of_ble_eq_true rfl) ?_
    refine rx_aload_N d_Road_behind_8 (by rfl) ?_
    refine rx_ifnull_N (tgt := 56) d_Road_behind_10 (by rfl) ?_
    exact l_b56 hp H hr hps G D hbn _ h6 hco
  | some r =>
    have hrn := (G.1.2.2.2.2.2.2.1 b r hgb).1
    have hrN : r < n := Nat.lt_of_lt_of_le hrn G.1.1
    have hcm := G.2.2 r hrn
    have hpr := hps r hrn
    refine rx_aload_r d_Road_behind_0 (by rfl) ?_
    refine rx_iload_n d_Road_behind_2 (by rfl) ?_
    refine rx_cV d_Road_behind_3 (by rfl) ml_Road_77 im_Repeats_ofEnd se_Repeats_ofEnd (by exact c9_Repeats_ofEnd) H.1 (by rfl) (by exact Nat.le_of_ble_eq_true rfl) (c_ofEnd H (nI b)) ?_
    rw [ogt_nn (by omega) hbn, hgb]
    show rx_W V (d + 4) kc ks m_Road_behind 6 _ [.ref (ra r)] h _
    refine rx_astore_r d_Road_behind_6 (Nat.le_of_ble_eq_true rfl) ?_
    refine rx_aload_r d_Road_behind_8 (by rfl) ?_
    refine rx_ifnull_r (tgt := 56) d_Road_behind_10 (by rfl) ?_
    refine rx_aload_nr d_Road_behind_13 (by rfl) ?_
    refine rx_getfield d_Road_behind_14 fl_Road_29 D.1 (by rfl) ?_
    refine rx_if_eq (tgt := 56) d_Road_behind_17 (by rfl) (fun c17 => ?_) (fun c17 => ?_)
    · have e9 : wnx n Va s w b ag = wn2 n Va w b ag := by unfold wnx; rw [hgb]; exact if_neg (by rw [bi_0.mp c17]; decide)
      rw [e9]
      first
      | exact l_b56 hp H hr hps G D hbn _ h6 hco
      | exact rx_cons (l_b56 (w := (up w.1 r 1, w.2)) (hp.rc (H.cell hrN)) (H.set1 (k := 6) (v := nI 1) hrN) hr.p6 (hps6 hps (by omega)) G (D.rc (H.cell hrN)) hbn _ h6 hco) (fun r9 h9 z => ⟨z.1, z.2.1, z.2.2.1, (rx_fr.wr (H.cell hrN) (Or.inr ⟨r, hrN, rfl⟩)).tr z.2.2.2⟩)
    · refine rx_aload_r d_Road_behind_20 (by rfl) ?_
      refine rx_getfield d_Road_behind_22 fl_Road_57 (H.cell hrN) (by rfl) ?_
      rw [hpr.1]
      refine rx_aload_r d_Road_behind_25 (by rfl) ?_
      refine rx_getfield d_Road_behind_27 fl_Road_62 (H.cell hrN) (by rfl) ?_
      rw [(hr r hrn).2.2.2.1, hcm.1]
      refine rx_icmp_ge (tgt := 50) d_Road_behind_30 (by rfl) (fun c30 => ?_) (fun c30 => ?_)
      · have lt9 : ¬ w.1 r < cn s r := fun y => nI_ge y (by omega) c30
        have e9 : wnx n Va s w b ag = wn2 n Va (up w.1 r 1, w.2) b ag := by unfold wnx; rw [hgb]; exact (if_pos (bi_1.mp c17)).trans (if_neg lt9)
        rw [e9]
        refine rx_aload_r d_Road_behind_50 (by rfl) ?_
        refine rx_iconst (v := 1) d_Road_behind_52 (by decide) ?_
        refine rx_putfield d_Road_behind_53 (fw_Road_57 rfl) (H.cell hrN) (Nat.le_of_ble_eq_true rfl) (by rfl) (by rfl) ?_
        first
        | exact l_b56 hp H hr hps G D hbn _ h6 hco
        | exact rx_cons (l_b56 (w := (up w.1 r 1, w.2)) (hp.rc (H.cell hrN)) (H.set1 (k := 6) (v := nI 1) hrN) hr.p6 (hps6 hps (by omega)) G (D.rc (H.cell hrN)) hbn _ h6 hco) (fun r9 h9 z => ⟨z.1, z.2.1, z.2.2.1, (rx_fr.wr (H.cell hrN) (Or.inr ⟨r, hrN, rfl⟩)).tr z.2.2.2⟩)
      · have lt9 : w.1 r < cn s r := by
          by_cases u : w.1 r < cn s r
          · exact u
          · exact absurd (nI_le (by omega) (by omega)) c30
        have e9 : wnx n Va s w b ag = ((up w.1 r (w.1 r + 1), w.2), some (gF s r)) := by unfold wnx; rw [hgb]; exact (if_pos (bi_1.mp c17)).trans (if_pos lt9)
        rw [e9]
        refine rx_aload_r d_Road_behind_33 (by rfl) ?_
        refine rx_dup d_Road_behind_35 (by rfl) ?_
        refine rx_getfield d_Road_behind_36 fl_Road_57 (H.cell hrN) (by rfl) ?_
        rw [hpr.1]
        refine rx_iconst (v := 1) d_Road_behind_39 (by decide) ?_
        refine rx_iadd d_Road_behind_40 ?_
        rw [nI_1]
        refine rx_putfield d_Road_behind_41 (fw_Road_57 rfl) (H.cell hrN) (Nat.le_of_ble_eq_true rfl) (by rfl) (by rfl) ?_
        have H1 := H.set1 (k := 6) (v := nI (w.1 r + 1)) hrN
        refine rx_aload_r d_Road_behind_44 (by rfl) ?_
        refine rx_getfield d_Road_behind_46 fl_Road_80 (H1.cell hrN) (by rfl) ?_
        refine rx_ireturn d_Road_behind_49 (by rfl) ?_
        exact ⟨by show (Sum.inl (some (Value.int (rup R r 6 (nI (w.1 r + 1)) r 0))) : rx_R) = _; rw [rup_k (show 0 ≠ 6 by omega), (hr r hrn).1]; rfl, ⟨_, H1, hr.p6, hps6 hps (by omega)⟩, D.rc (H.cell hrN), rx_fr.wr (H.cell hrN) (Or.inr ⟨r, hrN, rfl⟩)⟩
end W2
