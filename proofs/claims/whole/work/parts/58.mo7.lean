/-! the reference's walk: come, resetJumped, goOn, walk -/
def gPo (V : rx_V) (h1 : List va_E) (a : Nat) (S : mT) (h2 : List va_E) (n : Nat) (Va : Nat → Int32) (s : gT) (g : Nat → Option Nat) (k9 : Nat) (u : wT) (c : Nat) (h' : List va_E) : Prop :=
  ∃ S', h' = mw V h1 a S' h2 ∧ mE S S' ∧ mR S' s g ∧ mP S' s (wlv Va s g u (win n Va s g u c)).1 ∧ mJ (S'.1 22) u ∧ S'.1 23 = bi u.2.2.1 ∧ S'.1 20 = nI (win n Va s g u c) ∧ S'.1 21 = bi (wag s u (win n Va s g u c)) ∧ S'.1 24 = nI (k9 + 1) ∧ S'.2.2 16 = up (S.2.2 16) k9 (nI (win n Va s g u c))
theorem gPo.b {V : rx_V} {h1 h2 h' : List va_E} {a n k9 c : Nat} {S S1 : mT} {Va : Nat → Int32} {s : gT} {g : Nat → Option Nat} {u : wT} (H : gPo V h1 a S1 h2 n Va s g k9 u c h') (E : mE S S1) (e : S1.2.2 16 = S.2.2 16) : gPo V h1 a S h2 n Va s g k9 u c h' := by
  obtain ⟨S', q1, q2, q3, q4, q5, q6, q7, q8, q9, q10⟩ := H
  exact ⟨S', q1, E.trans q2, q3, q4, q5, q6, q7, q8, q9, by rw [q10, e]⟩
theorem cmP.g {V : rx_V} {h1 h2 h' : List va_E} {a n k9 b c : Nat} {S S1 : mT} {Va : Nat → Int32} {s : gT} {g : Nat → Option Nat} {u : wT} {p : Nat → Nat} {ag : Bool} (H : cmP V h1 a S1 h2 s g b k9 p ag h') (E : mE S S1) (e16 : S1.2.2 16 = S.2.2 16) (e22 : S1.1 22 = S.1 22) (e23 : S1.1 23 = S.1 23) (hj : mJ (S.1 22) u) (hw : S.1 23 = bi u.2.2.1) (eb : b = win n Va s g u c) (ep : p = (wlv Va s g u b).1) (ea : ag = wag s u b) : gPo V h1 a S h2 n Va s g k9 u c h' := by
  subst eb ep ea
  obtain ⟨S', q1, q2, q3, q4, q5, q6, q7, q8, q9, q10⟩ := H
  exact ⟨S', q1, E.trans q2, q3, q4, by rw [q5, e22]; exact hj, by rw [q6, e23]; exact hw, q7, q8, q9, by rw [q10, e16]⟩
/-- what is known of a map without a fault -/
def mapOk (n : Nat) (Va : Nat → Int32) (s : gT) (g : Nat → Option Nat) : Prop := 0 < n ∧ n ≤ 20 ∧ vok n Va ∧ gN n Va s g ∧ gK n Va s g ∧ NF n Va s g
theorem wif_g {n : Nat} {Va : Nat → Int32} {g : Nat → Option Nat} {r du c l : Nat} (hl : g l = some r) (hln : l < n) (hm : ∀ y, g y = some r → y ≤ l) : g (wif n Va g r du c) = some r := by
  unfold wif
  cases z : fix (fun e => decide (g e = some r) && bt Va e du) c (n - c) with
  | none => show g (lsg n g r) = some r; rw [lsg_eq hl hln hm]; exact hl
  | some y =>
    obtain ⟨y1, y2, y3, y4⟩ := fix_s z
    exact of_decide_eq_true (Bool.and_eq_true_iff.mp y3).1
/-- to leave a repeat does not change whether a bar comes again -/
theorem wag_lv {n : Nat} {Va : Nat → Int32} {s : gT} {g : Nat → Option Nat} {u : wT} {b r : Nat} (M : mapOk n Va s g) (hg : g b = some r) (hb : bt Va b (cn s r) = true) : (u.2.2.2.2 && (fix (fun q => decide (gF s q ≤ b ∧ b ≤ gL s q ∧ up u.1 r 1 q < cn s q)) 0 s.1).isSome) = wag s u b := by
  obtain ⟨M1, M2, M3, M4, M5, M6⟩ := M
  have e := (nfQ M3 M4 M5 M6 hg).2.2 b hg hb
  unfold wag
  congr 2
  refine fix_cong (fun q _ hq => ?_)
  by_cases c : q = r
  · subst c
    rw [decide_eq_false (fun z => by omega), decide_eq_false (fun z => by omega)]
  · rw [up_o c]
section MG
variable {V : rx_V} {d kc ks : Nat} {h h1 h2 : List va_E} {a n b c k9 : Nat} {S S0 : mT} {Va : Nat → Int32} {Q : rx_R → List va_E → Prop} {v : Int32} {s : gT} {g : Nat → Option Nat} {u : wT}
theorem k_come (ha : a = V.2.1 + h1.length) (hN : mN n S) (hVa : S.2.2 4 = Va) (M : mapOk n Va s g) (R : mR S s g) (hp : mP S s u.1) (hpr : ∀ r, r < s.1 → 1 ≤ u.1 r ∧ u.1 r ≤ cn s r) (hj : mJ (S.1 22) u) (hw : S.1 23 = bi u.2.2.1) (hk : S.1 24 = nI k9) (hk4 : k9 < 400) (hc : c < n) : rx_C V (d + 2) kc ks m_Mo_come [.ref a, .int (nI c)] (mw V h1 a S h2) (fun r9 h' => r9 = .inl none ∧ gPo V h1 a S h2 n Va s g k9 u c h') := by
  obtain ⟨M1, M2, M3, M4, M5, M6⟩ := id M
  have I := M4.1
  have hs1 := I.1
  have hcn : ∀ r, r < s.1 → gC s r = nI (cn s r) ∧ cn s r ≤ 4 := fun r hr => ⟨(M4.2.2 r hr).1, (M4.2.2 r hr).2.2⟩
  have hp4 : ∀ r, r < s.1 → u.1 r ≤ 4 := fun r hr => Nat.le_trans (hpr r hr).2 (hcn r hr).2
  have htk := mJ_tk hj
  have hfx : fix (fun q => inm ((sS S 20 (nI c)).2.2 13 q) c) 0 s.1 = g c := mM_fix (fun q hq => (R.2 q hq).2.2.1) (fun q z => (M5 c q z).1) (by omega)
  have e13 : ∀ v, (sS S 20 v).1 13 = nI s.1 := fun _ => R.1
  cases eg : g c with
  | none =>
    have ewin : win n Va s g u c = c := by unfold win; rw [eg]
    have elv : wlv Va s g u c = u := by unfold wlv; rw [eg]
    refine rx_aload_nr d_Mo_come_0 (by rfl) ?_
    refine rx_iload_n d_Mo_come_1 (by rfl) ?_
    refine m_putI (k9 := 20) ha d_Mo_come_2 (fw_Mo_148 rfl) (by rfl) (by rfl) (by rfl) ?_
    refine rx_aload_nr d_Mo_come_5 (by rfl) ?_
    refine rx_iload_n d_Mo_come_6 (by rfl) ?_
    refine rx_cV d_Mo_come_7 (by rfl) ml_Mo_106 im_Mo_withEnding se_Mo_withEnding (by exact c9_Mo_withEnding) (mr0 ha) (by rfl) (by exact Nat.le_of_ble_eq_true rfl) (k_withEnding ha (e13 _) (by omega) (by omega)) ?_
    rw [hfx, eg]
    refine rx_istore_n d_Mo_come_10 (Nat.le_of_ble_eq_true rfl) ?_
    refine rx_iload_n d_Mo_come_11 (by rfl) ?_
    refine rx_if_lt (tgt := 147) d_Mo_come_12 (by rfl) (fun c12 => ?_) (fun z => absurd (show onx none < 0 by decide) z)
    refine rx_cons (l_come147 (S := sS S 20 (nI c)) (b := c) ha hN R I hcn (p := u.1) hp hp4 rfl hc htk hk hk4) (fun r9 h9 z => ⟨z.1, cmP.g (S := S) z.2 (mE.sS mE.refl (by decide) (by decide) (by decide)) rfl rfl rfl hj hw ewin.symm (by rw [elv]) rfl⟩)
  | some r =>
    have kc9 := M5 c r eg
    have hr := kc9.1
    obtain ⟨j1, j2, j3, j4⟩ := R.2 r hr
    obtain ⟨l, l1, l2, l3, l4, l5, l6⟩ := mM_hi j3 eg (by omega)
    have kl := M5 l r l3
    have hm : ∀ y, g y = some r → y ≤ l := fun y z => l6 y (by have := (M5 y r z).2.1; omega) z
    have ewin : win n Va s g u c = wif n Va g r (wdu s u r) c := by unfold win; rw [eg]
    have hbn := (win_ran (Va := Va) (s := s) (w := u) (fun x r z => (M5 x r z).2.1) hc).2
    rw [ewin] at hbn
    have hgb : g (wif n Va g r (wdu s u r) c) = some r := wif_g l3 kl.2.1 hm
    have hr2 := hpr r hr
    have hc4 := M4.2.2 r hr
    have hdu : 1 ≤ wdu s u r ∧ wdu s u r ≤ 4 := by
      unfold wdu
      by_cases z : u.2.2.2.2 = true
      · rw [if_pos z]; omega
      · rw [if_neg z]; omega
    have hpw : ∀ v, mP (sS S 20 v) s u.1 := fun _ => hp
    have N9 : ∀ v, mN n (sS S 20 v) := fun _ => hN
    have K108 : rx_W V (d + 2) kc ks m_Mo_come 108 [some (.ref a), some (.int (nI c)), some (.int (nI r)), some (.int (nI (wdu s u r - 1))), some (.int (nI l))] [] (mw V h1 a (sS S 20 (nI (wif n (S.2.2 4) g r (wdu s u r) c))) h2) (fun r9 h' => r9 = .inl none ∧ gPo V h1 a S h2 n Va s g k9 u c h') := by
      rw [hVa]
      generalize wif n Va g r (wdu s u r) c = b at *
      refine rx_aload_nr d_Mo_come_108 (by rfl) ?_
      refine rx_getfield d_Mo_come_109 fl_Mo_53 (mr0 ha) (by rfl) ?_
      refine rx_iload_n d_Mo_come_112 (by rfl) ?_
      refine rx_aload_nr d_Mo_come_113 (by rfl) ?_
      refine rx_aload_nr d_Mo_come_114 (by rfl) ?_
      refine rx_getfield d_Mo_come_115 fl_Mo_148 (mr0 ha) (by rfl) ?_
      rw [show (sS S 20 (nI b)).1 20 = nI b from rfl]
      refine rx_iconst (v := 2) d_Mo_come_118 (by decide) ?_
      refine rx_cV d_Mo_come_119 (by rfl) ml_Mo_70 im_Mo_signOf se_Mo_signOf (by exact c9_Mo_signOf) (mr0 ha) (by rfl) (by exact Nat.le_of_ble_eq_true rfl) (k_signOf ha (N9 _) (b := b) (k := 2) (by omega) (by omega)) ?_
      rw [sgn_1 hbn, show (sS S 20 (nI b)).2.2 4 = Va from hVa]
      refine rx_aload_nr d_Mo_come_122 (by rfl) ?_
      refine rx_getfield d_Mo_come_123 fl_Mo_50 (mr0 ha) (by rfl) ?_
      refine rx_iload_n d_Mo_come_126 (by rfl) ?_
      refine m_ial (j := 14) ha d_Mo_come_127 (by rfl) (by omega) (by decide) ?_
      rw [show (sS S 20 (nI b)).2.2 14 r = nI (cn s r) from j4.trans hc4.1]
      refine rx_iconst (v := 1) d_Mo_come_128 (by decide) ?_
      refine rx_isub d_Mo_come_129 ?_
      rw [nI_p1 (by omega)]
      refine rx_cS d_Mo_come_130 ml_Mo_94 st_Mo_in (by exact c9_Mo_in) (by rfl) (by exact Nat.le_of_ble_eq_true rfl) (k_in _ (b := cn s r - 1) (by omega)) ?_
      rw [bt_nn M3 hbn (by omega) (by omega)]
      refine rx_if_eq (tgt := 140) d_Mo_come_133 (by rfl) (fun c133 => ?_) (fun c133 => ?_)
      · have c133 : bt Va b (cn s r) = false := bi_0.mp c133
        refine rx_aload_nr d_Mo_come_140 (by rfl) ?_
        refine rx_getfield d_Mo_come_141 fl_Mo_53 (mr0 ha) (by rfl) ?_
        refine rx_iload_n d_Mo_come_144 (by rfl) ?_
        refine m_ial (j := 15) ha d_Mo_come_145 (by rfl) (by omega) (by decide) ?_
        rw [show (sS S 20 (nI b)).2.2 15 r = nI (u.1 r) from hp r hr]
        refine m_ias (j := 15) ha d_Mo_come_146 (by rfl) (by omega) (by decide) (by rfl) (by decide) ?_
        first
          | (have elv : wlv Va s g u b = (up u.1 r 1, u.2) := by
              unfold wlv; rw [hgb]; exact if_pos c133
             refine rx_cons (l_come147 (S := sA (sS S 20 (nI b)) 15 r 1) (b := b) ha hN (R.o rfl (fun j h1 h2 => up_o (show j ≠ 15 by omega))) I hcn (p := up u.1 r 1) (fun q hq => ?_) (fun q hq => ?_) rfl hbn htk hk hk4) (fun r9 h9 z => ⟨z.1, cmP.g (S := S) z.2 (mE.sA (mE.sS mE.refl (by decide) (by decide) (by decide)) (by decide)) rfl rfl rfl hj hw ewin.symm (by rw [elv]) (wag_lv M hgb c133)⟩)
             · show up (S.2.2 15) r 1 q = nI (up u.1 r 1 q)
               by_cases e : q = r
               · subst e; rw [up_s, up_s]; rfl
               · rw [up_o e, up_o e]; exact hp q hq
             · by_cases e : q = r
               · subst e; rw [up_s]; omega
               · rw [up_o e]; exact hp4 q hq)
          | (have elv : wlv Va s g u b = u := by
              unfold wlv; rw [hgb]; exact if_neg (by rw [c133]; decide)
             refine rx_cons (l_come147 (S := sA (sS S 20 (nI b)) 15 r (nI (u.1 r))) (b := b) ha hN (R.o rfl (fun j h1 h2 => up_o (show j ≠ 15 by omega))) I hcn (p := u.1) (fun q hq => ?_) hp4 rfl hbn htk hk hk4) (fun r9 h9 z => ⟨z.1, cmP.g (S := S) z.2 (mE.sA (mE.sS mE.refl (by decide) (by decide) (by decide)) (by decide)) rfl rfl rfl hj hw ewin.symm (by rw [elv]) rfl⟩)
             show up (S.2.2 15) r (nI (u.1 r)) q = nI (u.1 q)
             by_cases e : q = r
             · subst e; rw [up_s]
             · rw [up_o e]; exact hp q hq)
      · have c133 : bt Va b (cn s r) = true := bi_1.mp c133
        refine rx_iconst (v := 1) d_Mo_come_136 (by decide) ?_
        refine rx_goto (tgt := 146) d_Mo_come_137 (by rfl) ?_
        refine m_ias (j := 15) ha d_Mo_come_146 (by rfl) (by omega) (by decide) (by rfl) (by decide) ?_
        first
          | (have elv : wlv Va s g u b = (up u.1 r 1, u.2) := by
              unfold wlv; rw [hgb]; exact if_pos c133
             refine rx_cons (l_come147 (S := sA (sS S 20 (nI b)) 15 r 1) (b := b) ha hN (R.o rfl (fun j h1 h2 => up_o (show j ≠ 15 by omega))) I hcn (p := up u.1 r 1) (fun q hq => ?_) (fun q hq => ?_) rfl hbn htk hk hk4) (fun r9 h9 z => ⟨z.1, cmP.g (S := S) z.2 (mE.sA (mE.sS mE.refl (by decide) (by decide) (by decide)) (by decide)) rfl rfl rfl hj hw ewin.symm (by rw [elv]) (wag_lv M hgb c133)⟩)
             · show up (S.2.2 15) r 1 q = nI (up u.1 r 1 q)
               by_cases e : q = r
               · subst e; rw [up_s, up_s]; rfl
               · rw [up_o e, up_o e]; exact hp q hq
             · by_cases e : q = r
               · subst e; rw [up_s]; omega
               · rw [up_o e]; exact hp4 q hq)
          | (have elv : wlv Va s g u b = u := by
              unfold wlv; rw [hgb]; exact if_neg (by rw [c133]; decide)
             refine rx_cons (l_come147 (S := sA (sS S 20 (nI b)) 15 r (nI (u.1 r))) (b := b) ha hN (R.o rfl (fun j h1 h2 => up_o (show j ≠ 15 by omega))) I hcn (p := u.1) (fun q hq => ?_) hp4 rfl hbn htk hk hk4) (fun r9 h9 z => ⟨z.1, cmP.g (S := S) z.2 (mE.sA (mE.sS mE.refl (by decide) (by decide) (by decide)) (by decide)) rfl rfl rfl hj hw ewin.symm (by rw [elv]) rfl⟩)
             show up (S.2.2 15) r (nI (u.1 r)) q = nI (u.1 q)
             by_cases e : q = r
             · subst e; rw [up_s]
             · rw [up_o e]; exact hp q hq)
    have K54 := l_come54 (d := d) (kc := kc) (ks := ks) (h2 := h2) ha hN (by rw [hVa]; exact M3) (c := c) (by omega) j3 l3 kl.2.1 hm hdu.1 hdu.2 K108 (l - c) c (by have := hm c eg; omega) (Nat.le_refl _) (fun x h1 h2 => by omega)
    refine rx_aload_nr d_Mo_come_0 (by rfl) ?_
    refine rx_iload_n d_Mo_come_1 (by rfl) ?_
    refine m_putI (k9 := 20) ha d_Mo_come_2 (fw_Mo_148 rfl) (by rfl) (by rfl) (by rfl) ?_
    refine rx_aload_nr d_Mo_come_5 (by rfl) ?_
    refine rx_iload_n d_Mo_come_6 (by rfl) ?_
    refine rx_cV d_Mo_come_7 (by rfl) ml_Mo_106 im_Mo_withEnding se_Mo_withEnding (by exact c9_Mo_withEnding) (mr0 ha) (by rfl) (by exact Nat.le_of_ble_eq_true rfl) (k_withEnding ha (e13 _) (by omega) (by omega)) ?_
    rw [hfx, eg, show onx (some r) = nI r from rfl]
    refine rx_istore_n d_Mo_come_10 (Nat.le_of_ble_eq_true rfl) ?_
    refine rx_iload_n d_Mo_come_11 (by rfl) ?_
    refine rx_if_lt (tgt := 147) d_Mo_come_12 (by rfl) (fun z => absurd z (i_nlt (by rw [i_le, i_0, i_n (by omega)]; omega))) (fun c12 => ?_)
    refine rx_aload_nr d_Mo_come_15 (by rfl) ?_
    refine rx_cV d_Mo_come_16 (by rfl) ml_Mo_151 im_Mo_takes se_Mo_takes (by exact c9_Mo_takes) (mr0 ha) (by rfl) (by exact Nat.le_of_ble_eq_true rfl) (k_takes ha) ?_
    rw [show decide ((sS S 20 (nI c)).1 22 < 0 ∨ 5 < (sS S 20 (nI c)).1 22) = u.2.2.2.2 from htk]
    refine rx_if_eq (tgt := 33) d_Mo_come_19 (by rfl) (fun c19 => ?_) (fun c19 => ?_)
    · have edu : wdu s u r = cn s r := if_neg (by rw [bi_0.mp c19]; decide)
      refine rx_aload_nr d_Mo_come_33 (by rfl) ?_
      refine rx_getfield d_Mo_come_34 fl_Mo_50 (mr0 ha) (by rfl) ?_
      refine rx_iload_n d_Mo_come_37 (by rfl) ?_
      refine m_ial (j := 14) ha d_Mo_come_38 (by rfl) (by omega) (by decide) ?_
      rw [show (sS S 20 (nI c)).2.2 14 r = nI (cn s r) from j4.trans hc4.1]
      refine rx_iconst (v := 1) d_Mo_come_39 (by decide) ?_
      refine rx_isub d_Mo_come_40 ?_
      rw [nI_p1 (by omega), ← edu]
      refine rx_istore_n d_Mo_come_41 (Nat.le_of_ble_eq_true rfl) ?_
      refine rx_aload_nr d_Mo_come_42 (by rfl) ?_
      refine rx_aload_nr d_Mo_come_43 (by rfl) ?_
      refine rx_getfield d_Mo_come_44 fl_Mo_47 (mr0 ha) (by rfl) ?_
      refine rx_iload_n d_Mo_come_47 (by rfl) ?_
      refine m_ial (j := 13) ha d_Mo_come_48 (by rfl) (by omega) (by decide) ?_
      refine rx_cV d_Mo_come_49 (by rfl) ml_Mo_116 im_Mo_highest se_Mo_highest (by exact c9_Mo_highest) (mr0 ha) (by rfl) (by exact Nat.le_of_ble_eq_true rfl) (k_highest (x := l) (by omega) l4 l5) ?_
      refine rx_istore d_Mo_come_52 (Nat.le_of_ble_eq_true rfl) ?_
      exact K54
    · have edu : wdu s u r = u.1 r := if_pos (bi_1.mp c19)
      refine rx_aload_nr d_Mo_come_22 (by rfl) ?_
      refine rx_getfield d_Mo_come_23 fl_Mo_53 (mr0 ha) (by rfl) ?_
      refine rx_iload_n d_Mo_come_26 (by rfl) ?_
      refine m_ial (j := 15) ha d_Mo_come_27 (by rfl) (by omega) (by decide) ?_
      rw [show (sS S 20 (nI c)).2.2 15 r = nI (u.1 r) from hp r hr]
      refine rx_iconst (v := 1) d_Mo_come_28 (by decide) ?_
      refine rx_isub d_Mo_come_29 ?_
      rw [nI_p1 (by omega), ← edu]
      refine rx_goto (tgt := 41) d_Mo_come_30 (by rfl) ?_
      refine rx_istore_n d_Mo_come_41 (Nat.le_of_ble_eq_true rfl) ?_
      refine rx_aload_nr d_Mo_come_42 (by rfl) ?_
      refine rx_aload_nr d_Mo_come_43 (by rfl) ?_
      refine rx_getfield d_Mo_come_44 fl_Mo_47 (mr0 ha) (by rfl) ?_
      refine rx_iload_n d_Mo_come_47 (by rfl) ?_
      refine m_ial (j := 13) ha d_Mo_come_48 (by rfl) (by omega) (by decide) ?_
      refine rx_cV d_Mo_come_49 (by rfl) ml_Mo_116 im_Mo_highest se_Mo_highest (by exact c9_Mo_highest) (mr0 ha) (by rfl) (by exact Nat.le_of_ble_eq_true rfl) (k_highest (x := l) (by omega) l4 l5) ?_
      refine rx_istore d_Mo_come_52 (Nat.le_of_ble_eq_true rfl) ?_
      exact K54
theorem q_od : ∀ q : Fin 13, 1 ≤ q.val → ((nI q.val - 1) - (nI q.val - 1) / 2 * 2 = 0 ↔ ¬ (nI q.val - 1) - (nI q.val - 1) / 2 * 2 = 1) := by decide
theorem vok_7 {n b : Nat} {Va : Nat → Int32} (hv : vok n Va) (hb9 : b < n) (h : hb Va 7 b = true) : ∃ q : Fin 13, 1 ≤ q.val ∧ Va (10 * b + 7) = nI q.val := by
  obtain z | ⟨z1, z2⟩ := hv b 7 hb9 (by omega)
  · exact absurd z (hb_t.mp h)
  · have e1 : vlo 7 = 1 := rfl
    have e2 : vhi 7 = 12 := rfl
    exact ⟨⟨(Va (10 * b + 7)).toInt.toNat, by omega⟩, by show 1 ≤ (Va (10 * b + 7)).toInt.toNat; omega, i_of (j := (Va (10 * b + 7)).toInt.toNat) (by omega) (by omega)⟩
theorem wta_mto {n b : Nat} {Va : Nat → Int32} {s : gT} {g : Nat → Option Nat} (hn : n ≤ 20) (hbn : b < n) (F : NF n Va s g) (hb7 : hb Va 7 b = true) : wta Va b = mto n Va b := by
  obtain ⟨e1, e2⟩ := mto_eq hn hbn (fun x hx => F 5 x (by omega) (by omega) hx) (nf6 F hbn hb7)
  unfold jta at e1
  unfold wta
  by_cases c : (Va (10 * b + 7) - 1) - (Va (10 * b + 7) - 1) / 2 * 2 = 1
  · rw [if_pos c] at e1 ⊢
    rw [show (0 : Int32) = nI 0 from rfl, lwi_n hn (by omega) hbn] at e1
    obtain e | ⟨j, f1, f2, f3, f4⟩ := lwf_ran (hb Va 3) ((0 : Nat) : Int) (b + 1)
    · rw [e] at e1
      exact absurd e1.symm (nI_m1 (by omega))
    · rw [f1, i_ofI] at e1
      have := (nI_eq (by omega) (by omega)).mp e1
      rw [show (0 : Int) = ((0 : Nat) : Int) from rfl, f1, ← this]; rfl
  · rw [if_neg c]
    unfold mto
    rw [if_neg c]
theorem wco_fo {n : Nat} {Va : Nat → Int32} {s : gT} {g : Nat → Option Nat} (F : NF n Va s g) (h : ∃ y, y < n ∧ hb Va 4 y = true) : (fix (hb Va 4) 0 n).getD n = wco n Va := by
  obtain ⟨y, y1, y2⟩ := h
  unfold wco
  cases e : fix (hb Va 4) 0 n with
  | none => exact absurd ((fix_n e y (by omega) (by omega)).symm.trans y2) (by decide)
  | some x =>
    obtain ⟨-, e2, e3, e4⟩ := fix_s e
    obtain f | ⟨j, f1, f2, f3, f4⟩ := lwf_ran (hb Va 4) 0 n
    · exact absurd ((lwf_m1.mp f y (by omega) y1).symm.trans y2) (by decide)
    · rw [f1]
      show x = j
      by_cases a1 : x = j
      · exact a1
      · have hx : ¬ j < x := fun z => absurd ((e4 j (by omega) z).symm.trans f4) (by decide)
        exact absurd ⟨4, Or.inr (Or.inl rfl), f4, x, by omega, e3⟩ (F 5 j (by omega) (by omega) f3)
theorem k_resetJumped (ha : a = V.2.1 + h1.length) (hN : mN n S) (hVa : S.2.2 4 = Va) (M : mapOk n Va s g) (R : mR S s g) (hbn : b < n) (hb7 : hb Va 7 b = true) (hw : S.1 23 = bi u.2.2.1) (hk : S.1 24 = nI k9) (hk4 : k9 < 400) : rx_C V (d + 4) kc ks m_Mo_resetJumped [.ref a, .int (Va (10 * b + 7) - 1)] (mw V h1 a S h2) (fun r9 h' => r9 = .inl none ∧ gPo V h1 a S h2 n Va s g k9 (wju Va u b) (wta Va b) h') := by
  obtain ⟨M1, M2, M3, M4, M5, M6⟩ := id M
  have hs1 := M4.1.1
  obtain ⟨q, q1, q2⟩ := vok_7 M3 hbn hb7
  have qo := q_od q q1
  rw [← q2] at qo
  have R9 : ∀ v, mR (sS S 22 v) s g := fun _ => R
  have em := wta_mto M2 hbn M6 hb7
  have hv : vok n (S.2.2 4) := by rw [hVa]; exact M3
  have hmb : wta Va b < n := by
    have := (mto_eq M2 hbn (fun x hx => M6 5 x (by omega) (by omega) hx) (nf6 M6 hbn hb7)).2
    omega
  have hcm : ∀ f : Nat → Int32, (∀ r, r < s.1 → f r = 1) → rx_C V (d + 3) 0 0 m_Mo_come [.ref a, .int (nI (wta Va b))] (mw V h1 a (sF (sS S 22 (Va (10 * b + 7) - 1)) 15 f) h2) (fun r9 h' => r9 = .inl none ∧ gPo V h1 a S h2 n Va s g k9 (wju Va u b) (wta Va b) h') := by
    intro f hf
    refine rx_cons (k_come (S := sF (sS S 22 (Va (10 * b + 7) - 1)) 15 f) (u := wju Va u b) (d := d + 1) ha hN hVa M (R.o rfl (fun j h1 h2 => up_o (show j ≠ 15 by omega))) (fun r hr => hf r hr) (fun r hr => ⟨Nat.le_refl _, by have := M4.2.2 r hr; show 1 ≤ cn s r; omega⟩) (Or.inr ⟨rfl, q, q1, by rw [← q2]; rfl, by rw [← q2]; rfl, by rw [← q2]; rfl⟩) hw hk hk4 hmb) (fun r9 h9 z => ⟨z.1, z.2.b ⟨rfl, rfl, rfl, fun j hj => up_o (show j ≠ 15 by omega)⟩ rfl⟩)
  refine rx_aload_nr d_Mo_resetJumped_0 (by rfl) ?_
  refine rx_iload_n d_Mo_resetJumped_1 (by rfl) ?_
  refine m_putI (k9 := 22) ha d_Mo_resetJumped_2 (fw_Mo_145 rfl) (by rfl) (by rfl) (by rfl) ?_
  refine rx_aload_nr d_Mo_resetJumped_5 (by rfl) ?_
  refine rx_pV d_Mo_resetJumped_6 (by rfl) ml_Mo_162 im_Mo_resetPasses se_Mo_resetPasses (by exact c9_Mo_resetPasses) (mr0 ha) (by rfl) (by exact Nat.le_of_ble_eq_true rfl) (k_resetPasses ha (show (sS S 22 (Va (10 * b + 7) - 1)).1 13 = nI s.1 from R.1) (by omega)) ?_
  intro hx z9
  obtain ⟨f, rfl, hf⟩ := z9
  refine rx_aload_nr d_Mo_resetJumped_9 (by rfl) ?_
  refine rx_iload_n d_Mo_resetJumped_10 (by rfl) ?_
  refine rx_iconst (v := 2) d_Mo_resetJumped_11 (by decide) ?_
  refine rx_irem d_Mo_resetJumped_12 (by decide) ?_
  refine rx_if_ne (tgt := 20) d_Mo_resetJumped_13 (by rfl) (fun c13 => ?_) (fun c13 => ?_)
  · have c13 : ¬ (Va (10 * b + 7) - 1) - (Va (10 * b + 7) - 1) / 2 * 2 = 0 := c13
    have em2 : mto n Va b = (fix (hb Va 3) 0 n).getD n := if_pos (Decidable.not_not.mp (fun z => c13 (qo.mpr z)))
    have hcm := hcm f hf
    rw [em, em2] at hcm
    refine rx_aload_nr d_Mo_resetJumped_20 (by rfl) ?_
    refine rx_iconst (v := 3) d_Mo_resetJumped_21 (by decide) ?_
    refine rx_cV d_Mo_resetJumped_22 (by rfl) ml_Mo_119 im_Mo_firstOf se_Mo_firstOf (by exact c9_Mo_firstOf) (mr0 ha) (by rfl) (by exact Nat.le_of_ble_eq_true rfl) (k_firstOf ha (show mN n (sF (sS S 22 (Va (10 * b + 7) - 1)) 15 f) from hN) (show vok n ((sF (sS S 22 (Va (10 * b + 7) - 1)) 15 f).2.2 4) from hv) (k := 3) (by omega)) ?_
    rw [show (sF (sS S 22 (Va (10 * b + 7) - 1)) 15 f).2.2 4 = Va from hVa]
    refine rx_pV d_Mo_resetJumped_25 (by rfl) ml_Mo_165 im_Mo_come se_Mo_come (by exact c9_Mo_come) (mr0 ha) (by rfl) (by exact Nat.le_of_ble_eq_true rfl) hcm ?_
    intro hy z9
    have z8 := z9
    refine rx_vreturn d_Mo_resetJumped_28 (by rfl) ?_
    exact ⟨rfl, by rw [em, em2]; exact z8⟩
  · have c13 : (Va (10 * b + 7) - 1) - (Va (10 * b + 7) - 1) / 2 * 2 = 0 := c13
    have em2 : mto n Va b = 0 := if_neg (qo.mp c13)
    have hcm := hcm f hf
    rw [em, em2] at hcm
    refine rx_iconst (v := 0) d_Mo_resetJumped_16 (by decide) ?_
    refine rx_goto (tgt := 25) d_Mo_resetJumped_17 (by rfl) ?_
    refine rx_pV d_Mo_resetJumped_25 (by rfl) ml_Mo_165 im_Mo_come se_Mo_come (by exact c9_Mo_come) (mr0 ha) (by rfl) (by exact Nat.le_of_ble_eq_true rfl) hcm ?_
    intro hy z9
    have z8 := z9
    refine rx_vreturn d_Mo_resetJumped_28 (by rfl) ?_
    exact ⟨rfl, by rw [em, em2]; exact z8⟩
end MG
