/-! Repeats.gatherEnds -/
theorem pgv_k {n b k : Nat} {Va : Nat → Int32} {kk : Int32} (hn : n ≤ 20) (h : b < n) (hk : k < 10) (e : kk = nI k) : pgv n Va (nI b) kk = Va (10 * b + k) := by rw [e]; exact pgv_n hn h hk
theorem lwi_n {n k f b : Nat} {Va : Nat → Int32} (hn : n ≤ 20) (hf : f ≤ 1000) (h : b < n) : lwi n Va k (nI f) (nI b) = Int32.ofInt (lwf (hb Va k) f (b + 1)) := by
  unfold lwi
  rw [i_n (by omega), i_n (by omega), show max (f : Int) 0 = f from by omega, show ((min (b : Int) ((n : Int) - 1)) + 1).toNat = b + 1 from by omega]
  rfl
theorem ofI_m1 {x : Int} {j : Nat} (h : x = j) (hj : j ≤ 1000000) : Int32.ofInt x ≠ -1 := by
  rw [h, i_ofI]
  intro z
  have := congrArg Int32.toInt z
  rw [i_n hj, i_m1] at this
  omega
theorem lwi_m1 {n k f b : Nat} {Va : Nat → Int32} (hn : n ≤ 20) (hf : f ≤ 1000) (h : b < n) : lwi n Va k (nI f) (nI b) = -1 ↔ lwf (hb Va k) f (b + 1) = -1 := by
  rw [lwi_n hn hf h]
  obtain e | ⟨j, e1, e2, e3, e4⟩ := lwf_ran (hb Va k) f (b + 1)
  · rw [e]; exact ⟨fun _ => rfl, fun _ => rfl⟩
  · exact ⟨fun z => absurd z (ofI_m1 e1 (by omega)), fun z => by omega⟩
theorem lwi_gfi {n f b : Nat} {Va : Nat → Int32} (hn : n ≤ 20) (hf : f ≤ 1000) (h : b < n) : (if lwi n Va 0 (nI f) (nI b) = -1 then nI f else lwi n Va 0 (nI f) (nI b)) = nI (gfi Va f b) := by
  unfold gfi
  obtain e | ⟨j, e1, e2, e3, e4⟩ := lwf_ran (hb Va 0) f (b + 1)
  · rw [if_pos ((lwi_m1 hn hf h).mpr e), if_pos e]
  · rw [if_neg (fun z => by have := (lwi_m1 hn hf h).mp z; omega), if_neg (by omega), lwi_n hn hf h, e1, i_ofI]
    rfl
theorem is_rp.setE {V : rx_V} {h : List va_E} {a n aA aE aG num : Nat} {fA fE fG f' : Nat → Option Nat} {ra : Nat → Nat} {R : Nat → Nat → Int32} (H : is_rp V h a n aA aE aG num fA fE fG ra R) (d1 : aA ≠ aE) (d2 : aG ≠ aE) : is_rp V (rx_wr V h aE (.inl (V.2.2.2.1 3, n, .inr (.inr (.inr (.inr f')))))) a n aA aE aG num fA f' fG ra R := by
  obtain ⟨h1, h2, h3, h4, h5, h6, h7, h8, h9⟩ := H
  exact ⟨(rx_rd_wn h3 (rx_ne h1 h3 (fun z => by cases z))).trans h1, (rx_rd_wn h3 d1).trans h2, rx_rd_wr h3, (rx_rd_wn h3 d2).trans h4, h5, fun r hr => (rx_rd_wn h3 (rx_ne (h6 r hr) h3 (fun z => by cases z))).trans (h6 r hr), h7, h8, h9⟩
theorem is_rp.setG {V : rx_V} {h : List va_E} {a n aA aE aG num : Nat} {fA fE fG f' : Nat → Option Nat} {ra : Nat → Nat} {R : Nat → Nat → Int32} (H : is_rp V h a n aA aE aG num fA fE fG ra R) (d1 : aA ≠ aG) (d2 : aE ≠ aG) : is_rp V (rx_wr V h aG (.inl (V.2.2.2.1 3, n, .inr (.inr (.inr (.inr f')))))) a n aA aE aG num fA fE f' ra R := by
  obtain ⟨h1, h2, h3, h4, h5, h6, h7, h8, h9⟩ := H
  exact ⟨(rx_rd_wn h4 (rx_ne h1 h4 (fun z => by cases z))).trans h1, (rx_rd_wn h4 d1).trans h2, (rx_rd_wn h4 d2).trans h3, rx_rd_wr h4, h5, fun r hr => (rx_rd_wn h4 (rx_ne (h6 r hr) h4 (fun z => by cases z))).trans (h6 r hr), h7, h8, h9⟩
/-- the places that gathering may write -/
def fp_g (a n aE aG : Nat) (ra : Nat → Nat) : Nat → Prop := fun q => q = a ∨ q = aE ∨ q = aG ∨ fp_ra n ra q
theorem fp_g_rp {a n aE aG : Nat} {ra : Nat → Nat} : ∀ q, fp_rp a n ra q → fp_g a n aE aG ra q := fun q z => z.elim (fun e => Or.inl e) (fun e => Or.inr (Or.inr (Or.inr e)))
theorem fp_g_ra {a n aE aG : Nat} {ra : Nat → Nat} : ∀ q, fp_ra n ra q → fp_g a n aE aG ra q := fun q z => Or.inr (Or.inr (Or.inr z))
theorem is_rp.nog {V : rx_V} {h : List va_E} {a n aA aE aG num : Nat} {fA fE fG : Nat → Option Nat} {ra : Nat → Nat} {R : Nat → Nat → Int32} (H : is_rp V h a n aA aE aG num fA fE fG ra R) {q : Nat} {e : va_E} (he : rx_rd V h q = some e) (h1 : ∀ fs, e ≠ .inr (3, fs)) (h2 : ∀ fs, e ≠ .inr (4, fs)) (h3 : ∀ c m f, e ≠ .inl (c, m, .inr (.inr (.inr (.inr f))))) : ¬ fp_g a n aE aG ra q := by
  rintro (z | z | z | ⟨r, hr, z⟩)
  · exact rx_ne he H.1 (h1 _) z
  · exact rx_ne he H.2.2.1 (h3 _ _ _) z
  · exact rx_ne he H.2.2.2.1 (h3 _ _ _) z
  · exact rx_ne he (H.2.2.2.2.2.1 r hr) (h2 _) z
theorem is_pg.frg {V : rx_V} {h h' : List va_E} {aP n al at_ av a n' aA aE aG num : Nat} {Le Te Va : Nat → Int32} {fA fE fG : Nat → Option Nat} {ra : Nat → Nat} {R : Nat → Nat → Int32} (hp : is_pg V h aP n al at_ av Le Te Va) (H : is_rp V h a n' aA aE aG num fA fE fG ra R) (hf : rx_fr V h h' (fp_g a n' aE aG ra)) : is_pg V h' aP n al at_ av Le Te Va :=
  hp.fr hf (H.nog hp.1 (fun _ z => by cases z) (fun _ z => by cases z) (fun _ _ _ z => by cases z)) (H.nog hp.2.1 (fun _ z => by cases z) (fun _ z => by cases z) (fun _ _ _ z => by cases z)) (H.nog hp.2.2.1 (fun _ z => by cases z) (fun _ z => by cases z) (fun _ _ _ z => by cases z)) (H.nog hp.2.2.2.1 (fun _ z => by cases z) (fun _ z => by cases z) (fun _ _ _ z => by cases z))
/-- what the Repeat objects hold when the ENDs are gathered -/
def rof (s : gT) (R : Nat → Nat → Int32) : Prop := ∀ r, r < s.1 → R r 0 = nI (gF s r) ∧ R r 1 = nI (gE s r) ∧ R r 2 = nI (gL s r) ∧ R r 3 = -1 ∧ R r 4 = -1 ∧ R r 5 = gC s r
def grf (s : gT) (ra : Nat → Nat) : Option Nat := if s.1 = 0 then none else some (ra (s.1 - 1))
theorem rof_n {Va : Nat → Int32} {s : gT} {R : Nat → Nat → Int32} {b : Nat} {x0 : Int32} {x5 : Int32} (hr : rof s R) (h0 : x0 = nI (gfi Va s.2.1 b)) (h5 : x5 = Va (10 * b + 1)) : rof (gne Va s b) (rup (rsu R s.1 (upd (upd (upd (upd (upd (R s.1) 0 x0) 1 (nI b)) 3 (-1)) 4 (-1)) 5 x5)) s.1 2 (nI b)) := by
  intro r hlt
  have hlt' : r < s.1 + 1 := hlt
  show _ = nI (up (gF s) s.1 (gfi Va s.2.1 b) r) ∧ _ = nI (up (gE s) s.1 b r) ∧ _ = nI (up (gL s) s.1 b r) ∧ _ ∧ _ ∧ _ = up (gC s) s.1 (Va (10 * b + 1)) r
  by_cases e : r = s.1
  · subst e
    rw [up_s, up_s, up_s, up_s, rup_s, rup_k (by omega), rup_k (by omega), rup_k (by omega), rup_k (by omega), rup_k (by omega), rsu_s]
    exact ⟨h0, rfl, rfl, rfl, rfl, h5⟩
  · rw [up_o e, up_o e, up_o e, up_o e, rup_o e, rsu_o e]
    exact hr r (by omega)
theorem rof_g {s : gT} {R : Nat → Nat → Int32} {b : Nat} (hr : rof s R) : rof (ggo s b) (rup R (s.1 - 1) 2 (nI b)) := by
  intro r hlt
  have hlt' : r < s.1 := hlt
  show _ = nI (gF s r) ∧ _ = nI (gE s r) ∧ _ = nI (up (gL s) (s.1 - 1) b r) ∧ _ ∧ _ ∧ _ = gC s r
  obtain ⟨j1, j2, j3, j4, j5, j6⟩ := hr r hlt'
  by_cases e : r = s.1 - 1
  · subst e
    rw [up_s, rup_s, rup_k (by omega), rup_k (by omega), rup_k (by omega), rup_k (by omega), rup_k (by omega)]
    exact ⟨j1, j2, rfl, j4, j5, j6⟩
  · rw [up_o e, rup_o e]
    exact ⟨j1, j2, j3, j4, j5, j6⟩
section GE
variable {V : rx_V} {d kc ks a n aA aE aG num q aP al at_ av : Nat} {h : List va_E} {fA fE fG : Nat → Option Nat} {ra : Nat → Nat} {R : Nat → Nat → Int32} {Le Te Va : Nat → Int32} {Q : rx_R → List va_E → Prop}
theorem l_ge76 {r b : Nat} (hD : aA ≠ aE ∧ aA ≠ aG ∧ aE ≠ aG) (H : is_rp V h a n aA aE aG num fA fE fG ra R) (hr : r < n) (hbn : b < n)
    (k : ∀ h4, is_rp V h4 a n aA aE aG num fA (up fE b (some (ra r))) fG ra (rup R r 2 (nI b)) → rx_fr V h h4 (fp_g a n aE aG ra) → rx_W V d kc ks m_Repeats_gatherEnds 4 [some (.ref a), some (.ref aP), some (.ref (ra r)), some (.int (nI (b + 1)))] [] h4 Q) :
    rx_W V d kc ks m_Repeats_gatherEnds 76 [some (.ref a), some (.ref aP), some (.ref (ra r)), some (.int (nI b))] [] h Q := by
  have hn : n ≤ 20 := H.2.2.2.2.2.2.2.2
  have hc := H.2.2.2.2.2.1 r hr
  have H3 := H.set (X := upd (R r) 2 (nI b)) hr (R' := rup R r 2 (nI b)) (fun k _ => by rw [rup_u]) (fun r' e => rup_o e)
  refine rx_aload_nr d_Repeats_gatherEnds_76 (by rfl) ?_
  refine rx_iload_n d_Repeats_gatherEnds_77 (by rfl) ?_
  refine rx_putfield d_Repeats_gatherEnds_78 (fw_Repeats_46 rfl) hc (Nat.le_of_ble_eq_true rfl) (by rfl) (by rfl) ?_
  have H3 := H.set (X := upd (R r) 2 (nI b)) hr (R' := rup R r 2 (nI b)) (fun k _ => by rw [rup_u]) (fun r' e => rup_o e)
  refine rx_aload_nr d_Repeats_gatherEnds_81 (by rfl) ?_
  refine rx_getfield d_Repeats_gatherEnds_82 fl_Repeats_17 H3.1 (by rfl) ?_
  refine rx_iload_n d_Repeats_gatherEnds_85 (by rfl) ?_
  refine rx_aload_nr d_Repeats_gatherEnds_86 (by rfl) ?_
  refine rx_aastore (r := ("ScoreRoads$Repeat", F_Repeat, 7)) d_Repeats_gatherEnds_87 (by rfl) H3.2.2.1 (H3.2.2.2.2.2.1 r hr) (by rfl) (vp_in_nI hbn (by omega)) ?_
  rw [i_cl (by omega)]
  refine rx_iinc (v := nI (b + 1)) d_Repeats_gatherEnds_88 (by rfl) (i_inc b) ?_
  refine rx_goto (tgt := 4) d_Repeats_gatherEnds_91 (by rfl) ?_
  exact k _ (H3.setE hD.1 (Ne.symm hD.2.2)) ((rx_fr.wr hc (Or.inr (Or.inr (Or.inr ⟨r, hr, rfl⟩)))).tr (rx_fr.wr H3.2.2.1 (Or.inr (Or.inl rfl))))
theorem l_gatherEnds (hD : aA ≠ aE ∧ aA ≠ aG ∧ aE ≠ aG) (hp : is_pg V h aP n al at_ av Le Te Va) {num0 : Nat} {fE0 : Nat → Option Nat} {R0 : Nat → Nat → Int32} (H0 : is_rp V h a n aA aE aG num0 fA fE0 fG ra R0) : ∀ (m b : Nat) (h1 : List va_E) (R1 : Nat → Nat → Int32), b + m = n → is_rp V h1 a n aA aE aG (gst Va b).1 fA (fun x => (gO (gst Va b) x).map ra) fG ra R1 → rof (gst Va b) R1 → rx_fr V h h1 (fp_g a n aE aG ra) →
    rx_W V (d + 3) kc ks m_Repeats_gatherEnds 4 [some (.ref a), some (.ref aP), some (va_rf (grf (gst Va b) ra)), some (.int (nI b))] [] h1 (fun r h' => r = .inl none ∧ ∃ R', is_rp V h' a n aA aE aG (gst Va n).1 fA (fun x => (gO (gst Va n) x).map ra) fG ra R' ∧ rof (gst Va n) R' ∧ rx_fr V h h' (fp_g a n aE aG ra)) := by
  intro m
  induction m with
  | zero =>
    intro b h1 R1 hb9 H hr hf
    have hi9 : b = n := by omega
    subst hi9
    refine rx_iload_n d_Repeats_gatherEnds_4 (by rfl) ?_
    refine rx_aload_nr d_Repeats_gatherEnds_5 (by rfl) ?_
    refine rx_getfield d_Repeats_gatherEnds_6 fl_Repeats_17 H.1 (by rfl) ?_
    refine rx_alen d_Repeats_gatherEnds_9 (by rfl) H.2.2.1 ?_
    refine rx_icmp_ge (tgt := 94) d_Repeats_gatherEnds_10 (by rfl) (fun c10 => ?_) (fun z => absurd (show nI b ≤ nI b from Int32.le_refl _) z)
    refine rx_vreturn d_Repeats_gatherEnds_94 (by rfl) ?_
    exact ⟨rfl, R1, H, hr, hf⟩
  | succ m ih =>
    intro b h1 R1 hb9 H hr hf
    have hlt : b < n := by omega
    have hn : n ≤ 20 := H.2.2.2.2.2.2.2.2
    have hp1 := hp.frg H0 hf
    have I := gI_b Va b
    have hv1 : pgv n Va (nI b) 1 = Va (10 * b + 1) := pgv_k hn hlt (by omega) rfl
    have hgs : gst Va (b + 1) = gsn Va (gst Va b) b := rfl
    by_cases h0 : (gst Va b).1 = 0
    · rw [show grf (gst Va b) ra = none from if_pos h0]
      show rx_W V (d + 3) kc ks m_Repeats_gatherEnds 4 [some (.ref a), some (.ref aP), some .null, some (.int (nI b))] [] h1 _
      refine rx_iload_n d_Repeats_gatherEnds_4 (by rfl) ?_
      refine rx_aload_nr d_Repeats_gatherEnds_5 (by rfl) ?_
      refine rx_getfield d_Repeats_gatherEnds_6 fl_Repeats_17 H.1 (by rfl) ?_
      refine rx_alen d_Repeats_gatherEnds_9 (by rfl) H.2.2.1 ?_
      refine rx_icmp_ge (tgt := 94) d_Repeats_gatherEnds_10 (by rfl) (fun z => absurd z (nI_ge hlt (by omega))) (fun c10 => ?_)
      refine rx_aload_nr d_Repeats_gatherEnds_13 (by rfl) ?_
      refine rx_iload_n d_Repeats_gatherEnds_14 (by rfl) ?_
      refine rx_iconst (v := 1) d_Repeats_gatherEnds_15 (by decide) ?_
      refine rx_cV d_Repeats_gatherEnds_16 (by rfl) ml_Repeats_36 im_Page_has se_Page_has (by exact c9_Page_has) hp1.1 (by rfl) (by exact Nat.le_of_ble_eq_true rfl) (c_has hp1 (nI b) 1) ?_
      rw [hv1]
      refine rx_if_eq (tgt := 88) d_Repeats_gatherEnds_19 (by rfl) (fun c19 => ?_) (fun c19 => ?_)
      · have hz : hb Va 1 b = false := hb_f.mpr (ite01.mp c19)
        refine rx_iinc (v := nI (b + 1)) d_Repeats_gatherEnds_88 (by rfl) (i_inc b) ?_
        refine rx_goto (tgt := 4) d_Repeats_gatherEnds_91 (by rfl) ?_
        have z := ih (b + 1) h1 R1 (by omega)
        rw [hgs, gsn_0 hz] at z
        have z2 := z H hr hf
        rw [show grf (gst Va b) ra = none from if_pos h0] at z2
        exact z2
      · have hz : hb Va 1 b = true := hb_t.mpr (fun w => c19 (ite01.mpr w))
        refine rx_aload_nr d_Repeats_gatherEnds_22 (by rfl) ?_
        refine rx_getfield d_Repeats_gatherEnds_23 fl_Repeats_24 H.1 (by rfl) ?_
        refine rx_aload_nr d_Repeats_gatherEnds_26 (by rfl) ?_
        refine rx_getfield d_Repeats_gatherEnds_27 fl_Repeats_11 H.1 (by rfl) ?_
        refine rx_alen d_Repeats_gatherEnds_30 (by rfl) H.2.1 ?_
        refine rx_icmp_ge (tgt := 88) d_Repeats_gatherEnds_31 (by rfl) (fun z => absurd z (nI_ge (Nat.lt_of_le_of_lt I.1 hlt) (by omega))) (fun c31 => ?_)
        refine rx_aload_nN d_Repeats_gatherEnds_34 (by rfl) ?_
        refine rx_ifnonnull_N (tgt := 49) d_Repeats_gatherEnds_35 (by rfl) ?_
        refine rx_aload_nr d_Repeats_gatherEnds_38 (by rfl) ?_
        refine rx_aload_nr d_Repeats_gatherEnds_39 (by rfl) ?_
        refine rx_iconst (v := 0) d_Repeats_gatherEnds_40 (by decide) ?_
        refine rx_iload_n d_Repeats_gatherEnds_41 (by rfl) ?_
        refine rx_pV d_Repeats_gatherEnds_42 (by rfl) ml_Repeats_42 im_Repeats_begin se_Repeats_begin (by exact c9_Repeats_begin) H.1 (by rfl) (by exact Nat.le_of_ble_eq_true rfl) (c_begin hp1 H (Nat.lt_of_le_of_lt I.1 hlt) 0 (nI b) rfl) ?_
        intro h2 z9
        obtain ⟨H2, f2⟩ := z9
        refine rx_astore_nr d_Repeats_gatherEnds_45 (Nat.le_of_ble_eq_true rfl) ?_
        refine rx_goto (tgt := 76) d_Repeats_gatherEnds_46 (by rfl) ?_
        refine l_ge76 hD H2 (Nat.lt_of_le_of_lt I.1 hlt) hlt (fun h4 H4 f4 => ?_)
        have z := fun R9 => ih (b + 1) h4 R9 (by omega)
        have hbe : (gst Va b).2.1 = 0 := I.2.2.1 h0
        rw [hgs, gsn_n hz (Or.inl h0)] at z
        have z2 := z _ (by have w := H4; rw [show (some (ra (gst Va b).1) : Option Nat) = (some (gst Va b).1).map ra from rfl, up_map] at w; exact w) (rof_n hr (by rw [hbe]; exact lwi_gfi (f := 0) hn (by decide) hlt) hv1) ((hf.tr (f2.mo fp_g_rp)).tr f4)
        exact z2
    · rw [show grf (gst Va b) ra = some (ra ((gst Va b).1 - 1)) from if_neg h0]
      show rx_W V (d + 3) kc ks m_Repeats_gatherEnds 4 [some (.ref a), some (.ref aP), some (.ref (ra ((gst Va b).1 - 1))), some (.int (nI b))] [] h1 _
      have hq : (gst Va b).1 - 1 < (gst Va b).1 := by omega
      have hqn : (gst Va b).1 - 1 < n := Nat.lt_of_lt_of_le hq (Nat.le_trans I.1 (Nat.le_of_lt hlt))
      have hc := H.2.2.2.2.2.1 _ hqn
      have hL : R1 ((gst Va b).1 - 1) 2 + 1 = nI (gst Va b).2.1 := by
        rw [(hr _ hq).2.2.1, nI_1, I.2.2.2.1 _ (show (gst Va b).1 = ((gst Va b).1 - 1) + 1 by omega)]
      have hbe : (gst Va b).2.1 ≤ b := I.2.1
      have hv2 : pgv n Va (nI (gst Va b).2.1) 2 = Va (10 * (gst Va b).2.1 + 2) := pgv_k hn (by omega) (by omega) rfl
      refine rx_iload_n d_Repeats_gatherEnds_4 (by rfl) ?_
      refine rx_aload_nr d_Repeats_gatherEnds_5 (by rfl) ?_
      refine rx_getfield d_Repeats_gatherEnds_6 fl_Repeats_17 H.1 (by rfl) ?_
      refine rx_alen d_Repeats_gatherEnds_9 (by rfl) H.2.2.1 ?_
      refine rx_icmp_ge (tgt := 94) d_Repeats_gatherEnds_10 (by rfl) (fun z => absurd z (nI_ge hlt (by omega))) (fun c10 => ?_)
      refine rx_aload_nr d_Repeats_gatherEnds_13 (by rfl) ?_
      refine rx_iload_n d_Repeats_gatherEnds_14 (by rfl) ?_
      refine rx_iconst (v := 1) d_Repeats_gatherEnds_15 (by decide) ?_
      refine rx_cV d_Repeats_gatherEnds_16 (by rfl) ml_Repeats_36 im_Page_has se_Page_has (by exact c9_Page_has) hp1.1 (by rfl) (by exact Nat.le_of_ble_eq_true rfl) (c_has hp1 (nI b) 1) ?_
      rw [hv1]
      refine rx_if_eq (tgt := 88) d_Repeats_gatherEnds_19 (by rfl) (fun c19 => ?_) (fun c19 => ?_)
      · have hz : hb Va 1 b = false := hb_f.mpr (ite01.mp c19)
        refine rx_iinc (v := nI (b + 1)) d_Repeats_gatherEnds_88 (by rfl) (i_inc b) ?_
        refine rx_goto (tgt := 4) d_Repeats_gatherEnds_91 (by rfl) ?_
        have z := ih (b + 1) h1 R1 (by omega)
        rw [hgs, gsn_0 hz] at z
        have z2 := z H hr hf
        rw [show grf (gst Va b) ra = some (ra ((gst Va b).1 - 1)) from if_neg h0] at z2
        exact z2
      · have hz : hb Va 1 b = true := hb_t.mpr (fun w => c19 (ite01.mpr w))
        refine rx_aload_nr d_Repeats_gatherEnds_22 (by rfl) ?_
        refine rx_getfield d_Repeats_gatherEnds_23 fl_Repeats_24 H.1 (by rfl) ?_
        refine rx_aload_nr d_Repeats_gatherEnds_26 (by rfl) ?_
        refine rx_getfield d_Repeats_gatherEnds_27 fl_Repeats_11 H.1 (by rfl) ?_
        refine rx_alen d_Repeats_gatherEnds_30 (by rfl) H.2.1 ?_
        refine rx_icmp_ge (tgt := 88) d_Repeats_gatherEnds_31 (by rfl) (fun z => absurd z (nI_ge (Nat.lt_of_le_of_lt I.1 hlt) (by omega))) (fun c31 => ?_)
        refine rx_aload_nr d_Repeats_gatherEnds_34 (by rfl) ?_
        refine rx_ifnonnull_r (tgt := 49) d_Repeats_gatherEnds_35 (by rfl) ?_
        refine rx_aload_nr d_Repeats_gatherEnds_49 (by rfl) ?_
        refine rx_aload_nr d_Repeats_gatherEnds_50 (by rfl) ?_
        refine rx_getfield d_Repeats_gatherEnds_51 fl_Repeats_46 hc (by rfl) ?_
        refine rx_iconst (v := 1) d_Repeats_gatherEnds_54 (by decide) ?_
        refine rx_iadd d_Repeats_gatherEnds_55 ?_
        rw [hL]
        refine rx_iload_n d_Repeats_gatherEnds_56 (by rfl) ?_
        refine rx_cS d_Repeats_gatherEnds_57 ml_Repeats_49 st_Repeats_goesOn (by exact c9_Repeats_goesOn) (by rfl) (by exact Nat.le_of_ble_eq_true rfl) (c_goesOn hp1 (nI (gst Va b).2.1) (nI b)) ?_
        rw [hv2]
        refine rx_if_ne (tgt := 76) d_Repeats_gatherEnds_60 (by rfl) (fun c60 => ?_) (fun c60 => ?_)
        · have hg : gon Va (gst Va b).2.1 b = true := by
            have w := ite11.mp c60
            unfold gon
            rw [hb_t.mpr w.1, decide_eq_true ((lwi_m1 hn (by omega) hlt).mp w.2)]
            rfl
          first
          | refine l_ge76 hD H2 (Nat.lt_of_le_of_lt I.1 hlt) hlt (fun h4 H4 f4 => ?_)
            have z := fun R9 => ih (b + 1) h4 R9 (by omega)
            rw [hgs, gsn_n hz (Or.inr hg)] at z
            have z2 := z _ (by have w := H4; rw [show (some (ra (gst Va b).1) : Option Nat) = (some (gst Va b).1).map ra from rfl, up_map] at w; exact w) (rof_n hr (lwi_gfi hn (by omega) hlt) hv1) ((hf.tr (f2.mo fp_g_rp)).tr f4)
            exact z2
          | refine l_ge76 hD H hqn hlt (fun h4 H4 f4 => ?_)
            have z := fun R9 => ih (b + 1) h4 R9 (by omega)
            rw [hgs, gsn_g hz h0 hg] at z
            have z2 := z _ (by have w := H4; rw [show (some (ra ((gst Va b).1 - 1)) : Option Nat) = (some ((gst Va b).1 - 1)).map ra from rfl, up_map] at w; exact w) (rof_g hr) (hf.tr f4)
            rw [show grf (ggo (gst Va b) b) ra = some (ra ((gst Va b).1 - 1)) from if_neg h0] at z2
            exact z2
        · have hg : gon Va (gst Va b).2.1 b = false := by
            have w := ite10.mp c60
            unfold gon
            cases w2 : hb Va 2 (gst Va b).2.1 with
            | false => rfl
            | true => exact decide_eq_false (fun w3 => w ⟨hb_t.mp w2, (lwi_m1 hn (by omega) hlt).mpr w3⟩)
          refine rx_aload_nr d_Repeats_gatherEnds_63 (by rfl) ?_
          refine rx_aload_nr d_Repeats_gatherEnds_64 (by rfl) ?_
          refine rx_aload_nr d_Repeats_gatherEnds_65 (by rfl) ?_
          refine rx_getfield d_Repeats_gatherEnds_66 fl_Repeats_46 hc (by rfl) ?_
          refine rx_iconst (v := 1) d_Repeats_gatherEnds_69 (by decide) ?_
          refine rx_iadd d_Repeats_gatherEnds_70 ?_
          rw [hL]
          refine rx_iload_n d_Repeats_gatherEnds_71 (by rfl) ?_
          refine rx_pV d_Repeats_gatherEnds_72 (by rfl) ml_Repeats_42 im_Repeats_begin se_Repeats_begin (by exact c9_Repeats_begin) H.1 (by rfl) (by exact Nat.le_of_ble_eq_true rfl) (c_begin hp1 H (Nat.lt_of_le_of_lt I.1 hlt) (nI (gst Va b).2.1) (nI b) rfl) ?_
          intro h2 z9
          obtain ⟨H2, f2⟩ := z9
          refine rx_astore_nr d_Repeats_gatherEnds_75 (Nat.le_of_ble_eq_true rfl) ?_
          first
          | refine l_ge76 hD H2 (Nat.lt_of_le_of_lt I.1 hlt) hlt (fun h4 H4 f4 => ?_)
            have z := fun R9 => ih (b + 1) h4 R9 (by omega)
            rw [hgs, gsn_n hz (Or.inr hg)] at z
            have z2 := z _ (by have w := H4; rw [show (some (ra (gst Va b).1) : Option Nat) = (some (gst Va b).1).map ra from rfl, up_map] at w; exact w) (rof_n hr (lwi_gfi hn (by omega) hlt) hv1) ((hf.tr (f2.mo fp_g_rp)).tr f4)
            exact z2
          | refine l_ge76 hD H hqn hlt (fun h4 H4 f4 => ?_)
            have z := fun R9 => ih (b + 1) h4 R9 (by omega)
            rw [hgs, gsn_g hz h0 hg] at z
            have z2 := z _ (by have w := H4; rw [show (some (ra ((gst Va b).1 - 1)) : Option Nat) = (some ((gst Va b).1 - 1)).map ra from rfl, up_map] at w; exact w) (rof_g hr) (hf.tr f4)
            rw [show grf (ggo (gst Va b) b) ra = some (ra ((gst Va b).1 - 1)) from if_neg h0] at z2
            exact z2
theorem c_gatherEnds (hD : aA ≠ aE ∧ aA ≠ aG ∧ aE ≠ aG) (hp : is_pg V h aP n al at_ av Le Te Va) (H : is_rp V h a n aA aE aG 0 fA (fun _ => none) fG ra R) : rx_C V (d + 3) kc ks m_Repeats_gatherEnds [.ref a, .ref aP] h (fun r h' => r = .inl none ∧ ∃ R', is_rp V h' a n aA aE aG (gst Va n).1 fA (fun x => (gO (gst Va n) x).map ra) fG ra R' ∧ rof (gst Va n) R' ∧ rx_fr V h h' (fp_g a n aE aG ra)) := by
  refine rx_null d_Repeats_gatherEnds_0 ?_
  refine rx_astore_nN d_Repeats_gatherEnds_1 (Nat.le_of_ble_eq_true rfl) ?_
  refine rx_iconst (v := 0) d_Repeats_gatherEnds_2 (by decide) ?_
  refine rx_istore_n d_Repeats_gatherEnds_3 (Nat.le_of_ble_eq_true rfl) ?_
  exact l_gatherEnds hD hp H n 0 h R (by omega) H (fun r hr => absurd hr (Nat.not_lt_zero r)) rx_fr.rf
end GE
