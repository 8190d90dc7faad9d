/-! Road.walk -/
def wsp (n : Nat) (Va : Nat → Int32) (s : gT) (g : Nat → Option Nat) (x : wT × Option Nat) : wT × Option Nat := match x.2 with
  | none => x
  | some c => wnx n Va s (wlv Va s g x.1 (win n Va s g x.1 c)) (win n Va s g x.1 c) (wag s x.1 (win n Va s g x.1 c))
def wsq (n : Nat) (Va : Nat → Int32) (s : gT) (g : Nat → Option Nat) : Nat → wT × Option Nat
  | 0 => ((fun _ => 1, false, false, 0, true), some 0)
  | k + 1 => wsp n Va s g (wsq n Va s g k)
/-- the bar played at place k -/
def wbr (n : Nat) (Va : Nat → Int32) (s : gT) (g : Nat → Option Nat) (k : Nat) : Nat := match (wsq n Va s g k).2 with
  | none => 0
  | some c => win n Va s g (wsq n Va s g k).1 c
def NF (n : Nat) (Va : Nat → Int32) (s : gT) (g : Nat → Option Nat) : Prop := ∀ k b, 1 ≤ k → k ≤ 7 → b < n → ¬ FT n Va s g k b
def WI (n : Nat) (Va : Nat → Int32) (s : gT) (x : wT × Option Nat) : Prop := (∀ r, r < s.1 → 1 ≤ x.1.1 r ∧ x.1.1 r ≤ cn s r) ∧ (∀ c, x.2 = some c → c < n) ∧ (x.1.2.1 = true → x.1.2.2.2.1 = 2 → ∃ y, y < n ∧ hb Va 4 y = true)
theorem win_ran {n : Nat} {Va : Nat → Int32} {s : gT} {g : Nat → Option Nat} {w : wT} {c : Nat} (hg : ∀ x r, g x = some r → x < n) (hc : c < n) : c ≤ win n Va s g w c ∧ win n Va s g w c < n := by
  unfold win
  cases hgc : g c with
  | none => exact ⟨Nat.le_refl _, hc⟩
  | some r =>
    show c ≤ wif n Va g r (wdu s w r) c ∧ wif n Va g r (wdu s w r) c < n
    unfold wif
    cases e : fix (fun e => decide (g e = some r) && bt Va e (wdu s w r)) c (n - c) with
    | some x =>
      obtain ⟨j1, j2, -, -⟩ := fix_s e
      show c ≤ x ∧ x < n
      omega
    | none =>
      show c ≤ lsg n g r ∧ lsg n g r < n
      unfold lsg
      obtain e | ⟨j, e1, e2, e3, e4⟩ := lwf_ran (fun e => decide (g e = some r)) 0 n
      · exact absurd ((lwf_m1.mp e c (by omega) hc).symm.trans (decide_eq_true hgc)) (by decide)
      · rw [e1]
        have key : ∀ m, lwf (fun e => decide (g e = some r)) 0 m = (j : Int) → ∀ y, y < m → decide (g y = some r) = true → y ≤ j := by
          intro m
          induction m with
          | zero => intro _ y h; omega
          | succ m ih =>
            intro hm y hy1 hy2
            cases hp : decide (g m = some r) with
            | true => rw [lwf_yes (by omega) hp] at hm; omega
            | false =>
              rw [lwf_no (by omega) hp] at hm
              by_cases e : y = m
              · rw [e, hp] at hy2; cases hy2
              · exact ih hm y (by omega) hy2
        have := key n e1 c hc (decide_eq_true hgc)
        show c ≤ ((j : Int)).toNat ∧ ((j : Int)).toNat < n
        omega
theorem nf6 {n : Nat} {Va : Nat → Int32} {s : gT} {g : Nat → Option Nat} {b : Nat} (F : NF n Va s g) (hbn : b < n) (h : hb Va 7 b = true) : ¬ jta n Va b = -1 := fun z => F 6 b (by omega) (by omega) hbn ⟨h, z⟩
theorem nf7 {n : Nat} {Va : Nat → Int32} {s : gT} {g : Nat → Option Nat} {b : Nat} (hn : n ≤ 20) (F : NF n Va s g) (hbn : b < n) (h : hb Va 7 b = true) (h2 : jwy (Va (10 * b + 7)) = 2) : ∃ y, y < n ∧ b < y ∧ hb Va 4 y = true := by
  have z : ¬ lwi n Va 4 (nI (b + 1)) (nI n - 1) = -1 := fun z => F 7 b (by omega) (by omega) hbn ⟨h, Or.inr ⟨h2, Or.inr z⟩⟩
  have e0 : nI n - 1 = nI (n - 1) := by
    cases n with
    | zero => omega
    | succ j => exact nI_pred j
  rw [e0, lwi_m1 hn (by omega) (by omega)] at z
  obtain e | ⟨j, e1, e2, e3, e4⟩ := lwf_ran (hb Va 4) ((b + 1 : Nat) : Int) (n - 1 + 1)
  · exact absurd e z
  · exact ⟨j, by omega, by omega, e4⟩
theorem WI_s {n : Nat} {Va : Nat → Int32} {s : gT} {g : Nat → Option Nat} {x : wT × Option Nat} (hn : n ≤ 20) (G : gN n Va s g) (F : NF n Va s g) (W : WI n Va s x) : WI n Va s (wsp n Va s g x) := by
  unfold wsp
  cases hc : x.2 with
  | none => exact W
  | some c =>
    obtain ⟨W1, W2, W3⟩ := W
    have hcn := W2 c hc
    obtain ⟨-, hbn⟩ := win_ran (Va := Va) (s := s) (w := x.1) (fun y r z => (G.2.1 y r z).2.1) hcn
    show WI n Va s (wnx n Va s (wlv Va s g x.1 (win n Va s g x.1 c)) (win n Va s g x.1 c) (wag s x.1 (win n Va s g x.1 c)))
    generalize win n Va s g x.1 c = b at hbn
    generalize wag s x.1 b = ag
    have L : (∀ r, r < s.1 → 1 ≤ (wlv Va s g x.1 b).1 r ∧ (wlv Va s g x.1 b).1 r ≤ cn s r) ∧ (wlv Va s g x.1 b).2 = x.1.2 := by
      unfold wlv
      cases hg : g b with
      | none => exact ⟨W1, rfl⟩
      | some r0 =>
        by_cases c0 : bt Va b (cn s r0) = true
        · show (∀ r, r < s.1 → 1 ≤ (if bt Va b (cn s r0) = true then (up x.1.1 r0 1, x.1.2) else x.1).1 r ∧ (if bt Va b (cn s r0) = true then (up x.1.1 r0 1, x.1.2) else x.1).1 r ≤ cn s r) ∧ (if bt Va b (cn s r0) = true then (up x.1.1 r0 1, x.1.2) else x.1).2 = x.1.2
          rw [if_pos c0]
          refine ⟨fun r hr => ?_, rfl⟩
          show 1 ≤ up x.1.1 r0 1 r ∧ up x.1.1 r0 1 r ≤ cn s r
          by_cases e : r = r0
          · rw [e, up_s]; have := G.2.2 r0 (G.2.1 b r0 hg).1; omega
          · rw [up_o e]; exact W1 r hr
        · show (∀ r, r < s.1 → 1 ≤ (if bt Va b (cn s r0) = true then (up x.1.1 r0 1, x.1.2) else x.1).1 r ∧ (if bt Va b (cn s r0) = true then (up x.1.1 r0 1, x.1.2) else x.1).1 r ≤ cn s r) ∧ (if bt Va b (cn s r0) = true then (up x.1.1 r0 1, x.1.2) else x.1).2 = x.1.2
          rw [if_neg c0]
          exact ⟨W1, rfl⟩
    have W3' : (wlv Va s g x.1 b).2.1 = true → (wlv Va s g x.1 b).2.2.2.1 = 2 → ∃ y, y < n ∧ hb Va 4 y = true := by rw [L.2]; exact W3
    have L1 := L.1
    generalize wlv Va s g x.1 b = w at L1 W3'
    have key : ∀ w : wT, (∀ r, r < s.1 → 1 ≤ w.1 r ∧ w.1 r ≤ cn s r) → (w.2.1 = true → w.2.2.2.1 = 2 → ∃ y, y < n ∧ hb Va 4 y = true) → WI n Va s (wn2 n Va w b ag) := by
      intro w L1 W3
      unfold wn2
      by_cases c1 : ag = false ∧ w.2.1 = true ∧ w.2.2.2.1 = 1 ∧ hb Va 5 b = true
      · rw [if_pos c1]
        exact ⟨L1, fun c z => (nomatch z), W3⟩
      · rw [if_neg c1]
        by_cases c2 : ag = false ∧ w.2.1 = true ∧ w.2.2.2.1 = 2 ∧ w.2.2.1 = false ∧ hb Va 6 b = true
        · rw [if_pos c2]
          refine ⟨L1, fun c z => ?_, W3⟩
          obtain ⟨j, j1, j2, -⟩ := hb_ex (W3 c2.2.1 c2.2.2.1)
          have z : wco n Va = c := Option.some.inj z
          unfold wco at z
          rw [j1] at z
          omega
        · rw [if_neg c2]
          by_cases c3 : ag = false ∧ w.2.1 = false ∧ hb Va 7 b = true
          · rw [if_pos c3]
            refine ⟨fun r hr => ?_, fun c z => ?_, fun _ z => ?_⟩
            · show 1 ≤ 1 ∧ 1 ≤ cn s r
              have := G.2.2 r hr; omega
            · have z : wta Va b = c := Option.some.inj z
              have := (wta_eq hn hbn (nf6 F hbn c3.2.2)).2
              omega
            · obtain ⟨y, y1, -, y3⟩ := nf7 hn F hbn c3.2.2 z
              exact ⟨y, y1, y3⟩
          · rw [if_neg c3]
            refine ⟨L1, fun c z => ?_, W3⟩
            by_cases c4 : b + 1 < n
            · have z : (if b + 1 < n then some (b + 1) else none) = some c := z
              rw [if_pos c4] at z
              have := Option.some.inj z
              omega
            · have z : (if b + 1 < n then some (b + 1) else none) = some c := z
              rw [if_neg c4] at z
              cases z
    unfold wnx
    cases hO : gO s b with
    | none => exact key w L1 W3'
    | some r =>
      have hrn := (G.1.2.2.2.2.2.2.1 b r hO).1
      show WI n Va s (if w.2.2.2.2 = true then (if w.1 r < cn s r then ((up w.1 r (w.1 r + 1), w.2), some (gF s r)) else wn2 n Va (up w.1 r 1, w.2) b ag) else wn2 n Va w b ag)
      by_cases c5 : w.2.2.2.2 = true
      · rw [if_pos c5]
        by_cases c6 : w.1 r < cn s r
        · rw [if_pos c6]
          refine ⟨fun r' hr' => ?_, fun c z => ?_, W3'⟩
          · show 1 ≤ up w.1 r (w.1 r + 1) r' ∧ up w.1 r (w.1 r + 1) r' ≤ cn s r'
            by_cases e : r' = r
            · rw [e, up_s]; omega
            · rw [up_o e]; exact L1 r' hr'
          · have z : gF s r = c := Option.some.inj z
            have j := G.1.2.2.2.2.1 r hrn
            have := G.1.2.1
            omega
        · rw [if_neg c6]
          refine key _ (fun r' hr' => ?_) W3'
          show 1 ≤ up w.1 r 1 r' ∧ up w.1 r 1 r' ≤ cn s r'
          by_cases e : r' = r
          · rw [e, up_s]; have := G.2.2 r hrn; omega
          · rw [up_o e]; exact L1 r' hr'
      · rw [if_neg c5]
        exact key w L1 W3'
theorem WI_k {n : Nat} {Va : Nat → Int32} {s : gT} {g : Nat → Option Nat} (hn : n ≤ 20) (h0 : 0 < n) (G : gN n Va s g) (F : NF n Va s g) : ∀ k, WI n Va s (wsq n Va s g k) := by
  intro k
  induction k with
  | zero => exact ⟨fun r hr => by show 1 ≤ 1 ∧ 1 ≤ cn s r; have := G.2.2 r hr; omega, fun c z => by have z : 0 = c := Option.some.inj z; omega, fun z => (nomatch z)⟩
  | succ k ih => exact WI_s hn G F ih
theorem is_rd.ar {V : rx_V} {h : List va_E} {a aO n N : Nat} {jm wo wy tk : Int32} {f f' : Nat → Int32} (D : is_rd V h a aO n N jm wo wy tk f) : is_rd V (rx_wr V h aO (.inl (V.2.2.2.1 0, n * 12, .inl f'))) a aO n N jm wo wy tk f' :=
  ⟨(rx_rd_wn D.2.1 (rx_ne D.1 D.2.1 (fun z => by cases z))).trans D.1, rx_rd_wr D.2.1, D.2.2⟩
def fp_w (a aO n : Nat) (ra : Nat → Nat) : Nat → Prop := fun q => q = a ∨ q = aO ∨ fp_ra n ra q
section W3
variable {V : rx_V} {d kc ks a aO aR n N aA aE aG aP al at_ av : Nat} {h : List va_E} {fA : Nat → Option Nat} {ra : Nat → Nat} {R : Nat → Nat → Int32} {Le Te Va f : Nat → Int32} {s : gT} {g : Nat → Option Nat}
theorem l_walk (h0 : 0 < n) (hO : aO ≠ al ∧ aO ≠ at_ ∧ aO ≠ av) (hN : N ≤ n * 12) (hN0 : (wsq n Va s g N).2 = none) (hN1 : ∀ k, k < N → ∃ c, (wsq n Va s g k).2 = some c) (G : gN n Va s g) (F : NF n Va s g) : ∀ (m k : Nat) (h1 : List va_E) (R1 : Nat → Nat → Int32) (f1 : Nat → Int32) (x4 x5 : Option Value), k + m = N → is_pg V h1 aP n al at_ av Le Te Va → is_rp V h1 aR n aA aE aG s.1 fA (fun x => (gO s x).map ra) (fun x => (g x).map ra) ra R1 → roG s g R1 → (∀ r, r < s.1 → R1 r 6 = nI ((wsq n Va s g k).1.1 r)) → is_rd V h1 a aO n k (bi (wsq n Va s g k).1.2.1) (bi (wsq n Va s g k).1.2.2.1) (wsq n Va s g k).1.2.2.2.1 (bi (wsq n Va s g k).1.2.2.2.2) f1 → (∀ j, j < k → f1 j = nI (wbr n Va s g j)) → rx_fr V h h1 (fp_w a aO n ra) →
    rx_W V (d + 5) kc ks m_Road_walk 31 [some (.ref a), some (.ref aP), some (.ref aR), some (.int (onx (wsq n Va s g k).2)), x4, x5] [] h1 (fun r9 h' => r9 = .inl none ∧ (∃ R', is_rp V h' aR n aA aE aG s.1 fA (fun x => (gO s x).map ra) (fun x => (g x).map ra) ra R' ∧ roG s g R') ∧ (∃ jm wo wy tk f', is_rd V h' a aO n N jm wo wy tk f' ∧ ∀ j, j < N → f' j = nI (wbr n Va s g j)) ∧ rx_fr V h h' (fp_w a aO n ra)) := by
  intro m
  induction m with
  | zero =>
    intro k h1 R1 f1 x4 x5 hk hp H hr hps D hf1 hf
    have e : k = N := by omega
    subst e
    rw [hN0]
    refine rx_iload_n d_Road_walk_31 (by rfl) ?_
    refine rx_iconst (v := -1) d_Road_walk_32 (by decide) ?_
    refine rx_icmp_eq (tgt := 108) d_Road_walk_33 (by rfl) (fun c33 => ?_) (fun z => absurd rfl z)
    refine rx_vreturn d_Road_walk_108 (by rfl) ?_
    exact ⟨rfl, ⟨R1, H, hr⟩, ⟨_, _, _, _, f1, D, hf1⟩, hf⟩
  | succ m ih =>
    intro k h1 R1 f1 x4 x5 hk hp H hr hps D hf1 hf
    have hn := H.n20
    obtain ⟨W1, W2, W3⟩ := WI_k hn h0 G F k
    have hps : ∀ r, r < s.1 → R1 r 6 = nI ((wsq n Va s g k).1.1 r) ∧ (wsq n Va s g k).1.1 r ≤ 4 := fun r hr9 => ⟨hps r hr9, Nat.le_trans (W1 r hr9).2 (G.2.2 r hr9).2.2⟩
    obtain ⟨c, hc⟩ := hN1 k (by omega)
    have hcn := W2 c hc
    obtain ⟨-, hbn⟩ := win_ran (Va := Va) (s := s) (w := (wsq n Va s g k).1) (fun y r z => (G.2.1 y r z).2.1) hcn
    have ebr : wbr n Va s g k = win n Va s g (wsq n Va s g k).1 c := by unfold wbr; rw [hc]
    have enx : wsq n Va s g (k + 1) = wnx n Va s (wlv Va s g (wsq n Va s g k).1 (wbr n Va s g k)) (wbr n Va s g k) (wag s (wsq n Va s g k).1 (wbr n Va s g k)) := by
      rw [ebr]
      show wsp n Va s g (wsq n Va s g k) = _
      unfold wsp
      rw [hc]
    rw [hc]
    rw [← ebr] at hbn
    have W3' : (wlv Va s g (wsq n Va s g k).1 (wbr n Va s g k)).2.1 = true → (wlv Va s g (wsq n Va s g k).1 (wbr n Va s g k)).2.2.2.1 = 2 → ∃ y, y < n ∧ hb Va 4 y = true := by
      rw [show (wlv Va s g (wsq n Va s g k).1 (wbr n Va s g k)).2 = (wsq n Va s g k).1.2 from by unfold wlv; split; rfl; split; rfl; rfl]
      exact W3
    have ewl : (wlv Va s g (wsq n Va s g k).1 (wbr n Va s g k)).2 = (wsq n Va s g k).1.2 := by unfold wlv; split; rfl; split; rfl; rfl
    refine rx_iload_n d_Road_walk_31 (by rfl) ?_
    refine rx_iconst (v := -1) d_Road_walk_32 (by decide) ?_
    refine rx_icmp_eq (tgt := 108) d_Road_walk_33 (by rfl) (fun z => absurd z (nI_m1 (by omega))) (fun c33 => ?_)
    refine rx_aload_nr d_Road_walk_36 (by rfl) ?_
    refine rx_getfield d_Road_walk_37 fl_Road_15 D.1 (by rfl) ?_
    refine rx_aload_nr d_Road_walk_40 (by rfl) ?_
    refine rx_getfield d_Road_walk_41 fl_Road_9 D.1 (by rfl) ?_
    refine rx_alen d_Road_walk_44 (by rfl) D.2.1 ?_
    refine rx_icmp_ge (tgt := 108) d_Road_walk_45 (by rfl) (fun z => absurd z (nI_ge (by omega) (by omega))) (fun c45 => ?_)
    refine rx_aload_nr d_Road_walk_48 (by rfl) ?_
    refine rx_iload_n d_Road_walk_49 (by rfl) ?_
    refine rx_aload_nr d_Road_walk_50 (by rfl) ?_
    refine rx_aload_nr d_Road_walk_51 (by rfl) ?_
    refine rx_cV d_Road_walk_52 (by rfl) ml_Road_37 im_Road_insteadOf se_Road_insteadOf (by exact c9_Road_insteadOf) D.1 (by rfl) (by exact Nat.le_of_ble_eq_true rfl) (c_insteadOf hp H hr hps G D hcn) ?_
    rw [← ebr]
    refine rx_istore d_Road_walk_55 (Nat.le_of_ble_eq_true rfl) ?_
    refine rx_aload_nr d_Road_walk_57 (by rfl) ?_
    refine rx_iload d_Road_walk_58 (by rfl) ?_
    refine rx_aload_nr d_Road_walk_60 (by rfl) ?_
    refine rx_cV d_Road_walk_61 (by rfl) ml_Road_41 im_Road_isToComeAgain se_Road_isToComeAgain (by exact c9_Road_isToComeAgain) D.1 (by rfl) (by exact Nat.le_of_ble_eq_true rfl) (c_again hp H hr hps G D hbn) ?_
    refine rx_istore d_Road_walk_64 (Nat.le_of_ble_eq_true rfl) ?_
    refine rx_iload d_Road_walk_66 (by rfl) ?_
    refine rx_aload_nr d_Road_walk_68 (by rfl) ?_
    refine rx_aload_nr d_Road_walk_69 (by rfl) ?_
    refine rx_pS d_Road_walk_70 ml_Road_45 st_Road_leaveRepeatAtLastPass (by exact c9_Road_leaveRepeatAtLastPass) (by rfl) (by exact Nat.le_of_ble_eq_true rfl) (c_leave hp H hr hps G hbn) ?_
    intro h2 z9
    obtain ⟨R2, H2, r2, p2, f2⟩ := z9
    have D2 := D.fr f2 (fun ⟨r, hr9, z⟩ => rx_ne D.1 (H.cell hr9) (fun y => by cases y) z) (fun ⟨r, hr9, z⟩ => rx_ne D.2.1 (H.cell hr9) (fun y => by cases y) z)
    have hp2 := hp.frg H (f2.mo (fun q z => fp_g_ra q z))
    rw [← ewl] at D2
    refine rx_aload_nr d_Road_walk_73 (by rfl) ?_
    refine rx_getfield d_Road_walk_74 fl_Road_9 D2.1 (by rfl) ?_
    refine rx_aload_nr d_Road_walk_77 (by rfl) ?_
    refine rx_getfield d_Road_walk_78 fl_Road_15 D2.1 (by rfl) ?_
    refine rx_iload d_Road_walk_81 (by rfl) ?_
    refine rx_iastore d_Road_walk_83 (by rfl) D2.2.1 (vp_in_nI (by omega) (by omega)) ?_
    rw [i_cl (by omega)]
    have D3 := D2.ar (f' := upd f1 k (nI (wbr n Va s g k)))
    have H3 := H2.wo (e := .inl (V.2.2.2.1 0, n * 12, .inl (upd f1 k (nI (wbr n Va s g k))))) D2.2.1 (fun _ z => by cases z) (fun _ z => by cases z) (fun _ _ _ z => by cases z)
    have hp3 := hp2.wr (e := .inl (V.2.2.2.1 0, n * 12, .inl (upd f1 k (nI (wbr n Va s g k))))) D2.2.1 (rx_ne hp2.1 D2.2.1 (fun y => by cases y)) (Ne.symm hO.1) (Ne.symm hO.2.1) (Ne.symm hO.2.2)
    refine rx_aload_nr d_Road_walk_84 (by rfl) ?_
    refine rx_dup d_Road_walk_85 (by rfl) ?_
    refine rx_getfield d_Road_walk_86 fl_Road_15 D3.1 (by rfl) ?_
    refine rx_iconst (v := 1) d_Road_walk_89 (by decide) ?_
    refine rx_iadd d_Road_walk_90 ?_
    rw [nI_1]
    refine rx_putfield d_Road_walk_91 (fw_Road_15 rfl) D3.1 (Nat.le_of_ble_eq_true rfl) (by rfl) (by rfl) ?_
    have D4 := D3.ob (N' := k + 1) (jm' := bi (wlv Va s g (wsq n Va s g k).1 (wbr n Va s g k)).2.1) (wo' := bi (wlv Va s g (wsq n Va s g k).1 (wbr n Va s g k)).2.2.1) (wy' := (wlv Va s g (wsq n Va s g k).1 (wbr n Va s g k)).2.2.2.1) (tk' := bi (wlv Va s g (wsq n Va s g k).1 (wbr n Va s g k)).2.2.2.2) (by omega)
    have H4 := H3.wo (e := .inr (5, [.ref aO, .int (nI (k + 1)), .int (bi (wlv Va s g (wsq n Va s g k).1 (wbr n Va s g k)).2.1), .int (bi (wlv Va s g (wsq n Va s g k).1 (wbr n Va s g k)).2.2.1), .int (wlv Va s g (wsq n Va s g k).1 (wbr n Va s g k)).2.2.2.1, .int (bi (wlv Va s g (wsq n Va s g k).1 (wbr n Va s g k)).2.2.2.2)])) D3.1 (fun _ z => by cases z) (fun _ z => by cases z) (fun _ _ _ z => by cases z)
    have hp4 := hp3.wr (e := .inr (5, [.ref aO, .int (nI (k + 1)), .int (bi (wlv Va s g (wsq n Va s g k).1 (wbr n Va s g k)).2.1), .int (bi (wlv Va s g (wsq n Va s g k).1 (wbr n Va s g k)).2.2.1), .int (wlv Va s g (wsq n Va s g k).1 (wbr n Va s g k)).2.2.2.1, .int (bi (wlv Va s g (wsq n Va s g k).1 (wbr n Va s g k)).2.2.2.2)])) D3.1 (rx_ne hp3.1 D3.1 (fun y => by cases y)) (rx_ne hp3.2.1 D3.1 (fun y => by cases y)) (rx_ne hp3.2.2.1 D3.1 (fun y => by cases y)) (rx_ne hp3.2.2.2.1 D3.1 (fun y => by cases y))
    refine rx_aload_nr d_Road_walk_94 (by rfl) ?_
    refine rx_iload d_Road_walk_95 (by rfl) ?_
    refine rx_iload d_Road_walk_97 (by rfl) ?_
    refine rx_aload_nr d_Road_walk_99 (by rfl) ?_
    refine rx_aload_nr d_Road_walk_100 (by rfl) ?_
    refine rx_pV d_Road_walk_101 (by rfl) ml_Road_49 im_Road_behind se_Road_behind (by exact c9_Road_behind) D4.1 (by rfl) (by exact Nat.le_of_ble_eq_true rfl) (c_behind hp4 H4 r2 p2 G D4 hbn (nf6 F hbn) W3') ?_
    intro h5 z9
    obtain ⟨⟨R5, H5, r5, p5⟩, D5, f5⟩ := z9
    rw [← enx] at p5 D5 ⊢
    have hp5 := hp4.fr f5 (fun z => z.elim (fun y => rx_ne hp4.1 D4.1 (fun y => by cases y) y) (fun ⟨r, hr9, y⟩ => rx_ne hp4.1 (H4.cell hr9) (fun y => by cases y) y)) (fun z => z.elim (fun y => rx_ne hp4.2.1 D4.1 (fun y => by cases y) y) (fun ⟨r, hr9, y⟩ => rx_ne hp4.2.1 (H4.cell hr9) (fun y => by cases y) y)) (fun z => z.elim (fun y => rx_ne hp4.2.2.1 D4.1 (fun y => by cases y) y) (fun ⟨r, hr9, y⟩ => rx_ne hp4.2.2.1 (H4.cell hr9) (fun y => by cases y) y)) (fun z => z.elim (fun y => rx_ne hp4.2.2.2.1 D4.1 (fun y => by cases y) y) (fun ⟨r, hr9, y⟩ => rx_ne hp4.2.2.2.1 (H4.cell hr9) (fun y => by cases y) y))
    refine rx_istore_n d_Road_walk_104 (Nat.le_of_ble_eq_true rfl) ?_
    refine rx_goto (tgt := 31) d_Road_walk_105 (by rfl) ?_
    refine ih (k + 1) h5 R5 _ _ _ (by omega) hp5 H5 r5 (fun r hr9 => (p5 r hr9).1) D5 (fun j hj => ?_) ((((hf.tr (f2.mo (fun q z => Or.inr (Or.inr z)))).tr (rx_fr.wr D2.2.1 (Or.inr (Or.inl rfl)))).tr (rx_fr.wr D3.1 (Or.inl rfl))).tr (f5.mo (fun q z => z.elim (fun y => Or.inl y) (fun y => Or.inr (Or.inr y)))))
    rw [up_upd]
    by_cases e : j = k
    · rw [e, up_s]
    · rw [up_o e]; exact hf1 j (by omega)
theorem c_walk (h0 : 0 < n) (hO : aO ≠ al ∧ aO ≠ at_ ∧ aO ≠ av) (hN : N ≤ n * 12) (hN0 : (wsq n Va s g N).2 = none) (hN1 : ∀ k, k < N → ∃ c, (wsq n Va s g k).2 = some c) (G : gN n Va s g) (F : NF n Va s g) (hp : is_pg V h aP n al at_ av Le Te Va) (H : is_rp V h aR n aA aE aG s.1 fA (fun x => (gO s x).map ra) (fun x => (g x).map ra) ra R) (hr : roG s g R) {N0 : Nat} {jm wo wy tk : Int32} (D : is_rd V h a aO n N0 jm wo wy tk f) : rx_C V (d + 5) kc ks m_Road_walk [.ref a, .ref aP, .ref aR] h (fun r9 h' => r9 = .inl none ∧ (∃ R', is_rp V h' aR n aA aE aG s.1 fA (fun x => (gO s x).map ra) (fun x => (g x).map ra) ra R' ∧ roG s g R') ∧ (∃ jm wo wy tk f', is_rd V h' a aO n N jm wo wy tk f' ∧ ∀ j, j < N → f' j = nI (wbr n Va s g j)) ∧ rx_fr V h h' (fp_w a aO n ra)) := by
  refine rx_aload_nr d_Road_walk_0 (by rfl) ?_
  refine rx_iconst (v := 0) d_Road_walk_1 (by decide) ?_
  refine rx_putfield d_Road_walk_2 (fw_Road_15 rfl) D.1 (Nat.le_of_ble_eq_true rfl) (by rfl) (by rfl) ?_
  have D1 := D.ob (N' := 0) (jm' := jm) (wo' := wo) (wy' := wy) (tk' := tk) (Nat.zero_le _)
  refine rx_aload_nr d_Road_walk_5 (by rfl) ?_
  refine rx_iconst (v := 0) d_Road_walk_6 (by decide) ?_
  refine rx_putfield d_Road_walk_7 (fw_Road_19 rfl) D1.1 (Nat.le_of_ble_eq_true rfl) (by rfl) (by rfl) ?_
  rw [rx_wr_wr]
  have D2 := D.ob (N' := 0) (jm' := 0) (wo' := wo) (wy' := wy) (tk' := tk) (Nat.zero_le _)
  refine rx_aload_nr d_Road_walk_10 (by rfl) ?_
  refine rx_iconst (v := 0) d_Road_walk_11 (by decide) ?_
  refine rx_putfield d_Road_walk_12 (fw_Road_23 rfl) D2.1 (Nat.le_of_ble_eq_true rfl) (by rfl) (by rfl) ?_
  rw [rx_wr_wr]
  have D3 := D.ob (N' := 0) (jm' := 0) (wo' := 0) (wy' := wy) (tk' := tk) (Nat.zero_le _)
  refine rx_aload_nr d_Road_walk_15 (by rfl) ?_
  refine rx_iconst (v := 0) d_Road_walk_16 (by decide) ?_
  refine rx_putfield d_Road_walk_17 (fw_Road_26 rfl) D3.1 (Nat.le_of_ble_eq_true rfl) (by rfl) (by rfl) ?_
  rw [rx_wr_wr]
  have D4 := D.ob (N' := 0) (jm' := 0) (wo' := 0) (wy' := 0) (tk' := tk) (Nat.zero_le _)
  refine rx_aload_nr d_Road_walk_20 (by rfl) ?_
  refine rx_iconst (v := 1) d_Road_walk_21 (by decide) ?_
  refine rx_putfield d_Road_walk_22 (fw_Road_29 rfl) D4.1 (Nat.le_of_ble_eq_true rfl) (by rfl) (by rfl) ?_
  rw [rx_wr_wr]
  have D5 := D.ob (N' := 0) (jm' := 0) (wo' := 0) (wy' := 0) (tk' := 1) (Nat.zero_le _)
  have H5 := H.wo (e := .inr (5, [.ref aO, .int (nI 0), .int (0), .int (0), .int (0), .int (1)])) D.1 (fun _ z => by cases z) (fun _ z => by cases z) (fun _ _ _ z => by cases z)
  have hp5 := hp.wr (e := .inr (5, [.ref aO, .int (nI 0), .int (0), .int (0), .int (0), .int (1)])) D.1 (rx_ne hp.1 D.1 (fun y => by cases y)) (rx_ne hp.2.1 D.1 (fun y => by cases y)) (rx_ne hp.2.2.1 D.1 (fun y => by cases y)) (rx_ne hp.2.2.2.1 D.1 (fun y => by cases y))
  refine rx_aload_nr d_Road_walk_25 (by rfl) ?_
  refine rx_pV d_Road_walk_26 (by rfl) ml_Road_32 im_Repeats_resetPasses se_Repeats_resetPasses (by exact c9_Repeats_resetPasses) H5.1 (by rfl) (by exact Nat.le_of_ble_eq_true rfl) (c_resetPasses H5) ?_
  intro h6 z9
  obtain ⟨H6, f6⟩ := z9
  have D6 := D5.fr f6 (fun ⟨r, hr9, z⟩ => rx_ne D5.1 (H5.cell hr9) (fun y => by cases y) z) (fun ⟨r, hr9, z⟩ => rx_ne D5.2.1 (H5.cell hr9) (fun y => by cases y) z)
  have hp6 := hp5.frg H5 (f6.mo (fun q z => fp_g_ra q z))
  refine rx_iconst (v := 0) d_Road_walk_29 (by decide) ?_
  refine rx_istore_n d_Road_walk_30 (Nat.le_of_ble_eq_true rfl) ?_
  refine l_walk h0 hO hN hN0 hN1 G F N 0 h6 _ f _ _ (by omega) hp6 H6 (fun r hl => ?_) (fun r hl => if_pos ⟨hl, rfl⟩) D6 (fun j hj => absurd hj (Nat.not_lt_zero _)) ((rx_fr.wr D.1 (Or.inl rfl)).tr (f6.mo (fun q z => Or.inr (Or.inr z))))
  have := hr r hl
  simp only [show ¬ (r < s.1 ∧ (0 : Nat) = 6) from fun z => absurd z.2 (by decide), show ¬ (r < s.1 ∧ (1 : Nat) = 6) from fun z => absurd z.2 (by decide), show ¬ (r < s.1 ∧ (2 : Nat) = 6) from fun z => absurd z.2 (by decide), show ¬ (r < s.1 ∧ (3 : Nat) = 6) from fun z => absurd z.2 (by decide), show ¬ (r < s.1 ∧ (4 : Nat) = 6) from fun z => absurd z.2 (by decide), show ¬ (r < s.1 ∧ (5 : Nat) = 6) from fun z => absurd z.2 (by decide), if_false]
  exact this
end W3
