/-! the reference's findFault -/
/-- the faults of the bars before b that are found bar by bar -/
def PA (n : Nat) (Va : Nat → Int32) (s : gT) (G : Nat → Option Nat) (b k x : Nat) : Prop := x < b ∧ (k = 1 ∨ k = 2 ∨ k = 5 ∨ k = 6 ∨ k = 7) ∧ MT n Va s G k x
/-- and those of the repeats before r -/
def PR (n : Nat) (Va : Nat → Int32) (s : gT) (G : Nat → Option Nat) (r k x : Nat) : Prop := PA n Va s G n k x ∨ ∃ q, q < r ∧ ((k = 3 ∧ x < n ∧ gO s x = some q ∧ FT n Va s G 3 x) ∨ (k = 4 ∧ x = gF s q ∧ FT n Va s G 4 x))
def sgl5 (k : Nat) : Prop := k = 3 ∨ k = 4 ∨ k = 7
def F5 (Va : Nat → Int32) (b u : Nat) : Prop := ∃ k, k < u ∧ 3 ≤ k ∧ sgl5 k ∧ hb Va k b = true ∧ ∃ y, y < b ∧ hb Va k y = true
section FF
variable {V : rx_V} {d kc ks : Nat} {h h1 h2 : List va_E} {a n b : Nat} {S S0 : mT} {Va : Nat → Int32} {Q : rx_R → List va_E → Prop} {v : Int32} {s : gT} {G : Nat → Option Nat} {Pr : Nat → Nat → Prop}
theorem l_ff49 (ha : a = V.2.1 + h1.length) (hN : mN n S) (hv : vok n (S.2.2 4)) {b : Nat} (hbl : b < n) (K : ∀ v y2 y3, fI (fun k' b' => Pr k' b' ∨ (F5 (S.2.2 4) b 8 ∧ k' = 5 ∧ b' = b)) v → rx_W V (d + 5) kc ks m_Mo_findFault 119 [some (.ref a), some (.int (nI b)), y2, y3] [] (mw V h1 a (sS S 19 v) h2) Q) :
    ∀ (m u : Nat) (v : Int32) (y3 : Option Value), u + m = 8 → 3 ≤ u → fI (fun k' b' => Pr k' b' ∨ (F5 (S.2.2 4) b u ∧ k' = 5 ∧ b' = b)) v → rx_W V (d + 5) kc ks m_Mo_findFault 49 [some (.ref a), some (.int (nI b)), some (.int (nI u)), y3] [] (mw V h1 a (sS S 19 v) h2) Q := by
  have hn := hN.2
  have N9 : ∀ v, mN n (sS S 19 v) := fun _ => hN
  have hv9 : ∀ v, vok n ((sS S 19 v).2.2 4) := fun _ => hv
  intro m
  induction m with
  | zero =>
    intro u v y3 hu hu3 F
    have e : u = 8 := by omega
    subst e
    refine rx_iload_n d_Mo_findFault_49 (by rfl) ?_
    refine rx_bipush (v := 7) d_Mo_findFault_50 (by decide) ?_
    refine rx_icmp_gt (tgt := 119) d_Mo_findFault_52 (by rfl) (fun c52 => ?_) (fun z => absurd (show (7 : Int32) < nI 8 by decide) z)
    exact K v _ _ F
  | succ m ih =>
    intro u v y3 hu hu3 F
    have e0 : (nI b - 1).toInt = ((0 : Nat) : Int) + (b : Int) - 1 := by
      cases b with
      | zero => decide
      | succ j => rw [show nI (j + 1) - 1 = nI j from nI_pred j, i_n (by omega)]; omega
    have st : ∀ x1 : Int32, (¬ x1 = 0 ↔ (sgl5 u ∧ hb (S.2.2 4) u b = true ∧ ∃ y, y < b ∧ hb (S.2.2 4) u y = true)) → fI (fun k' b' => Pr k' b' ∨ (F5 (S.2.2 4) b (u + 1) ∧ k' = 5 ∧ b' = b)) (mwv v x1 (nI (100 * 5 + b))) := by
      intro x1 hx1
      refine fI_c (fI_w (x := x1) (k := 5) (b := b) F (by omega) (by omega) (by omega)) (fun k' b' => ?_)
      constructor
      · rintro ((z | ⟨⟨k2, z1, z2⟩, z3⟩) | ⟨z1, z2⟩)
        · exact Or.inl z
        · exact Or.inr ⟨⟨k2, by omega, z2⟩, z3⟩
        · exact Or.inr ⟨⟨u, by omega, hu3, hx1.mp z1⟩, z2⟩
      · rintro (z | ⟨⟨k2, z1, z2, z3⟩, z4⟩)
        · exact Or.inl (Or.inl z)
        · by_cases e : k2 = u
          · subst e; exact Or.inr ⟨hx1.mpr z3, z4⟩
          · exact Or.inl (Or.inr ⟨⟨k2, by omega, z2, z3⟩, z4⟩)
    have e77 : ∀ (sg : Int32), (¬ sg = 0 ↔ sgl5 u) → rx_W V (d + 5) kc ks m_Mo_findFault 77 [some (.ref a), some (.int (nI b)), some (.int (nI u)), some (.int sg)] [] (mw V h1 a (sS S 19 v) h2) Q := by
      intro sg hsg
      refine rx_aload_nr d_Mo_findFault_77 (by rfl) ?_
      refine rx_iload_n d_Mo_findFault_78 (by rfl) ?_
      refine rx_if_eq (tgt := 107) d_Mo_findFault_79 (by rfl) (fun c79 => ?_) (fun c79 => ?_)
      · have z9 := st 0 ⟨fun z => absurd rfl z, fun z => absurd c79 (hsg.mpr z.1)⟩
        refine rx_iconst (v := 0) d_Mo_findFault_107 (by decide) ?_
        refine rx_iconst (v := 5) d_Mo_findFault_108 (by decide) ?_
        refine rx_iload_n d_Mo_findFault_109 (by rfl) ?_
        refine rx_cV d_Mo_findFault_110 (by rfl) ml_Mo_112 im_Mo_wrong se_Mo_wrong (by exact c9_Mo_wrong) (mr0 ha) (by rfl) (by exact Nat.le_of_ble_eq_true rfl) (k_wrong ha (k := 5) (b := b) _) ?_
        refine rx_iinc (v := nI (u + 1)) d_Mo_findFault_113 (by rfl) (i_inc u) ?_
        refine rx_goto (tgt := 49) d_Mo_findFault_116 (by rfl) ?_
        exact ih (u + 1) _ _ (by omega) (by omega) z9
      · refine rx_aload_nr d_Mo_findFault_82 (by rfl) ?_
        refine rx_iload_n d_Mo_findFault_83 (by rfl) ?_
        refine rx_iload_n d_Mo_findFault_84 (by rfl) ?_
        refine rx_cV d_Mo_findFault_85 (by rfl) ml_Mo_90 im_Mo_has se_Mo_has (by exact c9_Mo_has) (mr0 ha) (by rfl) (by exact Nat.le_of_ble_eq_true rfl) (k_has ha (N9 _) (hv9 _) (b := b) (k := u) (by omega) (by omega)) ?_
        rw [hbn_1 hbl, show (sS S 19 v).2.2 4 = S.2.2 4 from rfl]
        refine rx_if_eq (tgt := 107) d_Mo_findFault_88 (by rfl) (fun c88 => ?_) (fun c88 => ?_)
        · have z9 := st 0 ⟨fun z => absurd rfl z, fun z => by rw [bi_0.mp c88] at z; cases z.2.1⟩
          refine rx_iconst (v := 0) d_Mo_findFault_107 (by decide) ?_
          refine rx_iconst (v := 5) d_Mo_findFault_108 (by decide) ?_
          refine rx_iload_n d_Mo_findFault_109 (by rfl) ?_
          refine rx_cV d_Mo_findFault_110 (by rfl) ml_Mo_112 im_Mo_wrong se_Mo_wrong (by exact c9_Mo_wrong) (mr0 ha) (by rfl) (by exact Nat.le_of_ble_eq_true rfl) (k_wrong ha (k := 5) (b := b) _) ?_
          refine rx_iinc (v := nI (u + 1)) d_Mo_findFault_113 (by rfl) (i_inc u) ?_
          refine rx_goto (tgt := 49) d_Mo_findFault_116 (by rfl) ?_
          exact ih (u + 1) _ _ (by omega) (by omega) z9
        · refine rx_aload_nr d_Mo_findFault_91 (by rfl) ?_
          refine rx_iload_n d_Mo_findFault_92 (by rfl) ?_
          refine rx_iconst (v := 0) d_Mo_findFault_93 (by decide) ?_
          refine rx_iload_n d_Mo_findFault_94 (by rfl) ?_
          refine rx_iconst (v := 1) d_Mo_findFault_95 (by decide) ?_
          refine rx_isub d_Mo_findFault_96 ?_
          refine rx_cV d_Mo_findFault_97 (by rfl) ml_Mo_122 im_Mo_isThere se_Mo_isThere (by exact c9_Mo_isThere) (mr0 ha) (by rfl) (by exact Nat.le_of_ble_eq_true rfl) (k_isThere ha (N9 _) (hv9 _) (k := u) (f := 0) (m := b) (by omega) (by omega) e0) ?_
          refine rx_if_eq (tgt := 107) d_Mo_findFault_100 (by rfl) (fun c100 => ?_) (fun c100 => ?_)
          · have c100 := (fix_in (Va := S.2.2 4) (by omega)).mp (bi_0.mp c100)
            have z9 := st 0 ⟨fun z => absurd rfl z, fun z => by
              obtain ⟨-, -, y, y1, y2⟩ := z
              rw [c100 y (by omega) (by omega)] at y2; cases y2⟩
            refine rx_iconst (v := 0) d_Mo_findFault_107 (by decide) ?_
            refine rx_iconst (v := 5) d_Mo_findFault_108 (by decide) ?_
            refine rx_iload_n d_Mo_findFault_109 (by rfl) ?_
            refine rx_cV d_Mo_findFault_110 (by rfl) ml_Mo_112 im_Mo_wrong se_Mo_wrong (by exact c9_Mo_wrong) (mr0 ha) (by rfl) (by exact Nat.le_of_ble_eq_true rfl) (k_wrong ha (k := 5) (b := b) _) ?_
            refine rx_iinc (v := nI (u + 1)) d_Mo_findFault_113 (by rfl) (i_inc u) ?_
            refine rx_goto (tgt := 49) d_Mo_findFault_116 (by rfl) ?_
            exact ih (u + 1) _ _ (by omega) (by omega) z9
          · have c100 : (fix (hbn n (S.2.2 4) u) 0 b).isSome = true := bi_1.mp c100
            obtain ⟨y, y1, y2, y3⟩ := fix_iff.mp c100
            rw [hbn_1 (by omega)] at y3
            have z9 := st 1 ⟨fun _ => ⟨hsg.mp c79, bi_1.mp c88, y, by omega, y3⟩, fun _ => by decide⟩
            refine rx_iconst (v := 1) d_Mo_findFault_103 (by decide) ?_
            refine rx_goto (tgt := 108) d_Mo_findFault_104 (by rfl) ?_
            refine rx_iconst (v := 5) d_Mo_findFault_108 (by decide) ?_
            refine rx_iload_n d_Mo_findFault_109 (by rfl) ?_
            refine rx_cV d_Mo_findFault_110 (by rfl) ml_Mo_112 im_Mo_wrong se_Mo_wrong (by exact c9_Mo_wrong) (mr0 ha) (by rfl) (by exact Nat.le_of_ble_eq_true rfl) (k_wrong ha (k := 5) (b := b) _) ?_
            refine rx_iinc (v := nI (u + 1)) d_Mo_findFault_113 (by rfl) (i_inc u) ?_
            refine rx_goto (tgt := 49) d_Mo_findFault_116 (by rfl) ?_
            exact ih (u + 1) _ _ (by omega) (by omega) z9
    have e3 : nI u = 3 ↔ u = 3 := nI_eq (b := 3) (by omega) (by omega)
    have e4 : nI u = 4 ↔ u = 4 := nI_eq (b := 4) (by omega) (by omega)
    have e7 : nI u = 7 ↔ u = 7 := nI_eq (b := 7) (by omega) (by omega)
    refine rx_iload_n d_Mo_findFault_49 (by rfl) ?_
    refine rx_bipush (v := 7) d_Mo_findFault_50 (by decide) ?_
    refine rx_icmp_gt (tgt := 119) d_Mo_findFault_52 (by rfl) (fun z => absurd z (show ¬ (7 : Int32) < nI u by rw [show (7 : Int32) = nI 7 from rfl]; exact nI_nlt (by omega) (by omega))) (fun c52 => ?_)
    refine rx_iload_n d_Mo_findFault_55 (by rfl) ?_
    refine rx_iconst (v := 3) d_Mo_findFault_56 (by decide) ?_
    refine rx_icmp_eq (tgt := 71) d_Mo_findFault_57 (by rfl) (fun c57 => ?_) (fun c57 => ?_)
    · refine rx_iconst (v := 1) d_Mo_findFault_71 (by decide) ?_
      refine rx_goto (tgt := 76) d_Mo_findFault_72 (by rfl) ?_
      refine rx_istore_n d_Mo_findFault_76 (Nat.le_of_ble_eq_true rfl) ?_
      first
        | exact e77 1 ⟨fun _ => Or.inl (e3.mp c57), fun _ => by decide⟩
        | exact e77 1 ⟨fun _ => Or.inr (Or.inl (e4.mp c62)), fun _ => by decide⟩
        | exact e77 1 ⟨fun _ => Or.inr (Or.inr (e7.mp c68)), fun _ => by decide⟩
        | exact e77 0 ⟨fun z => absurd rfl z, fun z => absurd z (fun y => y.elim (fun q => c57 (e3.mpr q)) (fun q => q.elim (fun q => c62 (e4.mpr q)) (fun q => c68 (e7.mpr q))))⟩
    · refine rx_iload_n d_Mo_findFault_60 (by rfl) ?_
      refine rx_iconst (v := 4) d_Mo_findFault_61 (by decide) ?_
      refine rx_icmp_eq (tgt := 71) d_Mo_findFault_62 (by rfl) (fun c62 => ?_) (fun c62 => ?_)
      · refine rx_iconst (v := 1) d_Mo_findFault_71 (by decide) ?_
        refine rx_goto (tgt := 76) d_Mo_findFault_72 (by rfl) ?_
        refine rx_istore_n d_Mo_findFault_76 (Nat.le_of_ble_eq_true rfl) ?_
        first
          | exact e77 1 ⟨fun _ => Or.inl (e3.mp c57), fun _ => by decide⟩
          | exact e77 1 ⟨fun _ => Or.inr (Or.inl (e4.mp c62)), fun _ => by decide⟩
          | exact e77 1 ⟨fun _ => Or.inr (Or.inr (e7.mp c68)), fun _ => by decide⟩
          | exact e77 0 ⟨fun z => absurd rfl z, fun z => absurd z (fun y => y.elim (fun q => c57 (e3.mpr q)) (fun q => q.elim (fun q => c62 (e4.mpr q)) (fun q => c68 (e7.mpr q))))⟩
      · refine rx_iload_n d_Mo_findFault_65 (by rfl) ?_
        refine rx_bipush (v := 7) d_Mo_findFault_66 (by decide) ?_
        refine rx_icmp_ne (tgt := 75) d_Mo_findFault_68 (by rfl) (fun c68 => ?_) (fun c68 => ?_)
        · refine rx_iconst (v := 0) d_Mo_findFault_75 (by decide) ?_
          refine rx_istore_n d_Mo_findFault_76 (Nat.le_of_ble_eq_true rfl) ?_
          first
            | exact e77 1 ⟨fun _ => Or.inl (e3.mp c57), fun _ => by decide⟩
            | exact e77 1 ⟨fun _ => Or.inr (Or.inl (e4.mp c62)), fun _ => by decide⟩
            | exact e77 1 ⟨fun _ => Or.inr (Or.inr (e7.mp c68)), fun _ => by decide⟩
            | exact e77 0 ⟨fun z => absurd rfl z, fun z => absurd z (fun y => y.elim (fun q => c57 (e3.mpr q)) (fun q => q.elim (fun q => c62 (e4.mpr q)) (fun q => c68 (e7.mpr q))))⟩
        · refine rx_iconst (v := 1) d_Mo_findFault_71 (by decide) ?_
          refine rx_goto (tgt := 76) d_Mo_findFault_72 (by rfl) ?_
          refine rx_istore_n d_Mo_findFault_76 (Nat.le_of_ble_eq_true rfl) ?_
          first
            | exact e77 1 ⟨fun _ => Or.inl (e3.mp c57), fun _ => by decide⟩
            | exact e77 1 ⟨fun _ => Or.inr (Or.inl (e4.mp c62)), fun _ => by decide⟩
            | exact e77 1 ⟨fun _ => Or.inr (Or.inr (e7.mp c68)), fun _ => by decide⟩
            | exact e77 0 ⟨fun z => absurd rfl z, fun z => absurd z (fun y => y.elim (fun q => c57 (e3.mpr q)) (fun q => q.elim (fun q => c62 (e4.mpr q)) (fun q => c68 (e7.mpr q))))⟩
theorem l_ff11 (ha : a = V.2.1 + h1.length) (hN : mN n S) (hv : vok n (S.2.2 4)) (R : mR S s G) (I : gI (S.2.2 4) n s) (K9 : gK n (S.2.2 4) s G) (K : ∀ v y2 y3, fI (PA n (S.2.2 4) s G n) v → rx_W V (d + 5) kc ks m_Mo_findFault 140 [some (.ref a), some (.int (nI n)), y2, y3] [] (mw V h1 a (sS S 19 v) h2) Q) :
    ∀ (m b : Nat) (v : Int32) (y2 y3 : Option Value), b + m = n → fI (PA n (S.2.2 4) s G b) v → rx_W V (d + 5) kc ks m_Mo_findFault 11 [some (.ref a), some (.int (nI b)), y2, y3] [] (mw V h1 a (sS S 19 v) h2) Q := by
  have hn := hN.2
  have N9 : ∀ v, mN n (sS S 19 v) := fun _ => hN
  have hv9 : ∀ v, vok n ((sS S 19 v).2.2 4) := fun _ => hv
  have e2 : ∀ v, (sS S 19 v).1 2 = nI n := fun _ => hN.1
  intro m
  induction m with
  | zero =>
    intro b v y2 y3 hbm F
    have e : b = n := by omega
    subst e
    refine rx_iload_n d_Mo_findFault_11 (by rfl) ?_
    refine rx_aload_nr d_Mo_findFault_12 (by rfl) ?_
    refine rx_getfield d_Mo_findFault_13 fl_Mo_59 (mr0 ha) (by rfl) ?_
    rw [e2]
    refine rx_icmp_ge (tgt := 140) d_Mo_findFault_16 (by rfl) (fun c16 => ?_) (fun z => absurd (Int32.le_refl _) z)
    exact K v _ _ F
  | succ m ih =>
    intro b v y2 y3 hbm F
    have hbl : b < n := by omega
    have f5 : FT n (S.2.2 4) s G 5 b ↔ F5 (S.2.2 4) b 8 := by
      constructor
      · rintro ⟨k2, z1, z2⟩
        exact ⟨k2, by omega, by omega, z1, z2⟩
      · rintro ⟨k2, -, -, z1, z2⟩
        exact ⟨k2, z1, z2⟩
    have en : ∀ v, fI (fun k' b' => (fun k' b' => (fun k' b' => (fun k' b' => PA n (S.2.2 4) s G b k' b' ∨ (FT n (S.2.2 4) s G 1 b ∧ k' = 1 ∧ b' = b)) k' b' ∨ (FT n (S.2.2 4) s G 2 b ∧ k' = 2 ∧ b' = b)) k' b' ∨ (F5 (S.2.2 4) b 8 ∧ k' = 5 ∧ b' = b)) k' b' ∨ (FT n (S.2.2 4) s G 6 b ∧ k' = 6 ∧ b' = b) ∨ (M7 n (S.2.2 4) b ∧ k' = 7 ∧ b' = b)) v → fI (PA n (S.2.2 4) s G (b + 1)) v := by
      intro v F
      refine fI_c F (fun k' b' => ?_)
      constructor
      · rintro ((((z | z) | z) | z) | z | z)
        · exact ⟨by have := z.1; omega, z.2⟩
        · rw [z.2.1, z.2.2]; exact ⟨by omega, Or.inl rfl, by rw [MT_o (by decide)]; exact z.1⟩
        · rw [z.2.1, z.2.2]; exact ⟨by omega, Or.inr (Or.inl rfl), by rw [MT_o (by decide)]; exact z.1⟩
        · rw [z.2.1, z.2.2]; exact ⟨by omega, Or.inr (Or.inr (Or.inl rfl)), by rw [MT_o (by decide)]; exact f5.mpr z.1⟩
        · rw [z.2.1, z.2.2]; exact ⟨by omega, Or.inr (Or.inr (Or.inr (Or.inl rfl))), by rw [MT_o (by decide)]; exact z.1⟩
        · rw [z.2.1, z.2.2]; exact ⟨by omega, Or.inr (Or.inr (Or.inr (Or.inr rfl))), by rw [MT_7]; exact z.1⟩
      · rintro ⟨z1, z2, z3⟩
        by_cases e : b' = b
        · subst e
          obtain z | z | z | z | z := z2
          · subst z; rw [MT_o (by decide)] at z3; exact Or.inl (Or.inl (Or.inl (Or.inr ⟨z3, rfl, rfl⟩)))
          · subst z; rw [MT_o (by decide)] at z3; exact Or.inl (Or.inl (Or.inr ⟨z3, rfl, rfl⟩))
          · subst z; rw [MT_o (by decide)] at z3; exact Or.inl (Or.inr ⟨f5.mp z3, rfl, rfl⟩)
          · subst z; rw [MT_o (by decide)] at z3; exact Or.inr (Or.inl ⟨z3, rfl, rfl⟩)
          · subst z; rw [MT_7] at z3; exact Or.inr (Or.inr ⟨z3, rfl, rfl⟩)
        · exact Or.inl (Or.inl (Or.inl (Or.inl ⟨by omega, z2, z3⟩)))
    have e119 : ∀ v y2 y3, fI (fun k' b' => (fun k' b' => (fun k' b' => PA n (S.2.2 4) s G b k' b' ∨ (FT n (S.2.2 4) s G 1 b ∧ k' = 1 ∧ b' = b)) k' b' ∨ (FT n (S.2.2 4) s G 2 b ∧ k' = 2 ∧ b' = b)) k' b' ∨ (F5 (S.2.2 4) b 8 ∧ k' = 5 ∧ b' = b)) v → rx_W V (d + 5) kc ks m_Mo_findFault 119 [some (.ref a), some (.int (nI b)), y2, y3] [] (mw V h1 a (sS S 19 v) h2) Q := by
      intro v y2 y3 F
      refine rx_aload_nr d_Mo_findFault_119 (by rfl) ?_
      refine rx_iload_n d_Mo_findFault_120 (by rfl) ?_
      refine rx_bipush (v := 7) d_Mo_findFault_121 (by decide) ?_
      refine rx_cV d_Mo_findFault_123 (by rfl) ml_Mo_90 im_Mo_has se_Mo_has (by exact c9_Mo_has) (mr0 ha) (by rfl) (by exact Nat.le_of_ble_eq_true rfl) (k_has ha (N9 _) (hv9 _) (b := b) (k := 7) (by omega) (by omega)) ?_
      rw [hbn_1 hbl, show (sS S 19 v).2.2 4 = S.2.2 4 from rfl]
      refine rx_if_eq (tgt := 134) d_Mo_findFault_126 (by rfl) (fun c126 => ?_) (fun c126 => ?_)
      · have F' := en v (fI_c F (fun k' b' => ⟨Or.inl, fun z => z.elim id (fun y => y.elim (fun q => by have := q.1.1; rw [bi_0.mp c126] at this; cases this) (fun q => by have := q.1.1; rw [bi_0.mp c126] at this; cases this))⟩))
        refine rx_iinc (v := nI (b + 1)) d_Mo_findFault_134 (by rfl) (i_inc b) ?_
        refine rx_goto (tgt := 11) d_Mo_findFault_137 (by rfl) ?_
        exact ih (b + 1) _ _ _ (by omega) F'
      · refine rx_aload_nr d_Mo_findFault_129 (by rfl) ?_
        refine rx_iload_n d_Mo_findFault_130 (by rfl) ?_
        refine rx_pV d_Mo_findFault_131 (by rfl) ml_Mo_135 im_Mo_checkJump se_Mo_checkJump (by exact c9_Mo_checkJump) (mr0 ha) (by rfl) (by exact Nat.le_of_ble_eq_true rfl) (k_checkJump (s := s) (G := G) ha hN hv hbl (bi_1.mp c126) F) ?_
        intro hx z9
        obtain ⟨v1, rfl, F1⟩ := z9
        have F' := en v1 F1
        refine rx_iinc (v := nI (b + 1)) d_Mo_findFault_134 (by rfl) (i_inc b) ?_
        refine rx_goto (tgt := 11) d_Mo_findFault_137 (by rfl) ?_
        exact ih (b + 1) _ _ _ (by omega) F'
    have e33 : ∀ v, fI (fun k' b' => PA n (S.2.2 4) s G b k' b' ∨ (FT n (S.2.2 4) s G 1 b ∧ k' = 1 ∧ b' = b)) v → rx_W V (d + 5) kc ks m_Mo_findFault 33 [some (.ref a), some (.int (nI b)), y2, y3] [] (mw V h1 a (sS S 19 v) h2) Q := by
      intro v F
      refine rx_aload_nr d_Mo_findFault_33 (by rfl) ?_
      refine rx_iload_n d_Mo_findFault_34 (by rfl) ?_
      refine rx_iconst (v := 2) d_Mo_findFault_35 (by decide) ?_
      refine rx_cV d_Mo_findFault_36 (by rfl) ml_Mo_90 im_Mo_has se_Mo_has (by exact c9_Mo_has) (mr0 ha) (by rfl) (by exact Nat.le_of_ble_eq_true rfl) (k_has ha (N9 _) (hv9 _) (b := b) (k := 2) (by omega) (by omega)) ?_
      rw [hbn_1 hbl, show (sS S 19 v).2.2 4 = S.2.2 4 from rfl]
      refine rx_if_eq (tgt := 47) d_Mo_findFault_39 (by rfl) (fun c39 => ?_) (fun c39 => ?_)
      · have F' : fI (fun k' b' => (fun k' b' => PA n (S.2.2 4) s G b k' b' ∨ (FT n (S.2.2 4) s G 1 b ∧ k' = 1 ∧ b' = b)) k' b' ∨ (FT n (S.2.2 4) s G 2 b ∧ k' = 2 ∧ b' = b)) v := fI_c F (fun k' b' => ⟨Or.inl, fun z => z.elim id (fun q => by have := q.1.1; rw [bi_0.mp c39] at this; cases this)⟩)
        refine rx_iconst (v := 3) d_Mo_findFault_47 (by decide) ?_
        refine rx_istore_n d_Mo_findFault_48 (Nat.le_of_ble_eq_true rfl) ?_
        exact l_ff49 ha hN hv hbl e119 5 3 _ _ (by omega) (by omega) (fI_c F' (fun k' b' => ⟨Or.inl, fun z => z.elim id (fun y => by obtain ⟨⟨k2, q1, q2, -⟩, -⟩ := y; omega)⟩))
      · refine rx_aload_nr d_Mo_findFault_42 (by rfl) ?_
        refine rx_iload_n d_Mo_findFault_43 (by rfl) ?_
        refine rx_pV d_Mo_findFault_44 (by rfl) ml_Mo_132 im_Mo_checkEnding se_Mo_checkEnding (by exact c9_Mo_checkEnding) (mr0 ha) (by rfl) (by exact Nat.le_of_ble_eq_true rfl) (k_checkEnding (s := s) (G := G) ha hN R I K9 hbl (bi_1.mp c39) F) ?_
        intro hx z9
        obtain ⟨v1, rfl, F'⟩ := z9
        refine rx_iconst (v := 3) d_Mo_findFault_47 (by decide) ?_
        refine rx_istore_n d_Mo_findFault_48 (Nat.le_of_ble_eq_true rfl) ?_
        exact l_ff49 ha hN hv hbl e119 5 3 _ _ (by omega) (by omega) (fI_c F' (fun k' b' => ⟨Or.inl, fun z => z.elim id (fun y => by obtain ⟨⟨k2, q1, q2, -⟩, -⟩ := y; omega)⟩))
    refine rx_iload_n d_Mo_findFault_11 (by rfl) ?_
    refine rx_aload_nr d_Mo_findFault_12 (by rfl) ?_
    refine rx_getfield d_Mo_findFault_13 fl_Mo_59 (mr0 ha) (by rfl) ?_
    rw [e2]
    refine rx_icmp_ge (tgt := 140) d_Mo_findFault_16 (by rfl) (fun z => absurd z (nI_ge (by omega) (by omega))) (fun c16 => ?_)
    refine rx_aload_nr d_Mo_findFault_19 (by rfl) ?_
    refine rx_iload_n d_Mo_findFault_20 (by rfl) ?_
    refine rx_iconst (v := 0) d_Mo_findFault_21 (by decide) ?_
    refine rx_cV d_Mo_findFault_22 (by rfl) ml_Mo_90 im_Mo_has se_Mo_has (by exact c9_Mo_has) (mr0 ha) (by rfl) (by exact Nat.le_of_ble_eq_true rfl) (k_has ha (N9 _) (hv9 _) (b := b) (k := 0) (by omega) (by omega)) ?_
    rw [hbn_1 hbl, show (sS S 19 v).2.2 4 = S.2.2 4 from rfl]
    refine rx_if_eq (tgt := 33) d_Mo_findFault_25 (by rfl) (fun c25 => ?_) (fun c25 => ?_)
    · have F' : fI (fun k' b' => PA n (S.2.2 4) s G b k' b' ∨ (FT n (S.2.2 4) s G 1 b ∧ k' = 1 ∧ b' = b)) v := fI_c F (fun k' b' => ⟨Or.inl, fun z => z.elim id (fun q => by have := q.1.1; rw [bi_0.mp c25] at this; cases this)⟩)
      exact e33 _ F'
    · refine rx_aload_nr d_Mo_findFault_28 (by rfl) ?_
      refine rx_iload_n d_Mo_findFault_29 (by rfl) ?_
      refine rx_pV d_Mo_findFault_30 (by rfl) ml_Mo_128 im_Mo_checkStart se_Mo_checkStart (by exact c9_Mo_checkStart) (mr0 ha) (by rfl) (by exact Nat.le_of_ble_eq_true rfl) (k_checkStart (s := s) (G := G) ha hN hv hbl (bi_1.mp c25) F) ?_
      intro hx z9
      obtain ⟨v1, rfl, F'⟩ := z9
      exact e33 _ F'
theorem l_ff142 (ha : a = V.2.1 + h1.length) (hN : mN n S) (hv : vok n (S.2.2 4)) (R : mR S s G) (g9 : gN n (S.2.2 4) s G) (K9 : gK n (S.2.2 4) s G) (K : ∀ v, fI (PR n (S.2.2 4) s G s.1) v → Q (.inl (some (.int v))) (mw V h1 a (sS S 19 v) h2)) :
    ∀ (m r : Nat) (v : Int32) (y2 y3 : Option Value), r + m = s.1 → fI (PR n (S.2.2 4) s G r) v → rx_W V (d + 5) kc ks m_Mo_findFault 142 [some (.ref a), some (.int (nI r)), y2, y3] [] (mw V h1 a (sS S 19 v) h2) Q := by
  have hn := hN.2
  have I := g9.1
  have hs1 := I.1
  have e13 : ∀ v, (sS S 19 v).1 13 = nI s.1 := fun _ => R.1
  intro m
  induction m with
  | zero =>
    intro r v y2 y3 hr F
    have e : r = s.1 := by omega
    subst e
    refine rx_iload_n d_Mo_findFault_142 (by rfl) ?_
    refine rx_aload_nr d_Mo_findFault_143 (by rfl) ?_
    refine rx_getfield d_Mo_findFault_144 fl_Mo_97 (mr0 ha) (by rfl) ?_
    rw [e13]
    refine rx_icmp_ge (tgt := 170) d_Mo_findFault_147 (by rfl) (fun c147 => ?_) (fun z => absurd (Int32.le_refl _) z)
    refine rx_aload_nr d_Mo_findFault_170 (by rfl) ?_
    refine rx_getfield d_Mo_findFault_171 fl_Mo_109 (mr0 ha) (by rfl) ?_
    refine rx_ireturn d_Mo_findFault_174 (by rfl) ?_
    exact K v F
  | succ m ih =>
    intro r v y2 y3 hr9 F
    have hr : r < s.1 := by omega
    obtain ⟨j1, j2, j3, j4⟩ := R.2 r hr
    have hz := mM_z j3
    have no : (∀ b, b ≤ 31 → G b ≠ some r) → ∀ k' b', (PR n (S.2.2 4) s G r k' b' ↔ PR n (S.2.2 4) s G (r + 1) k' b') := by
      intro hG k' b'
      have hG2 : ∀ x, G x ≠ some r := fun x z => hG x (by have := (K9 x r z).2.1; omega) z
      constructor
      · exact fun z => z.imp id (fun ⟨q, q1, q2⟩ => ⟨q, by omega, q2⟩)
      · rintro (z | ⟨q, q1, q2⟩)
        · exact Or.inl z
        · by_cases e : q = r
          · subst e
            exfalso
            obtain ⟨z1, z2, z3, z4, r', z5, ⟨x, z6⟩, z7⟩ | ⟨z1, z2, r', l, z3, z4, z5, z6, z7⟩ := q2
            · rw [z3] at z5; cases z5; exact hG2 x z6
            · have e1 : r' = q := by
                have jr := I.2.2.2.2.1 r' z3
                have jq := I.2.2.2.2.1 q hr
                exact I.dis (x := b') z3 hr (by omega) (by omega) (by omega) (by omega)
              subst e1
              exact hG2 l z5
          · exact Or.inr ⟨q, by omega, q2⟩
    have yes : ∀ y, G y = some r → ∀ k' b', (((PR n (S.2.2 4) s G r k' b' ∨ (k' = 3 ∧ b' < n ∧ C3 (S.2.2 4) s G r b')) ∨ (k' = 4 ∧ b' = gF s r ∧ FT n (S.2.2 4) s G 4 b')) ↔ PR n (S.2.2 4) s G (r + 1) k' b') := by
      intro y hy k' b'
      constructor
      · rintro ((z | ⟨z1, z2, z3⟩) | z)
        · exact z.imp id (fun ⟨q, q1, q2⟩ => ⟨q, by omega, q2⟩)
        · exact Or.inr ⟨r, by omega, Or.inl ⟨z1, z2, z3.1, (I.2.2.2.2.2.2.1 b' r z3.1).2.2.2, r, z3.1, ⟨y, hy⟩, z3.2⟩⟩
        · exact Or.inr ⟨r, by omega, Or.inr z⟩
      · rintro (z | ⟨q, q1, q2⟩)
        · exact Or.inl (Or.inl (Or.inl z))
        · by_cases e : q = r
          · subst e
            obtain ⟨z1, z2, z3, z4, r', z5, z6, z7⟩ | z := q2
            · rw [z3] at z5; cases z5; exact Or.inl (Or.inr ⟨z1, z2, z3, z7⟩)
            · exact Or.inr z
          · exact Or.inl (Or.inl (Or.inr ⟨q, by omega, q2⟩))
    refine rx_iload_n d_Mo_findFault_142 (by rfl) ?_
    refine rx_aload_nr d_Mo_findFault_143 (by rfl) ?_
    refine rx_getfield d_Mo_findFault_144 fl_Mo_97 (mr0 ha) (by rfl) ?_
    rw [e13]
    refine rx_icmp_ge (tgt := 170) d_Mo_findFault_147 (by rfl) (fun z => absurd z (nI_ge (by omega) (by omega))) (fun c147 => ?_)
    refine rx_aload_nr d_Mo_findFault_150 (by rfl) ?_
    refine rx_getfield d_Mo_findFault_151 fl_Mo_47 (mr0 ha) (by rfl) ?_
    refine rx_iload_n d_Mo_findFault_154 (by rfl) ?_
    refine m_ial (j := 13) ha d_Mo_findFault_155 (by rfl) (by omega) (by decide) ?_
    refine rx_if_eq (tgt := 164) d_Mo_findFault_156 (by rfl) (fun c156 => ?_) (fun c156 => ?_)
    · have F' := fI_c F (no (hz.mp c156))
      refine rx_iinc (v := nI (r + 1)) d_Mo_findFault_164 (by rfl) (i_inc r) ?_
      refine rx_goto (tgt := 142) d_Mo_findFault_167 (by rfl) ?_
      exact ih (r + 1) _ _ _ (by omega) F'
    · have c156 : ∃ y, G y = some r := by
        refine Classical.byContradiction (fun w => c156 (hz.mpr (fun b _ z => w ⟨b, z⟩)))
      obtain ⟨y9, hy9⟩ := c156
      refine rx_aload_nr d_Mo_findFault_159 (by rfl) ?_
      refine rx_iload_n d_Mo_findFault_160 (by rfl) ?_
      refine rx_pV d_Mo_findFault_161 (by rfl) ml_Mo_138 im_Mo_checkRepeat se_Mo_checkRepeat (by exact c9_Mo_checkRepeat) (mr0 ha) (by rfl) (by exact Nat.le_of_ble_eq_true rfl) (k_checkRepeat ha hN hv R g9 K9 hy9 F) ?_
      intro hx z9
      obtain ⟨v1, rfl, F1⟩ := z9
      have F' := fI_c F1 (yes y9 hy9)
      refine rx_iinc (v := nI (r + 1)) d_Mo_findFault_164 (by rfl) (i_inc r) ?_
      refine rx_goto (tgt := 142) d_Mo_findFault_167 (by rfl) ?_
      exact ih (r + 1) _ _ _ (by omega) F'
theorem PR_all {n : Nat} {Va : Nat → Int32} {s : gT} {G : Nat → Option Nat} (g9 : gN n Va s G) : ∀ k x, PR n Va s G s.1 k x ↔ (1 ≤ k ∧ k ≤ 7 ∧ x < n ∧ MT n Va s G k x) := by
  intro k x
  have I := g9.1
  constructor
  · rintro (⟨z1, z2, z3⟩ | ⟨q, q1, ⟨z1, z2, z3, z4⟩ | ⟨z1, z2, z3⟩⟩)
    · exact ⟨by omega, by omega, z1, z3⟩
    · subst z1; exact ⟨by omega, by omega, z2, by rw [MT_o (by decide)]; exact z4⟩
    · subst z1
      have jq := I.2.2.2.2.1 q q1
      have := I.2.1
      exact ⟨by omega, by omega, by omega, by rw [MT_o (by decide)]; exact z3⟩
  · rintro ⟨z1, z2, z3, z4⟩
    by_cases c3 : k = 3
    · subst c3
      rw [MT_o (by decide)] at z4
      obtain ⟨w1, r, w2, w3⟩ := id z4
      exact Or.inr ⟨r, (I.2.2.2.2.2.2.1 x r w2).1, Or.inl ⟨rfl, z3, w2, z4⟩⟩
    · by_cases c4 : k = 4
      · subst c4
        rw [MT_o (by decide)] at z4
        obtain ⟨r, l, w1, w2, w3⟩ := id z4
        exact Or.inr ⟨r, w1, Or.inr ⟨rfl, w2.symm, z4⟩⟩
      · exact Or.inl ⟨z3, by omega, z4⟩
theorem k_findFault (ha : a = V.2.1 + h1.length) (hN : mN n S) (hv : vok n (S.2.2 4)) : rx_C V (d + 5) kc ks m_Mo_findFault [.ref a] (mw V h1 a S h2) (fun r9 h' => r9 = .inl (some (.int (flt n (S.2.2 4)))) ∧ ∃ S', h' = mw V h1 a S' h2 ∧ mE S S' ∧ mR S' (gst (S.2.2 4) n) (gGn n (S.2.2 4))) := by
  refine rx_aload_nr d_Mo_findFault_0 (by rfl) ?_
  refine rx_pV d_Mo_findFault_1 (by rfl) ml_Mo_125 im_Mo_findRepeats se_Mo_findRepeats (by exact c9_Mo_findRepeats) (mr0 ha) (by rfl) (by exact Nat.le_of_ble_eq_true rfl) (k_findRepeats ha hN hv) ?_
  intro hx z9
  obtain ⟨S1, rfl, E1, R1⟩ := z9
  have g9 := vok_gN hv
  have K9 := gGn_K n (S.2.2 4)
  have N1 := E1.mN hN
  rw [← E1.va] at g9 K9 R1 hv
  rw [show flt n (S.2.2 4) = flt n (S1.2.2 4) by rw [E1.va]]
  have I1 := g9.1
  have l142 := l_ff142 (V := V) (h1 := h1) (h2 := h2) (a := a) (d := d) (kc := kc) (ks := ks) (Q := (fun r9 h' => r9 = .inl (some (.int (flt n (S1.2.2 4)))) ∧ ∃ S', h' = mw V h1 a S' h2 ∧ mE S S' ∧ mR S' (gst (S.2.2 4) n) (gGn n (S.2.2 4)))) ha N1 hv R1 g9 K9 (fun v F => ⟨by rw [show flt n (S1.2.2 4) = lst n (FT n (S1.2.2 4) (gst (S1.2.2 4) n) (gGn n (S1.2.2 4))) from rfl, ← lst_MT N1.2.2, ← fI_lst F (PR_all g9)], _, rfl, mE.sS E1 (by decide) (by decide) (by decide), by rw [← E1.va]; exact R1⟩)
  refine rx_aload_nr d_Mo_findFault_4 (by rfl) ?_
  refine rx_iconst (v := 0) d_Mo_findFault_5 (by decide) ?_
  refine m_putI (k9 := 19) ha d_Mo_findFault_6 (fw_Mo_109 rfl) (by rfl) (by rfl) (by rfl) ?_
  refine rx_iconst (v := 0) d_Mo_findFault_9 (by decide) ?_
  refine rx_istore_n d_Mo_findFault_10 (Nat.le_of_ble_eq_true rfl) ?_
  refine l_ff11 ha N1 hv R1 I1 K9 (fun v y2 y3 F => ?_) n 0 0 _ _ (by omega) (Or.inl ⟨rfl, fun k b z => absurd z.1 (Nat.not_lt_zero _)⟩)
  refine rx_iconst (v := 0) d_Mo_findFault_140 (by decide) ?_
  refine rx_istore_n d_Mo_findFault_141 (Nat.le_of_ble_eq_true rfl) ?_
  exact l142 _ 0 v _ _ (Nat.zero_add _) (fI_c F (fun k x => ⟨Or.inl, fun z => z.elim id (fun ⟨q, q1, _⟩ => absurd q1 (Nat.not_lt_zero _))⟩))
end FF
