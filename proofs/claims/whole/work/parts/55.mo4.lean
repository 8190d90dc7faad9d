/-! the reference's faults: checkJump, checkRepeat -/
theorem cj {Pr p6 p7 : Prop} {k' b' b : Nat} {x6 x7 x8 : Int32} (e6 : ¬ x6 = 0 ↔ p6) (e7 : (¬ x7 = 0 ∨ ¬ x8 = 0) ↔ p7) : (((Pr ∨ (¬ x6 = 0 ∧ k' = 6 ∧ b' = b)) ∨ (¬ x7 = 0 ∧ k' = 7 ∧ b' = b)) ∨ (¬ x8 = 0 ∧ k' = 7 ∧ b' = b)) ↔ (Pr ∨ (p6 ∧ k' = 6 ∧ b' = b) ∨ (p7 ∧ k' = 7 ∧ b' = b)) := by
  rw [← e6, ← e7]
  constructor
  · rintro (((z | z) | z) | z)
    · exact Or.inl z
    · exact Or.inr (Or.inl z)
    · exact Or.inr (Or.inr ⟨Or.inl z.1, z.2⟩)
    · exact Or.inr (Or.inr ⟨Or.inr z.1, z.2⟩)
  · rintro (z | z | ⟨z | z, z2⟩)
    · exact Or.inl (Or.inl (Or.inl z))
    · exact Or.inl (Or.inl (Or.inr z))
    · exact Or.inl (Or.inr ⟨z, z2⟩)
    · exact Or.inr ⟨z, z2⟩
theorem cj0 {Pr p6 p7 : Prop} {k' b' b : Nat} {x6 : Int32} (e6 : ¬ x6 = 0 ↔ p6) (e7 : ¬ p7) : (Pr ∨ (¬ x6 = 0 ∧ k' = 6 ∧ b' = b)) ↔ (Pr ∨ (p6 ∧ k' = 6 ∧ b' = b) ∨ (p7 ∧ k' = 7 ∧ b' = b)) := by
  rw [← e6]
  exact ⟨fun z => z.imp id Or.inl, fun z => z.imp id (fun w => w.elim id (fun y => absurd y.1 e7))⟩
theorem fix_in {n k f m : Nat} {Va : Nat → Int32} (h : f + m ≤ n) : (fix (hbn n Va k) f m).isSome = false ↔ ∀ x, f ≤ x → x < f + m → hb Va k x = false := by
  rw [Bool.eq_false_iff, Ne, fix_iff]
  constructor
  · intro z x h1 h2
    cases e : hb Va k x with
    | false => rfl
    | true => exact absurd ⟨x, h1, h2, by rw [hbn_1 (by omega)]; exact e⟩ z
  · rintro z ⟨x, h1, h2, h3⟩
    rw [hbn_1 (by omega), z x h1 h2] at h3
    cases h3
section MJ
variable {V : rx_V} {d kc ks : Nat} {h h1 h2 : List va_E} {a n b : Nat} {S S0 : mT} {Va : Nat → Int32} {Q : rx_R → List va_E → Prop} {v : Int32} {s : gT} {G : Nat → Option Nat} {Pr : Nat → Nat → Prop}
theorem k_checkJump (ha : a = V.2.1 + h1.length) (hN : mN n S) (hv : vok n (S.2.2 4)) {b : Nat} (hbl : b < n) (hs : hb (S.2.2 4) 7 b = true) (F : fI Pr v) : rx_C V (d + 4) kc ks m_Mo_checkJump [.ref a, .int (nI b)] (mw V h1 a (sS S 19 v) h2) (fPo V h1 a S h2 (fun k' b' => Pr k' b' ∨ (FT n (S.2.2 4) s G 6 b ∧ k' = 6 ∧ b' = b) ∨ (M7 n (S.2.2 4) b ∧ k' = 7 ∧ b' = b))) := by
  have hn := hN.2
  have N9 : ∀ v, mN n (sS S 19 v) := fun _ => hN
  have hv9 : ∀ v, vok n ((sS S 19 v).2.2 4) := fun _ => hv
  have e2 : ∀ v, (sS S 19 v).1 2 = nI n := fun _ => hN.1
  have eb : (nI b).toInt = (b : Int) := i_n (by omega)
  have en : (nI n - 1).toInt = (n : Int) - 1 := by rw [nI_p1 (by omega), i_n (by omega)]; omega
  have h6 : FT n (S.2.2 4) s G 6 b ↔ b < mto n (S.2.2 4) b := ⟨fun z => (mto_jta hn.2 hbl).mp z.2, fun z => ⟨hs, (mto_jta hn.2 hbl).mpr z⟩⟩
  have e38 : ∀ y3, rx_W V (d + 4) kc ks m_Mo_checkJump 38 [some (.ref a), some (.int (nI b)), some (.int (S.2.2 4 (10 * b + 7) - 1)), y3, some (.int (nI (mto n (S.2.2 4) b))), none] [] (mw V h1 a (sS S 19 v) h2) (fPo V h1 a S h2 (fun k' b' => Pr k' b' ∨ (FT n (S.2.2 4) s G 6 b ∧ k' = 6 ∧ b' = b) ∨ (M7 n (S.2.2 4) b ∧ k' = 7 ∧ b' = b))) := by
    intro y3
    have hmn : mto n (S.2.2 4) b ≤ n := by
      unfold mto
      by_cases c : (S.2.2 4 (10 * b + 7) - 1) - (S.2.2 4 (10 * b + 7) - 1) / 2 * 2 = 1
      · rw [if_pos c]
        cases e : fix (hb (S.2.2 4) 3) 0 n with
        | none => exact Nat.le_refl _
        | some x => have := (fix_s e).2.1; show x ≤ n; omega
      · rw [if_neg c]; omega
    generalize em : mto n (S.2.2 4) b = t at *
    have m7 : M7 n (S.2.2 4) b ↔ (hb (S.2.2 4) 7 b = true ∧ t ≤ b ∧ ((jwy (S.2.2 4 (10 * b + 7)) = 1 ∧ ∀ x, t ≤ x → x ≤ b → hb (S.2.2 4) 5 x = false) ∨ (jwy (S.2.2 4 (10 * b + 7)) = 2 ∧ ((∀ x, t ≤ x → x ≤ b → hb (S.2.2 4) 6 x = false) ∨ ∀ x, b < x → x < n → hb (S.2.2 4) 4 x = false)))) := by
      unfold M7
      rw [em]
    refine rx_aload_nr d_Mo_checkJump_38 (by rfl) ?_
    refine rx_iload d_Mo_checkJump_39 (by rfl) ?_
    refine rx_iload_n d_Mo_checkJump_41 (by rfl) ?_
    refine rx_icmp_le (tgt := 49) d_Mo_checkJump_42 (by rfl) (fun c42 => ?_) (fun c42 => ?_)
    · have c42 : t ≤ b := by rw [i_le, i_n (by omega), i_n (by omega)] at c42; omega
      refine rx_iconst (v := 0) d_Mo_checkJump_49 (by decide) ?_
      refine rx_bipush (v := 6) d_Mo_checkJump_50 (by decide) ?_
      refine rx_iload_n d_Mo_checkJump_52 (by rfl) ?_
      refine rx_cV d_Mo_checkJump_53 (by rfl) ml_Mo_112 im_Mo_wrong se_Mo_wrong (by exact c9_Mo_wrong) (mr0 ha) (by rfl) (by exact Nat.le_of_ble_eq_true rfl) (k_wrong ha (k := 6) (b := b) _) ?_
      refine rx_iload d_Mo_checkJump_56 (by rfl) ?_
      refine rx_iload_n d_Mo_checkJump_58 (by rfl) ?_
      refine rx_icmp_gt (tgt := 145) d_Mo_checkJump_59 (by rfl) (fun c59 => ?_) (fun c59 => ?_)
      · have c59 : b < t := by rw [i_lt, i_n (by omega), i_n (by omega)] at c59; omega
        refine rx_vreturn d_Mo_checkJump_145 (by rfl) ?_
        first
          | omega
          | exact ⟨rfl, _, rfl, fI_c (fI_w (k := 6) (b := b) F (by omega) (by omega) (by omega)) (fun k' b' => cj0 ⟨fun _ => h6.mpr c42, fun _ => by decide⟩ (fun z => absurd (m7.mp z).2.1 (by omega)))⟩
          | exact absurd (c73.symm.trans c102) (by decide)
          | exact ⟨rfl, _, rfl, fI_c (fI_w (k := 7) (b := b) (fI_w (k := 7) (b := b) (fI_w (k := 6) (b := b) F (by omega) (by omega) (by omega)) (by omega) (by omega) (by omega)) (by omega) (by omega) (by omega)) (fun k' b' => cj ⟨fun z => absurd rfl z, fun z => absurd (h6.mp z) (by omega)⟩ ⟨fun _ => m7.mpr ⟨hs, by omega, Or.inl ⟨c73, y5⟩⟩, fun _ => by decide⟩)⟩
          | exact ⟨rfl, _, rfl, fI_c (fI_w (k := 7) (b := b) (fI_w (k := 7) (b := b) (fI_w (k := 6) (b := b) F (by omega) (by omega) (by omega)) (by omega) (by omega) (by omega)) (by omega) (by omega) (by omega)) (fun k' b' => cj ⟨fun z => absurd rfl z, fun z => absurd (h6.mp z) (by omega)⟩ ⟨fun _ => m7.mpr ⟨hs, by omega, Or.inr ⟨c102, Or.inl y6⟩⟩, fun _ => by decide⟩)⟩
          | exact ⟨rfl, _, rfl, fI_c (fI_w (k := 7) (b := b) (fI_w (k := 7) (b := b) (fI_w (k := 6) (b := b) F (by omega) (by omega) (by omega)) (by omega) (by omega) (by omega)) (by omega) (by omega) (by omega)) (fun k' b' => cj ⟨fun z => absurd rfl z, fun z => absurd (h6.mp z) (by omega)⟩ ⟨fun _ => m7.mpr ⟨hs, by omega, Or.inr ⟨c102, Or.inr y4⟩⟩, fun _ => by decide⟩)⟩
          | exact ⟨rfl, _, rfl, fI_c (fI_w (k := 7) (b := b) (fI_w (k := 7) (b := b) (fI_w (k := 6) (b := b) F (by omega) (by omega) (by omega)) (by omega) (by omega) (by omega)) (by omega) (by omega) (by omega)) (fun k' b' => cj ⟨fun z => absurd rfl z, fun z => absurd (h6.mp z) (by omega)⟩ ⟨fun z => absurd z (by decide), fun z => absurd (m7.mp z).2.2 (fun z => z.elim (fun w => c73 w.1) (fun w => c102 w.1))⟩)⟩
          | exact ⟨rfl, _, rfl, fI_c (fI_w (k := 7) (b := b) (fI_w (k := 7) (b := b) (fI_w (k := 6) (b := b) F (by omega) (by omega) (by omega)) (by omega) (by omega) (by omega)) (by omega) (by omega) (by omega)) (fun k' b' => cj ⟨fun z => absurd rfl z, fun z => absurd (h6.mp z) (by omega)⟩ ⟨fun z => absurd z (by decide), fun z => absurd (m7.mp z).2.2 (fun z => z.elim (fun w => c73 w.1) (fun w => w.2.elim n6 n4))⟩)⟩
          | exact ⟨rfl, _, rfl, fI_c (fI_w (k := 7) (b := b) (fI_w (k := 7) (b := b) (fI_w (k := 6) (b := b) F (by omega) (by omega) (by omega)) (by omega) (by omega) (by omega)) (by omega) (by omega) (by omega)) (fun k' b' => cj ⟨fun z => absurd rfl z, fun z => absurd (h6.mp z) (by omega)⟩ ⟨fun z => absurd z (by decide), fun z => absurd (m7.mp z).2.2 (fun z => z.elim (fun w => n5 w.2) (fun w => c102 w.1))⟩)⟩
      · have c59 : t ≤ b := by rw [i_lt, i_n (by omega), i_n (by omega)] at c59; omega
        refine rx_iload_n d_Mo_checkJump_62 (by rfl) ?_
        refine rx_iconst (v := 2) d_Mo_checkJump_63 (by decide) ?_
        refine rx_idiv d_Mo_checkJump_64 (by decide) ?_
        refine rx_iconst (v := 3) d_Mo_checkJump_65 (by decide) ?_
        refine rx_irem d_Mo_checkJump_66 (by decide) ?_
        rw [show (S.2.2 4 (10 * b + 7) - 1) / 2 - (S.2.2 4 (10 * b + 7) - 1) / 2 / 3 * 3 = jwy (S.2.2 4 (10 * b + 7)) from rfl]
        refine rx_istore d_Mo_checkJump_67 (Nat.le_of_ble_eq_true rfl) ?_
        refine rx_aload_nr d_Mo_checkJump_69 (by rfl) ?_
        refine rx_iload d_Mo_checkJump_70 (by rfl) ?_
        refine rx_iconst (v := 1) d_Mo_checkJump_72 (by decide) ?_
        refine rx_icmp_ne (tgt := 91) d_Mo_checkJump_73 (by rfl) (fun c73 => ?_) (fun c73 => ?_)
        · refine rx_iconst (v := 0) d_Mo_checkJump_91 (by decide) ?_
          refine rx_bipush (v := 7) d_Mo_checkJump_92 (by decide) ?_
          refine rx_iload_n d_Mo_checkJump_94 (by rfl) ?_
          refine rx_cV d_Mo_checkJump_95 (by rfl) ml_Mo_112 im_Mo_wrong se_Mo_wrong (by exact c9_Mo_wrong) (mr0 ha) (by rfl) (by exact Nat.le_of_ble_eq_true rfl) (k_wrong ha (k := 7) (b := b) _) ?_
          refine rx_aload_nr d_Mo_checkJump_98 (by rfl) ?_
          refine rx_iload d_Mo_checkJump_99 (by rfl) ?_
          refine rx_iconst (v := 2) d_Mo_checkJump_101 (by decide) ?_
          refine rx_icmp_ne (tgt := 138) d_Mo_checkJump_102 (by rfl) (fun c102 => ?_) (fun c102 => ?_)
          · refine rx_iconst (v := 0) d_Mo_checkJump_138 (by decide) ?_
            refine rx_bipush (v := 7) d_Mo_checkJump_139 (by decide) ?_
            refine rx_iload_n d_Mo_checkJump_141 (by rfl) ?_
            refine rx_cV d_Mo_checkJump_142 (by rfl) ml_Mo_112 im_Mo_wrong se_Mo_wrong (by exact c9_Mo_wrong) (mr0 ha) (by rfl) (by exact Nat.le_of_ble_eq_true rfl) (k_wrong ha (k := 7) (b := b) _) ?_
            refine rx_vreturn d_Mo_checkJump_145 (by rfl) ?_
            first
              | omega
              | exact ⟨rfl, _, rfl, fI_c (fI_w (k := 6) (b := b) F (by omega) (by omega) (by omega)) (fun k' b' => cj0 ⟨fun _ => h6.mpr c42, fun _ => by decide⟩ (fun z => absurd (m7.mp z).2.1 (by omega)))⟩
              | exact absurd (c73.symm.trans c102) (by decide)
              | exact ⟨rfl, _, rfl, fI_c (fI_w (k := 7) (b := b) (fI_w (k := 7) (b := b) (fI_w (k := 6) (b := b) F (by omega) (by omega) (by omega)) (by omega) (by omega) (by omega)) (by omega) (by omega) (by omega)) (fun k' b' => cj ⟨fun z => absurd rfl z, fun z => absurd (h6.mp z) (by omega)⟩ ⟨fun _ => m7.mpr ⟨hs, by omega, Or.inl ⟨c73, y5⟩⟩, fun _ => by decide⟩)⟩
              | exact ⟨rfl, _, rfl, fI_c (fI_w (k := 7) (b := b) (fI_w (k := 7) (b := b) (fI_w (k := 6) (b := b) F (by omega) (by omega) (by omega)) (by omega) (by omega) (by omega)) (by omega) (by omega) (by omega)) (fun k' b' => cj ⟨fun z => absurd rfl z, fun z => absurd (h6.mp z) (by omega)⟩ ⟨fun _ => m7.mpr ⟨hs, by omega, Or.inr ⟨c102, Or.inl y6⟩⟩, fun _ => by decide⟩)⟩
              | exact ⟨rfl, _, rfl, fI_c (fI_w (k := 7) (b := b) (fI_w (k := 7) (b := b) (fI_w (k := 6) (b := b) F (by omega) (by omega) (by omega)) (by omega) (by omega) (by omega)) (by omega) (by omega) (by omega)) (fun k' b' => cj ⟨fun z => absurd rfl z, fun z => absurd (h6.mp z) (by omega)⟩ ⟨fun _ => m7.mpr ⟨hs, by omega, Or.inr ⟨c102, Or.inr y4⟩⟩, fun _ => by decide⟩)⟩
              | exact ⟨rfl, _, rfl, fI_c (fI_w (k := 7) (b := b) (fI_w (k := 7) (b := b) (fI_w (k := 6) (b := b) F (by omega) (by omega) (by omega)) (by omega) (by omega) (by omega)) (by omega) (by omega) (by omega)) (fun k' b' => cj ⟨fun z => absurd rfl z, fun z => absurd (h6.mp z) (by omega)⟩ ⟨fun z => absurd z (by decide), fun z => absurd (m7.mp z).2.2 (fun z => z.elim (fun w => c73 w.1) (fun w => c102 w.1))⟩)⟩
              | exact ⟨rfl, _, rfl, fI_c (fI_w (k := 7) (b := b) (fI_w (k := 7) (b := b) (fI_w (k := 6) (b := b) F (by omega) (by omega) (by omega)) (by omega) (by omega) (by omega)) (by omega) (by omega) (by omega)) (fun k' b' => cj ⟨fun z => absurd rfl z, fun z => absurd (h6.mp z) (by omega)⟩ ⟨fun z => absurd z (by decide), fun z => absurd (m7.mp z).2.2 (fun z => z.elim (fun w => c73 w.1) (fun w => w.2.elim n6 n4))⟩)⟩
              | exact ⟨rfl, _, rfl, fI_c (fI_w (k := 7) (b := b) (fI_w (k := 7) (b := b) (fI_w (k := 6) (b := b) F (by omega) (by omega) (by omega)) (by omega) (by omega) (by omega)) (by omega) (by omega) (by omega)) (fun k' b' => cj ⟨fun z => absurd rfl z, fun z => absurd (h6.mp z) (by omega)⟩ ⟨fun z => absurd z (by decide), fun z => absurd (m7.mp z).2.2 (fun z => z.elim (fun w => n5 w.2) (fun w => c102 w.1))⟩)⟩
          · refine rx_aload_nr d_Mo_checkJump_105 (by rfl) ?_
            refine rx_bipush (v := 6) d_Mo_checkJump_106 (by decide) ?_
            refine rx_iload d_Mo_checkJump_108 (by rfl) ?_
            refine rx_iload_n d_Mo_checkJump_110 (by rfl) ?_
            refine rx_cV d_Mo_checkJump_111 (by rfl) ml_Mo_122 im_Mo_isThere se_Mo_isThere (by exact c9_Mo_isThere) (mr0 ha) (by rfl) (by exact Nat.le_of_ble_eq_true rfl) (k_isThere ha (N9 _) (hv9 _) (k := 6) (f := t) (m := b + 1 - t) (by omega) (by omega) (by rw [eb]; omega)) ?_
            refine rx_if_eq (tgt := 134) d_Mo_checkJump_114 (by rfl) (fun c114 => ?_) (fun c114 => ?_)
            · have c114 : (fix (hbn n (S.2.2 4) 6) t (b + 1 - t)).isSome = false := bi_0.mp c114
              have y6 : ∀ x, t ≤ x → x ≤ b → hb (S.2.2 4) 6 x = false := fun x h1 h2 => (fix_in (show t + (b + 1 - t) ≤ n by omega)).mp c114 x h1 (by omega)
              refine rx_iconst (v := 1) d_Mo_checkJump_134 (by decide) ?_
              refine rx_goto (tgt := 139) d_Mo_checkJump_135 (by rfl) ?_
              refine rx_bipush (v := 7) d_Mo_checkJump_139 (by decide) ?_
              refine rx_iload_n d_Mo_checkJump_141 (by rfl) ?_
              refine rx_cV d_Mo_checkJump_142 (by rfl) ml_Mo_112 im_Mo_wrong se_Mo_wrong (by exact c9_Mo_wrong) (mr0 ha) (by rfl) (by exact Nat.le_of_ble_eq_true rfl) (k_wrong ha (k := 7) (b := b) _) ?_
              refine rx_vreturn d_Mo_checkJump_145 (by rfl) ?_
              first
                | omega
                | exact ⟨rfl, _, rfl, fI_c (fI_w (k := 6) (b := b) F (by omega) (by omega) (by omega)) (fun k' b' => cj0 ⟨fun _ => h6.mpr c42, fun _ => by decide⟩ (fun z => absurd (m7.mp z).2.1 (by omega)))⟩
                | exact absurd (c73.symm.trans c102) (by decide)
                | exact ⟨rfl, _, rfl, fI_c (fI_w (k := 7) (b := b) (fI_w (k := 7) (b := b) (fI_w (k := 6) (b := b) F (by omega) (by omega) (by omega)) (by omega) (by omega) (by omega)) (by omega) (by omega) (by omega)) (fun k' b' => cj ⟨fun z => absurd rfl z, fun z => absurd (h6.mp z) (by omega)⟩ ⟨fun _ => m7.mpr ⟨hs, by omega, Or.inl ⟨c73, y5⟩⟩, fun _ => by decide⟩)⟩
                | exact ⟨rfl, _, rfl, fI_c (fI_w (k := 7) (b := b) (fI_w (k := 7) (b := b) (fI_w (k := 6) (b := b) F (by omega) (by omega) (by omega)) (by omega) (by omega) (by omega)) (by omega) (by omega) (by omega)) (fun k' b' => cj ⟨fun z => absurd rfl z, fun z => absurd (h6.mp z) (by omega)⟩ ⟨fun _ => m7.mpr ⟨hs, by omega, Or.inr ⟨c102, Or.inl y6⟩⟩, fun _ => by decide⟩)⟩
                | exact ⟨rfl, _, rfl, fI_c (fI_w (k := 7) (b := b) (fI_w (k := 7) (b := b) (fI_w (k := 6) (b := b) F (by omega) (by omega) (by omega)) (by omega) (by omega) (by omega)) (by omega) (by omega) (by omega)) (fun k' b' => cj ⟨fun z => absurd rfl z, fun z => absurd (h6.mp z) (by omega)⟩ ⟨fun _ => m7.mpr ⟨hs, by omega, Or.inr ⟨c102, Or.inr y4⟩⟩, fun _ => by decide⟩)⟩
                | exact ⟨rfl, _, rfl, fI_c (fI_w (k := 7) (b := b) (fI_w (k := 7) (b := b) (fI_w (k := 6) (b := b) F (by omega) (by omega) (by omega)) (by omega) (by omega) (by omega)) (by omega) (by omega) (by omega)) (fun k' b' => cj ⟨fun z => absurd rfl z, fun z => absurd (h6.mp z) (by omega)⟩ ⟨fun z => absurd z (by decide), fun z => absurd (m7.mp z).2.2 (fun z => z.elim (fun w => c73 w.1) (fun w => c102 w.1))⟩)⟩
                | exact ⟨rfl, _, rfl, fI_c (fI_w (k := 7) (b := b) (fI_w (k := 7) (b := b) (fI_w (k := 6) (b := b) F (by omega) (by omega) (by omega)) (by omega) (by omega) (by omega)) (by omega) (by omega) (by omega)) (fun k' b' => cj ⟨fun z => absurd rfl z, fun z => absurd (h6.mp z) (by omega)⟩ ⟨fun z => absurd z (by decide), fun z => absurd (m7.mp z).2.2 (fun z => z.elim (fun w => c73 w.1) (fun w => w.2.elim n6 n4))⟩)⟩
                | exact ⟨rfl, _, rfl, fI_c (fI_w (k := 7) (b := b) (fI_w (k := 7) (b := b) (fI_w (k := 6) (b := b) F (by omega) (by omega) (by omega)) (by omega) (by omega) (by omega)) (by omega) (by omega) (by omega)) (fun k' b' => cj ⟨fun z => absurd rfl z, fun z => absurd (h6.mp z) (by omega)⟩ ⟨fun z => absurd z (by decide), fun z => absurd (m7.mp z).2.2 (fun z => z.elim (fun w => n5 w.2) (fun w => c102 w.1))⟩)⟩
            · have c114 : (fix (hbn n (S.2.2 4) 6) t (b + 1 - t)).isSome = true := bi_1.mp c114
              have n6 : ¬ ∀ x, t ≤ x → x ≤ b → hb (S.2.2 4) 6 x = false := fun z => by
                rw [(fix_in (show t + (b + 1 - t) ≤ n by omega)).mpr (fun x h1 h2 => z x h1 (by omega))] at c114; cases c114
              refine rx_aload_nr d_Mo_checkJump_117 (by rfl) ?_
              refine rx_iconst (v := 4) d_Mo_checkJump_118 (by decide) ?_
              refine rx_iload_n d_Mo_checkJump_119 (by rfl) ?_
              refine rx_iconst (v := 1) d_Mo_checkJump_120 (by decide) ?_
              refine rx_iadd d_Mo_checkJump_121 ?_
              rw [nI_1]
              refine rx_aload_nr d_Mo_checkJump_122 (by rfl) ?_
              refine rx_getfield d_Mo_checkJump_123 fl_Mo_59 (mr0 ha) (by rfl) ?_
              rw [e2]
              refine rx_iconst (v := 1) d_Mo_checkJump_126 (by decide) ?_
              refine rx_isub d_Mo_checkJump_127 ?_
              refine rx_cV d_Mo_checkJump_128 (by rfl) ml_Mo_122 im_Mo_isThere se_Mo_isThere (by exact c9_Mo_isThere) (mr0 ha) (by rfl) (by exact Nat.le_of_ble_eq_true rfl) (k_isThere ha (N9 _) (hv9 _) (k := 4) (f := b + 1) (m := n - (b + 1)) (by omega) (by omega) (by rw [en]; omega)) ?_
              refine rx_if_ne (tgt := 138) d_Mo_checkJump_131 (by rfl) (fun c131 => ?_) (fun c131 => ?_)
              · have c131 : (fix (hbn n (S.2.2 4) 4) (b + 1) (n - (b + 1))).isSome = true := bi_1.mp c131
                have n4 : ¬ ∀ x, b < x → x < n → hb (S.2.2 4) 4 x = false := fun z => by
                  rw [(fix_in (show b + 1 + (n - (b + 1)) ≤ n by omega)).mpr (fun x h1 h2 => z x (by omega) (by omega))] at c131; cases c131
                refine rx_iconst (v := 0) d_Mo_checkJump_138 (by decide) ?_
                refine rx_bipush (v := 7) d_Mo_checkJump_139 (by decide) ?_
                refine rx_iload_n d_Mo_checkJump_141 (by rfl) ?_
                refine rx_cV d_Mo_checkJump_142 (by rfl) ml_Mo_112 im_Mo_wrong se_Mo_wrong (by exact c9_Mo_wrong) (mr0 ha) (by rfl) (by exact Nat.le_of_ble_eq_true rfl) (k_wrong ha (k := 7) (b := b) _) ?_
                refine rx_vreturn d_Mo_checkJump_145 (by rfl) ?_
                first
                  | omega
                  | exact ⟨rfl, _, rfl, fI_c (fI_w (k := 6) (b := b) F (by omega) (by omega) (by omega)) (fun k' b' => cj0 ⟨fun _ => h6.mpr c42, fun _ => by decide⟩ (fun z => absurd (m7.mp z).2.1 (by omega)))⟩
                  | exact absurd (c73.symm.trans c102) (by decide)
                  | exact ⟨rfl, _, rfl, fI_c (fI_w (k := 7) (b := b) (fI_w (k := 7) (b := b) (fI_w (k := 6) (b := b) F (by omega) (by omega) (by omega)) (by omega) (by omega) (by omega)) (by omega) (by omega) (by omega)) (fun k' b' => cj ⟨fun z => absurd rfl z, fun z => absurd (h6.mp z) (by omega)⟩ ⟨fun _ => m7.mpr ⟨hs, by omega, Or.inl ⟨c73, y5⟩⟩, fun _ => by decide⟩)⟩
                  | exact ⟨rfl, _, rfl, fI_c (fI_w (k := 7) (b := b) (fI_w (k := 7) (b := b) (fI_w (k := 6) (b := b) F (by omega) (by omega) (by omega)) (by omega) (by omega) (by omega)) (by omega) (by omega) (by omega)) (fun k' b' => cj ⟨fun z => absurd rfl z, fun z => absurd (h6.mp z) (by omega)⟩ ⟨fun _ => m7.mpr ⟨hs, by omega, Or.inr ⟨c102, Or.inl y6⟩⟩, fun _ => by decide⟩)⟩
                  | exact ⟨rfl, _, rfl, fI_c (fI_w (k := 7) (b := b) (fI_w (k := 7) (b := b) (fI_w (k := 6) (b := b) F (by omega) (by omega) (by omega)) (by omega) (by omega) (by omega)) (by omega) (by omega) (by omega)) (fun k' b' => cj ⟨fun z => absurd rfl z, fun z => absurd (h6.mp z) (by omega)⟩ ⟨fun _ => m7.mpr ⟨hs, by omega, Or.inr ⟨c102, Or.inr y4⟩⟩, fun _ => by decide⟩)⟩
                  | exact ⟨rfl, _, rfl, fI_c (fI_w (k := 7) (b := b) (fI_w (k := 7) (b := b) (fI_w (k := 6) (b := b) F (by omega) (by omega) (by omega)) (by omega) (by omega) (by omega)) (by omega) (by omega) (by omega)) (fun k' b' => cj ⟨fun z => absurd rfl z, fun z => absurd (h6.mp z) (by omega)⟩ ⟨fun z => absurd z (by decide), fun z => absurd (m7.mp z).2.2 (fun z => z.elim (fun w => c73 w.1) (fun w => c102 w.1))⟩)⟩
                  | exact ⟨rfl, _, rfl, fI_c (fI_w (k := 7) (b := b) (fI_w (k := 7) (b := b) (fI_w (k := 6) (b := b) F (by omega) (by omega) (by omega)) (by omega) (by omega) (by omega)) (by omega) (by omega) (by omega)) (fun k' b' => cj ⟨fun z => absurd rfl z, fun z => absurd (h6.mp z) (by omega)⟩ ⟨fun z => absurd z (by decide), fun z => absurd (m7.mp z).2.2 (fun z => z.elim (fun w => c73 w.1) (fun w => w.2.elim n6 n4))⟩)⟩
                  | exact ⟨rfl, _, rfl, fI_c (fI_w (k := 7) (b := b) (fI_w (k := 7) (b := b) (fI_w (k := 6) (b := b) F (by omega) (by omega) (by omega)) (by omega) (by omega) (by omega)) (by omega) (by omega) (by omega)) (fun k' b' => cj ⟨fun z => absurd rfl z, fun z => absurd (h6.mp z) (by omega)⟩ ⟨fun z => absurd z (by decide), fun z => absurd (m7.mp z).2.2 (fun z => z.elim (fun w => n5 w.2) (fun w => c102 w.1))⟩)⟩
              · have c131 : (fix (hbn n (S.2.2 4) 4) (b + 1) (n - (b + 1))).isSome = false := bi_0.mp c131
                have y4 : ∀ x, b < x → x < n → hb (S.2.2 4) 4 x = false := fun x h1 h2 => (fix_in (show b + 1 + (n - (b + 1)) ≤ n by omega)).mp c131 x (by omega) (by omega)
                refine rx_iconst (v := 1) d_Mo_checkJump_134 (by decide) ?_
                refine rx_goto (tgt := 139) d_Mo_checkJump_135 (by rfl) ?_
                refine rx_bipush (v := 7) d_Mo_checkJump_139 (by decide) ?_
                refine rx_iload_n d_Mo_checkJump_141 (by rfl) ?_
                refine rx_cV d_Mo_checkJump_142 (by rfl) ml_Mo_112 im_Mo_wrong se_Mo_wrong (by exact c9_Mo_wrong) (mr0 ha) (by rfl) (by exact Nat.le_of_ble_eq_true rfl) (k_wrong ha (k := 7) (b := b) _) ?_
                refine rx_vreturn d_Mo_checkJump_145 (by rfl) ?_
                first
                  | omega
                  | exact ⟨rfl, _, rfl, fI_c (fI_w (k := 6) (b := b) F (by omega) (by omega) (by omega)) (fun k' b' => cj0 ⟨fun _ => h6.mpr c42, fun _ => by decide⟩ (fun z => absurd (m7.mp z).2.1 (by omega)))⟩
                  | exact absurd (c73.symm.trans c102) (by decide)
                  | exact ⟨rfl, _, rfl, fI_c (fI_w (k := 7) (b := b) (fI_w (k := 7) (b := b) (fI_w (k := 6) (b := b) F (by omega) (by omega) (by omega)) (by omega) (by omega) (by omega)) (by omega) (by omega) (by omega)) (fun k' b' => cj ⟨fun z => absurd rfl z, fun z => absurd (h6.mp z) (by omega)⟩ ⟨fun _ => m7.mpr ⟨hs, by omega, Or.inl ⟨c73, y5⟩⟩, fun _ => by decide⟩)⟩
                  | exact ⟨rfl, _, rfl, fI_c (fI_w (k := 7) (b := b) (fI_w (k := 7) (b := b) (fI_w (k := 6) (b := b) F (by omega) (by omega) (by omega)) (by omega) (by omega) (by omega)) (by omega) (by omega) (by omega)) (fun k' b' => cj ⟨fun z => absurd rfl z, fun z => absurd (h6.mp z) (by omega)⟩ ⟨fun _ => m7.mpr ⟨hs, by omega, Or.inr ⟨c102, Or.inl y6⟩⟩, fun _ => by decide⟩)⟩
                  | exact ⟨rfl, _, rfl, fI_c (fI_w (k := 7) (b := b) (fI_w (k := 7) (b := b) (fI_w (k := 6) (b := b) F (by omega) (by omega) (by omega)) (by omega) (by omega) (by omega)) (by omega) (by omega) (by omega)) (fun k' b' => cj ⟨fun z => absurd rfl z, fun z => absurd (h6.mp z) (by omega)⟩ ⟨fun _ => m7.mpr ⟨hs, by omega, Or.inr ⟨c102, Or.inr y4⟩⟩, fun _ => by decide⟩)⟩
                  | exact ⟨rfl, _, rfl, fI_c (fI_w (k := 7) (b := b) (fI_w (k := 7) (b := b) (fI_w (k := 6) (b := b) F (by omega) (by omega) (by omega)) (by omega) (by omega) (by omega)) (by omega) (by omega) (by omega)) (fun k' b' => cj ⟨fun z => absurd rfl z, fun z => absurd (h6.mp z) (by omega)⟩ ⟨fun z => absurd z (by decide), fun z => absurd (m7.mp z).2.2 (fun z => z.elim (fun w => c73 w.1) (fun w => c102 w.1))⟩)⟩
                  | exact ⟨rfl, _, rfl, fI_c (fI_w (k := 7) (b := b) (fI_w (k := 7) (b := b) (fI_w (k := 6) (b := b) F (by omega) (by omega) (by omega)) (by omega) (by omega) (by omega)) (by omega) (by omega) (by omega)) (fun k' b' => cj ⟨fun z => absurd rfl z, fun z => absurd (h6.mp z) (by omega)⟩ ⟨fun z => absurd z (by decide), fun z => absurd (m7.mp z).2.2 (fun z => z.elim (fun w => c73 w.1) (fun w => w.2.elim n6 n4))⟩)⟩
                  | exact ⟨rfl, _, rfl, fI_c (fI_w (k := 7) (b := b) (fI_w (k := 7) (b := b) (fI_w (k := 6) (b := b) F (by omega) (by omega) (by omega)) (by omega) (by omega) (by omega)) (by omega) (by omega) (by omega)) (fun k' b' => cj ⟨fun z => absurd rfl z, fun z => absurd (h6.mp z) (by omega)⟩ ⟨fun z => absurd z (by decide), fun z => absurd (m7.mp z).2.2 (fun z => z.elim (fun w => n5 w.2) (fun w => c102 w.1))⟩)⟩
        · refine rx_aload_nr d_Mo_checkJump_76 (by rfl) ?_
          refine rx_iconst (v := 5) d_Mo_checkJump_77 (by decide) ?_
          refine rx_iload d_Mo_checkJump_78 (by rfl) ?_
          refine rx_iload_n d_Mo_checkJump_80 (by rfl) ?_
          refine rx_cV d_Mo_checkJump_81 (by rfl) ml_Mo_122 im_Mo_isThere se_Mo_isThere (by exact c9_Mo_isThere) (mr0 ha) (by rfl) (by exact Nat.le_of_ble_eq_true rfl) (k_isThere ha (N9 _) (hv9 _) (k := 5) (f := t) (m := b + 1 - t) (by omega) (by omega) (by rw [eb]; omega)) ?_
          refine rx_if_ne (tgt := 91) d_Mo_checkJump_84 (by rfl) (fun c84 => ?_) (fun c84 => ?_)
          · have c84 : (fix (hbn n (S.2.2 4) 5) t (b + 1 - t)).isSome = true := bi_1.mp c84
            have n5 : ¬ ∀ x, t ≤ x → x ≤ b → hb (S.2.2 4) 5 x = false := fun z => by
              rw [(fix_in (show t + (b + 1 - t) ≤ n by omega)).mpr (fun x h1 h2 => z x h1 (by omega))] at c84; cases c84
            refine rx_iconst (v := 0) d_Mo_checkJump_91 (by decide) ?_
            refine rx_bipush (v := 7) d_Mo_checkJump_92 (by decide) ?_
            refine rx_iload_n d_Mo_checkJump_94 (by rfl) ?_
            refine rx_cV d_Mo_checkJump_95 (by rfl) ml_Mo_112 im_Mo_wrong se_Mo_wrong (by exact c9_Mo_wrong) (mr0 ha) (by rfl) (by exact Nat.le_of_ble_eq_true rfl) (k_wrong ha (k := 7) (b := b) _) ?_
            refine rx_aload_nr d_Mo_checkJump_98 (by rfl) ?_
            refine rx_iload d_Mo_checkJump_99 (by rfl) ?_
            refine rx_iconst (v := 2) d_Mo_checkJump_101 (by decide) ?_
            refine rx_icmp_ne (tgt := 138) d_Mo_checkJump_102 (by rfl) (fun c102 => ?_) (fun c102 => ?_)
            · refine rx_iconst (v := 0) d_Mo_checkJump_138 (by decide) ?_
              refine rx_bipush (v := 7) d_Mo_checkJump_139 (by decide) ?_
              refine rx_iload_n d_Mo_checkJump_141 (by rfl) ?_
              refine rx_cV d_Mo_checkJump_142 (by rfl) ml_Mo_112 im_Mo_wrong se_Mo_wrong (by exact c9_Mo_wrong) (mr0 ha) (by rfl) (by exact Nat.le_of_ble_eq_true rfl) (k_wrong ha (k := 7) (b := b) _) ?_
              refine rx_vreturn d_Mo_checkJump_145 (by rfl) ?_
              first
                | omega
                | exact ⟨rfl, _, rfl, fI_c (fI_w (k := 6) (b := b) F (by omega) (by omega) (by omega)) (fun k' b' => cj0 ⟨fun _ => h6.mpr c42, fun _ => by decide⟩ (fun z => absurd (m7.mp z).2.1 (by omega)))⟩
                | exact absurd (c73.symm.trans c102) (by decide)
                | exact ⟨rfl, _, rfl, fI_c (fI_w (k := 7) (b := b) (fI_w (k := 7) (b := b) (fI_w (k := 6) (b := b) F (by omega) (by omega) (by omega)) (by omega) (by omega) (by omega)) (by omega) (by omega) (by omega)) (fun k' b' => cj ⟨fun z => absurd rfl z, fun z => absurd (h6.mp z) (by omega)⟩ ⟨fun _ => m7.mpr ⟨hs, by omega, Or.inl ⟨c73, y5⟩⟩, fun _ => by decide⟩)⟩
                | exact ⟨rfl, _, rfl, fI_c (fI_w (k := 7) (b := b) (fI_w (k := 7) (b := b) (fI_w (k := 6) (b := b) F (by omega) (by omega) (by omega)) (by omega) (by omega) (by omega)) (by omega) (by omega) (by omega)) (fun k' b' => cj ⟨fun z => absurd rfl z, fun z => absurd (h6.mp z) (by omega)⟩ ⟨fun _ => m7.mpr ⟨hs, by omega, Or.inr ⟨c102, Or.inl y6⟩⟩, fun _ => by decide⟩)⟩
                | exact ⟨rfl, _, rfl, fI_c (fI_w (k := 7) (b := b) (fI_w (k := 7) (b := b) (fI_w (k := 6) (b := b) F (by omega) (by omega) (by omega)) (by omega) (by omega) (by omega)) (by omega) (by omega) (by omega)) (fun k' b' => cj ⟨fun z => absurd rfl z, fun z => absurd (h6.mp z) (by omega)⟩ ⟨fun _ => m7.mpr ⟨hs, by omega, Or.inr ⟨c102, Or.inr y4⟩⟩, fun _ => by decide⟩)⟩
                | exact ⟨rfl, _, rfl, fI_c (fI_w (k := 7) (b := b) (fI_w (k := 7) (b := b) (fI_w (k := 6) (b := b) F (by omega) (by omega) (by omega)) (by omega) (by omega) (by omega)) (by omega) (by omega) (by omega)) (fun k' b' => cj ⟨fun z => absurd rfl z, fun z => absurd (h6.mp z) (by omega)⟩ ⟨fun z => absurd z (by decide), fun z => absurd (m7.mp z).2.2 (fun z => z.elim (fun w => c73 w.1) (fun w => c102 w.1))⟩)⟩
                | exact ⟨rfl, _, rfl, fI_c (fI_w (k := 7) (b := b) (fI_w (k := 7) (b := b) (fI_w (k := 6) (b := b) F (by omega) (by omega) (by omega)) (by omega) (by omega) (by omega)) (by omega) (by omega) (by omega)) (fun k' b' => cj ⟨fun z => absurd rfl z, fun z => absurd (h6.mp z) (by omega)⟩ ⟨fun z => absurd z (by decide), fun z => absurd (m7.mp z).2.2 (fun z => z.elim (fun w => c73 w.1) (fun w => w.2.elim n6 n4))⟩)⟩
                | exact ⟨rfl, _, rfl, fI_c (fI_w (k := 7) (b := b) (fI_w (k := 7) (b := b) (fI_w (k := 6) (b := b) F (by omega) (by omega) (by omega)) (by omega) (by omega) (by omega)) (by omega) (by omega) (by omega)) (fun k' b' => cj ⟨fun z => absurd rfl z, fun z => absurd (h6.mp z) (by omega)⟩ ⟨fun z => absurd z (by decide), fun z => absurd (m7.mp z).2.2 (fun z => z.elim (fun w => n5 w.2) (fun w => c102 w.1))⟩)⟩
            · refine rx_aload_nr d_Mo_checkJump_105 (by rfl) ?_
              refine rx_bipush (v := 6) d_Mo_checkJump_106 (by decide) ?_
              refine rx_iload d_Mo_checkJump_108 (by rfl) ?_
              refine rx_iload_n d_Mo_checkJump_110 (by rfl) ?_
              refine rx_cV d_Mo_checkJump_111 (by rfl) ml_Mo_122 im_Mo_isThere se_Mo_isThere (by exact c9_Mo_isThere) (mr0 ha) (by rfl) (by exact Nat.le_of_ble_eq_true rfl) (k_isThere ha (N9 _) (hv9 _) (k := 6) (f := t) (m := b + 1 - t) (by omega) (by omega) (by rw [eb]; omega)) ?_
              refine rx_if_eq (tgt := 134) d_Mo_checkJump_114 (by rfl) (fun c114 => ?_) (fun c114 => ?_)
              · have c114 : (fix (hbn n (S.2.2 4) 6) t (b + 1 - t)).isSome = false := bi_0.mp c114
                have y6 : ∀ x, t ≤ x → x ≤ b → hb (S.2.2 4) 6 x = false := fun x h1 h2 => (fix_in (show t + (b + 1 - t) ≤ n by omega)).mp c114 x h1 (by omega)
                refine rx_iconst (v := 1) d_Mo_checkJump_134 (by decide) ?_
                refine rx_goto (tgt := 139) d_Mo_checkJump_135 (by rfl) ?_
                refine rx_bipush (v := 7) d_Mo_checkJump_139 (by decide) ?_
                refine rx_iload_n d_Mo_checkJump_141 (by rfl) ?_
                refine rx_cV d_Mo_checkJump_142 (by rfl) ml_Mo_112 im_Mo_wrong se_Mo_wrong (by exact c9_Mo_wrong) (mr0 ha) (by rfl) (by exact Nat.le_of_ble_eq_true rfl) (k_wrong ha (k := 7) (b := b) _) ?_
                refine rx_vreturn d_Mo_checkJump_145 (by rfl) ?_
                first
                  | omega
                  | exact ⟨rfl, _, rfl, fI_c (fI_w (k := 6) (b := b) F (by omega) (by omega) (by omega)) (fun k' b' => cj0 ⟨fun _ => h6.mpr c42, fun _ => by decide⟩ (fun z => absurd (m7.mp z).2.1 (by omega)))⟩
                  | exact absurd (c73.symm.trans c102) (by decide)
                  | exact ⟨rfl, _, rfl, fI_c (fI_w (k := 7) (b := b) (fI_w (k := 7) (b := b) (fI_w (k := 6) (b := b) F (by omega) (by omega) (by omega)) (by omega) (by omega) (by omega)) (by omega) (by omega) (by omega)) (fun k' b' => cj ⟨fun z => absurd rfl z, fun z => absurd (h6.mp z) (by omega)⟩ ⟨fun _ => m7.mpr ⟨hs, by omega, Or.inl ⟨c73, y5⟩⟩, fun _ => by decide⟩)⟩
                  | exact ⟨rfl, _, rfl, fI_c (fI_w (k := 7) (b := b) (fI_w (k := 7) (b := b) (fI_w (k := 6) (b := b) F (by omega) (by omega) (by omega)) (by omega) (by omega) (by omega)) (by omega) (by omega) (by omega)) (fun k' b' => cj ⟨fun z => absurd rfl z, fun z => absurd (h6.mp z) (by omega)⟩ ⟨fun _ => m7.mpr ⟨hs, by omega, Or.inr ⟨c102, Or.inl y6⟩⟩, fun _ => by decide⟩)⟩
                  | exact ⟨rfl, _, rfl, fI_c (fI_w (k := 7) (b := b) (fI_w (k := 7) (b := b) (fI_w (k := 6) (b := b) F (by omega) (by omega) (by omega)) (by omega) (by omega) (by omega)) (by omega) (by omega) (by omega)) (fun k' b' => cj ⟨fun z => absurd rfl z, fun z => absurd (h6.mp z) (by omega)⟩ ⟨fun _ => m7.mpr ⟨hs, by omega, Or.inr ⟨c102, Or.inr y4⟩⟩, fun _ => by decide⟩)⟩
                  | exact ⟨rfl, _, rfl, fI_c (fI_w (k := 7) (b := b) (fI_w (k := 7) (b := b) (fI_w (k := 6) (b := b) F (by omega) (by omega) (by omega)) (by omega) (by omega) (by omega)) (by omega) (by omega) (by omega)) (fun k' b' => cj ⟨fun z => absurd rfl z, fun z => absurd (h6.mp z) (by omega)⟩ ⟨fun z => absurd z (by decide), fun z => absurd (m7.mp z).2.2 (fun z => z.elim (fun w => c73 w.1) (fun w => c102 w.1))⟩)⟩
                  | exact ⟨rfl, _, rfl, fI_c (fI_w (k := 7) (b := b) (fI_w (k := 7) (b := b) (fI_w (k := 6) (b := b) F (by omega) (by omega) (by omega)) (by omega) (by omega) (by omega)) (by omega) (by omega) (by omega)) (fun k' b' => cj ⟨fun z => absurd rfl z, fun z => absurd (h6.mp z) (by omega)⟩ ⟨fun z => absurd z (by decide), fun z => absurd (m7.mp z).2.2 (fun z => z.elim (fun w => c73 w.1) (fun w => w.2.elim n6 n4))⟩)⟩
                  | exact ⟨rfl, _, rfl, fI_c (fI_w (k := 7) (b := b) (fI_w (k := 7) (b := b) (fI_w (k := 6) (b := b) F (by omega) (by omega) (by omega)) (by omega) (by omega) (by omega)) (by omega) (by omega) (by omega)) (fun k' b' => cj ⟨fun z => absurd rfl z, fun z => absurd (h6.mp z) (by omega)⟩ ⟨fun z => absurd z (by decide), fun z => absurd (m7.mp z).2.2 (fun z => z.elim (fun w => n5 w.2) (fun w => c102 w.1))⟩)⟩
              · have c114 : (fix (hbn n (S.2.2 4) 6) t (b + 1 - t)).isSome = true := bi_1.mp c114
                have n6 : ¬ ∀ x, t ≤ x → x ≤ b → hb (S.2.2 4) 6 x = false := fun z => by
                  rw [(fix_in (show t + (b + 1 - t) ≤ n by omega)).mpr (fun x h1 h2 => z x h1 (by omega))] at c114; cases c114
                refine rx_aload_nr d_Mo_checkJump_117 (by rfl) ?_
                refine rx_iconst (v := 4) d_Mo_checkJump_118 (by decide) ?_
                refine rx_iload_n d_Mo_checkJump_119 (by rfl) ?_
                refine rx_iconst (v := 1) d_Mo_checkJump_120 (by decide) ?_
                refine rx_iadd d_Mo_checkJump_121 ?_
                rw [nI_1]
                refine rx_aload_nr d_Mo_checkJump_122 (by rfl) ?_
                refine rx_getfield d_Mo_checkJump_123 fl_Mo_59 (mr0 ha) (by rfl) ?_
                rw [e2]
                refine rx_iconst (v := 1) d_Mo_checkJump_126 (by decide) ?_
                refine rx_isub d_Mo_checkJump_127 ?_
                refine rx_cV d_Mo_checkJump_128 (by rfl) ml_Mo_122 im_Mo_isThere se_Mo_isThere (by exact c9_Mo_isThere) (mr0 ha) (by rfl) (by exact Nat.le_of_ble_eq_true rfl) (k_isThere ha (N9 _) (hv9 _) (k := 4) (f := b + 1) (m := n - (b + 1)) (by omega) (by omega) (by rw [en]; omega)) ?_
                refine rx_if_ne (tgt := 138) d_Mo_checkJump_131 (by rfl) (fun c131 => ?_) (fun c131 => ?_)
                · have c131 : (fix (hbn n (S.2.2 4) 4) (b + 1) (n - (b + 1))).isSome = true := bi_1.mp c131
                  have n4 : ¬ ∀ x, b < x → x < n → hb (S.2.2 4) 4 x = false := fun z => by
                    rw [(fix_in (show b + 1 + (n - (b + 1)) ≤ n by omega)).mpr (fun x h1 h2 => z x (by omega) (by omega))] at c131; cases c131
                  refine rx_iconst (v := 0) d_Mo_checkJump_138 (by decide) ?_
                  refine rx_bipush (v := 7) d_Mo_checkJump_139 (by decide) ?_
                  refine rx_iload_n d_Mo_checkJump_141 (by rfl) ?_
                  refine rx_cV d_Mo_checkJump_142 (by rfl) ml_Mo_112 im_Mo_wrong se_Mo_wrong (by exact c9_Mo_wrong) (mr0 ha) (by rfl) (by exact Nat.le_of_ble_eq_true rfl) (k_wrong ha (k := 7) (b := b) _) ?_
                  refine rx_vreturn d_Mo_checkJump_145 (by rfl) ?_
                  first
                    | omega
                    | exact ⟨rfl, _, rfl, fI_c (fI_w (k := 6) (b := b) F (by omega) (by omega) (by omega)) (fun k' b' => cj0 ⟨fun _ => h6.mpr c42, fun _ => by decide⟩ (fun z => absurd (m7.mp z).2.1 (by omega)))⟩
                    | exact absurd (c73.symm.trans c102) (by decide)
                    | exact ⟨rfl, _, rfl, fI_c (fI_w (k := 7) (b := b) (fI_w (k := 7) (b := b) (fI_w (k := 6) (b := b) F (by omega) (by omega) (by omega)) (by omega) (by omega) (by omega)) (by omega) (by omega) (by omega)) (fun k' b' => cj ⟨fun z => absurd rfl z, fun z => absurd (h6.mp z) (by omega)⟩ ⟨fun _ => m7.mpr ⟨hs, by omega, Or.inl ⟨c73, y5⟩⟩, fun _ => by decide⟩)⟩
                    | exact ⟨rfl, _, rfl, fI_c (fI_w (k := 7) (b := b) (fI_w (k := 7) (b := b) (fI_w (k := 6) (b := b) F (by omega) (by omega) (by omega)) (by omega) (by omega) (by omega)) (by omega) (by omega) (by omega)) (fun k' b' => cj ⟨fun z => absurd rfl z, fun z => absurd (h6.mp z) (by omega)⟩ ⟨fun _ => m7.mpr ⟨hs, by omega, Or.inr ⟨c102, Or.inl y6⟩⟩, fun _ => by decide⟩)⟩
                    | exact ⟨rfl, _, rfl, fI_c (fI_w (k := 7) (b := b) (fI_w (k := 7) (b := b) (fI_w (k := 6) (b := b) F (by omega) (by omega) (by omega)) (by omega) (by omega) (by omega)) (by omega) (by omega) (by omega)) (fun k' b' => cj ⟨fun z => absurd rfl z, fun z => absurd (h6.mp z) (by omega)⟩ ⟨fun _ => m7.mpr ⟨hs, by omega, Or.inr ⟨c102, Or.inr y4⟩⟩, fun _ => by decide⟩)⟩
                    | exact ⟨rfl, _, rfl, fI_c (fI_w (k := 7) (b := b) (fI_w (k := 7) (b := b) (fI_w (k := 6) (b := b) F (by omega) (by omega) (by omega)) (by omega) (by omega) (by omega)) (by omega) (by omega) (by omega)) (fun k' b' => cj ⟨fun z => absurd rfl z, fun z => absurd (h6.mp z) (by omega)⟩ ⟨fun z => absurd z (by decide), fun z => absurd (m7.mp z).2.2 (fun z => z.elim (fun w => c73 w.1) (fun w => c102 w.1))⟩)⟩
                    | exact ⟨rfl, _, rfl, fI_c (fI_w (k := 7) (b := b) (fI_w (k := 7) (b := b) (fI_w (k := 6) (b := b) F (by omega) (by omega) (by omega)) (by omega) (by omega) (by omega)) (by omega) (by omega) (by omega)) (fun k' b' => cj ⟨fun z => absurd rfl z, fun z => absurd (h6.mp z) (by omega)⟩ ⟨fun z => absurd z (by decide), fun z => absurd (m7.mp z).2.2 (fun z => z.elim (fun w => c73 w.1) (fun w => w.2.elim n6 n4))⟩)⟩
                    | exact ⟨rfl, _, rfl, fI_c (fI_w (k := 7) (b := b) (fI_w (k := 7) (b := b) (fI_w (k := 6) (b := b) F (by omega) (by omega) (by omega)) (by omega) (by omega) (by omega)) (by omega) (by omega) (by omega)) (fun k' b' => cj ⟨fun z => absurd rfl z, fun z => absurd (h6.mp z) (by omega)⟩ ⟨fun z => absurd z (by decide), fun z => absurd (m7.mp z).2.2 (fun z => z.elim (fun w => n5 w.2) (fun w => c102 w.1))⟩)⟩
                · have c131 : (fix (hbn n (S.2.2 4) 4) (b + 1) (n - (b + 1))).isSome = false := bi_0.mp c131
                  have y4 : ∀ x, b < x → x < n → hb (S.2.2 4) 4 x = false := fun x h1 h2 => (fix_in (show b + 1 + (n - (b + 1)) ≤ n by omega)).mp c131 x (by omega) (by omega)
                  refine rx_iconst (v := 1) d_Mo_checkJump_134 (by decide) ?_
                  refine rx_goto (tgt := 139) d_Mo_checkJump_135 (by rfl) ?_
                  refine rx_bipush (v := 7) d_Mo_checkJump_139 (by decide) ?_
                  refine rx_iload_n d_Mo_checkJump_141 (by rfl) ?_
                  refine rx_cV d_Mo_checkJump_142 (by rfl) ml_Mo_112 im_Mo_wrong se_Mo_wrong (by exact c9_Mo_wrong) (mr0 ha) (by rfl) (by exact Nat.le_of_ble_eq_true rfl) (k_wrong ha (k := 7) (b := b) _) ?_
                  refine rx_vreturn d_Mo_checkJump_145 (by rfl) ?_
                  first
                    | omega
                    | exact ⟨rfl, _, rfl, fI_c (fI_w (k := 6) (b := b) F (by omega) (by omega) (by omega)) (fun k' b' => cj0 ⟨fun _ => h6.mpr c42, fun _ => by decide⟩ (fun z => absurd (m7.mp z).2.1 (by omega)))⟩
                    | exact absurd (c73.symm.trans c102) (by decide)
                    | exact ⟨rfl, _, rfl, fI_c (fI_w (k := 7) (b := b) (fI_w (k := 7) (b := b) (fI_w (k := 6) (b := b) F (by omega) (by omega) (by omega)) (by omega) (by omega) (by omega)) (by omega) (by omega) (by omega)) (fun k' b' => cj ⟨fun z => absurd rfl z, fun z => absurd (h6.mp z) (by omega)⟩ ⟨fun _ => m7.mpr ⟨hs, by omega, Or.inl ⟨c73, y5⟩⟩, fun _ => by decide⟩)⟩
                    | exact ⟨rfl, _, rfl, fI_c (fI_w (k := 7) (b := b) (fI_w (k := 7) (b := b) (fI_w (k := 6) (b := b) F (by omega) (by omega) (by omega)) (by omega) (by omega) (by omega)) (by omega) (by omega) (by omega)) (fun k' b' => cj ⟨fun z => absurd rfl z, fun z => absurd (h6.mp z) (by omega)⟩ ⟨fun _ => m7.mpr ⟨hs, by omega, Or.inr ⟨c102, Or.inl y6⟩⟩, fun _ => by decide⟩)⟩
                    | exact ⟨rfl, _, rfl, fI_c (fI_w (k := 7) (b := b) (fI_w (k := 7) (b := b) (fI_w (k := 6) (b := b) F (by omega) (by omega) (by omega)) (by omega) (by omega) (by omega)) (by omega) (by omega) (by omega)) (fun k' b' => cj ⟨fun z => absurd rfl z, fun z => absurd (h6.mp z) (by omega)⟩ ⟨fun _ => m7.mpr ⟨hs, by omega, Or.inr ⟨c102, Or.inr y4⟩⟩, fun _ => by decide⟩)⟩
                    | exact ⟨rfl, _, rfl, fI_c (fI_w (k := 7) (b := b) (fI_w (k := 7) (b := b) (fI_w (k := 6) (b := b) F (by omega) (by omega) (by omega)) (by omega) (by omega) (by omega)) (by omega) (by omega) (by omega)) (fun k' b' => cj ⟨fun z => absurd rfl z, fun z => absurd (h6.mp z) (by omega)⟩ ⟨fun z => absurd z (by decide), fun z => absurd (m7.mp z).2.2 (fun z => z.elim (fun w => c73 w.1) (fun w => c102 w.1))⟩)⟩
                    | exact ⟨rfl, _, rfl, fI_c (fI_w (k := 7) (b := b) (fI_w (k := 7) (b := b) (fI_w (k := 6) (b := b) F (by omega) (by omega) (by omega)) (by omega) (by omega) (by omega)) (by omega) (by omega) (by omega)) (fun k' b' => cj ⟨fun z => absurd rfl z, fun z => absurd (h6.mp z) (by omega)⟩ ⟨fun z => absurd z (by decide), fun z => absurd (m7.mp z).2.2 (fun z => z.elim (fun w => c73 w.1) (fun w => w.2.elim n6 n4))⟩)⟩
                    | exact ⟨rfl, _, rfl, fI_c (fI_w (k := 7) (b := b) (fI_w (k := 7) (b := b) (fI_w (k := 6) (b := b) F (by omega) (by omega) (by omega)) (by omega) (by omega) (by omega)) (by omega) (by omega) (by omega)) (fun k' b' => cj ⟨fun z => absurd rfl z, fun z => absurd (h6.mp z) (by omega)⟩ ⟨fun z => absurd z (by decide), fun z => absurd (m7.mp z).2.2 (fun z => z.elim (fun w => n5 w.2) (fun w => c102 w.1))⟩)⟩
          · have c84 : (fix (hbn n (S.2.2 4) 5) t (b + 1 - t)).isSome = false := bi_0.mp c84
            have y5 : ∀ x, t ≤ x → x ≤ b → hb (S.2.2 4) 5 x = false := fun x h1 h2 => (fix_in (show t + (b + 1 - t) ≤ n by omega)).mp c84 x h1 (by omega)
            refine rx_iconst (v := 1) d_Mo_checkJump_87 (by decide) ?_
            refine rx_goto (tgt := 92) d_Mo_checkJump_88 (by rfl) ?_
            refine rx_bipush (v := 7) d_Mo_checkJump_92 (by decide) ?_
            refine rx_iload_n d_Mo_checkJump_94 (by rfl) ?_
            refine rx_cV d_Mo_checkJump_95 (by rfl) ml_Mo_112 im_Mo_wrong se_Mo_wrong (by exact c9_Mo_wrong) (mr0 ha) (by rfl) (by exact Nat.le_of_ble_eq_true rfl) (k_wrong ha (k := 7) (b := b) _) ?_
            refine rx_aload_nr d_Mo_checkJump_98 (by rfl) ?_
            refine rx_iload d_Mo_checkJump_99 (by rfl) ?_
            refine rx_iconst (v := 2) d_Mo_checkJump_101 (by decide) ?_
            refine rx_icmp_ne (tgt := 138) d_Mo_checkJump_102 (by rfl) (fun c102 => ?_) (fun c102 => ?_)
            · refine rx_iconst (v := 0) d_Mo_checkJump_138 (by decide) ?_
              refine rx_bipush (v := 7) d_Mo_checkJump_139 (by decide) ?_
              refine rx_iload_n d_Mo_checkJump_141 (by rfl) ?_
              refine rx_cV d_Mo_checkJump_142 (by rfl) ml_Mo_112 im_Mo_wrong se_Mo_wrong (by exact c9_Mo_wrong) (mr0 ha) (by rfl) (by exact Nat.le_of_ble_eq_true rfl) (k_wrong ha (k := 7) (b := b) _) ?_
              refine rx_vreturn d_Mo_checkJump_145 (by rfl) ?_
              first
                | omega
                | exact ⟨rfl, _, rfl, fI_c (fI_w (k := 6) (b := b) F (by omega) (by omega) (by omega)) (fun k' b' => cj0 ⟨fun _ => h6.mpr c42, fun _ => by decide⟩ (fun z => absurd (m7.mp z).2.1 (by omega)))⟩
                | exact absurd (c73.symm.trans c102) (by decide)
                | exact ⟨rfl, _, rfl, fI_c (fI_w (k := 7) (b := b) (fI_w (k := 7) (b := b) (fI_w (k := 6) (b := b) F (by omega) (by omega) (by omega)) (by omega) (by omega) (by omega)) (by omega) (by omega) (by omega)) (fun k' b' => cj ⟨fun z => absurd rfl z, fun z => absurd (h6.mp z) (by omega)⟩ ⟨fun _ => m7.mpr ⟨hs, by omega, Or.inl ⟨c73, y5⟩⟩, fun _ => by decide⟩)⟩
                | exact ⟨rfl, _, rfl, fI_c (fI_w (k := 7) (b := b) (fI_w (k := 7) (b := b) (fI_w (k := 6) (b := b) F (by omega) (by omega) (by omega)) (by omega) (by omega) (by omega)) (by omega) (by omega) (by omega)) (fun k' b' => cj ⟨fun z => absurd rfl z, fun z => absurd (h6.mp z) (by omega)⟩ ⟨fun _ => m7.mpr ⟨hs, by omega, Or.inr ⟨c102, Or.inl y6⟩⟩, fun _ => by decide⟩)⟩
                | exact ⟨rfl, _, rfl, fI_c (fI_w (k := 7) (b := b) (fI_w (k := 7) (b := b) (fI_w (k := 6) (b := b) F (by omega) (by omega) (by omega)) (by omega) (by omega) (by omega)) (by omega) (by omega) (by omega)) (fun k' b' => cj ⟨fun z => absurd rfl z, fun z => absurd (h6.mp z) (by omega)⟩ ⟨fun _ => m7.mpr ⟨hs, by omega, Or.inr ⟨c102, Or.inr y4⟩⟩, fun _ => by decide⟩)⟩
                | exact ⟨rfl, _, rfl, fI_c (fI_w (k := 7) (b := b) (fI_w (k := 7) (b := b) (fI_w (k := 6) (b := b) F (by omega) (by omega) (by omega)) (by omega) (by omega) (by omega)) (by omega) (by omega) (by omega)) (fun k' b' => cj ⟨fun z => absurd rfl z, fun z => absurd (h6.mp z) (by omega)⟩ ⟨fun z => absurd z (by decide), fun z => absurd (m7.mp z).2.2 (fun z => z.elim (fun w => c73 w.1) (fun w => c102 w.1))⟩)⟩
                | exact ⟨rfl, _, rfl, fI_c (fI_w (k := 7) (b := b) (fI_w (k := 7) (b := b) (fI_w (k := 6) (b := b) F (by omega) (by omega) (by omega)) (by omega) (by omega) (by omega)) (by omega) (by omega) (by omega)) (fun k' b' => cj ⟨fun z => absurd rfl z, fun z => absurd (h6.mp z) (by omega)⟩ ⟨fun z => absurd z (by decide), fun z => absurd (m7.mp z).2.2 (fun z => z.elim (fun w => c73 w.1) (fun w => w.2.elim n6 n4))⟩)⟩
                | exact ⟨rfl, _, rfl, fI_c (fI_w (k := 7) (b := b) (fI_w (k := 7) (b := b) (fI_w (k := 6) (b := b) F (by omega) (by omega) (by omega)) (by omega) (by omega) (by omega)) (by omega) (by omega) (by omega)) (fun k' b' => cj ⟨fun z => absurd rfl z, fun z => absurd (h6.mp z) (by omega)⟩ ⟨fun z => absurd z (by decide), fun z => absurd (m7.mp z).2.2 (fun z => z.elim (fun w => n5 w.2) (fun w => c102 w.1))⟩)⟩
            · refine rx_aload_nr d_Mo_checkJump_105 (by rfl) ?_
              refine rx_bipush (v := 6) d_Mo_checkJump_106 (by decide) ?_
              refine rx_iload d_Mo_checkJump_108 (by rfl) ?_
              refine rx_iload_n d_Mo_checkJump_110 (by rfl) ?_
              refine rx_cV d_Mo_checkJump_111 (by rfl) ml_Mo_122 im_Mo_isThere se_Mo_isThere (by exact c9_Mo_isThere) (mr0 ha) (by rfl) (by exact Nat.le_of_ble_eq_true rfl) (k_isThere ha (N9 _) (hv9 _) (k := 6) (f := t) (m := b + 1 - t) (by omega) (by omega) (by rw [eb]; omega)) ?_
              refine rx_if_eq (tgt := 134) d_Mo_checkJump_114 (by rfl) (fun c114 => ?_) (fun c114 => ?_)
              · have c114 : (fix (hbn n (S.2.2 4) 6) t (b + 1 - t)).isSome = false := bi_0.mp c114
                have y6 : ∀ x, t ≤ x → x ≤ b → hb (S.2.2 4) 6 x = false := fun x h1 h2 => (fix_in (show t + (b + 1 - t) ≤ n by omega)).mp c114 x h1 (by omega)
                refine rx_iconst (v := 1) d_Mo_checkJump_134 (by decide) ?_
                refine rx_goto (tgt := 139) d_Mo_checkJump_135 (by rfl) ?_
                refine rx_bipush (v := 7) d_Mo_checkJump_139 (by decide) ?_
                refine rx_iload_n d_Mo_checkJump_141 (by rfl) ?_
                refine rx_cV d_Mo_checkJump_142 (by rfl) ml_Mo_112 im_Mo_wrong se_Mo_wrong (by exact c9_Mo_wrong) (mr0 ha) (by rfl) (by exact Nat.le_of_ble_eq_true rfl) (k_wrong ha (k := 7) (b := b) _) ?_
                refine rx_vreturn d_Mo_checkJump_145 (by rfl) ?_
                first
                  | omega
                  | exact ⟨rfl, _, rfl, fI_c (fI_w (k := 6) (b := b) F (by omega) (by omega) (by omega)) (fun k' b' => cj0 ⟨fun _ => h6.mpr c42, fun _ => by decide⟩ (fun z => absurd (m7.mp z).2.1 (by omega)))⟩
                  | exact absurd (c73.symm.trans c102) (by decide)
                  | exact ⟨rfl, _, rfl, fI_c (fI_w (k := 7) (b := b) (fI_w (k := 7) (b := b) (fI_w (k := 6) (b := b) F (by omega) (by omega) (by omega)) (by omega) (by omega) (by omega)) (by omega) (by omega) (by omega)) (fun k' b' => cj ⟨fun z => absurd rfl z, fun z => absurd (h6.mp z) (by omega)⟩ ⟨fun _ => m7.mpr ⟨hs, by omega, Or.inl ⟨c73, y5⟩⟩, fun _ => by decide⟩)⟩
                  | exact ⟨rfl, _, rfl, fI_c (fI_w (k := 7) (b := b) (fI_w (k := 7) (b := b) (fI_w (k := 6) (b := b) F (by omega) (by omega) (by omega)) (by omega) (by omega) (by omega)) (by omega) (by omega) (by omega)) (fun k' b' => cj ⟨fun z => absurd rfl z, fun z => absurd (h6.mp z) (by omega)⟩ ⟨fun _ => m7.mpr ⟨hs, by omega, Or.inr ⟨c102, Or.inl y6⟩⟩, fun _ => by decide⟩)⟩
                  | exact ⟨rfl, _, rfl, fI_c (fI_w (k := 7) (b := b) (fI_w (k := 7) (b := b) (fI_w (k := 6) (b := b) F (by omega) (by omega) (by omega)) (by omega) (by omega) (by omega)) (by omega) (by omega) (by omega)) (fun k' b' => cj ⟨fun z => absurd rfl z, fun z => absurd (h6.mp z) (by omega)⟩ ⟨fun _ => m7.mpr ⟨hs, by omega, Or.inr ⟨c102, Or.inr y4⟩⟩, fun _ => by decide⟩)⟩
                  | exact ⟨rfl, _, rfl, fI_c (fI_w (k := 7) (b := b) (fI_w (k := 7) (b := b) (fI_w (k := 6) (b := b) F (by omega) (by omega) (by omega)) (by omega) (by omega) (by omega)) (by omega) (by omega) (by omega)) (fun k' b' => cj ⟨fun z => absurd rfl z, fun z => absurd (h6.mp z) (by omega)⟩ ⟨fun z => absurd z (by decide), fun z => absurd (m7.mp z).2.2 (fun z => z.elim (fun w => c73 w.1) (fun w => c102 w.1))⟩)⟩
                  | exact ⟨rfl, _, rfl, fI_c (fI_w (k := 7) (b := b) (fI_w (k := 7) (b := b) (fI_w (k := 6) (b := b) F (by omega) (by omega) (by omega)) (by omega) (by omega) (by omega)) (by omega) (by omega) (by omega)) (fun k' b' => cj ⟨fun z => absurd rfl z, fun z => absurd (h6.mp z) (by omega)⟩ ⟨fun z => absurd z (by decide), fun z => absurd (m7.mp z).2.2 (fun z => z.elim (fun w => c73 w.1) (fun w => w.2.elim n6 n4))⟩)⟩
                  | exact ⟨rfl, _, rfl, fI_c (fI_w (k := 7) (b := b) (fI_w (k := 7) (b := b) (fI_w (k := 6) (b := b) F (by omega) (by omega) (by omega)) (by omega) (by omega) (by omega)) (by omega) (by omega) (by omega)) (fun k' b' => cj ⟨fun z => absurd rfl z, fun z => absurd (h6.mp z) (by omega)⟩ ⟨fun z => absurd z (by decide), fun z => absurd (m7.mp z).2.2 (fun z => z.elim (fun w => n5 w.2) (fun w => c102 w.1))⟩)⟩
              · have c114 : (fix (hbn n (S.2.2 4) 6) t (b + 1 - t)).isSome = true := bi_1.mp c114
                have n6 : ¬ ∀ x, t ≤ x → x ≤ b → hb (S.2.2 4) 6 x = false := fun z => by
                  rw [(fix_in (show t + (b + 1 - t) ≤ n by omega)).mpr (fun x h1 h2 => z x h1 (by omega))] at c114; cases c114
                refine rx_aload_nr d_Mo_checkJump_117 (by rfl) ?_
                refine rx_iconst (v := 4) d_Mo_checkJump_118 (by decide) ?_
                refine rx_iload_n d_Mo_checkJump_119 (by rfl) ?_
                refine rx_iconst (v := 1) d_Mo_checkJump_120 (by decide) ?_
                refine rx_iadd d_Mo_checkJump_121 ?_
                rw [nI_1]
                refine rx_aload_nr d_Mo_checkJump_122 (by rfl) ?_
                refine rx_getfield d_Mo_checkJump_123 fl_Mo_59 (mr0 ha) (by rfl) ?_
                rw [e2]
                refine rx_iconst (v := 1) d_Mo_checkJump_126 (by decide) ?_
                refine rx_isub d_Mo_checkJump_127 ?_
                refine rx_cV d_Mo_checkJump_128 (by rfl) ml_Mo_122 im_Mo_isThere se_Mo_isThere (by exact c9_Mo_isThere) (mr0 ha) (by rfl) (by exact Nat.le_of_ble_eq_true rfl) (k_isThere ha (N9 _) (hv9 _) (k := 4) (f := b + 1) (m := n - (b + 1)) (by omega) (by omega) (by rw [en]; omega)) ?_
                refine rx_if_ne (tgt := 138) d_Mo_checkJump_131 (by rfl) (fun c131 => ?_) (fun c131 => ?_)
                · have c131 : (fix (hbn n (S.2.2 4) 4) (b + 1) (n - (b + 1))).isSome = true := bi_1.mp c131
                  have n4 : ¬ ∀ x, b < x → x < n → hb (S.2.2 4) 4 x = false := fun z => by
                    rw [(fix_in (show b + 1 + (n - (b + 1)) ≤ n by omega)).mpr (fun x h1 h2 => z x (by omega) (by omega))] at c131; cases c131
                  refine rx_iconst (v := 0) d_Mo_checkJump_138 (by decide) ?_
                  refine rx_bipush (v := 7) d_Mo_checkJump_139 (by decide) ?_
                  refine rx_iload_n d_Mo_checkJump_141 (by rfl) ?_
                  refine rx_cV d_Mo_checkJump_142 (by rfl) ml_Mo_112 im_Mo_wrong se_Mo_wrong (by exact c9_Mo_wrong) (mr0 ha) (by rfl) (by exact Nat.le_of_ble_eq_true rfl) (k_wrong ha (k := 7) (b := b) _) ?_
                  refine rx_vreturn d_Mo_checkJump_145 (by rfl) ?_
                  first
                    | omega
                    | exact ⟨rfl, _, rfl, fI_c (fI_w (k := 6) (b := b) F (by omega) (by omega) (by omega)) (fun k' b' => cj0 ⟨fun _ => h6.mpr c42, fun _ => by decide⟩ (fun z => absurd (m7.mp z).2.1 (by omega)))⟩
                    | exact absurd (c73.symm.trans c102) (by decide)
                    | exact ⟨rfl, _, rfl, fI_c (fI_w (k := 7) (b := b) (fI_w (k := 7) (b := b) (fI_w (k := 6) (b := b) F (by omega) (by omega) (by omega)) (by omega) (by omega) (by omega)) (by omega) (by omega) (by omega)) (fun k' b' => cj ⟨fun z => absurd rfl z, fun z => absurd (h6.mp z) (by omega)⟩ ⟨fun _ => m7.mpr ⟨hs, by omega, Or.inl ⟨c73, y5⟩⟩, fun _ => by decide⟩)⟩
                    | exact ⟨rfl, _, rfl, fI_c (fI_w (k := 7) (b := b) (fI_w (k := 7) (b := b) (fI_w (k := 6) (b := b) F (by omega) (by omega) (by omega)) (by omega) (by omega) (by omega)) (by omega) (by omega) (by omega)) (fun k' b' => cj ⟨fun z => absurd rfl z, fun z => absurd (h6.mp z) (by omega)⟩ ⟨fun _ => m7.mpr ⟨hs, by omega, Or.inr ⟨c102, Or.inl y6⟩⟩, fun _ => by decide⟩)⟩
                    | exact ⟨rfl, _, rfl, fI_c (fI_w (k := 7) (b := b) (fI_w (k := 7) (b := b) (fI_w (k := 6) (b := b) F (by omega) (by omega) (by omega)) (by omega) (by omega) (by omega)) (by omega) (by omega) (by omega)) (fun k' b' => cj ⟨fun z => absurd rfl z, fun z => absurd (h6.mp z) (by omega)⟩ ⟨fun _ => m7.mpr ⟨hs, by omega, Or.inr ⟨c102, Or.inr y4⟩⟩, fun _ => by decide⟩)⟩
                    | exact ⟨rfl, _, rfl, fI_c (fI_w (k := 7) (b := b) (fI_w (k := 7) (b := b) (fI_w (k := 6) (b := b) F (by omega) (by omega) (by omega)) (by omega) (by omega) (by omega)) (by omega) (by omega) (by omega)) (fun k' b' => cj ⟨fun z => absurd rfl z, fun z => absurd (h6.mp z) (by omega)⟩ ⟨fun z => absurd z (by decide), fun z => absurd (m7.mp z).2.2 (fun z => z.elim (fun w => c73 w.1) (fun w => c102 w.1))⟩)⟩
                    | exact ⟨rfl, _, rfl, fI_c (fI_w (k := 7) (b := b) (fI_w (k := 7) (b := b) (fI_w (k := 6) (b := b) F (by omega) (by omega) (by omega)) (by omega) (by omega) (by omega)) (by omega) (by omega) (by omega)) (fun k' b' => cj ⟨fun z => absurd rfl z, fun z => absurd (h6.mp z) (by omega)⟩ ⟨fun z => absurd z (by decide), fun z => absurd (m7.mp z).2.2 (fun z => z.elim (fun w => c73 w.1) (fun w => w.2.elim n6 n4))⟩)⟩
                    | exact ⟨rfl, _, rfl, fI_c (fI_w (k := 7) (b := b) (fI_w (k := 7) (b := b) (fI_w (k := 6) (b := b) F (by omega) (by omega) (by omega)) (by omega) (by omega) (by omega)) (by omega) (by omega) (by omega)) (fun k' b' => cj ⟨fun z => absurd rfl z, fun z => absurd (h6.mp z) (by omega)⟩ ⟨fun z => absurd z (by decide), fun z => absurd (m7.mp z).2.2 (fun z => z.elim (fun w => n5 w.2) (fun w => c102 w.1))⟩)⟩
                · have c131 : (fix (hbn n (S.2.2 4) 4) (b + 1) (n - (b + 1))).isSome = false := bi_0.mp c131
                  have y4 : ∀ x, b < x → x < n → hb (S.2.2 4) 4 x = false := fun x h1 h2 => (fix_in (show b + 1 + (n - (b + 1)) ≤ n by omega)).mp c131 x (by omega) (by omega)
                  refine rx_iconst (v := 1) d_Mo_checkJump_134 (by decide) ?_
                  refine rx_goto (tgt := 139) d_Mo_checkJump_135 (by rfl) ?_
                  refine rx_bipush (v := 7) d_Mo_checkJump_139 (by decide) ?_
                  refine rx_iload_n d_Mo_checkJump_141 (by rfl) ?_
                  refine rx_cV d_Mo_checkJump_142 (by rfl) ml_Mo_112 im_Mo_wrong se_Mo_wrong (by exact c9_Mo_wrong) (mr0 ha) (by rfl) (by exact Nat.le_of_ble_eq_true rfl) (k_wrong ha (k := 7) (b := b) _) ?_
                  refine rx_vreturn d_Mo_checkJump_145 (by rfl) ?_
                  first
                    | omega
                    | exact ⟨rfl, _, rfl, fI_c (fI_w (k := 6) (b := b) F (by omega) (by omega) (by omega)) (fun k' b' => cj0 ⟨fun _ => h6.mpr c42, fun _ => by decide⟩ (fun z => absurd (m7.mp z).2.1 (by omega)))⟩
                    | exact absurd (c73.symm.trans c102) (by decide)
                    | exact ⟨rfl, _, rfl, fI_c (fI_w (k := 7) (b := b) (fI_w (k := 7) (b := b) (fI_w (k := 6) (b := b) F (by omega) (by omega) (by omega)) (by omega) (by omega) (by omega)) (by omega) (by omega) (by omega)) (fun k' b' => cj ⟨fun z => absurd rfl z, fun z => absurd (h6.mp z) (by omega)⟩ ⟨fun _ => m7.mpr ⟨hs, by omega, Or.inl ⟨c73, y5⟩⟩, fun _ => by decide⟩)⟩
                    | exact ⟨rfl, _, rfl, fI_c (fI_w (k := 7) (b := b) (fI_w (k := 7) (b := b) (fI_w (k := 6) (b := b) F (by omega) (by omega) (by omega)) (by omega) (by omega) (by omega)) (by omega) (by omega) (by omega)) (fun k' b' => cj ⟨fun z => absurd rfl z, fun z => absurd (h6.mp z) (by omega)⟩ ⟨fun _ => m7.mpr ⟨hs, by omega, Or.inr ⟨c102, Or.inl y6⟩⟩, fun _ => by decide⟩)⟩
                    | exact ⟨rfl, _, rfl, fI_c (fI_w (k := 7) (b := b) (fI_w (k := 7) (b := b) (fI_w (k := 6) (b := b) F (by omega) (by omega) (by omega)) (by omega) (by omega) (by omega)) (by omega) (by omega) (by omega)) (fun k' b' => cj ⟨fun z => absurd rfl z, fun z => absurd (h6.mp z) (by omega)⟩ ⟨fun _ => m7.mpr ⟨hs, by omega, Or.inr ⟨c102, Or.inr y4⟩⟩, fun _ => by decide⟩)⟩
                    | exact ⟨rfl, _, rfl, fI_c (fI_w (k := 7) (b := b) (fI_w (k := 7) (b := b) (fI_w (k := 6) (b := b) F (by omega) (by omega) (by omega)) (by omega) (by omega) (by omega)) (by omega) (by omega) (by omega)) (fun k' b' => cj ⟨fun z => absurd rfl z, fun z => absurd (h6.mp z) (by omega)⟩ ⟨fun z => absurd z (by decide), fun z => absurd (m7.mp z).2.2 (fun z => z.elim (fun w => c73 w.1) (fun w => c102 w.1))⟩)⟩
                    | exact ⟨rfl, _, rfl, fI_c (fI_w (k := 7) (b := b) (fI_w (k := 7) (b := b) (fI_w (k := 6) (b := b) F (by omega) (by omega) (by omega)) (by omega) (by omega) (by omega)) (by omega) (by omega) (by omega)) (fun k' b' => cj ⟨fun z => absurd rfl z, fun z => absurd (h6.mp z) (by omega)⟩ ⟨fun z => absurd z (by decide), fun z => absurd (m7.mp z).2.2 (fun z => z.elim (fun w => c73 w.1) (fun w => w.2.elim n6 n4))⟩)⟩
                    | exact ⟨rfl, _, rfl, fI_c (fI_w (k := 7) (b := b) (fI_w (k := 7) (b := b) (fI_w (k := 6) (b := b) F (by omega) (by omega) (by omega)) (by omega) (by omega) (by omega)) (by omega) (by omega) (by omega)) (fun k' b' => cj ⟨fun z => absurd rfl z, fun z => absurd (h6.mp z) (by omega)⟩ ⟨fun z => absurd z (by decide), fun z => absurd (m7.mp z).2.2 (fun z => z.elim (fun w => n5 w.2) (fun w => c102 w.1))⟩)⟩
    · have c42 : b < t := by rw [i_le, i_n (by omega), i_n (by omega)] at c42; omega
      refine rx_iconst (v := 1) d_Mo_checkJump_45 (by decide) ?_
      refine rx_goto (tgt := 50) d_Mo_checkJump_46 (by rfl) ?_
      refine rx_bipush (v := 6) d_Mo_checkJump_50 (by decide) ?_
      refine rx_iload_n d_Mo_checkJump_52 (by rfl) ?_
      refine rx_cV d_Mo_checkJump_53 (by rfl) ml_Mo_112 im_Mo_wrong se_Mo_wrong (by exact c9_Mo_wrong) (mr0 ha) (by rfl) (by exact Nat.le_of_ble_eq_true rfl) (k_wrong ha (k := 6) (b := b) _) ?_
      refine rx_iload d_Mo_checkJump_56 (by rfl) ?_
      refine rx_iload_n d_Mo_checkJump_58 (by rfl) ?_
      refine rx_icmp_gt (tgt := 145) d_Mo_checkJump_59 (by rfl) (fun c59 => ?_) (fun c59 => ?_)
      · have c59 : b < t := by rw [i_lt, i_n (by omega), i_n (by omega)] at c59; omega
        refine rx_vreturn d_Mo_checkJump_145 (by rfl) ?_
        first
          | omega
          | exact ⟨rfl, _, rfl, fI_c (fI_w (k := 6) (b := b) F (by omega) (by omega) (by omega)) (fun k' b' => cj0 ⟨fun _ => h6.mpr c42, fun _ => by decide⟩ (fun z => absurd (m7.mp z).2.1 (by omega)))⟩
          | exact absurd (c73.symm.trans c102) (by decide)
          | exact ⟨rfl, _, rfl, fI_c (fI_w (k := 7) (b := b) (fI_w (k := 7) (b := b) (fI_w (k := 6) (b := b) F (by omega) (by omega) (by omega)) (by omega) (by omega) (by omega)) (by omega) (by omega) (by omega)) (fun k' b' => cj ⟨fun z => absurd rfl z, fun z => absurd (h6.mp z) (by omega)⟩ ⟨fun _ => m7.mpr ⟨hs, by omega, Or.inl ⟨c73, y5⟩⟩, fun _ => by decide⟩)⟩
          | exact ⟨rfl, _, rfl, fI_c (fI_w (k := 7) (b := b) (fI_w (k := 7) (b := b) (fI_w (k := 6) (b := b) F (by omega) (by omega) (by omega)) (by omega) (by omega) (by omega)) (by omega) (by omega) (by omega)) (fun k' b' => cj ⟨fun z => absurd rfl z, fun z => absurd (h6.mp z) (by omega)⟩ ⟨fun _ => m7.mpr ⟨hs, by omega, Or.inr ⟨c102, Or.inl y6⟩⟩, fun _ => by decide⟩)⟩
          | exact ⟨rfl, _, rfl, fI_c (fI_w (k := 7) (b := b) (fI_w (k := 7) (b := b) (fI_w (k := 6) (b := b) F (by omega) (by omega) (by omega)) (by omega) (by omega) (by omega)) (by omega) (by omega) (by omega)) (fun k' b' => cj ⟨fun z => absurd rfl z, fun z => absurd (h6.mp z) (by omega)⟩ ⟨fun _ => m7.mpr ⟨hs, by omega, Or.inr ⟨c102, Or.inr y4⟩⟩, fun _ => by decide⟩)⟩
          | exact ⟨rfl, _, rfl, fI_c (fI_w (k := 7) (b := b) (fI_w (k := 7) (b := b) (fI_w (k := 6) (b := b) F (by omega) (by omega) (by omega)) (by omega) (by omega) (by omega)) (by omega) (by omega) (by omega)) (fun k' b' => cj ⟨fun z => absurd rfl z, fun z => absurd (h6.mp z) (by omega)⟩ ⟨fun z => absurd z (by decide), fun z => absurd (m7.mp z).2.2 (fun z => z.elim (fun w => c73 w.1) (fun w => c102 w.1))⟩)⟩
          | exact ⟨rfl, _, rfl, fI_c (fI_w (k := 7) (b := b) (fI_w (k := 7) (b := b) (fI_w (k := 6) (b := b) F (by omega) (by omega) (by omega)) (by omega) (by omega) (by omega)) (by omega) (by omega) (by omega)) (fun k' b' => cj ⟨fun z => absurd rfl z, fun z => absurd (h6.mp z) (by omega)⟩ ⟨fun z => absurd z (by decide), fun z => absurd (m7.mp z).2.2 (fun z => z.elim (fun w => c73 w.1) (fun w => w.2.elim n6 n4))⟩)⟩
          | exact ⟨rfl, _, rfl, fI_c (fI_w (k := 7) (b := b) (fI_w (k := 7) (b := b) (fI_w (k := 6) (b := b) F (by omega) (by omega) (by omega)) (by omega) (by omega) (by omega)) (by omega) (by omega) (by omega)) (fun k' b' => cj ⟨fun z => absurd rfl z, fun z => absurd (h6.mp z) (by omega)⟩ ⟨fun z => absurd z (by decide), fun z => absurd (m7.mp z).2.2 (fun z => z.elim (fun w => n5 w.2) (fun w => c102 w.1))⟩)⟩
      · have c59 : t ≤ b := by rw [i_lt, i_n (by omega), i_n (by omega)] at c59; omega
        refine rx_iload_n d_Mo_checkJump_62 (by rfl) ?_
        refine rx_iconst (v := 2) d_Mo_checkJump_63 (by decide) ?_
        refine rx_idiv d_Mo_checkJump_64 (by decide) ?_
        refine rx_iconst (v := 3) d_Mo_checkJump_65 (by decide) ?_
        refine rx_irem d_Mo_checkJump_66 (by decide) ?_
        rw [show (S.2.2 4 (10 * b + 7) - 1) / 2 - (S.2.2 4 (10 * b + 7) - 1) / 2 / 3 * 3 = jwy (S.2.2 4 (10 * b + 7)) from rfl]
        refine rx_istore d_Mo_checkJump_67 (Nat.le_of_ble_eq_true rfl) ?_
        refine rx_aload_nr d_Mo_checkJump_69 (by rfl) ?_
        refine rx_iload d_Mo_checkJump_70 (by rfl) ?_
        refine rx_iconst (v := 1) d_Mo_checkJump_72 (by decide) ?_
        refine rx_icmp_ne (tgt := 91) d_Mo_checkJump_73 (by rfl) (fun c73 => ?_) (fun c73 => ?_)
        · refine rx_iconst (v := 0) d_Mo_checkJump_91 (by decide) ?_
          refine rx_bipush (v := 7) d_Mo_checkJump_92 (by decide) ?_
          refine rx_iload_n d_Mo_checkJump_94 (by rfl) ?_
          refine rx_cV d_Mo_checkJump_95 (by rfl) ml_Mo_112 im_Mo_wrong se_Mo_wrong (by exact c9_Mo_wrong) (mr0 ha) (by rfl) (by exact Nat.le_of_ble_eq_true rfl) (k_wrong ha (k := 7) (b := b) _) ?_
          refine rx_aload_nr d_Mo_checkJump_98 (by rfl) ?_
          refine rx_iload d_Mo_checkJump_99 (by rfl) ?_
          refine rx_iconst (v := 2) d_Mo_checkJump_101 (by decide) ?_
          refine rx_icmp_ne (tgt := 138) d_Mo_checkJump_102 (by rfl) (fun c102 => ?_) (fun c102 => ?_)
          · refine rx_iconst (v := 0) d_Mo_checkJump_138 (by decide) ?_
            refine rx_bipush (v := 7) d_Mo_checkJump_139 (by decide) ?_
            refine rx_iload_n d_Mo_checkJump_141 (by rfl) ?_
            refine rx_cV d_Mo_checkJump_142 (by rfl) ml_Mo_112 im_Mo_wrong se_Mo_wrong (by exact c9_Mo_wrong) (mr0 ha) (by rfl) (by exact Nat.le_of_ble_eq_true rfl) (k_wrong ha (k := 7) (b := b) _) ?_
            refine rx_vreturn d_Mo_checkJump_145 (by rfl) ?_
            first
              | omega
              | exact ⟨rfl, _, rfl, fI_c (fI_w (k := 6) (b := b) F (by omega) (by omega) (by omega)) (fun k' b' => cj0 ⟨fun _ => h6.mpr c42, fun _ => by decide⟩ (fun z => absurd (m7.mp z).2.1 (by omega)))⟩
              | exact absurd (c73.symm.trans c102) (by decide)
              | exact ⟨rfl, _, rfl, fI_c (fI_w (k := 7) (b := b) (fI_w (k := 7) (b := b) (fI_w (k := 6) (b := b) F (by omega) (by omega) (by omega)) (by omega) (by omega) (by omega)) (by omega) (by omega) (by omega)) (fun k' b' => cj ⟨fun z => absurd rfl z, fun z => absurd (h6.mp z) (by omega)⟩ ⟨fun _ => m7.mpr ⟨hs, by omega, Or.inl ⟨c73, y5⟩⟩, fun _ => by decide⟩)⟩
              | exact ⟨rfl, _, rfl, fI_c (fI_w (k := 7) (b := b) (fI_w (k := 7) (b := b) (fI_w (k := 6) (b := b) F (by omega) (by omega) (by omega)) (by omega) (by omega) (by omega)) (by omega) (by omega) (by omega)) (fun k' b' => cj ⟨fun z => absurd rfl z, fun z => absurd (h6.mp z) (by omega)⟩ ⟨fun _ => m7.mpr ⟨hs, by omega, Or.inr ⟨c102, Or.inl y6⟩⟩, fun _ => by decide⟩)⟩
              | exact ⟨rfl, _, rfl, fI_c (fI_w (k := 7) (b := b) (fI_w (k := 7) (b := b) (fI_w (k := 6) (b := b) F (by omega) (by omega) (by omega)) (by omega) (by omega) (by omega)) (by omega) (by omega) (by omega)) (fun k' b' => cj ⟨fun z => absurd rfl z, fun z => absurd (h6.mp z) (by omega)⟩ ⟨fun _ => m7.mpr ⟨hs, by omega, Or.inr ⟨c102, Or.inr y4⟩⟩, fun _ => by decide⟩)⟩
              | exact ⟨rfl, _, rfl, fI_c (fI_w (k := 7) (b := b) (fI_w (k := 7) (b := b) (fI_w (k := 6) (b := b) F (by omega) (by omega) (by omega)) (by omega) (by omega) (by omega)) (by omega) (by omega) (by omega)) (fun k' b' => cj ⟨fun z => absurd rfl z, fun z => absurd (h6.mp z) (by omega)⟩ ⟨fun z => absurd z (by decide), fun z => absurd (m7.mp z).2.2 (fun z => z.elim (fun w => c73 w.1) (fun w => c102 w.1))⟩)⟩
              | exact ⟨rfl, _, rfl, fI_c (fI_w (k := 7) (b := b) (fI_w (k := 7) (b := b) (fI_w (k := 6) (b := b) F (by omega) (by omega) (by omega)) (by omega) (by omega) (by omega)) (by omega) (by omega) (by omega)) (fun k' b' => cj ⟨fun z => absurd rfl z, fun z => absurd (h6.mp z) (by omega)⟩ ⟨fun z => absurd z (by decide), fun z => absurd (m7.mp z).2.2 (fun z => z.elim (fun w => c73 w.1) (fun w => w.2.elim n6 n4))⟩)⟩
              | exact ⟨rfl, _, rfl, fI_c (fI_w (k := 7) (b := b) (fI_w (k := 7) (b := b) (fI_w (k := 6) (b := b) F (by omega) (by omega) (by omega)) (by omega) (by omega) (by omega)) (by omega) (by omega) (by omega)) (fun k' b' => cj ⟨fun z => absurd rfl z, fun z => absurd (h6.mp z) (by omega)⟩ ⟨fun z => absurd z (by decide), fun z => absurd (m7.mp z).2.2 (fun z => z.elim (fun w => n5 w.2) (fun w => c102 w.1))⟩)⟩
          · refine rx_aload_nr d_Mo_checkJump_105 (by rfl) ?_
            refine rx_bipush (v := 6) d_Mo_checkJump_106 (by decide) ?_
            refine rx_iload d_Mo_checkJump_108 (by rfl) ?_
            refine rx_iload_n d_Mo_checkJump_110 (by rfl) ?_
            refine rx_cV d_Mo_checkJump_111 (by rfl) ml_Mo_122 im_Mo_isThere se_Mo_isThere (by exact c9_Mo_isThere) (mr0 ha) (by rfl) (by exact Nat.le_of_ble_eq_true rfl) (k_isThere ha (N9 _) (hv9 _) (k := 6) (f := t) (m := b + 1 - t) (by omega) (by omega) (by rw [eb]; omega)) ?_
            refine rx_if_eq (tgt := 134) d_Mo_checkJump_114 (by rfl) (fun c114 => ?_) (fun c114 => ?_)
            · have c114 : (fix (hbn n (S.2.2 4) 6) t (b + 1 - t)).isSome = false := bi_0.mp c114
              have y6 : ∀ x, t ≤ x → x ≤ b → hb (S.2.2 4) 6 x = false := fun x h1 h2 => (fix_in (show t + (b + 1 - t) ≤ n by omega)).mp c114 x h1 (by omega)
              refine rx_iconst (v := 1) d_Mo_checkJump_134 (by decide) ?_
              refine rx_goto (tgt := 139) d_Mo_checkJump_135 (by rfl) ?_
              refine rx_bipush (v := 7) d_Mo_checkJump_139 (by decide) ?_
              refine rx_iload_n d_Mo_checkJump_141 (by rfl) ?_
              refine rx_cV d_Mo_checkJump_142 (by rfl) ml_Mo_112 im_Mo_wrong se_Mo_wrong (by exact c9_Mo_wrong) (mr0 ha) (by rfl) (by exact Nat.le_of_ble_eq_true rfl) (k_wrong ha (k := 7) (b := b) _) ?_
              refine rx_vreturn d_Mo_checkJump_145 (by rfl) ?_
              first
                | omega
                | exact ⟨rfl, _, rfl, fI_c (fI_w (k := 6) (b := b) F (by omega) (by omega) (by omega)) (fun k' b' => cj0 ⟨fun _ => h6.mpr c42, fun _ => by decide⟩ (fun z => absurd (m7.mp z).2.1 (by omega)))⟩
                | exact absurd (c73.symm.trans c102) (by decide)
                | exact ⟨rfl, _, rfl, fI_c (fI_w (k := 7) (b := b) (fI_w (k := 7) (b := b) (fI_w (k := 6) (b := b) F (by omega) (by omega) (by omega)) (by omega) (by omega) (by omega)) (by omega) (by omega) (by omega)) (fun k' b' => cj ⟨fun z => absurd rfl z, fun z => absurd (h6.mp z) (by omega)⟩ ⟨fun _ => m7.mpr ⟨hs, by omega, Or.inl ⟨c73, y5⟩⟩, fun _ => by decide⟩)⟩
                | exact ⟨rfl, _, rfl, fI_c (fI_w (k := 7) (b := b) (fI_w (k := 7) (b := b) (fI_w (k := 6) (b := b) F (by omega) (by omega) (by omega)) (by omega) (by omega) (by omega)) (by omega) (by omega) (by omega)) (fun k' b' => cj ⟨fun z => absurd rfl z, fun z => absurd (h6.mp z) (by omega)⟩ ⟨fun _ => m7.mpr ⟨hs, by omega, Or.inr ⟨c102, Or.inl y6⟩⟩, fun _ => by decide⟩)⟩
                | exact ⟨rfl, _, rfl, fI_c (fI_w (k := 7) (b := b) (fI_w (k := 7) (b := b) (fI_w (k := 6) (b := b) F (by omega) (by omega) (by omega)) (by omega) (by omega) (by omega)) (by omega) (by omega) (by omega)) (fun k' b' => cj ⟨fun z => absurd rfl z, fun z => absurd (h6.mp z) (by omega)⟩ ⟨fun _ => m7.mpr ⟨hs, by omega, Or.inr ⟨c102, Or.inr y4⟩⟩, fun _ => by decide⟩)⟩
                | exact ⟨rfl, _, rfl, fI_c (fI_w (k := 7) (b := b) (fI_w (k := 7) (b := b) (fI_w (k := 6) (b := b) F (by omega) (by omega) (by omega)) (by omega) (by omega) (by omega)) (by omega) (by omega) (by omega)) (fun k' b' => cj ⟨fun z => absurd rfl z, fun z => absurd (h6.mp z) (by omega)⟩ ⟨fun z => absurd z (by decide), fun z => absurd (m7.mp z).2.2 (fun z => z.elim (fun w => c73 w.1) (fun w => c102 w.1))⟩)⟩
                | exact ⟨rfl, _, rfl, fI_c (fI_w (k := 7) (b := b) (fI_w (k := 7) (b := b) (fI_w (k := 6) (b := b) F (by omega) (by omega) (by omega)) (by omega) (by omega) (by omega)) (by omega) (by omega) (by omega)) (fun k' b' => cj ⟨fun z => absurd rfl z, fun z => absurd (h6.mp z) (by omega)⟩ ⟨fun z => absurd z (by decide), fun z => absurd (m7.mp z).2.2 (fun z => z.elim (fun w => c73 w.1) (fun w => w.2.elim n6 n4))⟩)⟩
                | exact ⟨rfl, _, rfl, fI_c (fI_w (k := 7) (b := b) (fI_w (k := 7) (b := b) (fI_w (k := 6) (b := b) F (by omega) (by omega) (by omega)) (by omega) (by omega) (by omega)) (by omega) (by omega) (by omega)) (fun k' b' => cj ⟨fun z => absurd rfl z, fun z => absurd (h6.mp z) (by omega)⟩ ⟨fun z => absurd z (by decide), fun z => absurd (m7.mp z).2.2 (fun z => z.elim (fun w => n5 w.2) (fun w => c102 w.1))⟩)⟩
            · have c114 : (fix (hbn n (S.2.2 4) 6) t (b + 1 - t)).isSome = true := bi_1.mp c114
              have n6 : ¬ ∀ x, t ≤ x → x ≤ b → hb (S.2.2 4) 6 x = false := fun z => by
                rw [(fix_in (show t + (b + 1 - t) ≤ n by omega)).mpr (fun x h1 h2 => z x h1 (by omega))] at c114; cases c114
              refine rx_aload_nr d_Mo_checkJump_117 (by rfl) ?_
              refine rx_iconst (v := 4) d_Mo_checkJump_118 (by decide) ?_
              refine rx_iload_n d_Mo_checkJump_119 (by rfl) ?_
              refine rx_iconst (v := 1) d_Mo_checkJump_120 (by decide) ?_
              refine rx_iadd d_Mo_checkJump_121 ?_
              rw [nI_1]
              refine rx_aload_nr d_Mo_checkJump_122 (by rfl) ?_
              refine rx_getfield d_Mo_checkJump_123 fl_Mo_59 (mr0 ha) (by rfl) ?_
              rw [e2]
              refine rx_iconst (v := 1) d_Mo_checkJump_126 (by decide) ?_
              refine rx_isub d_Mo_checkJump_127 ?_
              refine rx_cV d_Mo_checkJump_128 (by rfl) ml_Mo_122 im_Mo_isThere se_Mo_isThere (by exact c9_Mo_isThere) (mr0 ha) (by rfl) (by exact Nat.le_of_ble_eq_true rfl) (k_isThere ha (N9 _) (hv9 _) (k := 4) (f := b + 1) (m := n - (b + 1)) (by omega) (by omega) (by rw [en]; omega)) ?_
              refine rx_if_ne (tgt := 138) d_Mo_checkJump_131 (by rfl) (fun c131 => ?_) (fun c131 => ?_)
              · have c131 : (fix (hbn n (S.2.2 4) 4) (b + 1) (n - (b + 1))).isSome = true := bi_1.mp c131
                have n4 : ¬ ∀ x, b < x → x < n → hb (S.2.2 4) 4 x = false := fun z => by
                  rw [(fix_in (show b + 1 + (n - (b + 1)) ≤ n by omega)).mpr (fun x h1 h2 => z x (by omega) (by omega))] at c131; cases c131
                refine rx_iconst (v := 0) d_Mo_checkJump_138 (by decide) ?_
                refine rx_bipush (v := 7) d_Mo_checkJump_139 (by decide) ?_
                refine rx_iload_n d_Mo_checkJump_141 (by rfl) ?_
                refine rx_cV d_Mo_checkJump_142 (by rfl) ml_Mo_112 im_Mo_wrong se_Mo_wrong (by exact c9_Mo_wrong) (mr0 ha) (by rfl) (by exact Nat.le_of_ble_eq_true rfl) (k_wrong ha (k := 7) (b := b) _) ?_
                refine rx_vreturn d_Mo_checkJump_145 (by rfl) ?_
                first
                  | omega
                  | exact ⟨rfl, _, rfl, fI_c (fI_w (k := 6) (b := b) F (by omega) (by omega) (by omega)) (fun k' b' => cj0 ⟨fun _ => h6.mpr c42, fun _ => by decide⟩ (fun z => absurd (m7.mp z).2.1 (by omega)))⟩
                  | exact absurd (c73.symm.trans c102) (by decide)
                  | exact ⟨rfl, _, rfl, fI_c (fI_w (k := 7) (b := b) (fI_w (k := 7) (b := b) (fI_w (k := 6) (b := b) F (by omega) (by omega) (by omega)) (by omega) (by omega) (by omega)) (by omega) (by omega) (by omega)) (fun k' b' => cj ⟨fun z => absurd rfl z, fun z => absurd (h6.mp z) (by omega)⟩ ⟨fun _ => m7.mpr ⟨hs, by omega, Or.inl ⟨c73, y5⟩⟩, fun _ => by decide⟩)⟩
                  | exact ⟨rfl, _, rfl, fI_c (fI_w (k := 7) (b := b) (fI_w (k := 7) (b := b) (fI_w (k := 6) (b := b) F (by omega) (by omega) (by omega)) (by omega) (by omega) (by omega)) (by omega) (by omega) (by omega)) (fun k' b' => cj ⟨fun z => absurd rfl z, fun z => absurd (h6.mp z) (by omega)⟩ ⟨fun _ => m7.mpr ⟨hs, by omega, Or.inr ⟨c102, Or.inl y6⟩⟩, fun _ => by decide⟩)⟩
                  | exact ⟨rfl, _, rfl, fI_c (fI_w (k := 7) (b := b) (fI_w (k := 7) (b := b) (fI_w (k := 6) (b := b) F (by omega) (by omega) (by omega)) (by omega) (by omega) (by omega)) (by omega) (by omega) (by omega)) (fun k' b' => cj ⟨fun z => absurd rfl z, fun z => absurd (h6.mp z) (by omega)⟩ ⟨fun _ => m7.mpr ⟨hs, by omega, Or.inr ⟨c102, Or.inr y4⟩⟩, fun _ => by decide⟩)⟩
                  | exact ⟨rfl, _, rfl, fI_c (fI_w (k := 7) (b := b) (fI_w (k := 7) (b := b) (fI_w (k := 6) (b := b) F (by omega) (by omega) (by omega)) (by omega) (by omega) (by omega)) (by omega) (by omega) (by omega)) (fun k' b' => cj ⟨fun z => absurd rfl z, fun z => absurd (h6.mp z) (by omega)⟩ ⟨fun z => absurd z (by decide), fun z => absurd (m7.mp z).2.2 (fun z => z.elim (fun w => c73 w.1) (fun w => c102 w.1))⟩)⟩
                  | exact ⟨rfl, _, rfl, fI_c (fI_w (k := 7) (b := b) (fI_w (k := 7) (b := b) (fI_w (k := 6) (b := b) F (by omega) (by omega) (by omega)) (by omega) (by omega) (by omega)) (by omega) (by omega) (by omega)) (fun k' b' => cj ⟨fun z => absurd rfl z, fun z => absurd (h6.mp z) (by omega)⟩ ⟨fun z => absurd z (by decide), fun z => absurd (m7.mp z).2.2 (fun z => z.elim (fun w => c73 w.1) (fun w => w.2.elim n6 n4))⟩)⟩
                  | exact ⟨rfl, _, rfl, fI_c (fI_w (k := 7) (b := b) (fI_w (k := 7) (b := b) (fI_w (k := 6) (b := b) F (by omega) (by omega) (by omega)) (by omega) (by omega) (by omega)) (by omega) (by omega) (by omega)) (fun k' b' => cj ⟨fun z => absurd rfl z, fun z => absurd (h6.mp z) (by omega)⟩ ⟨fun z => absurd z (by decide), fun z => absurd (m7.mp z).2.2 (fun z => z.elim (fun w => n5 w.2) (fun w => c102 w.1))⟩)⟩
              · have c131 : (fix (hbn n (S.2.2 4) 4) (b + 1) (n - (b + 1))).isSome = false := bi_0.mp c131
                have y4 : ∀ x, b < x → x < n → hb (S.2.2 4) 4 x = false := fun x h1 h2 => (fix_in (show b + 1 + (n - (b + 1)) ≤ n by omega)).mp c131 x (by omega) (by omega)
                refine rx_iconst (v := 1) d_Mo_checkJump_134 (by decide) ?_
                refine rx_goto (tgt := 139) d_Mo_checkJump_135 (by rfl) ?_
                refine rx_bipush (v := 7) d_Mo_checkJump_139 (by decide) ?_
                refine rx_iload_n d_Mo_checkJump_141 (by rfl) ?_
                refine rx_cV d_Mo_checkJump_142 (by rfl) ml_Mo_112 im_Mo_wrong se_Mo_wrong (by exact c9_Mo_wrong) (mr0 ha) (by rfl) (by exact Nat.le_of_ble_eq_true rfl) (k_wrong ha (k := 7) (b := b) _) ?_
                refine rx_vreturn d_Mo_checkJump_145 (by rfl) ?_
                first
                  | omega
                  | exact ⟨rfl, _, rfl, fI_c (fI_w (k := 6) (b := b) F (by omega) (by omega) (by omega)) (fun k' b' => cj0 ⟨fun _ => h6.mpr c42, fun _ => by decide⟩ (fun z => absurd (m7.mp z).2.1 (by omega)))⟩
                  | exact absurd (c73.symm.trans c102) (by decide)
                  | exact ⟨rfl, _, rfl, fI_c (fI_w (k := 7) (b := b) (fI_w (k := 7) (b := b) (fI_w (k := 6) (b := b) F (by omega) (by omega) (by omega)) (by omega) (by omega) (by omega)) (by omega) (by omega) (by omega)) (fun k' b' => cj ⟨fun z => absurd rfl z, fun z => absurd (h6.mp z) (by omega)⟩ ⟨fun _ => m7.mpr ⟨hs, by omega, Or.inl ⟨c73, y5⟩⟩, fun _ => by decide⟩)⟩
                  | exact ⟨rfl, _, rfl, fI_c (fI_w (k := 7) (b := b) (fI_w (k := 7) (b := b) (fI_w (k := 6) (b := b) F (by omega) (by omega) (by omega)) (by omega) (by omega) (by omega)) (by omega) (by omega) (by omega)) (fun k' b' => cj ⟨fun z => absurd rfl z, fun z => absurd (h6.mp z) (by omega)⟩ ⟨fun _ => m7.mpr ⟨hs, by omega, Or.inr ⟨c102, Or.inl y6⟩⟩, fun _ => by decide⟩)⟩
                  | exact ⟨rfl, _, rfl, fI_c (fI_w (k := 7) (b := b) (fI_w (k := 7) (b := b) (fI_w (k := 6) (b := b) F (by omega) (by omega) (by omega)) (by omega) (by omega) (by omega)) (by omega) (by omega) (by omega)) (fun k' b' => cj ⟨fun z => absurd rfl z, fun z => absurd (h6.mp z) (by omega)⟩ ⟨fun _ => m7.mpr ⟨hs, by omega, Or.inr ⟨c102, Or.inr y4⟩⟩, fun _ => by decide⟩)⟩
                  | exact ⟨rfl, _, rfl, fI_c (fI_w (k := 7) (b := b) (fI_w (k := 7) (b := b) (fI_w (k := 6) (b := b) F (by omega) (by omega) (by omega)) (by omega) (by omega) (by omega)) (by omega) (by omega) (by omega)) (fun k' b' => cj ⟨fun z => absurd rfl z, fun z => absurd (h6.mp z) (by omega)⟩ ⟨fun z => absurd z (by decide), fun z => absurd (m7.mp z).2.2 (fun z => z.elim (fun w => c73 w.1) (fun w => c102 w.1))⟩)⟩
                  | exact ⟨rfl, _, rfl, fI_c (fI_w (k := 7) (b := b) (fI_w (k := 7) (b := b) (fI_w (k := 6) (b := b) F (by omega) (by omega) (by omega)) (by omega) (by omega) (by omega)) (by omega) (by omega) (by omega)) (fun k' b' => cj ⟨fun z => absurd rfl z, fun z => absurd (h6.mp z) (by omega)⟩ ⟨fun z => absurd z (by decide), fun z => absurd (m7.mp z).2.2 (fun z => z.elim (fun w => c73 w.1) (fun w => w.2.elim n6 n4))⟩)⟩
                  | exact ⟨rfl, _, rfl, fI_c (fI_w (k := 7) (b := b) (fI_w (k := 7) (b := b) (fI_w (k := 6) (b := b) F (by omega) (by omega) (by omega)) (by omega) (by omega) (by omega)) (by omega) (by omega) (by omega)) (fun k' b' => cj ⟨fun z => absurd rfl z, fun z => absurd (h6.mp z) (by omega)⟩ ⟨fun z => absurd z (by decide), fun z => absurd (m7.mp z).2.2 (fun z => z.elim (fun w => n5 w.2) (fun w => c102 w.1))⟩)⟩
        · refine rx_aload_nr d_Mo_checkJump_76 (by rfl) ?_
          refine rx_iconst (v := 5) d_Mo_checkJump_77 (by decide) ?_
          refine rx_iload d_Mo_checkJump_78 (by rfl) ?_
          refine rx_iload_n d_Mo_checkJump_80 (by rfl) ?_
          refine rx_cV d_Mo_checkJump_81 (by rfl) ml_Mo_122 im_Mo_isThere se_Mo_isThere (by exact c9_Mo_isThere) (mr0 ha) (by rfl) (by exact Nat.le_of_ble_eq_true rfl) (k_isThere ha (N9 _) (hv9 _) (k := 5) (f := t) (m := b + 1 - t) (by omega) (by omega) (by rw [eb]; omega)) ?_
          refine rx_if_ne (tgt := 91) d_Mo_checkJump_84 (by rfl) (fun c84 => ?_) (fun c84 => ?_)
          · have c84 : (fix (hbn n (S.2.2 4) 5) t (b + 1 - t)).isSome = true := bi_1.mp c84
            have n5 : ¬ ∀ x, t ≤ x → x ≤ b → hb (S.2.2 4) 5 x = false := fun z => by
              rw [(fix_in (show t + (b + 1 - t) ≤ n by omega)).mpr (fun x h1 h2 => z x h1 (by omega))] at c84; cases c84
            refine rx_iconst (v := 0) d_Mo_checkJump_91 (by decide) ?_
            refine rx_bipush (v := 7) d_Mo_checkJump_92 (by decide) ?_
            refine rx_iload_n d_Mo_checkJump_94 (by rfl) ?_
            refine rx_cV d_Mo_checkJump_95 (by rfl) ml_Mo_112 im_Mo_wrong se_Mo_wrong (by exact c9_Mo_wrong) (mr0 ha) (by rfl) (by exact Nat.le_of_ble_eq_true rfl) (k_wrong ha (k := 7) (b := b) _) ?_
            refine rx_aload_nr d_Mo_checkJump_98 (by rfl) ?_
            refine rx_iload d_Mo_checkJump_99 (by rfl) ?_
            refine rx_iconst (v := 2) d_Mo_checkJump_101 (by decide) ?_
            refine rx_icmp_ne (tgt := 138) d_Mo_checkJump_102 (by rfl) (fun c102 => ?_) (fun c102 => ?_)
            · refine rx_iconst (v := 0) d_Mo_checkJump_138 (by decide) ?_
              refine rx_bipush (v := 7) d_Mo_checkJump_139 (by decide) ?_
              refine rx_iload_n d_Mo_checkJump_141 (by rfl) ?_
              refine rx_cV d_Mo_checkJump_142 (by rfl) ml_Mo_112 im_Mo_wrong se_Mo_wrong (by exact c9_Mo_wrong) (mr0 ha) (by rfl) (by exact Nat.le_of_ble_eq_true rfl) (k_wrong ha (k := 7) (b := b) _) ?_
              refine rx_vreturn d_Mo_checkJump_145 (by rfl) ?_
              first
                | omega
                | exact ⟨rfl, _, rfl, fI_c (fI_w (k := 6) (b := b) F (by omega) (by omega) (by omega)) (fun k' b' => cj0 ⟨fun _ => h6.mpr c42, fun _ => by decide⟩ (fun z => absurd (m7.mp z).2.1 (by omega)))⟩
                | exact absurd (c73.symm.trans c102) (by decide)
                | exact ⟨rfl, _, rfl, fI_c (fI_w (k := 7) (b := b) (fI_w (k := 7) (b := b) (fI_w (k := 6) (b := b) F (by omega) (by omega) (by omega)) (by omega) (by omega) (by omega)) (by omega) (by omega) (by omega)) (fun k' b' => cj ⟨fun z => absurd rfl z, fun z => absurd (h6.mp z) (by omega)⟩ ⟨fun _ => m7.mpr ⟨hs, by omega, Or.inl ⟨c73, y5⟩⟩, fun _ => by decide⟩)⟩
                | exact ⟨rfl, _, rfl, fI_c (fI_w (k := 7) (b := b) (fI_w (k := 7) (b := b) (fI_w (k := 6) (b := b) F (by omega) (by omega) (by omega)) (by omega) (by omega) (by omega)) (by omega) (by omega) (by omega)) (fun k' b' => cj ⟨fun z => absurd rfl z, fun z => absurd (h6.mp z) (by omega)⟩ ⟨fun _ => m7.mpr ⟨hs, by omega, Or.inr ⟨c102, Or.inl y6⟩⟩, fun _ => by decide⟩)⟩
                | exact ⟨rfl, _, rfl, fI_c (fI_w (k := 7) (b := b) (fI_w (k := 7) (b := b) (fI_w (k := 6) (b := b) F (by omega) (by omega) (by omega)) (by omega) (by omega) (by omega)) (by omega) (by omega) (by omega)) (fun k' b' => cj ⟨fun z => absurd rfl z, fun z => absurd (h6.mp z) (by omega)⟩ ⟨fun _ => m7.mpr ⟨hs, by omega, Or.inr ⟨c102, Or.inr y4⟩⟩, fun _ => by decide⟩)⟩
                | exact ⟨rfl, _, rfl, fI_c (fI_w (k := 7) (b := b) (fI_w (k := 7) (b := b) (fI_w (k := 6) (b := b) F (by omega) (by omega) (by omega)) (by omega) (by omega) (by omega)) (by omega) (by omega) (by omega)) (fun k' b' => cj ⟨fun z => absurd rfl z, fun z => absurd (h6.mp z) (by omega)⟩ ⟨fun z => absurd z (by decide), fun z => absurd (m7.mp z).2.2 (fun z => z.elim (fun w => c73 w.1) (fun w => c102 w.1))⟩)⟩
                | exact ⟨rfl, _, rfl, fI_c (fI_w (k := 7) (b := b) (fI_w (k := 7) (b := b) (fI_w (k := 6) (b := b) F (by omega) (by omega) (by omega)) (by omega) (by omega) (by omega)) (by omega) (by omega) (by omega)) (fun k' b' => cj ⟨fun z => absurd rfl z, fun z => absurd (h6.mp z) (by omega)⟩ ⟨fun z => absurd z (by decide), fun z => absurd (m7.mp z).2.2 (fun z => z.elim (fun w => c73 w.1) (fun w => w.2.elim n6 n4))⟩)⟩
                | exact ⟨rfl, _, rfl, fI_c (fI_w (k := 7) (b := b) (fI_w (k := 7) (b := b) (fI_w (k := 6) (b := b) F (by omega) (by omega) (by omega)) (by omega) (by omega) (by omega)) (by omega) (by omega) (by omega)) (fun k' b' => cj ⟨fun z => absurd rfl z, fun z => absurd (h6.mp z) (by omega)⟩ ⟨fun z => absurd z (by decide), fun z => absurd (m7.mp z).2.2 (fun z => z.elim (fun w => n5 w.2) (fun w => c102 w.1))⟩)⟩
            · refine rx_aload_nr d_Mo_checkJump_105 (by rfl) ?_
              refine rx_bipush (v := 6) d_Mo_checkJump_106 (by decide) ?_
              refine rx_iload d_Mo_checkJump_108 (by rfl) ?_
              refine rx_iload_n d_Mo_checkJump_110 (by rfl) ?_
              refine rx_cV d_Mo_checkJump_111 (by rfl) ml_Mo_122 im_Mo_isThere se_Mo_isThere (by exact c9_Mo_isThere) (mr0 ha) (by rfl) (by exact Nat.le_of_ble_eq_true rfl) (k_isThere ha (N9 _) (hv9 _) (k := 6) (f := t) (m := b + 1 - t) (by omega) (by omega) (by rw [eb]; omega)) ?_
              refine rx_if_eq (tgt := 134) d_Mo_checkJump_114 (by rfl) (fun c114 => ?_) (fun c114 => ?_)
              · have c114 : (fix (hbn n (S.2.2 4) 6) t (b + 1 - t)).isSome = false := bi_0.mp c114
                have y6 : ∀ x, t ≤ x → x ≤ b → hb (S.2.2 4) 6 x = false := fun x h1 h2 => (fix_in (show t + (b + 1 - t) ≤ n by omega)).mp c114 x h1 (by omega)
                refine rx_iconst (v := 1) d_Mo_checkJump_134 (by decide) ?_
                refine rx_goto (tgt := 139) d_Mo_checkJump_135 (by rfl) ?_
                refine rx_bipush (v := 7) d_Mo_checkJump_139 (by decide) ?_
                refine rx_iload_n d_Mo_checkJump_141 (by rfl) ?_
                refine rx_cV d_Mo_checkJump_142 (by rfl) ml_Mo_112 im_Mo_wrong se_Mo_wrong (by exact c9_Mo_wrong) (mr0 ha) (by rfl) (by exact Nat.le_of_ble_eq_true rfl) (k_wrong ha (k := 7) (b := b) _) ?_
                refine rx_vreturn d_Mo_checkJump_145 (by rfl) ?_
                first
                  | omega
                  | exact ⟨rfl, _, rfl, fI_c (fI_w (k := 6) (b := b) F (by omega) (by omega) (by omega)) (fun k' b' => cj0 ⟨fun _ => h6.mpr c42, fun _ => by decide⟩ (fun z => absurd (m7.mp z).2.1 (by omega)))⟩
                  | exact absurd (c73.symm.trans c102) (by decide)
                  | exact ⟨rfl, _, rfl, fI_c (fI_w (k := 7) (b := b) (fI_w (k := 7) (b := b) (fI_w (k := 6) (b := b) F (by omega) (by omega) (by omega)) (by omega) (by omega) (by omega)) (by omega) (by omega) (by omega)) (fun k' b' => cj ⟨fun z => absurd rfl z, fun z => absurd (h6.mp z) (by omega)⟩ ⟨fun _ => m7.mpr ⟨hs, by omega, Or.inl ⟨c73, y5⟩⟩, fun _ => by decide⟩)⟩
                  | exact ⟨rfl, _, rfl, fI_c (fI_w (k := 7) (b := b) (fI_w (k := 7) (b := b) (fI_w (k := 6) (b := b) F (by omega) (by omega) (by omega)) (by omega) (by omega) (by omega)) (by omega) (by omega) (by omega)) (fun k' b' => cj ⟨fun z => absurd rfl z, fun z => absurd (h6.mp z) (by omega)⟩ ⟨fun _ => m7.mpr ⟨hs, by omega, Or.inr ⟨c102, Or.inl y6⟩⟩, fun _ => by decide⟩)⟩
                  | exact ⟨rfl, _, rfl, fI_c (fI_w (k := 7) (b := b) (fI_w (k := 7) (b := b) (fI_w (k := 6) (b := b) F (by omega) (by omega) (by omega)) (by omega) (by omega) (by omega)) (by omega) (by omega) (by omega)) (fun k' b' => cj ⟨fun z => absurd rfl z, fun z => absurd (h6.mp z) (by omega)⟩ ⟨fun _ => m7.mpr ⟨hs, by omega, Or.inr ⟨c102, Or.inr y4⟩⟩, fun _ => by decide⟩)⟩
                  | exact ⟨rfl, _, rfl, fI_c (fI_w (k := 7) (b := b) (fI_w (k := 7) (b := b) (fI_w (k := 6) (b := b) F (by omega) (by omega) (by omega)) (by omega) (by omega) (by omega)) (by omega) (by omega) (by omega)) (fun k' b' => cj ⟨fun z => absurd rfl z, fun z => absurd (h6.mp z) (by omega)⟩ ⟨fun z => absurd z (by decide), fun z => absurd (m7.mp z).2.2 (fun z => z.elim (fun w => c73 w.1) (fun w => c102 w.1))⟩)⟩
                  | exact ⟨rfl, _, rfl, fI_c (fI_w (k := 7) (b := b) (fI_w (k := 7) (b := b) (fI_w (k := 6) (b := b) F (by omega) (by omega) (by omega)) (by omega) (by omega) (by omega)) (by omega) (by omega) (by omega)) (fun k' b' => cj ⟨fun z => absurd rfl z, fun z => absurd (h6.mp z) (by omega)⟩ ⟨fun z => absurd z (by decide), fun z => absurd (m7.mp z).2.2 (fun z => z.elim (fun w => c73 w.1) (fun w => w.2.elim n6 n4))⟩)⟩
                  | exact ⟨rfl, _, rfl, fI_c (fI_w (k := 7) (b := b) (fI_w (k := 7) (b := b) (fI_w (k := 6) (b := b) F (by omega) (by omega) (by omega)) (by omega) (by omega) (by omega)) (by omega) (by omega) (by omega)) (fun k' b' => cj ⟨fun z => absurd rfl z, fun z => absurd (h6.mp z) (by omega)⟩ ⟨fun z => absurd z (by decide), fun z => absurd (m7.mp z).2.2 (fun z => z.elim (fun w => n5 w.2) (fun w => c102 w.1))⟩)⟩
              · have c114 : (fix (hbn n (S.2.2 4) 6) t (b + 1 - t)).isSome = true := bi_1.mp c114
                have n6 : ¬ ∀ x, t ≤ x → x ≤ b → hb (S.2.2 4) 6 x = false := fun z => by
                  rw [(fix_in (show t + (b + 1 - t) ≤ n by omega)).mpr (fun x h1 h2 => z x h1 (by omega))] at c114; cases c114
                refine rx_aload_nr d_Mo_checkJump_117 (by rfl) ?_
                refine rx_iconst (v := 4) d_Mo_checkJump_118 (by decide) ?_
                refine rx_iload_n d_Mo_checkJump_119 (by rfl) ?_
                refine rx_iconst (v := 1) d_Mo_checkJump_120 (by decide) ?_
                refine rx_iadd d_Mo_checkJump_121 ?_
                rw [nI_1]
                refine rx_aload_nr d_Mo_checkJump_122 (by rfl) ?_
                refine rx_getfield d_Mo_checkJump_123 fl_Mo_59 (mr0 ha) (by rfl) ?_
                rw [e2]
                refine rx_iconst (v := 1) d_Mo_checkJump_126 (by decide) ?_
                refine rx_isub d_Mo_checkJump_127 ?_
                refine rx_cV d_Mo_checkJump_128 (by rfl) ml_Mo_122 im_Mo_isThere se_Mo_isThere (by exact c9_Mo_isThere) (mr0 ha) (by rfl) (by exact Nat.le_of_ble_eq_true rfl) (k_isThere ha (N9 _) (hv9 _) (k := 4) (f := b + 1) (m := n - (b + 1)) (by omega) (by omega) (by rw [en]; omega)) ?_
                refine rx_if_ne (tgt := 138) d_Mo_checkJump_131 (by rfl) (fun c131 => ?_) (fun c131 => ?_)
                · have c131 : (fix (hbn n (S.2.2 4) 4) (b + 1) (n - (b + 1))).isSome = true := bi_1.mp c131
                  have n4 : ¬ ∀ x, b < x → x < n → hb (S.2.2 4) 4 x = false := fun z => by
                    rw [(fix_in (show b + 1 + (n - (b + 1)) ≤ n by omega)).mpr (fun x h1 h2 => z x (by omega) (by omega))] at c131; cases c131
                  refine rx_iconst (v := 0) d_Mo_checkJump_138 (by decide) ?_
                  refine rx_bipush (v := 7) d_Mo_checkJump_139 (by decide) ?_
                  refine rx_iload_n d_Mo_checkJump_141 (by rfl) ?_
                  refine rx_cV d_Mo_checkJump_142 (by rfl) ml_Mo_112 im_Mo_wrong se_Mo_wrong (by exact c9_Mo_wrong) (mr0 ha) (by rfl) (by exact Nat.le_of_ble_eq_true rfl) (k_wrong ha (k := 7) (b := b) _) ?_
                  refine rx_vreturn d_Mo_checkJump_145 (by rfl) ?_
                  first
                    | omega
                    | exact ⟨rfl, _, rfl, fI_c (fI_w (k := 6) (b := b) F (by omega) (by omega) (by omega)) (fun k' b' => cj0 ⟨fun _ => h6.mpr c42, fun _ => by decide⟩ (fun z => absurd (m7.mp z).2.1 (by omega)))⟩
                    | exact absurd (c73.symm.trans c102) (by decide)
                    | exact ⟨rfl, _, rfl, fI_c (fI_w (k := 7) (b := b) (fI_w (k := 7) (b := b) (fI_w (k := 6) (b := b) F (by omega) (by omega) (by omega)) (by omega) (by omega) (by omega)) (by omega) (by omega) (by omega)) (fun k' b' => cj ⟨fun z => absurd rfl z, fun z => absurd (h6.mp z) (by omega)⟩ ⟨fun _ => m7.mpr ⟨hs, by omega, Or.inl ⟨c73, y5⟩⟩, fun _ => by decide⟩)⟩
                    | exact ⟨rfl, _, rfl, fI_c (fI_w (k := 7) (b := b) (fI_w (k := 7) (b := b) (fI_w (k := 6) (b := b) F (by omega) (by omega) (by omega)) (by omega) (by omega) (by omega)) (by omega) (by omega) (by omega)) (fun k' b' => cj ⟨fun z => absurd rfl z, fun z => absurd (h6.mp z) (by omega)⟩ ⟨fun _ => m7.mpr ⟨hs, by omega, Or.inr ⟨c102, Or.inl y6⟩⟩, fun _ => by decide⟩)⟩
                    | exact ⟨rfl, _, rfl, fI_c (fI_w (k := 7) (b := b) (fI_w (k := 7) (b := b) (fI_w (k := 6) (b := b) F (by omega) (by omega) (by omega)) (by omega) (by omega) (by omega)) (by omega) (by omega) (by omega)) (fun k' b' => cj ⟨fun z => absurd rfl z, fun z => absurd (h6.mp z) (by omega)⟩ ⟨fun _ => m7.mpr ⟨hs, by omega, Or.inr ⟨c102, Or.inr y4⟩⟩, fun _ => by decide⟩)⟩
                    | exact ⟨rfl, _, rfl, fI_c (fI_w (k := 7) (b := b) (fI_w (k := 7) (b := b) (fI_w (k := 6) (b := b) F (by omega) (by omega) (by omega)) (by omega) (by omega) (by omega)) (by omega) (by omega) (by omega)) (fun k' b' => cj ⟨fun z => absurd rfl z, fun z => absurd (h6.mp z) (by omega)⟩ ⟨fun z => absurd z (by decide), fun z => absurd (m7.mp z).2.2 (fun z => z.elim (fun w => c73 w.1) (fun w => c102 w.1))⟩)⟩
                    | exact ⟨rfl, _, rfl, fI_c (fI_w (k := 7) (b := b) (fI_w (k := 7) (b := b) (fI_w (k := 6) (b := b) F (by omega) (by omega) (by omega)) (by omega) (by omega) (by omega)) (by omega) (by omega) (by omega)) (fun k' b' => cj ⟨fun z => absurd rfl z, fun z => absurd (h6.mp z) (by omega)⟩ ⟨fun z => absurd z (by decide), fun z => absurd (m7.mp z).2.2 (fun z => z.elim (fun w => c73 w.1) (fun w => w.2.elim n6 n4))⟩)⟩
                    | exact ⟨rfl, _, rfl, fI_c (fI_w (k := 7) (b := b) (fI_w (k := 7) (b := b) (fI_w (k := 6) (b := b) F (by omega) (by omega) (by omega)) (by omega) (by omega) (by omega)) (by omega) (by omega) (by omega)) (fun k' b' => cj ⟨fun z => absurd rfl z, fun z => absurd (h6.mp z) (by omega)⟩ ⟨fun z => absurd z (by decide), fun z => absurd (m7.mp z).2.2 (fun z => z.elim (fun w => n5 w.2) (fun w => c102 w.1))⟩)⟩
                · have c131 : (fix (hbn n (S.2.2 4) 4) (b + 1) (n - (b + 1))).isSome = false := bi_0.mp c131
                  have y4 : ∀ x, b < x → x < n → hb (S.2.2 4) 4 x = false := fun x h1 h2 => (fix_in (show b + 1 + (n - (b + 1)) ≤ n by omega)).mp c131 x (by omega) (by omega)
                  refine rx_iconst (v := 1) d_Mo_checkJump_134 (by decide) ?_
                  refine rx_goto (tgt := 139) d_Mo_checkJump_135 (by rfl) ?_
                  refine rx_bipush (v := 7) d_Mo_checkJump_139 (by decide) ?_
                  refine rx_iload_n d_Mo_checkJump_141 (by rfl) ?_
                  refine rx_cV d_Mo_checkJump_142 (by rfl) ml_Mo_112 im_Mo_wrong se_Mo_wrong (by exact c9_Mo_wrong) (mr0 ha) (by rfl) (by exact Nat.le_of_ble_eq_true rfl) (k_wrong ha (k := 7) (b := b) _) ?_
                  refine rx_vreturn d_Mo_checkJump_145 (by rfl) ?_
                  first
                    | omega
                    | exact ⟨rfl, _, rfl, fI_c (fI_w (k := 6) (b := b) F (by omega) (by omega) (by omega)) (fun k' b' => cj0 ⟨fun _ => h6.mpr c42, fun _ => by decide⟩ (fun z => absurd (m7.mp z).2.1 (by omega)))⟩
                    | exact absurd (c73.symm.trans c102) (by decide)
                    | exact ⟨rfl, _, rfl, fI_c (fI_w (k := 7) (b := b) (fI_w (k := 7) (b := b) (fI_w (k := 6) (b := b) F (by omega) (by omega) (by omega)) (by omega) (by omega) (by omega)) (by omega) (by omega) (by omega)) (fun k' b' => cj ⟨fun z => absurd rfl z, fun z => absurd (h6.mp z) (by omega)⟩ ⟨fun _ => m7.mpr ⟨hs, by omega, Or.inl ⟨c73, y5⟩⟩, fun _ => by decide⟩)⟩
                    | exact ⟨rfl, _, rfl, fI_c (fI_w (k := 7) (b := b) (fI_w (k := 7) (b := b) (fI_w (k := 6) (b := b) F (by omega) (by omega) (by omega)) (by omega) (by omega) (by omega)) (by omega) (by omega) (by omega)) (fun k' b' => cj ⟨fun z => absurd rfl z, fun z => absurd (h6.mp z) (by omega)⟩ ⟨fun _ => m7.mpr ⟨hs, by omega, Or.inr ⟨c102, Or.inl y6⟩⟩, fun _ => by decide⟩)⟩
                    | exact ⟨rfl, _, rfl, fI_c (fI_w (k := 7) (b := b) (fI_w (k := 7) (b := b) (fI_w (k := 6) (b := b) F (by omega) (by omega) (by omega)) (by omega) (by omega) (by omega)) (by omega) (by omega) (by omega)) (fun k' b' => cj ⟨fun z => absurd rfl z, fun z => absurd (h6.mp z) (by omega)⟩ ⟨fun _ => m7.mpr ⟨hs, by omega, Or.inr ⟨c102, Or.inr y4⟩⟩, fun _ => by decide⟩)⟩
                    | exact ⟨rfl, _, rfl, fI_c (fI_w (k := 7) (b := b) (fI_w (k := 7) (b := b) (fI_w (k := 6) (b := b) F (by omega) (by omega) (by omega)) (by omega) (by omega) (by omega)) (by omega) (by omega) (by omega)) (fun k' b' => cj ⟨fun z => absurd rfl z, fun z => absurd (h6.mp z) (by omega)⟩ ⟨fun z => absurd z (by decide), fun z => absurd (m7.mp z).2.2 (fun z => z.elim (fun w => c73 w.1) (fun w => c102 w.1))⟩)⟩
                    | exact ⟨rfl, _, rfl, fI_c (fI_w (k := 7) (b := b) (fI_w (k := 7) (b := b) (fI_w (k := 6) (b := b) F (by omega) (by omega) (by omega)) (by omega) (by omega) (by omega)) (by omega) (by omega) (by omega)) (fun k' b' => cj ⟨fun z => absurd rfl z, fun z => absurd (h6.mp z) (by omega)⟩ ⟨fun z => absurd z (by decide), fun z => absurd (m7.mp z).2.2 (fun z => z.elim (fun w => c73 w.1) (fun w => w.2.elim n6 n4))⟩)⟩
                    | exact ⟨rfl, _, rfl, fI_c (fI_w (k := 7) (b := b) (fI_w (k := 7) (b := b) (fI_w (k := 6) (b := b) F (by omega) (by omega) (by omega)) (by omega) (by omega) (by omega)) (by omega) (by omega) (by omega)) (fun k' b' => cj ⟨fun z => absurd rfl z, fun z => absurd (h6.mp z) (by omega)⟩ ⟨fun z => absurd z (by decide), fun z => absurd (m7.mp z).2.2 (fun z => z.elim (fun w => n5 w.2) (fun w => c102 w.1))⟩)⟩
          · have c84 : (fix (hbn n (S.2.2 4) 5) t (b + 1 - t)).isSome = false := bi_0.mp c84
            have y5 : ∀ x, t ≤ x → x ≤ b → hb (S.2.2 4) 5 x = false := fun x h1 h2 => (fix_in (show t + (b + 1 - t) ≤ n by omega)).mp c84 x h1 (by omega)
            refine rx_iconst (v := 1) d_Mo_checkJump_87 (by decide) ?_
            refine rx_goto (tgt := 92) d_Mo_checkJump_88 (by rfl) ?_
            refine rx_bipush (v := 7) d_Mo_checkJump_92 (by decide) ?_
            refine rx_iload_n d_Mo_checkJump_94 (by rfl) ?_
            refine rx_cV d_Mo_checkJump_95 (by rfl) ml_Mo_112 im_Mo_wrong se_Mo_wrong (by exact c9_Mo_wrong) (mr0 ha) (by rfl) (by exact Nat.le_of_ble_eq_true rfl) (k_wrong ha (k := 7) (b := b) _) ?_
            refine rx_aload_nr d_Mo_checkJump_98 (by rfl) ?_
            refine rx_iload d_Mo_checkJump_99 (by rfl) ?_
            refine rx_iconst (v := 2) d_Mo_checkJump_101 (by decide) ?_
            refine rx_icmp_ne (tgt := 138) d_Mo_checkJump_102 (by rfl) (fun c102 => ?_) (fun c102 => ?_)
            · refine rx_iconst (v := 0) d_Mo_checkJump_138 (by decide) ?_
              refine rx_bipush (v := 7) d_Mo_checkJump_139 (by decide) ?_
              refine rx_iload_n d_Mo_checkJump_141 (by rfl) ?_
              refine rx_cV d_Mo_checkJump_142 (by rfl) ml_Mo_112 im_Mo_wrong se_Mo_wrong (by exact c9_Mo_wrong) (mr0 ha) (by rfl) (by exact Nat.le_of_ble_eq_true rfl) (k_wrong ha (k := 7) (b := b) _) ?_
              refine rx_vreturn d_Mo_checkJump_145 (by rfl) ?_
              first
                | omega
                | exact ⟨rfl, _, rfl, fI_c (fI_w (k := 6) (b := b) F (by omega) (by omega) (by omega)) (fun k' b' => cj0 ⟨fun _ => h6.mpr c42, fun _ => by decide⟩ (fun z => absurd (m7.mp z).2.1 (by omega)))⟩
                | exact absurd (c73.symm.trans c102) (by decide)
                | exact ⟨rfl, _, rfl, fI_c (fI_w (k := 7) (b := b) (fI_w (k := 7) (b := b) (fI_w (k := 6) (b := b) F (by omega) (by omega) (by omega)) (by omega) (by omega) (by omega)) (by omega) (by omega) (by omega)) (fun k' b' => cj ⟨fun z => absurd rfl z, fun z => absurd (h6.mp z) (by omega)⟩ ⟨fun _ => m7.mpr ⟨hs, by omega, Or.inl ⟨c73, y5⟩⟩, fun _ => by decide⟩)⟩
                | exact ⟨rfl, _, rfl, fI_c (fI_w (k := 7) (b := b) (fI_w (k := 7) (b := b) (fI_w (k := 6) (b := b) F (by omega) (by omega) (by omega)) (by omega) (by omega) (by omega)) (by omega) (by omega) (by omega)) (fun k' b' => cj ⟨fun z => absurd rfl z, fun z => absurd (h6.mp z) (by omega)⟩ ⟨fun _ => m7.mpr ⟨hs, by omega, Or.inr ⟨c102, Or.inl y6⟩⟩, fun _ => by decide⟩)⟩
                | exact ⟨rfl, _, rfl, fI_c (fI_w (k := 7) (b := b) (fI_w (k := 7) (b := b) (fI_w (k := 6) (b := b) F (by omega) (by omega) (by omega)) (by omega) (by omega) (by omega)) (by omega) (by omega) (by omega)) (fun k' b' => cj ⟨fun z => absurd rfl z, fun z => absurd (h6.mp z) (by omega)⟩ ⟨fun _ => m7.mpr ⟨hs, by omega, Or.inr ⟨c102, Or.inr y4⟩⟩, fun _ => by decide⟩)⟩
                | exact ⟨rfl, _, rfl, fI_c (fI_w (k := 7) (b := b) (fI_w (k := 7) (b := b) (fI_w (k := 6) (b := b) F (by omega) (by omega) (by omega)) (by omega) (by omega) (by omega)) (by omega) (by omega) (by omega)) (fun k' b' => cj ⟨fun z => absurd rfl z, fun z => absurd (h6.mp z) (by omega)⟩ ⟨fun z => absurd z (by decide), fun z => absurd (m7.mp z).2.2 (fun z => z.elim (fun w => c73 w.1) (fun w => c102 w.1))⟩)⟩
                | exact ⟨rfl, _, rfl, fI_c (fI_w (k := 7) (b := b) (fI_w (k := 7) (b := b) (fI_w (k := 6) (b := b) F (by omega) (by omega) (by omega)) (by omega) (by omega) (by omega)) (by omega) (by omega) (by omega)) (fun k' b' => cj ⟨fun z => absurd rfl z, fun z => absurd (h6.mp z) (by omega)⟩ ⟨fun z => absurd z (by decide), fun z => absurd (m7.mp z).2.2 (fun z => z.elim (fun w => c73 w.1) (fun w => w.2.elim n6 n4))⟩)⟩
                | exact ⟨rfl, _, rfl, fI_c (fI_w (k := 7) (b := b) (fI_w (k := 7) (b := b) (fI_w (k := 6) (b := b) F (by omega) (by omega) (by omega)) (by omega) (by omega) (by omega)) (by omega) (by omega) (by omega)) (fun k' b' => cj ⟨fun z => absurd rfl z, fun z => absurd (h6.mp z) (by omega)⟩ ⟨fun z => absurd z (by decide), fun z => absurd (m7.mp z).2.2 (fun z => z.elim (fun w => n5 w.2) (fun w => c102 w.1))⟩)⟩
            · refine rx_aload_nr d_Mo_checkJump_105 (by rfl) ?_
              refine rx_bipush (v := 6) d_Mo_checkJump_106 (by decide) ?_
              refine rx_iload d_Mo_checkJump_108 (by rfl) ?_
              refine rx_iload_n d_Mo_checkJump_110 (by rfl) ?_
              refine rx_cV d_Mo_checkJump_111 (by rfl) ml_Mo_122 im_Mo_isThere se_Mo_isThere (by exact c9_Mo_isThere) (mr0 ha) (by rfl) (by exact Nat.le_of_ble_eq_true rfl) (k_isThere ha (N9 _) (hv9 _) (k := 6) (f := t) (m := b + 1 - t) (by omega) (by omega) (by rw [eb]; omega)) ?_
              refine rx_if_eq (tgt := 134) d_Mo_checkJump_114 (by rfl) (fun c114 => ?_) (fun c114 => ?_)
              · have c114 : (fix (hbn n (S.2.2 4) 6) t (b + 1 - t)).isSome = false := bi_0.mp c114
                have y6 : ∀ x, t ≤ x → x ≤ b → hb (S.2.2 4) 6 x = false := fun x h1 h2 => (fix_in (show t + (b + 1 - t) ≤ n by omega)).mp c114 x h1 (by omega)
                refine rx_iconst (v := 1) d_Mo_checkJump_134 (by decide) ?_
                refine rx_goto (tgt := 139) d_Mo_checkJump_135 (by rfl) ?_
                refine rx_bipush (v := 7) d_Mo_checkJump_139 (by decide) ?_
                refine rx_iload_n d_Mo_checkJump_141 (by rfl) ?_
                refine rx_cV d_Mo_checkJump_142 (by rfl) ml_Mo_112 im_Mo_wrong se_Mo_wrong (by exact c9_Mo_wrong) (mr0 ha) (by rfl) (by exact Nat.le_of_ble_eq_true rfl) (k_wrong ha (k := 7) (b := b) _) ?_
                refine rx_vreturn d_Mo_checkJump_145 (by rfl) ?_
                first
                  | omega
                  | exact ⟨rfl, _, rfl, fI_c (fI_w (k := 6) (b := b) F (by omega) (by omega) (by omega)) (fun k' b' => cj0 ⟨fun _ => h6.mpr c42, fun _ => by decide⟩ (fun z => absurd (m7.mp z).2.1 (by omega)))⟩
                  | exact absurd (c73.symm.trans c102) (by decide)
                  | exact ⟨rfl, _, rfl, fI_c (fI_w (k := 7) (b := b) (fI_w (k := 7) (b := b) (fI_w (k := 6) (b := b) F (by omega) (by omega) (by omega)) (by omega) (by omega) (by omega)) (by omega) (by omega) (by omega)) (fun k' b' => cj ⟨fun z => absurd rfl z, fun z => absurd (h6.mp z) (by omega)⟩ ⟨fun _ => m7.mpr ⟨hs, by omega, Or.inl ⟨c73, y5⟩⟩, fun _ => by decide⟩)⟩
                  | exact ⟨rfl, _, rfl, fI_c (fI_w (k := 7) (b := b) (fI_w (k := 7) (b := b) (fI_w (k := 6) (b := b) F (by omega) (by omega) (by omega)) (by omega) (by omega) (by omega)) (by omega) (by omega) (by omega)) (fun k' b' => cj ⟨fun z => absurd rfl z, fun z => absurd (h6.mp z) (by omega)⟩ ⟨fun _ => m7.mpr ⟨hs, by omega, Or.inr ⟨c102, Or.inl y6⟩⟩, fun _ => by decide⟩)⟩
                  | exact ⟨rfl, _, rfl, fI_c (fI_w (k := 7) (b := b) (fI_w (k := 7) (b := b) (fI_w (k := 6) (b := b) F (by omega) (by omega) (by omega)) (by omega) (by omega) (by omega)) (by omega) (by omega) (by omega)) (fun k' b' => cj ⟨fun z => absurd rfl z, fun z => absurd (h6.mp z) (by omega)⟩ ⟨fun _ => m7.mpr ⟨hs, by omega, Or.inr ⟨c102, Or.inr y4⟩⟩, fun _ => by decide⟩)⟩
                  | exact ⟨rfl, _, rfl, fI_c (fI_w (k := 7) (b := b) (fI_w (k := 7) (b := b) (fI_w (k := 6) (b := b) F (by omega) (by omega) (by omega)) (by omega) (by omega) (by omega)) (by omega) (by omega) (by omega)) (fun k' b' => cj ⟨fun z => absurd rfl z, fun z => absurd (h6.mp z) (by omega)⟩ ⟨fun z => absurd z (by decide), fun z => absurd (m7.mp z).2.2 (fun z => z.elim (fun w => c73 w.1) (fun w => c102 w.1))⟩)⟩
                  | exact ⟨rfl, _, rfl, fI_c (fI_w (k := 7) (b := b) (fI_w (k := 7) (b := b) (fI_w (k := 6) (b := b) F (by omega) (by omega) (by omega)) (by omega) (by omega) (by omega)) (by omega) (by omega) (by omega)) (fun k' b' => cj ⟨fun z => absurd rfl z, fun z => absurd (h6.mp z) (by omega)⟩ ⟨fun z => absurd z (by decide), fun z => absurd (m7.mp z).2.2 (fun z => z.elim (fun w => c73 w.1) (fun w => w.2.elim n6 n4))⟩)⟩
                  | exact ⟨rfl, _, rfl, fI_c (fI_w (k := 7) (b := b) (fI_w (k := 7) (b := b) (fI_w (k := 6) (b := b) F (by omega) (by omega) (by omega)) (by omega) (by omega) (by omega)) (by omega) (by omega) (by omega)) (fun k' b' => cj ⟨fun z => absurd rfl z, fun z => absurd (h6.mp z) (by omega)⟩ ⟨fun z => absurd z (by decide), fun z => absurd (m7.mp z).2.2 (fun z => z.elim (fun w => n5 w.2) (fun w => c102 w.1))⟩)⟩
              · have c114 : (fix (hbn n (S.2.2 4) 6) t (b + 1 - t)).isSome = true := bi_1.mp c114
                have n6 : ¬ ∀ x, t ≤ x → x ≤ b → hb (S.2.2 4) 6 x = false := fun z => by
                  rw [(fix_in (show t + (b + 1 - t) ≤ n by omega)).mpr (fun x h1 h2 => z x h1 (by omega))] at c114; cases c114
                refine rx_aload_nr d_Mo_checkJump_117 (by rfl) ?_
                refine rx_iconst (v := 4) d_Mo_checkJump_118 (by decide) ?_
                refine rx_iload_n d_Mo_checkJump_119 (by rfl) ?_
                refine rx_iconst (v := 1) d_Mo_checkJump_120 (by decide) ?_
                refine rx_iadd d_Mo_checkJump_121 ?_
                rw [nI_1]
                refine rx_aload_nr d_Mo_checkJump_122 (by rfl) ?_
                refine rx_getfield d_Mo_checkJump_123 fl_Mo_59 (mr0 ha) (by rfl) ?_
                rw [e2]
                refine rx_iconst (v := 1) d_Mo_checkJump_126 (by decide) ?_
                refine rx_isub d_Mo_checkJump_127 ?_
                refine rx_cV d_Mo_checkJump_128 (by rfl) ml_Mo_122 im_Mo_isThere se_Mo_isThere (by exact c9_Mo_isThere) (mr0 ha) (by rfl) (by exact Nat.le_of_ble_eq_true rfl) (k_isThere ha (N9 _) (hv9 _) (k := 4) (f := b + 1) (m := n - (b + 1)) (by omega) (by omega) (by rw [en]; omega)) ?_
                refine rx_if_ne (tgt := 138) d_Mo_checkJump_131 (by rfl) (fun c131 => ?_) (fun c131 => ?_)
                · have c131 : (fix (hbn n (S.2.2 4) 4) (b + 1) (n - (b + 1))).isSome = true := bi_1.mp c131
                  have n4 : ¬ ∀ x, b < x → x < n → hb (S.2.2 4) 4 x = false := fun z => by
                    rw [(fix_in (show b + 1 + (n - (b + 1)) ≤ n by omega)).mpr (fun x h1 h2 => z x (by omega) (by omega))] at c131; cases c131
                  refine rx_iconst (v := 0) d_Mo_checkJump_138 (by decide) ?_
                  refine rx_bipush (v := 7) d_Mo_checkJump_139 (by decide) ?_
                  refine rx_iload_n d_Mo_checkJump_141 (by rfl) ?_
                  refine rx_cV d_Mo_checkJump_142 (by rfl) ml_Mo_112 im_Mo_wrong se_Mo_wrong (by exact c9_Mo_wrong) (mr0 ha) (by rfl) (by exact Nat.le_of_ble_eq_true rfl) (k_wrong ha (k := 7) (b := b) _) ?_
                  refine rx_vreturn d_Mo_checkJump_145 (by rfl) ?_
                  first
                    | omega
                    | exact ⟨rfl, _, rfl, fI_c (fI_w (k := 6) (b := b) F (by omega) (by omega) (by omega)) (fun k' b' => cj0 ⟨fun _ => h6.mpr c42, fun _ => by decide⟩ (fun z => absurd (m7.mp z).2.1 (by omega)))⟩
                    | exact absurd (c73.symm.trans c102) (by decide)
                    | exact ⟨rfl, _, rfl, fI_c (fI_w (k := 7) (b := b) (fI_w (k := 7) (b := b) (fI_w (k := 6) (b := b) F (by omega) (by omega) (by omega)) (by omega) (by omega) (by omega)) (by omega) (by omega) (by omega)) (fun k' b' => cj ⟨fun z => absurd rfl z, fun z => absurd (h6.mp z) (by omega)⟩ ⟨fun _ => m7.mpr ⟨hs, by omega, Or.inl ⟨c73, y5⟩⟩, fun _ => by decide⟩)⟩
                    | exact ⟨rfl, _, rfl, fI_c (fI_w (k := 7) (b := b) (fI_w (k := 7) (b := b) (fI_w (k := 6) (b := b) F (by omega) (by omega) (by omega)) (by omega) (by omega) (by omega)) (by omega) (by omega) (by omega)) (fun k' b' => cj ⟨fun z => absurd rfl z, fun z => absurd (h6.mp z) (by omega)⟩ ⟨fun _ => m7.mpr ⟨hs, by omega, Or.inr ⟨c102, Or.inl y6⟩⟩, fun _ => by decide⟩)⟩
                    | exact ⟨rfl, _, rfl, fI_c (fI_w (k := 7) (b := b) (fI_w (k := 7) (b := b) (fI_w (k := 6) (b := b) F (by omega) (by omega) (by omega)) (by omega) (by omega) (by omega)) (by omega) (by omega) (by omega)) (fun k' b' => cj ⟨fun z => absurd rfl z, fun z => absurd (h6.mp z) (by omega)⟩ ⟨fun _ => m7.mpr ⟨hs, by omega, Or.inr ⟨c102, Or.inr y4⟩⟩, fun _ => by decide⟩)⟩
                    | exact ⟨rfl, _, rfl, fI_c (fI_w (k := 7) (b := b) (fI_w (k := 7) (b := b) (fI_w (k := 6) (b := b) F (by omega) (by omega) (by omega)) (by omega) (by omega) (by omega)) (by omega) (by omega) (by omega)) (fun k' b' => cj ⟨fun z => absurd rfl z, fun z => absurd (h6.mp z) (by omega)⟩ ⟨fun z => absurd z (by decide), fun z => absurd (m7.mp z).2.2 (fun z => z.elim (fun w => c73 w.1) (fun w => c102 w.1))⟩)⟩
                    | exact ⟨rfl, _, rfl, fI_c (fI_w (k := 7) (b := b) (fI_w (k := 7) (b := b) (fI_w (k := 6) (b := b) F (by omega) (by omega) (by omega)) (by omega) (by omega) (by omega)) (by omega) (by omega) (by omega)) (fun k' b' => cj ⟨fun z => absurd rfl z, fun z => absurd (h6.mp z) (by omega)⟩ ⟨fun z => absurd z (by decide), fun z => absurd (m7.mp z).2.2 (fun z => z.elim (fun w => c73 w.1) (fun w => w.2.elim n6 n4))⟩)⟩
                    | exact ⟨rfl, _, rfl, fI_c (fI_w (k := 7) (b := b) (fI_w (k := 7) (b := b) (fI_w (k := 6) (b := b) F (by omega) (by omega) (by omega)) (by omega) (by omega) (by omega)) (by omega) (by omega) (by omega)) (fun k' b' => cj ⟨fun z => absurd rfl z, fun z => absurd (h6.mp z) (by omega)⟩ ⟨fun z => absurd z (by decide), fun z => absurd (m7.mp z).2.2 (fun z => z.elim (fun w => n5 w.2) (fun w => c102 w.1))⟩)⟩
                · have c131 : (fix (hbn n (S.2.2 4) 4) (b + 1) (n - (b + 1))).isSome = false := bi_0.mp c131
                  have y4 : ∀ x, b < x → x < n → hb (S.2.2 4) 4 x = false := fun x h1 h2 => (fix_in (show b + 1 + (n - (b + 1)) ≤ n by omega)).mp c131 x (by omega) (by omega)
                  refine rx_iconst (v := 1) d_Mo_checkJump_134 (by decide) ?_
                  refine rx_goto (tgt := 139) d_Mo_checkJump_135 (by rfl) ?_
                  refine rx_bipush (v := 7) d_Mo_checkJump_139 (by decide) ?_
                  refine rx_iload_n d_Mo_checkJump_141 (by rfl) ?_
                  refine rx_cV d_Mo_checkJump_142 (by rfl) ml_Mo_112 im_Mo_wrong se_Mo_wrong (by exact c9_Mo_wrong) (mr0 ha) (by rfl) (by exact Nat.le_of_ble_eq_true rfl) (k_wrong ha (k := 7) (b := b) _) ?_
                  refine rx_vreturn d_Mo_checkJump_145 (by rfl) ?_
                  first
                    | omega
                    | exact ⟨rfl, _, rfl, fI_c (fI_w (k := 6) (b := b) F (by omega) (by omega) (by omega)) (fun k' b' => cj0 ⟨fun _ => h6.mpr c42, fun _ => by decide⟩ (fun z => absurd (m7.mp z).2.1 (by omega)))⟩
                    | exact absurd (c73.symm.trans c102) (by decide)
                    | exact ⟨rfl, _, rfl, fI_c (fI_w (k := 7) (b := b) (fI_w (k := 7) (b := b) (fI_w (k := 6) (b := b) F (by omega) (by omega) (by omega)) (by omega) (by omega) (by omega)) (by omega) (by omega) (by omega)) (fun k' b' => cj ⟨fun z => absurd rfl z, fun z => absurd (h6.mp z) (by omega)⟩ ⟨fun _ => m7.mpr ⟨hs, by omega, Or.inl ⟨c73, y5⟩⟩, fun _ => by decide⟩)⟩
                    | exact ⟨rfl, _, rfl, fI_c (fI_w (k := 7) (b := b) (fI_w (k := 7) (b := b) (fI_w (k := 6) (b := b) F (by omega) (by omega) (by omega)) (by omega) (by omega) (by omega)) (by omega) (by omega) (by omega)) (fun k' b' => cj ⟨fun z => absurd rfl z, fun z => absurd (h6.mp z) (by omega)⟩ ⟨fun _ => m7.mpr ⟨hs, by omega, Or.inr ⟨c102, Or.inl y6⟩⟩, fun _ => by decide⟩)⟩
                    | exact ⟨rfl, _, rfl, fI_c (fI_w (k := 7) (b := b) (fI_w (k := 7) (b := b) (fI_w (k := 6) (b := b) F (by omega) (by omega) (by omega)) (by omega) (by omega) (by omega)) (by omega) (by omega) (by omega)) (fun k' b' => cj ⟨fun z => absurd rfl z, fun z => absurd (h6.mp z) (by omega)⟩ ⟨fun _ => m7.mpr ⟨hs, by omega, Or.inr ⟨c102, Or.inr y4⟩⟩, fun _ => by decide⟩)⟩
                    | exact ⟨rfl, _, rfl, fI_c (fI_w (k := 7) (b := b) (fI_w (k := 7) (b := b) (fI_w (k := 6) (b := b) F (by omega) (by omega) (by omega)) (by omega) (by omega) (by omega)) (by omega) (by omega) (by omega)) (fun k' b' => cj ⟨fun z => absurd rfl z, fun z => absurd (h6.mp z) (by omega)⟩ ⟨fun z => absurd z (by decide), fun z => absurd (m7.mp z).2.2 (fun z => z.elim (fun w => c73 w.1) (fun w => c102 w.1))⟩)⟩
                    | exact ⟨rfl, _, rfl, fI_c (fI_w (k := 7) (b := b) (fI_w (k := 7) (b := b) (fI_w (k := 6) (b := b) F (by omega) (by omega) (by omega)) (by omega) (by omega) (by omega)) (by omega) (by omega) (by omega)) (fun k' b' => cj ⟨fun z => absurd rfl z, fun z => absurd (h6.mp z) (by omega)⟩ ⟨fun z => absurd z (by decide), fun z => absurd (m7.mp z).2.2 (fun z => z.elim (fun w => c73 w.1) (fun w => w.2.elim n6 n4))⟩)⟩
                    | exact ⟨rfl, _, rfl, fI_c (fI_w (k := 7) (b := b) (fI_w (k := 7) (b := b) (fI_w (k := 6) (b := b) F (by omega) (by omega) (by omega)) (by omega) (by omega) (by omega)) (by omega) (by omega) (by omega)) (fun k' b' => cj ⟨fun z => absurd rfl z, fun z => absurd (h6.mp z) (by omega)⟩ ⟨fun z => absurd z (by decide), fun z => absurd (m7.mp z).2.2 (fun z => z.elim (fun w => n5 w.2) (fun w => c102 w.1))⟩)⟩
  refine rx_aload_nr d_Mo_checkJump_0 (by rfl) ?_
  refine rx_iload_n d_Mo_checkJump_1 (by rfl) ?_
  refine rx_bipush (v := 7) d_Mo_checkJump_2 (by decide) ?_
  refine rx_cV d_Mo_checkJump_4 (by rfl) ml_Mo_70 im_Mo_signOf se_Mo_signOf (by exact c9_Mo_signOf) (mr0 ha) (by rfl) (by exact Nat.le_of_ble_eq_true rfl) (k_signOf ha (N9 _) (b := b) (k := 7) (by omega) (by omega)) ?_
  rw [sgn_1 hbl, show (sS S 19 v).2.2 4 = S.2.2 4 from rfl]
  refine rx_iconst (v := 1) d_Mo_checkJump_7 (by decide) ?_
  refine rx_isub d_Mo_checkJump_8 ?_
  refine rx_istore_n d_Mo_checkJump_9 (Nat.le_of_ble_eq_true rfl) ?_
  refine rx_iload_n d_Mo_checkJump_10 (by rfl) ?_
  refine rx_iconst (v := 2) d_Mo_checkJump_11 (by decide) ?_
  refine rx_irem d_Mo_checkJump_12 (by decide) ?_
  refine rx_iconst (v := 1) d_Mo_checkJump_13 (by decide) ?_
  refine rx_icmp_ne (tgt := 21) d_Mo_checkJump_14 (by rfl) (fun c14 => ?_) (fun c14 => ?_)
  · have em : mto n (S.2.2 4) b = 0 := if_neg c14
    refine rx_iconst (v := 0) d_Mo_checkJump_21 (by decide) ?_
    refine rx_istore_n d_Mo_checkJump_22 (Nat.le_of_ble_eq_true rfl) ?_
    refine rx_iload_n d_Mo_checkJump_23 (by rfl) ?_
    refine rx_if_eq (tgt := 35) d_Mo_checkJump_24 (by rfl) (fun _ => ?_) (fun z => absurd z (by decide))
    refine rx_iconst (v := 0) d_Mo_checkJump_35 (by decide) ?_
    refine rx_istore d_Mo_checkJump_36 (Nat.le_of_ble_eq_true rfl) ?_
    rw [em] at e38
    exact e38 _
  · have em : mto n (S.2.2 4) b = (fix (hb (S.2.2 4) 3) 0 n).getD n := if_pos c14
    refine rx_iconst (v := 1) d_Mo_checkJump_17 (by decide) ?_
    refine rx_goto (tgt := 22) d_Mo_checkJump_18 (by rfl) ?_
    refine rx_istore_n d_Mo_checkJump_22 (Nat.le_of_ble_eq_true rfl) ?_
    refine rx_iload_n d_Mo_checkJump_23 (by rfl) ?_
    refine rx_if_eq (tgt := 35) d_Mo_checkJump_24 (by rfl) (fun z => absurd z (by decide)) (fun _ => ?_)
    refine rx_aload_nr d_Mo_checkJump_27 (by rfl) ?_
    refine rx_iconst (v := 3) d_Mo_checkJump_28 (by decide) ?_
    refine rx_cV d_Mo_checkJump_29 (by rfl) ml_Mo_119 im_Mo_firstOf se_Mo_firstOf (by exact c9_Mo_firstOf) (mr0 ha) (by rfl) (by exact Nat.le_of_ble_eq_true rfl) (k_firstOf ha (N9 _) (hv9 _) (k := 3) (by omega)) ?_
    refine rx_goto (tgt := 36) d_Mo_checkJump_32 (by rfl) ?_
    refine rx_istore d_Mo_checkJump_36 (Nat.le_of_ble_eq_true rfl) ?_
    rw [em] at e38
    exact e38 _
/-- the passes of r's endings, and those that come twice -/
def als (Va : Nat → Int32) (G : Nat → Option Nat) (r : Nat) (x : Int32 × Int32) (b : Nat) : Int32 × Int32 := if G b = some r then (x.1 ||| Va (10 * b + 2), x.2 ||| (x.1 &&& Va (10 * b + 2))) else x
theorem or_z {x y : Int32} : x ||| y = 0 ↔ x = 0 ∧ y = 0 := by
  rw [← Int32.toBitVec_inj, ← Int32.toBitVec_inj, ← Int32.toBitVec_inj, Int32.toBitVec_or]
  exact BitVec.or_eq_zero_iff
theorem als_pwf {Va : Nat → Int32} {G : Nat → Option Nat} {r : Nat} : ∀ (m i : Nat) (x t : Int32), ((ffo (als Va G r) (x, t) i m).2 = 0 ↔ t = 0 ∧ (pwf Va G r x i m).isSome = true) ∧ ∀ y, pwf Va G r x i m = some y → (ffo (als Va G r) (x, t) i m).1 = y := by
  intro m
  induction m with
  | zero => exact fun i x t => ⟨⟨fun z => ⟨z, rfl⟩, fun z => z.1⟩, fun y z => Option.some.inj z⟩
  | succ m ih =>
    intro i x t
    rw [show ffo (als Va G r) (x, t) i (m + 1) = ffo (als Va G r) (als Va G r (x, t) i) (i + 1) m from rfl, show pwf Va G r x i (m + 1) = if G i = some r then (if x &&& Va (10 * i + 2) = 0 then pwf Va G r (x ||| Va (10 * i + 2)) (i + 1) m else none) else pwf Va G r x (i + 1) m from rfl]
    by_cases c : G i = some r
    · rw [show als Va G r (x, t) i = (x ||| Va (10 * i + 2), t ||| (x &&& Va (10 * i + 2))) from if_pos c, if_pos c]
      obtain ⟨h1, h2⟩ := ih (i + 1) (x ||| Va (10 * i + 2)) (t ||| (x &&& Va (10 * i + 2)))
      by_cases c2 : x &&& Va (10 * i + 2) = 0
      · rw [if_pos c2]
        refine ⟨h1.trans ?_, h2⟩
        rw [or_z]
        exact ⟨fun z => ⟨z.1.1, z.2⟩, fun z => ⟨⟨z.1, c2⟩, z.2⟩⟩
      · rw [if_neg c2]
        refine ⟨h1.trans ?_, fun y z => nomatch z⟩
        rw [or_z]
        exact ⟨fun z => absurd z.1.2 c2, fun z => nomatch z.2⟩
    · rw [show als Va G r (x, t) i = (x, t) from if_neg c, if_neg c]
      exact ih (i + 1) x t
theorem ffo_add {α : Type} {f : α → Nat → α} : ∀ (m i l : Nat) (x : α), ffo f x i (m + l) = ffo f (ffo f x i m) (i + m) l := by
  intro m
  induction m with
  | zero => intro i l x; rw [Nat.zero_add, Nat.add_zero]; rfl
  | succ m ih =>
    intro i l x
    rw [show m + 1 + l = (m + l) + 1 by omega]
    show ffo f (f x i) (i + 1) (m + l) = ffo f (ffo f (f x i) (i + 1) m) (i + (m + 1)) l
    rw [ih (i + 1) l (f x i), show i + 1 + m = i + (m + 1) by omega]
theorem als_no {Va : Nat → Int32} {G : Nat → Option Nat} {r : Nat} : ∀ (m i : Nat) (x : Int32 × Int32), (∀ y, i ≤ y → y < i + m → G y ≠ some r) → ffo (als Va G r) x i m = x := by
  intro m
  induction m with
  | zero => exact fun _ _ _ => rfl
  | succ m ih =>
    intro i x h
    show ffo (als Va G r) (als Va G r x i) (i + 1) m = x
    rw [show als Va G r x i = x from if_neg (h i (Nat.le_refl _) (by omega))]
    exact ih (i + 1) x (fun y h1 h2 => h y (by omega) (by omega))
theorem als_all {n : Nat} {Va : Nat → Int32} {s : gT} {G : Nat → Option Nat} {r l : Nat} (K : gK n Va s G) (hl : G l = some r) (hm : ∀ y, G y = some r → y ≤ l) : ffo (als Va G r) (0, 0) 0 n = ffo (als Va G r) (0, 0) (gF s r) (l + 1 - gF s r) := by
  have k := K l r hl
  rw [show n = gF s r + ((l + 1 - gF s r) + (n - (l + 1))) by omega, ffo_add, ffo_add, als_no (gF s r) 0 (0, 0) (fun y h1 h2 z => by have := (K y r z).2.2.2.1; omega), Nat.zero_add, als_no _ _ _ (fun y h1 h2 z => by have := hm y z; omega)]
theorem bt_in : ∀ (x : Fin 16) (c : Fin 5), 1 ≤ c.val → (nI x.val &&& (1 <<< ((nI c.val - 1) &&& 31)) = 0 ↔ inm (nI x.val) (c.val - 1) = false) := by decide +kernel
theorem pww_als {n : Nat} {Va : Nat → Int32} {s : gT} {G : Nat → Option Nat} {r l : Nat} (hv : vok n Va) (g9 : gN n Va s G) (K : gK n Va s G) (hl : G l = some r) (hm : ∀ y, G y = some r → y ≤ l) : pww Va s G r l ↔ ¬ ((ffo (als Va G r) (0, 0) 0 n).2 = 0 ∧ (ffo (als Va G r) (0, 0) 0 n).1 = (1 <<< (gC s r &&& 31)) - 1 ∧ inm (Va (10 * l + 2)) (cn s r - 1) = true) := by
  have k := K l r hl
  have hc := g9.2.2 r k.1
  rw [als_all K hl hm]
  obtain ⟨h1, h2⟩ := als_pwf (Va := Va) (G := G) (r := r) (l + 1 - gF s r) (gF s r) 0 0
  obtain ⟨x, hx⟩ := vok_2 hv k.2.1
  have hb9 := bt_in x ⟨cn s r, by omega⟩ (by show 1 ≤ cn s r; omega)
  rw [← hx] at hb9
  unfold pww
  rw [hc.1, hb9]
  cases e : pwf Va G r 0 (gF s r) (l + 1 - gF s r) with
  | none =>
    rw [e] at h1
    exact ⟨fun _ z => absurd (h1.mp z.1).2 (by decide), fun _ x z => nomatch z⟩
  | some y =>
    rw [e] at h1
    have h3 := h2 y e
    rw [h3]
    constructor
    · rintro z ⟨z1, z2, z3⟩
      obtain w | w := z y rfl
      · exact w z2
      · have w : inm (Va (10 * l + 2)) (cn s r - 1) = false := w
        rw [w] at z3; cases z3
    · intro z x hx
      cases hx
      by_cases c : y = 1 <<< (nI (cn s r) &&& 31) - 1
      · refine Or.inr ?_
        show inm (Va (10 * l + 2)) (cn s r - 1) = false
        cases e3 : inm (Va (10 * l + 2)) (cn s r - 1) with
        | false => rfl
        | true => exact absurd ⟨h1.mpr ⟨rfl, rfl⟩, c, e3⟩ z
      · exact Or.inl c
/-- a repeat's wrong ENDs -/
def C3 (Va : Nat → Int32) (s : gT) (G : Nat → Option Nat) (r b : Nat) : Prop := gO s b = some r ∧ (Va (10 * b + 1) ≠ gC s r ∨ G (b + 1) ≠ some r)
theorem l_checkRepeat (ha : a = V.2.1 + h1.length) (hN : mN n S) (hv : vok n (S.2.2 4)) (R : mR S s G) {r : Nat} (hr : r < s.1) (hs20 : s.1 ≤ 20) {Q : rx_R → List va_E → Prop} (K : ∀ v (y5 : Option Value), fI (fun k' b' => Pr k' b' ∨ (k' = 3 ∧ b' < n ∧ C3 (S.2.2 4) s G r b')) v → rx_W V (d + 3) kc ks m_Mo_checkRepeat 116 [some (.ref a), some (.int (nI r)), some (.int (ffo (als (S.2.2 4) G r) (0, 0) 0 n).1), some (.int (ffo (als (S.2.2 4) G r) (0, 0) 0 n).2), some (.int (nI n))] [] (mw V h1 a (sS S 19 v) h2) Q) :
    ∀ (m b : Nat) (v : Int32) (x : Int32 × Int32), b + m = n → x = ffo (als (S.2.2 4) G r) (0, 0) 0 b → fI (fun k' b' => Pr k' b' ∨ (k' = 3 ∧ b' < b ∧ C3 (S.2.2 4) s G r b')) v → rx_W V (d + 3) kc ks m_Mo_checkRepeat 7 [some (.ref a), some (.int (nI r)), some (.int x.1), some (.int x.2), some (.int (nI b))] [] (mw V h1 a (sS S 19 v) h2) Q := by
  have hn := hN.2
  have N9 : ∀ v, mN n (sS S 19 v) := fun _ => hN
  have e2 : ∀ v, (sS S 19 v).1 2 = nI n := fun _ => hN.1
  obtain ⟨j1, j2, j3, j4⟩ := R.2 r hr
  intro m
  induction m with
  | zero =>
    intro b v x hbm hx F
    have e : b = n := by omega
    subst e
    subst hx
    refine rx_iload d_Mo_checkRepeat_7 (by rfl) ?_
    refine rx_aload_nr d_Mo_checkRepeat_9 (by rfl) ?_
    refine rx_getfield d_Mo_checkRepeat_10 fl_Mo_59 (mr0 ha) (by rfl) ?_
    rw [e2]
    refine rx_icmp_ge (tgt := 116) d_Mo_checkRepeat_13 (by rfl) (fun c13 => ?_) (fun z => absurd (Int32.le_refl _) z)
    exact K v none F
  | succ m ih =>
    intro b v x hbm hx F
    have hbl : b < n := by omega
    have hx1 : ffo (als (S.2.2 4) G r) (0, 0) 0 (b + 1) = als (S.2.2 4) G r x b := by rw [ffo_add b 0 1, ← hx, Nat.zero_add]; rfl
    have e74 : ∀ v, fI (fun k' b' => Pr k' b' ∨ (k' = 3 ∧ b' < (b + 1) ∧ C3 (S.2.2 4) s G r b')) v → rx_W V (d + 3) kc ks m_Mo_checkRepeat 74 [some (.ref a), some (.int (nI r)), some (.int x.1), some (.int x.2), some (.int (nI b))] [] (mw V h1 a (sS S 19 v) h2) Q := by
      intro v F1
      refine rx_aload_nr d_Mo_checkRepeat_74 (by rfl) ?_
      refine rx_getfield d_Mo_checkRepeat_75 fl_Mo_47 (mr0 ha) (by rfl) ?_
      refine rx_iload_n d_Mo_checkRepeat_78 (by rfl) ?_
      refine m_ial (j := 13) ha d_Mo_checkRepeat_79 (by rfl) (by omega) (by decide) ?_
      refine rx_iload d_Mo_checkRepeat_80 (by rfl) ?_
      refine rx_cS d_Mo_checkRepeat_82 ml_Mo_94 st_Mo_in (by exact c9_Mo_in) (by rfl) (by exact Nat.le_of_ble_eq_true rfl) (k_in _ (b := b) (by omega)) ?_
      rw [show inm ((sS S 19 v).2.2 13 r) b = decide (G b = some r) from j3 b (by omega)]
      refine rx_if_eq (tgt := 110) d_Mo_checkRepeat_85 (by rfl) (fun c85 => ?_) (fun c85 => ?_)
      · have c85 : ¬ G b = some r := of_decide_eq_false (bi_0.mp c85)
        rw [show als (S.2.2 4) G r x b = x from if_neg c85] at hx1
        refine rx_iinc (v := nI (b + 1)) d_Mo_checkRepeat_110 (by rfl) (i_inc b) ?_
        refine rx_goto (tgt := 7) d_Mo_checkRepeat_113 (by rfl) ?_
        first | exact ih (b + 1) v x (by omega) hx1.symm F1 | exact ih (b + 1) v (x.1 ||| S.2.2 4 (10 * b + 2), x.2 ||| (x.1 &&& S.2.2 4 (10 * b + 2))) (by omega) hx1.symm F1
      · have c85 : G b = some r := of_decide_eq_true (bi_1.mp c85)
        rw [show als (S.2.2 4) G r x b = (x.1 ||| S.2.2 4 (10 * b + 2), x.2 ||| (x.1 &&& S.2.2 4 (10 * b + 2))) from if_pos c85] at hx1
        refine rx_iload_n d_Mo_checkRepeat_88 (by rfl) ?_
        refine rx_iload_n d_Mo_checkRepeat_89 (by rfl) ?_
        refine rx_aload_nr d_Mo_checkRepeat_90 (by rfl) ?_
        refine rx_iload d_Mo_checkRepeat_91 (by rfl) ?_
        refine rx_iconst (v := 2) d_Mo_checkRepeat_93 (by decide) ?_
        refine rx_cV d_Mo_checkRepeat_94 (by rfl) ml_Mo_70 im_Mo_signOf se_Mo_signOf (by exact c9_Mo_signOf) (mr0 ha) (by rfl) (by exact Nat.le_of_ble_eq_true rfl) (k_signOf ha (N9 _) (b := b) (k := 2) (by omega) (by omega)) ?_
        rw [sgn_1 hbl, show (sS S 19 v).2.2 4 = S.2.2 4 from rfl]
        refine rx_iand d_Mo_checkRepeat_97 ?_
        refine rx_ior d_Mo_checkRepeat_98 ?_
        refine rx_istore_n d_Mo_checkRepeat_99 (Nat.le_of_ble_eq_true rfl) ?_
        refine rx_iload_n d_Mo_checkRepeat_100 (by rfl) ?_
        refine rx_aload_nr d_Mo_checkRepeat_101 (by rfl) ?_
        refine rx_iload d_Mo_checkRepeat_102 (by rfl) ?_
        refine rx_iconst (v := 2) d_Mo_checkRepeat_104 (by decide) ?_
        refine rx_cV d_Mo_checkRepeat_105 (by rfl) ml_Mo_70 im_Mo_signOf se_Mo_signOf (by exact c9_Mo_signOf) (mr0 ha) (by rfl) (by exact Nat.le_of_ble_eq_true rfl) (k_signOf ha (N9 _) (b := b) (k := 2) (by omega) (by omega)) ?_
        rw [sgn_1 hbl, show (sS S 19 v).2.2 4 = S.2.2 4 from rfl]
        refine rx_ior d_Mo_checkRepeat_108 ?_
        refine rx_istore_n d_Mo_checkRepeat_109 (Nat.le_of_ble_eq_true rfl) ?_
        refine rx_iinc (v := nI (b + 1)) d_Mo_checkRepeat_110 (by rfl) (i_inc b) ?_
        refine rx_goto (tgt := 7) d_Mo_checkRepeat_113 (by rfl) ?_
        first | exact ih (b + 1) v x (by omega) hx1.symm F1 | exact ih (b + 1) v (x.1 ||| S.2.2 4 (10 * b + 2), x.2 ||| (x.1 &&& S.2.2 4 (10 * b + 2))) (by omega) hx1.symm F1
    have st : ∀ x1 : Int32, gO s b = some r → (¬ x1 = 0 ↔ (S.2.2 4 (10 * b + 1) ≠ gC s r ∨ G (b + 1) ≠ some r)) → fI (fun k' b' => Pr k' b' ∨ (k' = 3 ∧ b' < (b + 1) ∧ C3 (S.2.2 4) s G r b')) (mwv v x1 (nI (100 * 3 + b))) := by
      intro x1 hO hx1
      refine fI_c (fI_w (x := x1) (k := 3) (b := b) F (by omega) (by omega) (by omega)) (fun k' b' => ?_)
      constructor
      · rintro ((z | ⟨z1, z2, z3⟩) | ⟨z1, z2, z3⟩)
        · exact Or.inl z
        · exact Or.inr ⟨z1, by omega, z3⟩
        · exact Or.inr ⟨z2, by omega, by rw [z3]; exact ⟨hO, hx1.mp z1⟩⟩
      · rintro (z | ⟨z1, z2, z3⟩)
        · exact Or.inl (Or.inl z)
        · by_cases e : b' = b
          · exact Or.inr ⟨hx1.mpr (by rw [e] at z3; exact z3.2), z1, e⟩
          · exact Or.inl (Or.inr ⟨z1, by omega, z3⟩)
    refine rx_iload d_Mo_checkRepeat_7 (by rfl) ?_
    refine rx_aload_nr d_Mo_checkRepeat_9 (by rfl) ?_
    refine rx_getfield d_Mo_checkRepeat_10 fl_Mo_59 (mr0 ha) (by rfl) ?_
    rw [e2]
    refine rx_icmp_ge (tgt := 116) d_Mo_checkRepeat_13 (by rfl) (fun z => absurd z (nI_ge (by omega) (by omega))) (fun c13 => ?_)
    refine rx_aload_nr d_Mo_checkRepeat_16 (by rfl) ?_
    refine rx_getfield d_Mo_checkRepeat_17 fl_Mo_44 (mr0 ha) (by rfl) ?_
    refine rx_iload_n d_Mo_checkRepeat_20 (by rfl) ?_
    refine m_ial (j := 12) ha d_Mo_checkRepeat_21 (by rfl) (by omega) (by decide) ?_
    refine rx_iload d_Mo_checkRepeat_22 (by rfl) ?_
    refine rx_cS d_Mo_checkRepeat_24 ml_Mo_94 st_Mo_in (by exact c9_Mo_in) (by rfl) (by exact Nat.le_of_ble_eq_true rfl) (k_in _ (b := b) (by omega)) ?_
    rw [show inm ((sS S 19 v).2.2 12 r) b = decide (gO s b = some r) from j2 b (by omega)]
    refine rx_if_eq (tgt := 74) d_Mo_checkRepeat_27 (by rfl) (fun c27 => ?_) (fun c27 => ?_)
    · have c27 : ¬ gO s b = some r := of_decide_eq_false (bi_0.mp c27)
      first
        | exact e74 _ (fI_c F (fun k' b' => ⟨fun z => z.imp id (fun w => ⟨w.1, by omega, w.2.2⟩), fun z => z.imp id (fun w => ⟨w.1, by have : b' ≠ b := fun e => c27 (by rw [← e]; exact w.2.2.1); omega, w.2.2⟩)⟩))
        | exact e74 _ (st 1 c27 ⟨fun _ => Or.inl c44, fun _ => by decide⟩)
        | exact e74 _ (st 1 c27 ⟨fun _ => Or.inr c60, fun _ => by decide⟩)
        | exact e74 _ (st 0 c27 ⟨fun z => absurd rfl z, fun z => absurd z (fun y => y.elim (fun w => w c44) (fun w => w c60))⟩)
    · have c27 : gO s b = some r := of_decide_eq_true (bi_1.mp c27)
      refine rx_aload_nr d_Mo_checkRepeat_30 (by rfl) ?_
      refine rx_aload_nr d_Mo_checkRepeat_31 (by rfl) ?_
      refine rx_iload d_Mo_checkRepeat_32 (by rfl) ?_
      refine rx_iconst (v := 1) d_Mo_checkRepeat_34 (by decide) ?_
      refine rx_cV d_Mo_checkRepeat_35 (by rfl) ml_Mo_70 im_Mo_signOf se_Mo_signOf (by exact c9_Mo_signOf) (mr0 ha) (by rfl) (by exact Nat.le_of_ble_eq_true rfl) (k_signOf ha (N9 _) (b := b) (k := 1) (by omega) (by omega)) ?_
      rw [sgn_1 hbl, show (sS S 19 v).2.2 4 = S.2.2 4 from rfl]
      refine rx_aload_nr d_Mo_checkRepeat_38 (by rfl) ?_
      refine rx_getfield d_Mo_checkRepeat_39 fl_Mo_50 (mr0 ha) (by rfl) ?_
      refine rx_iload_n d_Mo_checkRepeat_42 (by rfl) ?_
      refine m_ial (j := 14) ha d_Mo_checkRepeat_43 (by rfl) (by omega) (by decide) ?_
      rw [show (sS S 19 v).2.2 14 r = gC s r from j4]
      refine rx_icmp_ne (tgt := 63) d_Mo_checkRepeat_44 (by rfl) (fun c44 => ?_) (fun c44 => ?_)
      · refine rx_iconst (v := 1) d_Mo_checkRepeat_63 (by decide) ?_
        refine rx_goto (tgt := 68) d_Mo_checkRepeat_64 (by rfl) ?_
        refine rx_iconst (v := 3) d_Mo_checkRepeat_68 (by decide) ?_
        refine rx_iload d_Mo_checkRepeat_69 (by rfl) ?_
        refine rx_cV d_Mo_checkRepeat_71 (by rfl) ml_Mo_112 im_Mo_wrong se_Mo_wrong (by exact c9_Mo_wrong) (mr0 ha) (by rfl) (by exact Nat.le_of_ble_eq_true rfl) (k_wrong ha (k := 3) (b := b) _) ?_
        first
          | exact e74 _ (fI_c F (fun k' b' => ⟨fun z => z.imp id (fun w => ⟨w.1, by omega, w.2.2⟩), fun z => z.imp id (fun w => ⟨w.1, by have : b' ≠ b := fun e => c27 (by rw [← e]; exact w.2.2.1); omega, w.2.2⟩)⟩))
          | exact e74 _ (st 1 c27 ⟨fun _ => Or.inl c44, fun _ => by decide⟩)
          | exact e74 _ (st 1 c27 ⟨fun _ => Or.inr c60, fun _ => by decide⟩)
          | exact e74 _ (st 0 c27 ⟨fun z => absurd rfl z, fun z => absurd z (fun y => y.elim (fun w => w c44) (fun w => w c60))⟩)
      · refine rx_aload_nr d_Mo_checkRepeat_47 (by rfl) ?_
        refine rx_getfield d_Mo_checkRepeat_48 fl_Mo_47 (mr0 ha) (by rfl) ?_
        refine rx_iload_n d_Mo_checkRepeat_51 (by rfl) ?_
        refine m_ial (j := 13) ha d_Mo_checkRepeat_52 (by rfl) (by omega) (by decide) ?_
        refine rx_iload d_Mo_checkRepeat_53 (by rfl) ?_
        refine rx_iconst (v := 1) d_Mo_checkRepeat_55 (by decide) ?_
        refine rx_iadd d_Mo_checkRepeat_56 ?_
        rw [nI_1]
        refine rx_cS d_Mo_checkRepeat_57 ml_Mo_94 st_Mo_in (by exact c9_Mo_in) (by rfl) (by exact Nat.le_of_ble_eq_true rfl) (k_in _ (b := b + 1) (by omega)) ?_
        rw [show inm ((sS S 19 v).2.2 13 r) (b + 1) = decide (G (b + 1) = some r) from j3 (b + 1) (by omega)]
        refine rx_if_ne (tgt := 67) d_Mo_checkRepeat_60 (by rfl) (fun c60 => ?_) (fun c60 => ?_)
        · have c60 : G (b + 1) = some r := of_decide_eq_true (bi_1.mp c60)
          refine rx_iconst (v := 0) d_Mo_checkRepeat_67 (by decide) ?_
          refine rx_iconst (v := 3) d_Mo_checkRepeat_68 (by decide) ?_
          refine rx_iload d_Mo_checkRepeat_69 (by rfl) ?_
          refine rx_cV d_Mo_checkRepeat_71 (by rfl) ml_Mo_112 im_Mo_wrong se_Mo_wrong (by exact c9_Mo_wrong) (mr0 ha) (by rfl) (by exact Nat.le_of_ble_eq_true rfl) (k_wrong ha (k := 3) (b := b) _) ?_
          first
            | exact e74 _ (fI_c F (fun k' b' => ⟨fun z => z.imp id (fun w => ⟨w.1, by omega, w.2.2⟩), fun z => z.imp id (fun w => ⟨w.1, by have : b' ≠ b := fun e => c27 (by rw [← e]; exact w.2.2.1); omega, w.2.2⟩)⟩))
            | exact e74 _ (st 1 c27 ⟨fun _ => Or.inl c44, fun _ => by decide⟩)
            | exact e74 _ (st 1 c27 ⟨fun _ => Or.inr c60, fun _ => by decide⟩)
            | exact e74 _ (st 0 c27 ⟨fun z => absurd rfl z, fun z => absurd z (fun y => y.elim (fun w => w c44) (fun w => w c60))⟩)
        · have c60 : ¬ G (b + 1) = some r := of_decide_eq_false (bi_0.mp c60)
          refine rx_iconst (v := 1) d_Mo_checkRepeat_63 (by decide) ?_
          refine rx_goto (tgt := 68) d_Mo_checkRepeat_64 (by rfl) ?_
          refine rx_iconst (v := 3) d_Mo_checkRepeat_68 (by decide) ?_
          refine rx_iload d_Mo_checkRepeat_69 (by rfl) ?_
          refine rx_cV d_Mo_checkRepeat_71 (by rfl) ml_Mo_112 im_Mo_wrong se_Mo_wrong (by exact c9_Mo_wrong) (mr0 ha) (by rfl) (by exact Nat.le_of_ble_eq_true rfl) (k_wrong ha (k := 3) (b := b) _) ?_
          first
            | exact e74 _ (fI_c F (fun k' b' => ⟨fun z => z.imp id (fun w => ⟨w.1, by omega, w.2.2⟩), fun z => z.imp id (fun w => ⟨w.1, by have : b' ≠ b := fun e => c27 (by rw [← e]; exact w.2.2.1); omega, w.2.2⟩)⟩))
            | exact e74 _ (st 1 c27 ⟨fun _ => Or.inl c44, fun _ => by decide⟩)
            | exact e74 _ (st 1 c27 ⟨fun _ => Or.inr c60, fun _ => by decide⟩)
            | exact e74 _ (st 0 c27 ⟨fun z => absurd rfl z, fun z => absurd z (fun y => y.elim (fun w => w c44) (fun w => w c60))⟩)
theorem k_checkRepeat (ha : a = V.2.1 + h1.length) (hN : mN n S) (hv : vok n (S.2.2 4)) (R : mR S s G) (g9 : gN n (S.2.2 4) s G) (K : gK n (S.2.2 4) s G) {r y : Nat} (hy : G y = some r) (F : fI Pr v) : rx_C V (d + 3) kc ks m_Mo_checkRepeat [.ref a, .int (nI r)] (mw V h1 a (sS S 19 v) h2) (fPo V h1 a S h2 (fun k' b' => (Pr k' b' ∨ (k' = 3 ∧ b' < n ∧ C3 (S.2.2 4) s G r b')) ∨ (k' = 4 ∧ b' = gF s r ∧ FT n (S.2.2 4) s G 4 b'))) := by
  have hn := hN.2
  have I := g9.1
  have hs1 := I.1
  have hs2 := I.2.1
  have ky := K y r hy
  have hr := ky.1
  have jj := I.2.2.2.2.1 r hr
  have N9 : ∀ v, mN n (sS S 19 v) := fun _ => hN
  obtain ⟨j1, j2, j3, j4⟩ := R.2 r hr
  obtain ⟨l, l1, l2, l3, l4, l5, l6⟩ := mM_hi j3 hy (by omega)
  have kl := K l r l3
  have hm : ∀ y, G y = some r → y ≤ l := fun y z => l6 y (by have := (K y r z).2.1; omega) z
  have hc := g9.2.2 r hr
  have pw := pww_als hv g9 K l3 hm
  have f4 : FT n (S.2.2 4) s G 4 (gF s r) ↔ pww (S.2.2 4) s G r l := by
    constructor
    · rintro ⟨r', l', q1, q2, q3, q4, q5⟩
      have e1 : r' = r := by
        have i6 := I.2.2.2.2.2.1
        have jr := I.2.2.2.2.1 r' q1
        by_cases c : r' < r
        · have := i6 r' r c hr; omega
        · by_cases c2 : r < r'
          · have := i6 r r' c2 q1; omega
          · omega
      subst e1
      have e2 : l' = l := by
        have a1 := q4 l l3
        have a2 := hm l' q3
        omega
      subst e2
      exact q5
    · exact fun z => ⟨r, l, hr, rfl, l3, hm, z⟩
  rw [pw] at f4
  generalize ez : ffo (als (S.2.2 4) G r) (0, 0) 0 n = zz at *
  have st : ∀ (v x1 : Int32), fI (fun k' b' => Pr k' b' ∨ (k' = 3 ∧ b' < n ∧ C3 (S.2.2 4) s G r b')) v → (¬ x1 = 0 ↔ FT n (S.2.2 4) s G 4 (gF s r)) → fI (fun k' b' => (Pr k' b' ∨ (k' = 3 ∧ b' < n ∧ C3 (S.2.2 4) s G r b')) ∨ (k' = 4 ∧ b' = gF s r ∧ FT n (S.2.2 4) s G 4 b')) (mwv v x1 (nI (100 * 4 + gF s r))) := by
    intro v x1 F1 hx1
    refine fI_c (fI_w (x := x1) (k := 4) (b := gF s r) F1 (by omega) (by omega) (by omega)) (fun k' b' => or_congr_right ?_)
    constructor
    · rintro ⟨z1, z2, z3⟩
      exact ⟨z2, z3, by rw [z3]; exact hx1.mp z1⟩
    · rintro ⟨z1, z2, z3⟩
      exact ⟨hx1.mpr (by rw [← z2]; exact z3), z1, z2⟩
  have K1 := l_checkRepeat (d := d) (kc := kc) (ks := ks) (h2 := h2) (Pr := Pr) (Q := fPo V h1 a S h2 (fun k' b' => (Pr k' b' ∨ (k' = 3 ∧ b' < n ∧ C3 (S.2.2 4) s G r b')) ∨ (k' = 4 ∧ b' = gF s r ∧ FT n (S.2.2 4) s G 4 b'))) ha hN hv R hr (by omega) (fun v y5 F1 => by
    rw [ez]
    refine rx_aload_nr d_Mo_checkRepeat_116 (by rfl) ?_
    refine rx_aload_nr d_Mo_checkRepeat_117 (by rfl) ?_
    refine rx_aload_nr d_Mo_checkRepeat_118 (by rfl) ?_
    refine rx_getfield d_Mo_checkRepeat_119 fl_Mo_47 (mr0 ha) (by rfl) ?_
    refine rx_iload_n d_Mo_checkRepeat_122 (by rfl) ?_
    refine m_ial (j := 13) ha d_Mo_checkRepeat_123 (by rfl) (by omega) (by decide) ?_
    refine rx_cV d_Mo_checkRepeat_124 (by rfl) ml_Mo_116 im_Mo_highest se_Mo_highest (by exact c9_Mo_highest) (mr0 ha) (by rfl) (by exact Nat.le_of_ble_eq_true rfl) (k_highest (x := l) (by omega) l4 l5) ?_
    refine rx_iconst (v := 2) d_Mo_checkRepeat_127 (by decide) ?_
    refine rx_cV d_Mo_checkRepeat_128 (by rfl) ml_Mo_70 im_Mo_signOf se_Mo_signOf (by exact c9_Mo_signOf) (mr0 ha) (by rfl) (by exact Nat.le_of_ble_eq_true rfl) (k_signOf ha (N9 _) (b := l) (k := 2) (by omega) (by omega)) ?_
    rw [sgn_1 kl.2.1, show (sS S 19 v).2.2 4 = S.2.2 4 from rfl]
    refine rx_istore d_Mo_checkRepeat_131 (Nat.le_of_ble_eq_true rfl) ?_
    refine rx_aload_nr d_Mo_checkRepeat_133 (by rfl) ?_
    refine rx_iload_n d_Mo_checkRepeat_134 (by rfl) ?_
    refine rx_if_ne (tgt := 168) d_Mo_checkRepeat_135 (by rfl) (fun c135 => ?_) (fun c135 => ?_)
    · refine rx_iconst (v := 1) d_Mo_checkRepeat_168 (by decide) ?_
      refine rx_goto (tgt := 173) d_Mo_checkRepeat_169 (by rfl) ?_
      refine rx_iconst (v := 4) d_Mo_checkRepeat_173 (by decide) ?_
      refine rx_aload_nr d_Mo_checkRepeat_174 (by rfl) ?_
      refine rx_getfield d_Mo_checkRepeat_175 fl_Mo_41 (mr0 ha) (by rfl) ?_
      refine rx_iload_n d_Mo_checkRepeat_178 (by rfl) ?_
      refine m_ial (j := 11) ha d_Mo_checkRepeat_179 (by rfl) (by omega) (by decide) ?_
      rw [show (sS S 19 v).2.2 11 r = nI (gF s r) from j1]
      refine rx_cV d_Mo_checkRepeat_180 (by rfl) ml_Mo_112 im_Mo_wrong se_Mo_wrong (by exact c9_Mo_wrong) (mr0 ha) (by rfl) (by exact Nat.le_of_ble_eq_true rfl) (k_wrong ha (k := 4) (b := gF s r) _) ?_
      refine rx_vreturn d_Mo_checkRepeat_183 (by rfl) ?_
      first
        | exact ⟨rfl, _, rfl, st v 1 F1 ⟨fun _ => f4.mpr (fun z => c135 z.1), fun _ => by decide⟩⟩
        | exact ⟨rfl, _, rfl, st v 1 F1 ⟨fun _ => f4.mpr (fun z => c149 z.2.1), fun _ => by decide⟩⟩
        | exact ⟨rfl, _, rfl, st v 1 F1 ⟨fun _ => f4.mpr (fun z => absurd c165 (by rw [z.2.2]; decide)), fun _ => by decide⟩⟩
        | exact ⟨rfl, _, rfl, st v 0 F1 ⟨fun z => absurd rfl z, fun z => absurd ⟨c135, c149, bi_1.mp c165⟩ (f4.mp z)⟩⟩
    · refine rx_iload_n d_Mo_checkRepeat_138 (by rfl) ?_
      refine rx_iconst (v := 1) d_Mo_checkRepeat_139 (by decide) ?_
      refine rx_aload_nr d_Mo_checkRepeat_140 (by rfl) ?_
      refine rx_getfield d_Mo_checkRepeat_141 fl_Mo_50 (mr0 ha) (by rfl) ?_
      refine rx_iload_n d_Mo_checkRepeat_144 (by rfl) ?_
      refine m_ial (j := 14) ha d_Mo_checkRepeat_145 (by rfl) (by omega) (by decide) ?_
      rw [show (sS S 19 v).2.2 14 r = gC s r from j4]
      refine rx_ishl d_Mo_checkRepeat_146 ?_
      refine rx_iconst (v := 1) d_Mo_checkRepeat_147 (by decide) ?_
      refine rx_isub d_Mo_checkRepeat_148 ?_
      refine rx_icmp_ne (tgt := 168) d_Mo_checkRepeat_149 (by rfl) (fun c149 => ?_) (fun c149 => ?_)
      · refine rx_iconst (v := 1) d_Mo_checkRepeat_168 (by decide) ?_
        refine rx_goto (tgt := 173) d_Mo_checkRepeat_169 (by rfl) ?_
        refine rx_iconst (v := 4) d_Mo_checkRepeat_173 (by decide) ?_
        refine rx_aload_nr d_Mo_checkRepeat_174 (by rfl) ?_
        refine rx_getfield d_Mo_checkRepeat_175 fl_Mo_41 (mr0 ha) (by rfl) ?_
        refine rx_iload_n d_Mo_checkRepeat_178 (by rfl) ?_
        refine m_ial (j := 11) ha d_Mo_checkRepeat_179 (by rfl) (by omega) (by decide) ?_
        rw [show (sS S 19 v).2.2 11 r = nI (gF s r) from j1]
        refine rx_cV d_Mo_checkRepeat_180 (by rfl) ml_Mo_112 im_Mo_wrong se_Mo_wrong (by exact c9_Mo_wrong) (mr0 ha) (by rfl) (by exact Nat.le_of_ble_eq_true rfl) (k_wrong ha (k := 4) (b := gF s r) _) ?_
        refine rx_vreturn d_Mo_checkRepeat_183 (by rfl) ?_
        first
          | exact ⟨rfl, _, rfl, st v 1 F1 ⟨fun _ => f4.mpr (fun z => c135 z.1), fun _ => by decide⟩⟩
          | exact ⟨rfl, _, rfl, st v 1 F1 ⟨fun _ => f4.mpr (fun z => c149 z.2.1), fun _ => by decide⟩⟩
          | exact ⟨rfl, _, rfl, st v 1 F1 ⟨fun _ => f4.mpr (fun z => absurd c165 (by rw [z.2.2]; decide)), fun _ => by decide⟩⟩
          | exact ⟨rfl, _, rfl, st v 0 F1 ⟨fun z => absurd rfl z, fun z => absurd ⟨c135, c149, bi_1.mp c165⟩ (f4.mp z)⟩⟩
      · refine rx_iload d_Mo_checkRepeat_152 (by rfl) ?_
        refine rx_aload_nr d_Mo_checkRepeat_154 (by rfl) ?_
        refine rx_getfield d_Mo_checkRepeat_155 fl_Mo_50 (mr0 ha) (by rfl) ?_
        refine rx_iload_n d_Mo_checkRepeat_158 (by rfl) ?_
        refine m_ial (j := 14) ha d_Mo_checkRepeat_159 (by rfl) (by omega) (by decide) ?_
        rw [show (sS S 19 v).2.2 14 r = nI (cn s r) from j4.trans hc.1]
        refine rx_iconst (v := 1) d_Mo_checkRepeat_160 (by decide) ?_
        refine rx_isub d_Mo_checkRepeat_161 ?_
        rw [nI_p1 (by omega)]
        refine rx_cS d_Mo_checkRepeat_162 ml_Mo_94 st_Mo_in (by exact c9_Mo_in) (by rfl) (by exact Nat.le_of_ble_eq_true rfl) (k_in _ (b := cn s r - 1) (by omega)) ?_
        refine rx_if_ne (tgt := 172) d_Mo_checkRepeat_165 (by rfl) (fun c165 => ?_) (fun c165 => ?_)
        · refine rx_iconst (v := 0) d_Mo_checkRepeat_172 (by decide) ?_
          refine rx_iconst (v := 4) d_Mo_checkRepeat_173 (by decide) ?_
          refine rx_aload_nr d_Mo_checkRepeat_174 (by rfl) ?_
          refine rx_getfield d_Mo_checkRepeat_175 fl_Mo_41 (mr0 ha) (by rfl) ?_
          refine rx_iload_n d_Mo_checkRepeat_178 (by rfl) ?_
          refine m_ial (j := 11) ha d_Mo_checkRepeat_179 (by rfl) (by omega) (by decide) ?_
          rw [show (sS S 19 v).2.2 11 r = nI (gF s r) from j1]
          refine rx_cV d_Mo_checkRepeat_180 (by rfl) ml_Mo_112 im_Mo_wrong se_Mo_wrong (by exact c9_Mo_wrong) (mr0 ha) (by rfl) (by exact Nat.le_of_ble_eq_true rfl) (k_wrong ha (k := 4) (b := gF s r) _) ?_
          refine rx_vreturn d_Mo_checkRepeat_183 (by rfl) ?_
          first
            | exact ⟨rfl, _, rfl, st v 1 F1 ⟨fun _ => f4.mpr (fun z => c135 z.1), fun _ => by decide⟩⟩
            | exact ⟨rfl, _, rfl, st v 1 F1 ⟨fun _ => f4.mpr (fun z => c149 z.2.1), fun _ => by decide⟩⟩
            | exact ⟨rfl, _, rfl, st v 1 F1 ⟨fun _ => f4.mpr (fun z => absurd c165 (by rw [z.2.2]; decide)), fun _ => by decide⟩⟩
            | exact ⟨rfl, _, rfl, st v 0 F1 ⟨fun z => absurd rfl z, fun z => absurd ⟨c135, c149, bi_1.mp c165⟩ (f4.mp z)⟩⟩
        · refine rx_iconst (v := 1) d_Mo_checkRepeat_168 (by decide) ?_
          refine rx_goto (tgt := 173) d_Mo_checkRepeat_169 (by rfl) ?_
          refine rx_iconst (v := 4) d_Mo_checkRepeat_173 (by decide) ?_
          refine rx_aload_nr d_Mo_checkRepeat_174 (by rfl) ?_
          refine rx_getfield d_Mo_checkRepeat_175 fl_Mo_41 (mr0 ha) (by rfl) ?_
          refine rx_iload_n d_Mo_checkRepeat_178 (by rfl) ?_
          refine m_ial (j := 11) ha d_Mo_checkRepeat_179 (by rfl) (by omega) (by decide) ?_
          rw [show (sS S 19 v).2.2 11 r = nI (gF s r) from j1]
          refine rx_cV d_Mo_checkRepeat_180 (by rfl) ml_Mo_112 im_Mo_wrong se_Mo_wrong (by exact c9_Mo_wrong) (mr0 ha) (by rfl) (by exact Nat.le_of_ble_eq_true rfl) (k_wrong ha (k := 4) (b := gF s r) _) ?_
          refine rx_vreturn d_Mo_checkRepeat_183 (by rfl) ?_
          first
            | exact ⟨rfl, _, rfl, st v 1 F1 ⟨fun _ => f4.mpr (fun z => c135 z.1), fun _ => by decide⟩⟩
            | exact ⟨rfl, _, rfl, st v 1 F1 ⟨fun _ => f4.mpr (fun z => c149 z.2.1), fun _ => by decide⟩⟩
            | exact ⟨rfl, _, rfl, st v 1 F1 ⟨fun _ => f4.mpr (fun z => absurd c165 (by rw [z.2.2]; decide)), fun _ => by decide⟩⟩
            | exact ⟨rfl, _, rfl, st v 0 F1 ⟨fun z => absurd rfl z, fun z => absurd ⟨c135, c149, bi_1.mp c165⟩ (f4.mp z)⟩⟩)
  refine rx_iconst (v := 0) d_Mo_checkRepeat_0 (by decide) ?_
  refine rx_istore_n d_Mo_checkRepeat_1 (Nat.le_of_ble_eq_true rfl) ?_
  refine rx_iconst (v := 0) d_Mo_checkRepeat_2 (by decide) ?_
  refine rx_istore_n d_Mo_checkRepeat_3 (Nat.le_of_ble_eq_true rfl) ?_
  refine rx_iconst (v := 0) d_Mo_checkRepeat_4 (by decide) ?_
  refine rx_istore d_Mo_checkRepeat_5 (Nat.le_of_ble_eq_true rfl) ?_
  exact K1 n 0 v (0, 0) (by omega) rfl (fI_c F (fun k' b' => ⟨Or.inl, fun z => z.elim id (fun w => absurd w.2.1 (Nat.not_lt_zero _))⟩))
end MJ
