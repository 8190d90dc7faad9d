/-! the law's wrappers, that catch -/
section WR
variable {V : rx_V} {d kc ks mc ms : Nat} {M y : rx_T} {pc : Nat} {L : rx_L} {S Sr As : List Value} {h : List va_E} {Q : rx_R → List va_E → Prop} {P9 : List va_E → Prop} {index E : Nat} {v0 : Option Value}
theorem rx_okV {b ci : Nat} {fs : List Value} {r : vw_C} (hd : decode M.2.1 pc = .ok (.invokevirtual index, 3)) (hc : rx_cl[ci]? = some r) (w1 : Cond.methodLink M.1.cls index y.1 ∈ rx_tbl) (w2 : Cond.instanceMethod y.1 ∈ rx_tbl) (w3 : Cond.selects r.1 y.1 y.1 ∈ rx_tbl) (hcl : rx_cl9 y As.length (lg_sl (.ref b :: As)).length)
    (he : rx_rd V h b = some (.inr (ci, fs))) (hS : S = As.reverse ++ .ref b :: Sr) (hw8 : (Sr.map fun v => v.category).sum ≤ 8) (K : rx_C V d 1 6 y (.ref b :: As) h (fun r h' => r = .inl v0 ∧ P9 h')) (k : ∀ h1, P9 h1 → rx_W V (d + 1) 0 0 M (pc + 3) L (v0.toList ++ Sr) h1 Q) : rx_W V (d + 1) 1 6 M pc L S h Q :=
  rx_callV (mc := 1) (ms := 6) (kc := 0) (ks := 0) hd hc w1 w2 w3 hcl he hS hw8 K (fun E' h1 z => nomatch z.1) (fun v h1 z => by obtain ⟨z1, z2⟩ := z; cases z1; exact k h1 z2)
theorem rx_exV {b ci : Nat} {fs : List Value} {r : vw_C} (hd : decode M.2.1 pc = .ok (.invokevirtual index, 3)) (hc : rx_cl[ci]? = some r) (w1 : Cond.methodLink M.1.cls index y.1 ∈ rx_tbl) (w2 : Cond.instanceMethod y.1 ∈ rx_tbl) (w3 : Cond.selects r.1 y.1 y.1 ∈ rx_tbl) (hcl : rx_cl9 y As.length (lg_sl (.ref b :: As)).length)
    (he : rx_rd V h b = some (.inr (ci, fs))) (hS : S = As.reverse ++ .ref b :: Sr) (hw8 : (Sr.map fun v => v.category).sum ≤ 8) (K : rx_C V d 1 6 y (.ref b :: As) h (fun r h' => r = .inr E ∧ P9 h')) (k : ∀ h1, P9 h1 → rx_Y V (d + 1) 0 0 M pc L h1 Q E) : rx_W V (d + 1) 1 6 M pc L S h Q :=
  rx_callV (mc := 1) (ms := 6) (kc := 0) (ks := 0) hd hc w1 w2 w3 hcl he hS hw8 K (fun E' h1 z => by obtain ⟨z1, z2⟩ := z; cases z1; exact k h1 z2) (fun v h1 z => nomatch z.1)
theorem rx_okSW (hd : decode M.2.1 pc = .ok (.invokestatic index, 3)) (w1 : Cond.methodLink M.1.cls index y.1 ∈ rx_tbl) (w2 : Cond.static y.1 ∈ rx_tbl) (w4 : Cond.codeWith y.1 y.2.1 y.2.2.1 y.2.2.2.1 y.2.2.2.2 ∈ rx_tbl) (w5 : Cond.initialized y.1.cls ∈ rx_tbl)
    (hy : plainName y.1.cls = true) (hy2 : y.1.cls ≠ "java/lang/invoke/MethodHandle" ∧ y.1.cls ≠ "java/lang/invoke/VarHandle") (hlen : (parseMethodDescriptor y.1.desc).map (fun t => t.parameters.length) = some As.length) (hsl : (lg_sl As).length ≤ y.2.2.1) (h13 : y.2.2.1 ≤ 13)
    (hS : S = As.reverse ++ Sr) (hw8 : (Sr.map fun v => v.category).sum ≤ 8) (K : rx_C V d 1 6 y As h (fun r h' => r = .inl v0 ∧ P9 h')) (k : ∀ h1, P9 h1 → rx_W V (d + 1) kc ks M (pc + 3) L (v0.toList ++ Sr) h1 Q) : rx_W V (d + 1) (1 + kc) (6 + ks) M pc L S h Q :=
  rx_callSW (mc := 1) (ms := 6) hd w1 w2 w4 w5 hy hy2 hlen hsl h13 hS hw8 K (fun E' h1 z => nomatch z.1) (fun v h1 z => by obtain ⟨z1, z2⟩ := z; cases z1; exact k h1 z2)
end WR
/-- the law's long array -/
def outc (V : rx_V) (x : Int64) (c : va_E) : Prop := ∃ fo : Nat → Int64, c = .inl (V.2.2.2.1 1, 1, .inr (.inl fo)) ∧ fo (0 : Int32).toNatClampNeg = x
section WS
variable {V : rx_V} {d q aO : Nat} {h : List va_E} {P9 : List va_E → Prop} {fs : List Value}
theorem vp_01 : vp_in (0 : Int32) 1 := show vp_in (nI 0) 1 from vp_in_nI (by omega) (by omega)
theorem updL_s {f : Nat → Int64} {i : Nat} {x : Int64} : vp_updL f i x i = x := by
  unfold vp_updL
  exact if_pos rfl
theorem w_bar0 (p0 : Int32) (p1 : Int32) (p2 : Int32) (he : rx_rd V h q = some (.inr (0, fs))) (K : rx_C V (d + 8) 1 6 m_SR_bar [.ref q, .int p0, .int p1, .int p2] h (fun r h' => r = .inl none ∧ P9 h')) : rx_C V (d + 9) 1 6 m_La_bar [.ref q, .int p0, .int p1, .int p2] h (fun r h' => r = .inl (some (.int 0)) ∧ P9 h') := by
  refine rx_aload_nr d_La_bar_0 (by rfl) ?_
  refine rx_iload_n d_La_bar_1 (by rfl) ?_
  refine rx_iload_n d_La_bar_2 (by rfl) ?_
  refine rx_iload_n d_La_bar_3 (by rfl) ?_
  refine rx_okV d_La_bar_4 (by rfl) ml_La_7 im_SR_bar se_SR_bar (by exact c9_SR_bar) he (by rfl) (by exact Nat.le_of_ble_eq_true rfl) K ?_
  intro h1 z1
  refine rx_goto (tgt := 18) d_La_bar_7 (by rfl) ?_
  refine rx_iconst (v := 0) d_La_bar_18 (by decide) ?_
  refine rx_ireturn d_La_bar_19 (by rfl) ?_
  exact ⟨rfl, z1⟩
theorem w_bar1 (p0 : Int32) (p1 : Int32) (p2 : Int32) (he : rx_rd V h q = some (.inr (0, fs))) (K : rx_C V (d + 8) 1 6 m_SR_bar [.ref q, .int p0, .int p1, .int p2] h (fun r h' => r = .inr 0 ∧ P9 h')) : rx_C V (d + 9) 1 6 m_La_bar [.ref q, .int p0, .int p1, .int p2] h (fun r h' => r = .inl (some (.int 1)) ∧ P9 h') := by
  refine rx_aload_nr d_La_bar_0 (by rfl) ?_
  refine rx_iload_n d_La_bar_1 (by rfl) ?_
  refine rx_iload_n d_La_bar_2 (by rfl) ?_
  refine rx_iload_n d_La_bar_3 (by rfl) ?_
  refine rx_exV d_La_bar_4 (by rfl) ml_La_7 im_SR_bar se_SR_bar (by exact c9_SR_bar) he (by rfl) (by exact Nat.le_of_ble_eq_true rfl) K ?_
  intro h1 z1
  refine rx_catch [] (0, 7, 10, 13) [(0, 7, 14, 15)] (by decide) rfl (fun z hz => nomatch hz) (by decide) (by decide) (by decide) ck_La_13 (fun q9 => ?_)
  refine rx_astore_r d_La_bar_10 (Nat.le_of_ble_eq_true rfl) ?_
  refine rx_iconst (v := 1) d_La_bar_12 (by decide) ?_
  refine rx_ireturn d_La_bar_13 (by rfl) ?_
  exact ⟨rfl, z1⟩
theorem w_bar2 (p0 : Int32) (p1 : Int32) (p2 : Int32) (he : rx_rd V h q = some (.inr (0, fs))) (K : rx_C V (d + 8) 1 6 m_SR_bar [.ref q, .int p0, .int p1, .int p2] h (fun r h' => r = .inr 1 ∧ P9 h')) : rx_C V (d + 9) 1 6 m_La_bar [.ref q, .int p0, .int p1, .int p2] h (fun r h' => r = .inl (some (.int 2)) ∧ P9 h') := by
  refine rx_aload_nr d_La_bar_0 (by rfl) ?_
  refine rx_iload_n d_La_bar_1 (by rfl) ?_
  refine rx_iload_n d_La_bar_2 (by rfl) ?_
  refine rx_iload_n d_La_bar_3 (by rfl) ?_
  refine rx_exV d_La_bar_4 (by rfl) ml_La_7 im_SR_bar se_SR_bar (by exact c9_SR_bar) he (by rfl) (by exact Nat.le_of_ble_eq_true rfl) K ?_
  intro h1 z1
  refine rx_catch [(0, 7, 10, 13)] (0, 7, 14, 15) [] (by decide) rfl (fun z hz => by
      cases List.mem_singleton.mp hz
      exact ⟨by decide, 0, by decide, by decide, ck_La_13⟩) (by decide) (by decide) (by decide) ck_La_15 (fun q9 => ?_)
  refine rx_astore_r d_La_bar_14 (Nat.le_of_ble_eq_true rfl) ?_
  refine rx_iconst (v := 2) d_La_bar_16 (by decide) ?_
  refine rx_ireturn d_La_bar_17 (by rfl) ?_
  exact ⟨rfl, z1⟩
theorem w_sign0 (p0 : Int32) (p1 : Int32) (p2 : Int32) {v : Bool} (he : rx_rd V h q = some (.inr (0, fs))) {fo : Nat → Int64} (ho : ∀ h', P9 h' → rx_rd V h' aO = some (.inl (V.2.2.2.1 1, 1, .inr (.inl fo)))) (K : rx_C V (d + 8) 1 6 m_SR_sign [.ref q, .int p0, .int p1, .int p2] h (fun r h' => r = .inl (some (.int (bi v))) ∧ P9 h')) : rx_C V (d + 9) 1 6 m_La_sign [.ref q, .int p0, .int p1, .int p2, .ref aO] h (fun r h' => r = .inl (some (.int 0)) ∧ ∃ h1 c, P9 h1 ∧ h' = rx_wr V h1 aO c ∧ outc V (if v = true then 1 else 0) c) := by
  refine rx_aload_r d_La_sign_0 (by rfl) ?_
  refine rx_iconst (v := 0) d_La_sign_2 (by decide) ?_
  refine rx_aload_nr d_La_sign_3 (by rfl) ?_
  refine rx_iload_n d_La_sign_4 (by rfl) ?_
  refine rx_iload_n d_La_sign_5 (by rfl) ?_
  refine rx_iload_n d_La_sign_6 (by rfl) ?_
  refine rx_okV d_La_sign_7 (by rfl) ml_La_17 im_SR_sign se_SR_sign (by exact c9_SR_sign) he (by rfl) (by exact Nat.le_of_ble_eq_true rfl) K ?_
  intro h1 z1
  refine rx_if_eq (tgt := 17) d_La_sign_10 (by rfl) (fun c10 => ?_) (fun c10 => ?_)
  · have cv : v = false := bi_0.mp c10
    subst cv
    refine rx_lconst (v := 0) d_La_sign_17 (by decide) ?_
    refine rx_lastore d_La_sign_18 (by rfl) (ho h1 z1) vp_01 ?_
    refine rx_goto (tgt := 30) d_La_sign_19 (by rfl) ?_
    refine rx_iconst (v := 0) d_La_sign_30 (by decide) ?_
    refine rx_ireturn d_La_sign_31 (by rfl) ?_
    exact ⟨rfl, h1, _, z1, rfl, _, rfl, updL_s⟩
  · have cv : v = true := bi_1.mp c10
    subst cv
    refine rx_lconst (v := 1) d_La_sign_13 (by decide) ?_
    refine rx_goto (tgt := 18) d_La_sign_14 (by rfl) ?_
    refine rx_lastore d_La_sign_18 (by rfl) (ho h1 z1) vp_01 ?_
    refine rx_goto (tgt := 30) d_La_sign_19 (by rfl) ?_
    refine rx_iconst (v := 0) d_La_sign_30 (by decide) ?_
    refine rx_ireturn d_La_sign_31 (by rfl) ?_
    exact ⟨rfl, h1, _, z1, rfl, _, rfl, updL_s⟩
theorem w_sign1 (p0 : Int32) (p1 : Int32) (p2 : Int32) (he : rx_rd V h q = some (.inr (0, fs))) (K : rx_C V (d + 8) 1 6 m_SR_sign [.ref q, .int p0, .int p1, .int p2] h (fun r h' => r = .inr 0 ∧ P9 h')) : rx_C V (d + 9) 1 6 m_La_sign [.ref q, .int p0, .int p1, .int p2, .ref aO] h (fun r h' => r = .inl (some (.int 1)) ∧ P9 h') := by
  refine rx_aload_r d_La_sign_0 (by rfl) ?_
  refine rx_iconst (v := 0) d_La_sign_2 (by decide) ?_
  refine rx_aload_nr d_La_sign_3 (by rfl) ?_
  refine rx_iload_n d_La_sign_4 (by rfl) ?_
  refine rx_iload_n d_La_sign_5 (by rfl) ?_
  refine rx_iload_n d_La_sign_6 (by rfl) ?_
  refine rx_exV d_La_sign_7 (by rfl) ml_La_17 im_SR_sign se_SR_sign (by exact c9_SR_sign) he (by rfl) (by exact Nat.le_of_ble_eq_true rfl) K ?_
  intro h1 z1
  refine rx_catch [] (0, 19, 22, 13) [(0, 19, 26, 15)] (by decide) rfl (fun z hz => nomatch hz) (by decide) (by decide) (by decide) ck_La_13 (fun q9 => ?_)
  refine rx_astore_r d_La_sign_22 (Nat.le_of_ble_eq_true rfl) ?_
  refine rx_iconst (v := 1) d_La_sign_24 (by decide) ?_
  refine rx_ireturn d_La_sign_25 (by rfl) ?_
  exact ⟨rfl, z1⟩
theorem w_sign2 (p0 : Int32) (p1 : Int32) (p2 : Int32) (he : rx_rd V h q = some (.inr (0, fs))) (K : rx_C V (d + 8) 1 6 m_SR_sign [.ref q, .int p0, .int p1, .int p2] h (fun r h' => r = .inr 1 ∧ P9 h')) : rx_C V (d + 9) 1 6 m_La_sign [.ref q, .int p0, .int p1, .int p2, .ref aO] h (fun r h' => r = .inl (some (.int 2)) ∧ P9 h') := by
  refine rx_aload_r d_La_sign_0 (by rfl) ?_
  refine rx_iconst (v := 0) d_La_sign_2 (by decide) ?_
  refine rx_aload_nr d_La_sign_3 (by rfl) ?_
  refine rx_iload_n d_La_sign_4 (by rfl) ?_
  refine rx_iload_n d_La_sign_5 (by rfl) ?_
  refine rx_iload_n d_La_sign_6 (by rfl) ?_
  refine rx_exV d_La_sign_7 (by rfl) ml_La_17 im_SR_sign se_SR_sign (by exact c9_SR_sign) he (by rfl) (by exact Nat.le_of_ble_eq_true rfl) K ?_
  intro h1 z1
  refine rx_catch [(0, 19, 22, 13)] (0, 19, 26, 15) [] (by decide) rfl (fun z hz => by
      cases List.mem_singleton.mp hz
      exact ⟨by decide, 0, by decide, by decide, ck_La_13⟩) (by decide) (by decide) (by decide) ck_La_15 (fun q9 => ?_)
  refine rx_astore_r d_La_sign_26 (Nat.le_of_ble_eq_true rfl) ?_
  refine rx_iconst (v := 2) d_La_sign_28 (by decide) ?_
  refine rx_ireturn d_La_sign_29 (by rfl) ?_
  exact ⟨rfl, z1⟩
theorem w_note0 (p0 : Int32) (p1 : Int32) (p2 : Int32) (p3 : Int32) (p4 : Int32) (y : Bool) {v : Int32} (he : rx_rd V h q = some (.inr (0, fs))) {fo : Nat → Int64} (ho : ∀ h', P9 h' → rx_rd V h' aO = some (.inl (V.2.2.2.1 1, 1, .inr (.inl fo)))) (K : rx_C V (d + 8) 1 6 m_SR_note [.ref q, .int p0, .int p1, .int p2, .int p3, .int p4, .int (bi y)] h (fun r h' => r = .inl (some (.int v)) ∧ P9 h')) : rx_C V (d + 9) 1 6 m_La_note [.ref q, .int p0, .int p1, .int p2, .int p3, .int p4, .int (bi y), .ref aO] h (fun r h' => r = .inl (some (.int 0)) ∧ ∃ h1 c, P9 h1 ∧ h' = rx_wr V h1 aO c ∧ outc V v.toInt64 c) := by
  refine rx_aload_r d_La_note_0 (by rfl) ?_
  refine rx_iconst (v := 0) d_La_note_2 (by decide) ?_
  refine rx_aload_nr d_La_note_3 (by rfl) ?_
  refine rx_iload_n d_La_note_4 (by rfl) ?_
  refine rx_iload_n d_La_note_5 (by rfl) ?_
  refine rx_iload_n d_La_note_6 (by rfl) ?_
  refine rx_iload d_La_note_7 (by rfl) ?_
  refine rx_iload d_La_note_9 (by rfl) ?_
  refine rx_iload d_La_note_11 (by rfl) ?_
  refine rx_okV d_La_note_13 (by rfl) ml_La_21 im_SR_note se_SR_note (by exact c9_SR_note) he (by rfl) (by exact Nat.le_of_ble_eq_true rfl) K ?_
  intro h1 z1
  refine rx_i2l d_La_note_16 ?_
  refine rx_lastore d_La_note_17 (by rfl) (ho h1 z1) vp_01 ?_
  refine rx_goto (tgt := 29) d_La_note_18 (by rfl) ?_
  refine rx_iconst (v := 0) d_La_note_29 (by decide) ?_
  refine rx_ireturn d_La_note_30 (by rfl) ?_
  exact ⟨rfl, h1, _, z1, rfl, _, rfl, updL_s⟩
theorem w_note1 (p0 : Int32) (p1 : Int32) (p2 : Int32) (p3 : Int32) (p4 : Int32) (y : Bool) (he : rx_rd V h q = some (.inr (0, fs))) (K : rx_C V (d + 8) 1 6 m_SR_note [.ref q, .int p0, .int p1, .int p2, .int p3, .int p4, .int (bi y)] h (fun r h' => r = .inr 0 ∧ P9 h')) : rx_C V (d + 9) 1 6 m_La_note [.ref q, .int p0, .int p1, .int p2, .int p3, .int p4, .int (bi y), .ref aO] h (fun r h' => r = .inl (some (.int 1)) ∧ P9 h') := by
  refine rx_aload_r d_La_note_0 (by rfl) ?_
  refine rx_iconst (v := 0) d_La_note_2 (by decide) ?_
  refine rx_aload_nr d_La_note_3 (by rfl) ?_
  refine rx_iload_n d_La_note_4 (by rfl) ?_
  refine rx_iload_n d_La_note_5 (by rfl) ?_
  refine rx_iload_n d_La_note_6 (by rfl) ?_
  refine rx_iload d_La_note_7 (by rfl) ?_
  refine rx_iload d_La_note_9 (by rfl) ?_
  refine rx_iload d_La_note_11 (by rfl) ?_
  refine rx_exV d_La_note_13 (by rfl) ml_La_21 im_SR_note se_SR_note (by exact c9_SR_note) he (by rfl) (by exact Nat.le_of_ble_eq_true rfl) K ?_
  intro h1 z1
  refine rx_catch [] (0, 18, 21, 13) [(0, 18, 25, 15)] (by decide) rfl (fun z hz => nomatch hz) (by decide) (by decide) (by decide) ck_La_13 (fun q9 => ?_)
  refine rx_astore_r d_La_note_21 (Nat.le_of_ble_eq_true rfl) ?_
  refine rx_iconst (v := 1) d_La_note_23 (by decide) ?_
  refine rx_ireturn d_La_note_24 (by rfl) ?_
  exact ⟨rfl, z1⟩
theorem w_note2 (p0 : Int32) (p1 : Int32) (p2 : Int32) (p3 : Int32) (p4 : Int32) (y : Bool) (he : rx_rd V h q = some (.inr (0, fs))) (K : rx_C V (d + 8) 1 6 m_SR_note [.ref q, .int p0, .int p1, .int p2, .int p3, .int p4, .int (bi y)] h (fun r h' => r = .inr 1 ∧ P9 h')) : rx_C V (d + 9) 1 6 m_La_note [.ref q, .int p0, .int p1, .int p2, .int p3, .int p4, .int (bi y), .ref aO] h (fun r h' => r = .inl (some (.int 2)) ∧ P9 h') := by
  refine rx_aload_r d_La_note_0 (by rfl) ?_
  refine rx_iconst (v := 0) d_La_note_2 (by decide) ?_
  refine rx_aload_nr d_La_note_3 (by rfl) ?_
  refine rx_iload_n d_La_note_4 (by rfl) ?_
  refine rx_iload_n d_La_note_5 (by rfl) ?_
  refine rx_iload_n d_La_note_6 (by rfl) ?_
  refine rx_iload d_La_note_7 (by rfl) ?_
  refine rx_iload d_La_note_9 (by rfl) ?_
  refine rx_iload d_La_note_11 (by rfl) ?_
  refine rx_exV d_La_note_13 (by rfl) ml_La_21 im_SR_note se_SR_note (by exact c9_SR_note) he (by rfl) (by exact Nat.le_of_ble_eq_true rfl) K ?_
  intro h1 z1
  refine rx_catch [(0, 18, 21, 13)] (0, 18, 25, 15) [] (by decide) rfl (fun z hz => by
      cases List.mem_singleton.mp hz
      exact ⟨by decide, 0, by decide, by decide, ck_La_13⟩) (by decide) (by decide) (by decide) ck_La_15 (fun q9 => ?_)
  refine rx_astore_r d_La_note_25 (Nat.le_of_ble_eq_true rfl) ?_
  refine rx_iconst (v := 2) d_La_note_27 (by decide) ?_
  refine rx_ireturn d_La_note_28 (by rfl) ?_
  exact ⟨rfl, z1⟩
theorem w_transpose0 (p0 : Int32) (p1 : Int32) {v : Int32} (he : rx_rd V h q = some (.inr (0, fs))) {fo : Nat → Int64} (ho : ∀ h', P9 h' → rx_rd V h' aO = some (.inl (V.2.2.2.1 1, 1, .inr (.inl fo)))) (K : rx_C V (d + 8) 1 6 m_SR_transpose [.ref q, .int p0, .int p1] h (fun r h' => r = .inl (some (.int v)) ∧ P9 h')) : rx_C V (d + 9) 1 6 m_La_transpose [.ref q, .int p0, .int p1, .ref aO] h (fun r h' => r = .inl (some (.int 0)) ∧ ∃ h1 c, P9 h1 ∧ h' = rx_wr V h1 aO c ∧ outc V v.toInt64 c) := by
  refine rx_aload_nr d_La_transpose_0 (by rfl) ?_
  refine rx_iconst (v := 0) d_La_transpose_1 (by decide) ?_
  refine rx_aload_nr d_La_transpose_2 (by rfl) ?_
  refine rx_iload_n d_La_transpose_3 (by rfl) ?_
  refine rx_iload_n d_La_transpose_4 (by rfl) ?_
  refine rx_okV d_La_transpose_5 (by rfl) ml_La_25 im_SR_transpose se_SR_transpose (by exact c9_SR_transpose) he (by rfl) (by exact Nat.le_of_ble_eq_true rfl) K ?_
  intro h1 z1
  refine rx_i2l d_La_transpose_8 ?_
  refine rx_lastore d_La_transpose_9 (by rfl) (ho h1 z1) vp_01 ?_
  refine rx_goto (tgt := 17) d_La_transpose_10 (by rfl) ?_
  refine rx_iconst (v := 0) d_La_transpose_17 (by decide) ?_
  refine rx_ireturn d_La_transpose_18 (by rfl) ?_
  exact ⟨rfl, h1, _, z1, rfl, _, rfl, updL_s⟩
theorem w_transpose1 (p0 : Int32) (p1 : Int32) (he : rx_rd V h q = some (.inr (0, fs))) (K : rx_C V (d + 8) 1 6 m_SR_transpose [.ref q, .int p0, .int p1] h (fun r h' => r = .inr 0 ∧ P9 h')) : rx_C V (d + 9) 1 6 m_La_transpose [.ref q, .int p0, .int p1, .ref aO] h (fun r h' => r = .inl (some (.int 1)) ∧ P9 h') := by
  refine rx_aload_nr d_La_transpose_0 (by rfl) ?_
  refine rx_iconst (v := 0) d_La_transpose_1 (by decide) ?_
  refine rx_aload_nr d_La_transpose_2 (by rfl) ?_
  refine rx_iload_n d_La_transpose_3 (by rfl) ?_
  refine rx_iload_n d_La_transpose_4 (by rfl) ?_
  refine rx_exV d_La_transpose_5 (by rfl) ml_La_25 im_SR_transpose se_SR_transpose (by exact c9_SR_transpose) he (by rfl) (by exact Nat.le_of_ble_eq_true rfl) K ?_
  intro h1 z1
  refine rx_catch [] (0, 10, 13, 13) [] (by decide) rfl (fun z hz => nomatch hz) (by decide) (by decide) (by decide) ck_La_13 (fun q9 => ?_)
  refine rx_astore_r d_La_transpose_13 (Nat.le_of_ble_eq_true rfl) ?_
  refine rx_iconst (v := 1) d_La_transpose_15 (by decide) ?_
  refine rx_ireturn d_La_transpose_16 (by rfl) ?_
  exact ⟨rfl, z1⟩
theorem w_played0 (p0 : Int32) {v : Int32} (he : rx_rd V h q = some (.inr (0, fs))) {fo : Nat → Int64} (ho : ∀ h', P9 h' → rx_rd V h' aO = some (.inl (V.2.2.2.1 1, 1, .inr (.inl fo)))) (K : rx_C V (d + 8) 1 6 m_SR_played [.ref q, .int p0] h (fun r h' => r = .inl (some (.int v)) ∧ P9 h')) : rx_C V (d + 9) 1 6 m_La_played [.ref q, .int p0, .ref aO] h (fun r h' => r = .inl (some (.int 0)) ∧ ∃ h1 c, P9 h1 ∧ h' = rx_wr V h1 aO c ∧ outc V v.toInt64 c) := by
  refine rx_aload_nr d_La_played_0 (by rfl) ?_
  refine rx_iconst (v := 0) d_La_played_1 (by decide) ?_
  refine rx_aload_nr d_La_played_2 (by rfl) ?_
  refine rx_iload_n d_La_played_3 (by rfl) ?_
  refine rx_okV d_La_played_4 (by rfl) ml_La_29 im_SR_played se_SR_played (by exact c9_SR_played) he (by rfl) (by exact Nat.le_of_ble_eq_true rfl) K ?_
  intro h1 z1
  refine rx_i2l d_La_played_7 ?_
  refine rx_lastore d_La_played_8 (by rfl) (ho h1 z1) vp_01 ?_
  refine rx_goto (tgt := 18) d_La_played_9 (by rfl) ?_
  refine rx_iconst (v := 0) d_La_played_18 (by decide) ?_
  refine rx_ireturn d_La_played_19 (by rfl) ?_
  exact ⟨rfl, h1, _, z1, rfl, _, rfl, updL_s⟩
theorem w_played1 (p0 : Int32) (he : rx_rd V h q = some (.inr (0, fs))) (K : rx_C V (d + 8) 1 6 m_SR_played [.ref q, .int p0] h (fun r h' => r = .inr 1 ∧ P9 h')) : rx_C V (d + 9) 1 6 m_La_played [.ref q, .int p0, .ref aO] h (fun r h' => r = .inl (some (.int 1)) ∧ P9 h') := by
  refine rx_aload_nr d_La_played_0 (by rfl) ?_
  refine rx_iconst (v := 0) d_La_played_1 (by decide) ?_
  refine rx_aload_nr d_La_played_2 (by rfl) ?_
  refine rx_iload_n d_La_played_3 (by rfl) ?_
  refine rx_exV d_La_played_4 (by rfl) ml_La_29 im_SR_played se_SR_played (by exact c9_SR_played) he (by rfl) (by exact Nat.le_of_ble_eq_true rfl) K ?_
  intro h1 z1
  refine rx_catch [] (0, 9, 12, 15) [(0, 9, 15, 33)] (by decide) rfl (fun z hz => nomatch hz) (by decide) (by decide) (by decide) ck_La_15 (fun q9 => ?_)
  refine rx_astore_nr d_La_played_12 (Nat.le_of_ble_eq_true rfl) ?_
  refine rx_iconst (v := 1) d_La_played_13 (by decide) ?_
  refine rx_ireturn d_La_played_14 (by rfl) ?_
  exact ⟨rfl, z1⟩
theorem w_played2 (p0 : Int32) (he : rx_rd V h q = some (.inr (0, fs))) (K : rx_C V (d + 8) 1 6 m_SR_played [.ref q, .int p0] h (fun r h' => r = .inr 2 ∧ P9 h')) : rx_C V (d + 9) 1 6 m_La_played [.ref q, .int p0, .ref aO] h (fun r h' => r = .inl (some (.int 2)) ∧ P9 h') := by
  refine rx_aload_nr d_La_played_0 (by rfl) ?_
  refine rx_iconst (v := 0) d_La_played_1 (by decide) ?_
  refine rx_aload_nr d_La_played_2 (by rfl) ?_
  refine rx_iload_n d_La_played_3 (by rfl) ?_
  refine rx_exV d_La_played_4 (by rfl) ml_La_29 im_SR_played se_SR_played (by exact c9_SR_played) he (by rfl) (by exact Nat.le_of_ble_eq_true rfl) K ?_
  intro h1 z1
  refine rx_catch [(0, 9, 12, 15)] (0, 9, 15, 33) [] (by decide) rfl (fun z hz => by
      cases List.mem_singleton.mp hz
      exact ⟨by decide, 1, by decide, by decide, ck_La_15⟩) (by decide) (by decide) (by decide) ck_La_33 (fun q9 => ?_)
  refine rx_astore_nr d_La_played_15 (Nat.le_of_ble_eq_true rfl) ?_
  refine rx_iconst (v := 2) d_La_played_16 (by decide) ?_
  refine rx_ireturn d_La_played_17 (by rfl) ?_
  exact ⟨rfl, z1⟩
theorem w_time0 (p0 : Int32) {v : Int32} (he : rx_rd V h q = some (.inr (0, fs))) {fo : Nat → Int64} (ho : ∀ h', P9 h' → rx_rd V h' aO = some (.inl (V.2.2.2.1 1, 1, .inr (.inl fo)))) (K : rx_C V (d + 8) 1 6 m_SR_time [.ref q, .int p0] h (fun r h' => r = .inl (some (.int v)) ∧ P9 h')) : rx_C V (d + 9) 1 6 m_La_time [.ref q, .int p0, .ref aO] h (fun r h' => r = .inl (some (.int 0)) ∧ ∃ h1 c, P9 h1 ∧ h' = rx_wr V h1 aO c ∧ outc V v.toInt64 c) := by
  refine rx_aload_nr d_La_time_0 (by rfl) ?_
  refine rx_iconst (v := 0) d_La_time_1 (by decide) ?_
  refine rx_aload_nr d_La_time_2 (by rfl) ?_
  refine rx_iload_n d_La_time_3 (by rfl) ?_
  refine rx_okV d_La_time_4 (by rfl) ml_La_35 im_SR_time se_SR_time (by exact c9_SR_time) he (by rfl) (by exact Nat.le_of_ble_eq_true rfl) K ?_
  intro h1 z1
  refine rx_i2l d_La_time_7 ?_
  refine rx_lastore d_La_time_8 (by rfl) (ho h1 z1) vp_01 ?_
  refine rx_goto (tgt := 18) d_La_time_9 (by rfl) ?_
  refine rx_iconst (v := 0) d_La_time_18 (by decide) ?_
  refine rx_ireturn d_La_time_19 (by rfl) ?_
  exact ⟨rfl, h1, _, z1, rfl, _, rfl, updL_s⟩
theorem w_time1 (p0 : Int32) (he : rx_rd V h q = some (.inr (0, fs))) (K : rx_C V (d + 8) 1 6 m_SR_time [.ref q, .int p0] h (fun r h' => r = .inr 1 ∧ P9 h')) : rx_C V (d + 9) 1 6 m_La_time [.ref q, .int p0, .ref aO] h (fun r h' => r = .inl (some (.int 1)) ∧ P9 h') := by
  refine rx_aload_nr d_La_time_0 (by rfl) ?_
  refine rx_iconst (v := 0) d_La_time_1 (by decide) ?_
  refine rx_aload_nr d_La_time_2 (by rfl) ?_
  refine rx_iload_n d_La_time_3 (by rfl) ?_
  refine rx_exV d_La_time_4 (by rfl) ml_La_35 im_SR_time se_SR_time (by exact c9_SR_time) he (by rfl) (by exact Nat.le_of_ble_eq_true rfl) K ?_
  intro h1 z1
  refine rx_catch [] (0, 9, 12, 15) [(0, 9, 15, 33)] (by decide) rfl (fun z hz => nomatch hz) (by decide) (by decide) (by decide) ck_La_15 (fun q9 => ?_)
  refine rx_astore_nr d_La_time_12 (Nat.le_of_ble_eq_true rfl) ?_
  refine rx_iconst (v := 1) d_La_time_13 (by decide) ?_
  refine rx_ireturn d_La_time_14 (by rfl) ?_
  exact ⟨rfl, z1⟩
theorem w_time2 (p0 : Int32) (he : rx_rd V h q = some (.inr (0, fs))) (K : rx_C V (d + 8) 1 6 m_SR_time [.ref q, .int p0] h (fun r h' => r = .inr 2 ∧ P9 h')) : rx_C V (d + 9) 1 6 m_La_time [.ref q, .int p0, .ref aO] h (fun r h' => r = .inl (some (.int 2)) ∧ P9 h') := by
  refine rx_aload_nr d_La_time_0 (by rfl) ?_
  refine rx_iconst (v := 0) d_La_time_1 (by decide) ?_
  refine rx_aload_nr d_La_time_2 (by rfl) ?_
  refine rx_iload_n d_La_time_3 (by rfl) ?_
  refine rx_exV d_La_time_4 (by rfl) ml_La_35 im_SR_time se_SR_time (by exact c9_SR_time) he (by rfl) (by exact Nat.le_of_ble_eq_true rfl) K ?_
  intro h1 z1
  refine rx_catch [(0, 9, 12, 15)] (0, 9, 15, 33) [] (by decide) rfl (fun z hz => by
      cases List.mem_singleton.mp hz
      exact ⟨by decide, 1, by decide, by decide, ck_La_15⟩) (by decide) (by decide) (by decide) ck_La_33 (fun q9 => ?_)
  refine rx_astore_nr d_La_time_15 (Nat.le_of_ble_eq_true rfl) ?_
  refine rx_iconst (v := 2) d_La_time_16 (by decide) ?_
  refine rx_ireturn d_La_time_17 (by rfl) ?_
  exact ⟨rfl, z1⟩
theorem w_find0 (p0 : Int32) (p1 : Int32) {v : Int32} (he : rx_rd V h q = some (.inr (0, fs))) {fo : Nat → Int64} (ho : ∀ h', P9 h' → rx_rd V h' aO = some (.inl (V.2.2.2.1 1, 1, .inr (.inl fo)))) (K : rx_C V (d + 8) 1 6 m_SR_find [.ref q, .int p0, .int p1] h (fun r h' => r = .inl (some (.int v)) ∧ P9 h')) : rx_C V (d + 9) 1 6 m_La_find [.ref q, .int p0, .int p1, .ref aO] h (fun r h' => r = .inl (some (.int 0)) ∧ ∃ h1 c, P9 h1 ∧ h' = rx_wr V h1 aO c ∧ outc V v.toInt64 c) := by
  refine rx_aload_nr d_La_find_0 (by rfl) ?_
  refine rx_iconst (v := 0) d_La_find_1 (by decide) ?_
  refine rx_aload_nr d_La_find_2 (by rfl) ?_
  refine rx_iload_n d_La_find_3 (by rfl) ?_
  refine rx_iload_n d_La_find_4 (by rfl) ?_
  refine rx_okV d_La_find_5 (by rfl) ml_La_38 im_SR_find se_SR_find (by exact c9_SR_find) he (by rfl) (by exact Nat.le_of_ble_eq_true rfl) K ?_
  intro h1 z1
  refine rx_i2l d_La_find_8 ?_
  refine rx_lastore d_La_find_9 (by rfl) (ho h1 z1) vp_01 ?_
  refine rx_goto (tgt := 17) d_La_find_10 (by rfl) ?_
  refine rx_iconst (v := 0) d_La_find_17 (by decide) ?_
  refine rx_ireturn d_La_find_18 (by rfl) ?_
  exact ⟨rfl, h1, _, z1, rfl, _, rfl, updL_s⟩
theorem w_find1 (p0 : Int32) (p1 : Int32) (he : rx_rd V h q = some (.inr (0, fs))) (K : rx_C V (d + 8) 1 6 m_SR_find [.ref q, .int p0, .int p1] h (fun r h' => r = .inr 1 ∧ P9 h')) : rx_C V (d + 9) 1 6 m_La_find [.ref q, .int p0, .int p1, .ref aO] h (fun r h' => r = .inl (some (.int 1)) ∧ P9 h') := by
  refine rx_aload_nr d_La_find_0 (by rfl) ?_
  refine rx_iconst (v := 0) d_La_find_1 (by decide) ?_
  refine rx_aload_nr d_La_find_2 (by rfl) ?_
  refine rx_iload_n d_La_find_3 (by rfl) ?_
  refine rx_iload_n d_La_find_4 (by rfl) ?_
  refine rx_exV d_La_find_5 (by rfl) ml_La_38 im_SR_find se_SR_find (by exact c9_SR_find) he (by rfl) (by exact Nat.le_of_ble_eq_true rfl) K ?_
  intro h1 z1
  refine rx_catch [] (0, 10, 13, 15) [] (by decide) rfl (fun z hz => nomatch hz) (by decide) (by decide) (by decide) ck_La_15 (fun q9 => ?_)
  refine rx_astore_r d_La_find_13 (Nat.le_of_ble_eq_true rfl) ?_
  refine rx_iconst (v := 1) d_La_find_15 (by decide) ?_
  refine rx_ireturn d_La_find_16 (by rfl) ?_
  exact ⟨rfl, z1⟩
theorem w_tick0 (p0 : Int32) {v : Int64} (he : rx_rd V h q = some (.inr (0, fs))) {fo : Nat → Int64} (ho : ∀ h', P9 h' → rx_rd V h' aO = some (.inl (V.2.2.2.1 1, 1, .inr (.inl fo)))) (K : rx_C V (d + 8) 1 6 m_SR_tick [.ref q, .int p0] h (fun r h' => r = .inl (some (.long v)) ∧ P9 h')) : rx_C V (d + 9) 1 6 m_La_tick [.ref q, .int p0, .ref aO] h (fun r h' => r = .inl (some (.int 0)) ∧ ∃ h1 c, P9 h1 ∧ h' = rx_wr V h1 aO c ∧ outc V v c) := by
  refine rx_aload_nr d_La_tick_0 (by rfl) ?_
  refine rx_iconst (v := 0) d_La_tick_1 (by decide) ?_
  refine rx_aload_nr d_La_tick_2 (by rfl) ?_
  refine rx_iload_n d_La_tick_3 (by rfl) ?_
  refine rx_okV d_La_tick_4 (by rfl) ml_La_41 im_SR_tick se_SR_tick (by exact c9_SR_tick) he (by rfl) (by exact Nat.le_of_ble_eq_true rfl) K ?_
  intro h1 z1
  refine rx_lastore d_La_tick_7 (by rfl) (ho h1 z1) vp_01 ?_
  refine rx_goto (tgt := 17) d_La_tick_8 (by rfl) ?_
  refine rx_iconst (v := 0) d_La_tick_17 (by decide) ?_
  refine rx_ireturn d_La_tick_18 (by rfl) ?_
  exact ⟨rfl, h1, _, z1, rfl, _, rfl, updL_s⟩
theorem w_tick1 (p0 : Int32) (he : rx_rd V h q = some (.inr (0, fs))) (K : rx_C V (d + 8) 1 6 m_SR_tick [.ref q, .int p0] h (fun r h' => r = .inr 1 ∧ P9 h')) : rx_C V (d + 9) 1 6 m_La_tick [.ref q, .int p0, .ref aO] h (fun r h' => r = .inl (some (.int 1)) ∧ P9 h') := by
  refine rx_aload_nr d_La_tick_0 (by rfl) ?_
  refine rx_iconst (v := 0) d_La_tick_1 (by decide) ?_
  refine rx_aload_nr d_La_tick_2 (by rfl) ?_
  refine rx_iload_n d_La_tick_3 (by rfl) ?_
  refine rx_exV d_La_tick_4 (by rfl) ml_La_41 im_SR_tick se_SR_tick (by exact c9_SR_tick) he (by rfl) (by exact Nat.le_of_ble_eq_true rfl) K ?_
  intro h1 z1
  refine rx_catch [] (0, 8, 11, 15) [(0, 8, 14, 33)] (by decide) rfl (fun z hz => nomatch hz) (by decide) (by decide) (by decide) ck_La_15 (fun q9 => ?_)
  refine rx_astore_nr d_La_tick_11 (Nat.le_of_ble_eq_true rfl) ?_
  refine rx_iconst (v := 1) d_La_tick_12 (by decide) ?_
  refine rx_ireturn d_La_tick_13 (by rfl) ?_
  exact ⟨rfl, z1⟩
theorem w_tick2 (p0 : Int32) (he : rx_rd V h q = some (.inr (0, fs))) (K : rx_C V (d + 8) 1 6 m_SR_tick [.ref q, .int p0] h (fun r h' => r = .inr 2 ∧ P9 h')) : rx_C V (d + 9) 1 6 m_La_tick [.ref q, .int p0, .ref aO] h (fun r h' => r = .inl (some (.int 2)) ∧ P9 h') := by
  refine rx_aload_nr d_La_tick_0 (by rfl) ?_
  refine rx_iconst (v := 0) d_La_tick_1 (by decide) ?_
  refine rx_aload_nr d_La_tick_2 (by rfl) ?_
  refine rx_iload_n d_La_tick_3 (by rfl) ?_
  refine rx_exV d_La_tick_4 (by rfl) ml_La_41 im_SR_tick se_SR_tick (by exact c9_SR_tick) he (by rfl) (by exact Nat.le_of_ble_eq_true rfl) K ?_
  intro h1 z1
  refine rx_catch [(0, 8, 11, 15)] (0, 8, 14, 33) [] (by decide) rfl (fun z hz => by
      cases List.mem_singleton.mp hz
      exact ⟨by decide, 1, by decide, by decide, ck_La_15⟩) (by decide) (by decide) (by decide) ck_La_33 (fun q9 => ?_)
  refine rx_astore_nr d_La_tick_14 (Nat.le_of_ble_eq_true rfl) ?_
  refine rx_iconst (v := 2) d_La_tick_15 (by decide) ?_
  refine rx_ireturn d_La_tick_16 (by rfl) ?_
  exact ⟨rfl, z1⟩
theorem w_at0 (t : Int64) {v : Int32} (he : rx_rd V h q = some (.inr (0, fs))) {fo : Nat → Int64} (ho : ∀ h', P9 h' → rx_rd V h' aO = some (.inl (V.2.2.2.1 1, 1, .inr (.inl fo)))) (K : rx_C V (d + 8) 1 6 m_SR_at [.ref q, .long t] h (fun r h' => r = .inl (some (.int v)) ∧ P9 h')) : rx_C V (d + 9) 1 6 m_La_at [.ref q, .long t, .ref aO] h (fun r h' => r = .inl (some (.int 0)) ∧ ∃ h1 c, P9 h1 ∧ h' = rx_wr V h1 aO c ∧ outc V v.toInt64 c) := by
  refine rx_aload_nr d_La_at_0 (by rfl) ?_
  refine rx_iconst (v := 0) d_La_at_1 (by decide) ?_
  refine rx_aload_nr d_La_at_2 (by rfl) ?_
  refine rx_lload_n d_La_at_3 (by rfl) ?_
  refine rx_okV d_La_at_4 (by rfl) ml_La_45 im_SR_at se_SR_at (by exact c9_SR_at) he (by rfl) (by exact Nat.le_of_ble_eq_true rfl) K ?_
  intro h1 z1
  refine rx_i2l d_La_at_7 ?_
  refine rx_lastore d_La_at_8 (by rfl) (ho h1 z1) vp_01 ?_
  refine rx_goto (tgt := 16) d_La_at_9 (by rfl) ?_
  refine rx_iconst (v := 0) d_La_at_16 (by decide) ?_
  refine rx_ireturn d_La_at_17 (by rfl) ?_
  exact ⟨rfl, h1, _, z1, rfl, _, rfl, updL_s⟩
theorem w_at1 (t : Int64) (he : rx_rd V h q = some (.inr (0, fs))) (K : rx_C V (d + 8) 1 6 m_SR_at [.ref q, .long t] h (fun r h' => r = .inr 1 ∧ P9 h')) : rx_C V (d + 9) 1 6 m_La_at [.ref q, .long t, .ref aO] h (fun r h' => r = .inl (some (.int 1)) ∧ P9 h') := by
  refine rx_aload_nr d_La_at_0 (by rfl) ?_
  refine rx_iconst (v := 0) d_La_at_1 (by decide) ?_
  refine rx_aload_nr d_La_at_2 (by rfl) ?_
  refine rx_lload_n d_La_at_3 (by rfl) ?_
  refine rx_exV d_La_at_4 (by rfl) ml_La_45 im_SR_at se_SR_at (by exact c9_SR_at) he (by rfl) (by exact Nat.le_of_ble_eq_true rfl) K ?_
  intro h1 z1
  refine rx_catch [] (0, 9, 12, 15) [] (by decide) rfl (fun z hz => nomatch hz) (by decide) (by decide) (by decide) ck_La_15 (fun q9 => ?_)
  refine rx_astore_r d_La_at_12 (Nat.le_of_ble_eq_true rfl) ?_
  refine rx_iconst (v := 1) d_La_at_14 (by decide) ?_
  refine rx_ireturn d_La_at_15 (by rfl) ?_
  exact ⟨rfl, z1⟩
theorem w_sounds0 (p0 : Int32) {v : Int32} (he : rx_rd V h q = some (.inr (0, fs))) {fo : Nat → Int64} (ho : ∀ h', P9 h' → rx_rd V h' aO = some (.inl (V.2.2.2.1 1, 1, .inr (.inl fo)))) (K : rx_C V (d + 8) 1 6 m_SR_sounds [.ref q, .int p0] h (fun r h' => r = .inl (some (.int v)) ∧ P9 h')) : rx_C V (d + 9) 1 6 m_La_sounds [.ref q, .int p0, .ref aO] h (fun r h' => r = .inl (some (.int 0)) ∧ ∃ h1 c, P9 h1 ∧ h' = rx_wr V h1 aO c ∧ outc V v.toInt64 c) := by
  refine rx_aload_nr d_La_sounds_0 (by rfl) ?_
  refine rx_iconst (v := 0) d_La_sounds_1 (by decide) ?_
  refine rx_aload_nr d_La_sounds_2 (by rfl) ?_
  refine rx_iload_n d_La_sounds_3 (by rfl) ?_
  refine rx_okV d_La_sounds_4 (by rfl) ml_La_49 im_SR_sounds se_SR_sounds (by exact c9_SR_sounds) he (by rfl) (by exact Nat.le_of_ble_eq_true rfl) K ?_
  intro h1 z1
  refine rx_i2l d_La_sounds_7 ?_
  refine rx_lastore d_La_sounds_8 (by rfl) (ho h1 z1) vp_01 ?_
  refine rx_goto (tgt := 18) d_La_sounds_9 (by rfl) ?_
  refine rx_iconst (v := 0) d_La_sounds_18 (by decide) ?_
  refine rx_ireturn d_La_sounds_19 (by rfl) ?_
  exact ⟨rfl, h1, _, z1, rfl, _, rfl, updL_s⟩
theorem w_sounds1 (p0 : Int32) (he : rx_rd V h q = some (.inr (0, fs))) (K : rx_C V (d + 8) 1 6 m_SR_sounds [.ref q, .int p0] h (fun r h' => r = .inr 0 ∧ P9 h')) : rx_C V (d + 9) 1 6 m_La_sounds [.ref q, .int p0, .ref aO] h (fun r h' => r = .inl (some (.int 1)) ∧ P9 h') := by
  refine rx_aload_nr d_La_sounds_0 (by rfl) ?_
  refine rx_iconst (v := 0) d_La_sounds_1 (by decide) ?_
  refine rx_aload_nr d_La_sounds_2 (by rfl) ?_
  refine rx_iload_n d_La_sounds_3 (by rfl) ?_
  refine rx_exV d_La_sounds_4 (by rfl) ml_La_49 im_SR_sounds se_SR_sounds (by exact c9_SR_sounds) he (by rfl) (by exact Nat.le_of_ble_eq_true rfl) K ?_
  intro h1 z1
  refine rx_catch [] (0, 9, 12, 13) [(0, 9, 15, 15)] (by decide) rfl (fun z hz => nomatch hz) (by decide) (by decide) (by decide) ck_La_13 (fun q9 => ?_)
  refine rx_astore_nr d_La_sounds_12 (Nat.le_of_ble_eq_true rfl) ?_
  refine rx_iconst (v := 1) d_La_sounds_13 (by decide) ?_
  refine rx_ireturn d_La_sounds_14 (by rfl) ?_
  exact ⟨rfl, z1⟩
theorem w_sounds2 (p0 : Int32) (he : rx_rd V h q = some (.inr (0, fs))) (K : rx_C V (d + 8) 1 6 m_SR_sounds [.ref q, .int p0] h (fun r h' => r = .inr 1 ∧ P9 h')) : rx_C V (d + 9) 1 6 m_La_sounds [.ref q, .int p0, .ref aO] h (fun r h' => r = .inl (some (.int 2)) ∧ P9 h') := by
  refine rx_aload_nr d_La_sounds_0 (by rfl) ?_
  refine rx_iconst (v := 0) d_La_sounds_1 (by decide) ?_
  refine rx_aload_nr d_La_sounds_2 (by rfl) ?_
  refine rx_iload_n d_La_sounds_3 (by rfl) ?_
  refine rx_exV d_La_sounds_4 (by rfl) ml_La_49 im_SR_sounds se_SR_sounds (by exact c9_SR_sounds) he (by rfl) (by exact Nat.le_of_ble_eq_true rfl) K ?_
  intro h1 z1
  refine rx_catch [(0, 9, 12, 13)] (0, 9, 15, 15) [] (by decide) rfl (fun z hz => by
      cases List.mem_singleton.mp hz
      exact ⟨by decide, 0, by decide, by decide, ck_La_13⟩) (by decide) (by decide) (by decide) ck_La_15 (fun q9 => ?_)
  refine rx_astore_nr d_La_sounds_15 (Nat.le_of_ble_eq_true rfl) ?_
  refine rx_iconst (v := 2) d_La_sounds_16 (by decide) ?_
  refine rx_ireturn d_La_sounds_17 (by rfl) ?_
  exact ⟨rfl, z1⟩
theorem w_sound0 (p0 : Int32) (p1 : Int32) (p2 : Int32) {v : Int64} (he : rx_rd V h q = some (.inr (0, fs))) {fo : Nat → Int64} (ho : ∀ h', P9 h' → rx_rd V h' aO = some (.inl (V.2.2.2.1 1, 1, .inr (.inl fo)))) (K : rx_C V (d + 8) 1 6 m_SR_sound [.ref q, .int p0, .int p1, .int p2] h (fun r h' => r = .inl (some (.long v)) ∧ P9 h')) : rx_C V (d + 9) 1 6 m_La_sound [.ref q, .int p0, .int p1, .int p2, .ref aO] h (fun r h' => r = .inl (some (.int 0)) ∧ ∃ h1 c, P9 h1 ∧ h' = rx_wr V h1 aO c ∧ outc V v c) := by
  refine rx_aload_r d_La_sound_0 (by rfl) ?_
  refine rx_iconst (v := 0) d_La_sound_2 (by decide) ?_
  refine rx_aload_nr d_La_sound_3 (by rfl) ?_
  refine rx_iload_n d_La_sound_4 (by rfl) ?_
  refine rx_iload_n d_La_sound_5 (by rfl) ?_
  refine rx_iload_n d_La_sound_6 (by rfl) ?_
  refine rx_okV d_La_sound_7 (by rfl) ml_La_52 im_SR_sound se_SR_sound (by exact c9_SR_sound) he (by rfl) (by exact Nat.le_of_ble_eq_true rfl) K ?_
  intro h1 z1
  refine rx_lastore d_La_sound_10 (by rfl) (ho h1 z1) vp_01 ?_
  refine rx_goto (tgt := 22) d_La_sound_11 (by rfl) ?_
  refine rx_iconst (v := 0) d_La_sound_22 (by decide) ?_
  refine rx_ireturn d_La_sound_23 (by rfl) ?_
  exact ⟨rfl, h1, _, z1, rfl, _, rfl, updL_s⟩
theorem w_sound1 (p0 : Int32) (p1 : Int32) (p2 : Int32) (he : rx_rd V h q = some (.inr (0, fs))) (K : rx_C V (d + 8) 1 6 m_SR_sound [.ref q, .int p0, .int p1, .int p2] h (fun r h' => r = .inr 0 ∧ P9 h')) : rx_C V (d + 9) 1 6 m_La_sound [.ref q, .int p0, .int p1, .int p2, .ref aO] h (fun r h' => r = .inl (some (.int 1)) ∧ P9 h') := by
  refine rx_aload_r d_La_sound_0 (by rfl) ?_
  refine rx_iconst (v := 0) d_La_sound_2 (by decide) ?_
  refine rx_aload_nr d_La_sound_3 (by rfl) ?_
  refine rx_iload_n d_La_sound_4 (by rfl) ?_
  refine rx_iload_n d_La_sound_5 (by rfl) ?_
  refine rx_iload_n d_La_sound_6 (by rfl) ?_
  refine rx_exV d_La_sound_7 (by rfl) ml_La_52 im_SR_sound se_SR_sound (by exact c9_SR_sound) he (by rfl) (by exact Nat.le_of_ble_eq_true rfl) K ?_
  intro h1 z1
  refine rx_catch [] (0, 11, 14, 13) [(0, 11, 18, 15)] (by decide) rfl (fun z hz => nomatch hz) (by decide) (by decide) (by decide) ck_La_13 (fun q9 => ?_)
  refine rx_astore_r d_La_sound_14 (Nat.le_of_ble_eq_true rfl) ?_
  refine rx_iconst (v := 1) d_La_sound_16 (by decide) ?_
  refine rx_ireturn d_La_sound_17 (by rfl) ?_
  exact ⟨rfl, z1⟩
theorem w_sound2 (p0 : Int32) (p1 : Int32) (p2 : Int32) (he : rx_rd V h q = some (.inr (0, fs))) (K : rx_C V (d + 8) 1 6 m_SR_sound [.ref q, .int p0, .int p1, .int p2] h (fun r h' => r = .inr 1 ∧ P9 h')) : rx_C V (d + 9) 1 6 m_La_sound [.ref q, .int p0, .int p1, .int p2, .ref aO] h (fun r h' => r = .inl (some (.int 2)) ∧ P9 h') := by
  refine rx_aload_r d_La_sound_0 (by rfl) ?_
  refine rx_iconst (v := 0) d_La_sound_2 (by decide) ?_
  refine rx_aload_nr d_La_sound_3 (by rfl) ?_
  refine rx_iload_n d_La_sound_4 (by rfl) ?_
  refine rx_iload_n d_La_sound_5 (by rfl) ?_
  refine rx_iload_n d_La_sound_6 (by rfl) ?_
  refine rx_exV d_La_sound_7 (by rfl) ml_La_52 im_SR_sound se_SR_sound (by exact c9_SR_sound) he (by rfl) (by exact Nat.le_of_ble_eq_true rfl) K ?_
  intro h1 z1
  refine rx_catch [(0, 11, 14, 13)] (0, 11, 18, 15) [] (by decide) rfl (fun z hz => by
      cases List.mem_singleton.mp hz
      exact ⟨by decide, 0, by decide, by decide, ck_La_13⟩) (by decide) (by decide) (by decide) ck_La_15 (fun q9 => ?_)
  refine rx_astore_r d_La_sound_18 (Nat.le_of_ble_eq_true rfl) ?_
  refine rx_iconst (v := 2) d_La_sound_20 (by decide) ?_
  refine rx_ireturn d_La_sound_21 (by rfl) ?_
  exact ⟨rfl, z1⟩
theorem w_rest0 (p0 : Int32) (p1 : Int32) {v : Int32} (he : rx_rd V h q = some (.inr (0, fs))) {fo : Nat → Int64} (ho : ∀ h', P9 h' → rx_rd V h' aO = some (.inl (V.2.2.2.1 1, 1, .inr (.inl fo)))) (K : rx_C V (d + 8) 1 6 m_SR_rest [.ref q, .int p0, .int p1] h (fun r h' => r = .inl (some (.int v)) ∧ P9 h')) : rx_C V (d + 9) 1 6 m_La_rest [.ref q, .int p0, .int p1, .ref aO] h (fun r h' => r = .inl (some (.int 0)) ∧ ∃ h1 c, P9 h1 ∧ h' = rx_wr V h1 aO c ∧ outc V v.toInt64 c) := by
  refine rx_aload_nr d_La_rest_0 (by rfl) ?_
  refine rx_iconst (v := 0) d_La_rest_1 (by decide) ?_
  refine rx_aload_nr d_La_rest_2 (by rfl) ?_
  refine rx_iload_n d_La_rest_3 (by rfl) ?_
  refine rx_iload_n d_La_rest_4 (by rfl) ?_
  refine rx_okV d_La_rest_5 (by rfl) ml_La_56 im_SR_rest se_SR_rest (by exact c9_SR_rest) he (by rfl) (by exact Nat.le_of_ble_eq_true rfl) K ?_
  intro h1 z1
  refine rx_i2l d_La_rest_8 ?_
  refine rx_lastore d_La_rest_9 (by rfl) (ho h1 z1) vp_01 ?_
  refine rx_goto (tgt := 17) d_La_rest_10 (by rfl) ?_
  refine rx_iconst (v := 0) d_La_rest_17 (by decide) ?_
  refine rx_ireturn d_La_rest_18 (by rfl) ?_
  exact ⟨rfl, h1, _, z1, rfl, _, rfl, updL_s⟩
theorem w_rest1 (p0 : Int32) (p1 : Int32) (he : rx_rd V h q = some (.inr (0, fs))) (K : rx_C V (d + 8) 1 6 m_SR_rest [.ref q, .int p0, .int p1] h (fun r h' => r = .inr 0 ∧ P9 h')) : rx_C V (d + 9) 1 6 m_La_rest [.ref q, .int p0, .int p1, .ref aO] h (fun r h' => r = .inl (some (.int 1)) ∧ P9 h') := by
  refine rx_aload_nr d_La_rest_0 (by rfl) ?_
  refine rx_iconst (v := 0) d_La_rest_1 (by decide) ?_
  refine rx_aload_nr d_La_rest_2 (by rfl) ?_
  refine rx_iload_n d_La_rest_3 (by rfl) ?_
  refine rx_iload_n d_La_rest_4 (by rfl) ?_
  refine rx_exV d_La_rest_5 (by rfl) ml_La_56 im_SR_rest se_SR_rest (by exact c9_SR_rest) he (by rfl) (by exact Nat.le_of_ble_eq_true rfl) K ?_
  intro h1 z1
  refine rx_catch [] (0, 10, 13, 13) [] (by decide) rfl (fun z hz => nomatch hz) (by decide) (by decide) (by decide) ck_La_13 (fun q9 => ?_)
  refine rx_astore_r d_La_rest_13 (Nat.le_of_ble_eq_true rfl) ?_
  refine rx_iconst (v := 1) d_La_rest_15 (by decide) ?_
  refine rx_ireturn d_La_rest_16 (by rfl) ?_
  exact ⟨rfl, z1⟩
theorem w_cell {b L : Nat} {xs : Nat → Int32} (hq : (b, L, xs) ∈ V.2.2.2.2) (hL : L ≤ 3585) : rx_C V d 0 0 m_La_cell [.ref b, .int 0] h (rx_X (.inl (some (.int (if 0 < L then xs 0 else 0)))) h) := by
  refine rx_iload_n d_La_cell_0 (by rfl) ?_
  refine rx_aload_nr d_La_cell_1 (by rfl) ?_
  refine rx_alenX d_La_cell_2 hq ?_
  rw [show Int32.ofNat L = nI L from rfl]
  refine rx_icmp_ge (tgt := 12) d_La_cell_3 (by rfl) (fun c3 => ?_) (fun c3 => ?_)
  · rw [if_neg (show ¬ 0 < L by rw [i_le, i_0, i_n (by omega)] at c3; omega)]
    refine rx_iconst (v := 0) d_La_cell_12 (by decide) ?_
    refine rx_ireturn d_La_cell_13 (by rfl) ?_
    exact ⟨rfl, rfl⟩
  · have c3 : 0 < L := by rw [i_le, i_0, i_n (by omega)] at c3; omega
    rw [if_pos c3]
    refine rx_aload_nr d_La_cell_6 (by rfl) ?_
    refine rx_iload_n d_La_cell_7 (by rfl) ?_
    refine rx_ialoadX d_La_cell_8 hq (show vp_in (nI 0) L from vp_in_nI c3 (by omega)) ?_
    rw [show (0 : Int32).toNatClampNeg = 0 from by decide]
    refine rx_goto (tgt := 13) d_La_cell_9 (by rfl) ?_
    refine rx_ireturn d_La_cell_13 (by rfl) ?_
    exact ⟨rfl, rfl⟩
end WS
