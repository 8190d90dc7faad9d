/-! rows of what lies outside: the script, the static arrays, long constants -/
section RXO
variable {V : rx_V} {d kc ks : Nat} {M : rx_T} {pc : Nat} {L : rx_L} {S : List Value} {h : List va_E} {Q : rx_R → List va_E → Prop}
theorem rx_ialoadX {a n : Nat} {f : Nat → Int32} {i : Int32} (hd : decode M.2.1 pc = .ok (.iaload, 1)) (hq : (a, n, f) ∈ V.2.2.2.2) (hin : vp_in i n)
    (kk : rx_W V d kc ks M (pc + 1) L (.int (f i.toNatClampNeg) :: S) h Q) : rx_W V d kc ks M pc L (.int i :: .ref a :: S) h Q := by
  intro p e R s m args below meth c H locs cells slots ls F G hl
  obtain ⟨h1, h2⟩ := G.2.2.2.2.1.1 _ hq
  exact va_sld F.1 F.2.1 h2 (Nat.lt_of_lt_of_le h1 G.2.2.2.2.2.1) (Nat.not_le.mpr h1) G.2.2.1 hin hd (kk p e R s m args below meth c H locs cells slots ls F G hl)
theorem rx_alenX {a n : Nat} {f : Nat → Int32} (hd : decode M.2.1 pc = .ok (.arraylength, 1)) (hq : (a, n, f) ∈ V.2.2.2.2)
    (kk : rx_W V d kc ks M (pc + 1) L (.int (Int32.ofNat n) :: S) h Q) : rx_W V d kc ks M pc L (.ref a :: S) h Q := by
  intro p e R s m args below meth c H locs cells slots ls F G hl
  obtain ⟨h1, h2⟩ := G.2.2.2.2.1.1 _ hq
  exact va_slen F.1 F.2.1 h2 (Nat.lt_of_lt_of_le h1 G.2.2.2.2.2.1) (Nat.not_le.mpr h1) G.2.2.1 hd (kk p e R s m args below meth c H locs cells slots ls F G hl)
theorem rx_least {q : Nat × Nat × (Nat → Int32)} {index : Nat} (hd : decode M.2.1 pc = .ok (.getstatic index, 3)) (hq : V.2.2.2.2[1]? = some q) (w1 : Cond.fieldLink M.1.cls index "ScoreRoads" "LEAST_VALUES" "[I" ∈ rx_tbl)
    (kk : rx_W V d kc ks M (pc + 3) L (.ref q.1 :: S) h Q) : rx_W V d kc ks M pc L S h Q := by
  intro p e R s m args below meth c H locs cells slots ls F G hl
  exact va_gets F.1 F.2.1 (G.2.2.2.2.1.2.2.1 q hq) G.2.2.1 F.2.2.2.2.2.1 (F.2.2.2.2.2.2.1 _ w1) (fun _ z => z) hd (kk p e R s m args below meth c H locs cells slots ls F G hl)
theorem rx_most {q : Nat × Nat × (Nat → Int32)} {index : Nat} (hd : decode M.2.1 pc = .ok (.getstatic index, 3)) (hq : V.2.2.2.2[2]? = some q) (w1 : Cond.fieldLink M.1.cls index "ScoreRoads" "MOST_VALUES" "[I" ∈ rx_tbl)
    (kk : rx_W V d kc ks M (pc + 3) L (.ref q.1 :: S) h Q) : rx_W V d kc ks M pc L S h Q := by
  intro p e R s m args below meth c H locs cells slots ls F G hl
  exact va_gets F.1 F.2.1 (G.2.2.2.2.1.2.2.2.1 q hq) G.2.2.1 F.2.2.2.2.2.1 (F.2.2.2.2.2.2.1 _ w1) (fun _ z => z) hd (kk p e R s m args below meth c H locs cells slots ls F G hl)
theorem rx_ldc2 {index : Nat} {v : Int64} (hd : decode M.2.1 pc = .ok (.ldc2_w index, 3)) (w1 : Cond.constantLong M.1.cls index v ∈ rx_tbl)
    (kk : rx_W V d kc ks M (pc + 3) L (.long v :: S) h Q) : rx_W V d kc ks M pc L S h Q := by
  intro p e R s m args below meth c H locs cells slots ls F G hl
  exact lv_ldc2 F.1 F.2.1 F.2.2.2.2.2.1 (F.2.2.2.2.2.2.1 _ w1) hd (kk p e R s m args below meth c H locs cells slots ls F G hl)
/-! exact ends -/
def rx_X (r0 : rx_R) (h0 : List va_E) : rx_R → List va_E → Prop := fun r h => r = r0 ∧ h = h0
variable {mc ms : Nat} {y : rx_T} {Sr As : List Value} {index : Nat} {v0 : Option Value} {h0 : List va_E}
theorem rx_exact {r0 : rx_R} (w : rx_W V d kc ks M pc L S h (rx_X r0 h0)) (hq : Q r0 h0) : rx_W V d kc ks M pc L S h Q := rx_cons w (fun r h' z => by obtain ⟨rfl, rfl⟩ := z; exact hq)
theorem rx_kx {v0 : Option Value} : ∀ E h1, rx_X (.inl v0) h0 (.inr E) h1 → rx_Y V (d + 1) kc ks M pc L h1 Q E := fun _ _ z => nomatch z.1
theorem rx_k1 {v0 : Option Value} (k : rx_W V (d + 1) kc ks M (pc + 3) L (v0.toList ++ Sr) h0 Q) : ∀ v h1, rx_X (.inl v0) h0 (.inl v) h1 → rx_W V (d + 1) kc ks M (pc + 3) L (v.toList ++ Sr) h1 Q := fun v h1 z => by
  obtain ⟨z1, rfl⟩ := z
  cases z1
  exact k
theorem rx_callV1 {b ci : Nat} {fs : List Value} {r : vw_C} (hd : decode M.2.1 pc = .ok (.invokevirtual index, 3)) (hc : rx_cl[ci]? = some r) (w1 : Cond.methodLink M.1.cls index y.1 ∈ rx_tbl) (w2 : Cond.instanceMethod y.1 ∈ rx_tbl) (w3 : Cond.selects r.1 y.1 y.1 ∈ rx_tbl) (hcl : rx_cl9 y As.length (lg_sl (.ref b :: As)).length)
    (he : rx_rd V h b = some (.inr (ci, fs))) (hS : S = As.reverse ++ .ref b :: Sr) (hw8 : (Sr.map fun v => v.category).sum ≤ 8) (K : rx_C V d mc ms y (.ref b :: As) h (rx_X (.inl v0) h0)) (k : rx_W V (d + 1) kc ks M (pc + 3) L (v0.toList ++ Sr) h0 Q) : rx_W V (d + 1) (mc + kc) (ms + ks) M pc L S h Q :=
  rx_callV hd hc w1 w2 w3 hcl he hS hw8 K rx_kx (rx_k1 k)
theorem rx_callS1 (hd : decode M.2.1 pc = .ok (.invokestatic index, 3)) (w1 : Cond.methodLink M.1.cls index y.1 ∈ rx_tbl) (w2 : Cond.static y.1 ∈ rx_tbl) (hcl : rx_cl9 y As.length (lg_sl As).length)
    (hS : S = As.reverse ++ Sr) (hw8 : (Sr.map fun v => v.category).sum ≤ 8) (K : rx_C V d mc ms y As h (rx_X (.inl v0) h0)) (k : rx_W V (d + 1) kc ks M (pc + 3) L (v0.toList ++ Sr) h0 Q) : rx_W V (d + 1) (mc + kc) (ms + ks) M pc L S h Q :=
  rx_callS hd w1 w2 hcl hS hw8 K rx_kx (rx_k1 k)
theorem rx_callSN1 {host : String} (hd : decode M.2.1 pc = .ok (.invokestatic index, 3)) (w1 : Cond.methodLinkNest M.1.cls index y.1 host ∈ rx_tbl) (w2 : Cond.static y.1 ∈ rx_tbl) (hcl : rx_cl9 y As.length (lg_sl As).length)
    (hS : S = As.reverse ++ Sr) (hw8 : (Sr.map fun v => v.category).sum ≤ 8) (K : rx_C V d mc ms y As h (rx_X (.inl v0) h0)) (k : rx_W V (d + 1) kc ks M (pc + 3) L (v0.toList ++ Sr) h0 Q) : rx_W V (d + 1) (mc + kc) (ms + ks) M pc L S h Q :=
  rx_callSN hd w1 w2 hcl hS hw8 K rx_kx (rx_k1 k)
theorem rx_callI1 {b : Nat} (hd : decode M.2.1 pc = .ok (.invokespecial index, 3)) (w1 : Cond.methodLink M.1.cls index y.1 ∈ rx_tbl) (w2 : Cond.instanceMethod y.1 ∈ rx_tbl) (hy1 : y.1.name = "<init>") (hret : y.2.2.2.1 = none) (hcl : rx_cl9 y As.length (lg_sl (.ref b :: As)).length)
    (hS : S = As.reverse ++ .ref b :: Sr) (hw8 : (Sr.map fun v => v.category).sum ≤ 8) (K : rx_C V d mc ms y (.ref b :: As) h (rx_X (.inl v0) h0)) (k : rx_W V (d + 1) kc ks M (pc + 3) L (v0.toList ++ Sr) h0 Q) : rx_W V (d + 1) (mc + kc) (ms + ks) M pc L S h Q :=
  rx_callI hd w1 w2 hy1 hret hcl hS hw8 K rx_kx (rx_k1 k)
theorem rx_callIN1 {b : Nat} {host : String} (hd : decode M.2.1 pc = .ok (.invokespecial index, 3)) (w1 : Cond.methodLinkNest M.1.cls index y.1 host ∈ rx_tbl) (w2 : Cond.instanceMethod y.1 ∈ rx_tbl) (hy1 : y.1.name = "<init>") (hret : y.2.2.2.1 = none) (hcl : rx_cl9 y As.length (lg_sl (.ref b :: As)).length)
    (hS : S = As.reverse ++ .ref b :: Sr) (hw8 : (Sr.map fun v => v.category).sum ≤ 8) (K : rx_C V d mc ms y (.ref b :: As) h (rx_X (.inl v0) h0)) (k : rx_W V (d + 1) kc ks M (pc + 3) L (v0.toList ++ Sr) h0 Q) : rx_W V (d + 1) (mc + kc) (ms + ks) M pc L S h Q :=
  rx_callIN hd w1 w2 hy1 hret hcl hS hw8 K rx_kx (rx_k1 k)
end RXO
