/-! Math.max, Math.min; reading behind a writing -/
section RXM
variable {V : rx_V} {d kc ks : Nat} {M : rx_T} {pc : Nat} {L : rx_L} {S : List Value} {h : List va_E} {Q : rx_R → List va_E → Prop} {index : Nat} {x y : Int32}
theorem rx_max (hd : decode M.2.1 pc = .ok (.invokestatic index, 3)) (w1 : Cond.methodLink M.1.cls index m_JM_max.1 ∈ rx_tbl) (hw8 : (S.map fun v => v.category).sum ≤ 8)
    (kk : rx_W V (d + 1) kc ks M (pc + 3) L (.int (if x < y then y else x) :: S) h Q) : rx_W V (d + 1) kc ks M pc L (.int y :: .int x :: S) h Q := by
  intro p e R s m args below meth c H locs cells slots ls F G hl
  have hts := F.2.2.2.2.2.2.1
  have hd1 := F.2.2.2.2.2.2.2.2.1
  have hd2 := F.2.2.2.2.2.2.2.2.2.1
  obtain ⟨-, -, -, -, -, -, g7, g8⟩ := id G
  exact va_mmax F.1 F.2.1 (by rw [F.2.2.1]; exact hl.1.symm) F.2.2.2.2.2.1 (hts _ w1) (hts _ st_JM_max) (hts _ (rx_in 14 (by decide +kernel) (by decide +kernel))) (hts _ (rx_in 243 (by decide +kernel) (by decide +kernel))) (by omega) (by omega) (by omega) (by omega) hd (kk p e R s m args below meth c H locs cells slots ls F G hl)
theorem rx_min (hd : decode M.2.1 pc = .ok (.invokestatic index, 3)) (w1 : Cond.methodLink M.1.cls index m_JM_min.1 ∈ rx_tbl) (hw8 : (S.map fun v => v.category).sum ≤ 8)
    (kk : rx_W V (d + 1) kc ks M (pc + 3) L (.int (if y < x then y else x) :: S) h Q) : rx_W V (d + 1) kc ks M pc L (.int y :: .int x :: S) h Q := by
  intro p e R s m args below meth c H locs cells slots ls F G hl
  have hts := F.2.2.2.2.2.2.1
  have hd1 := F.2.2.2.2.2.2.2.2.1
  have hd2 := F.2.2.2.2.2.2.2.2.2.1
  obtain ⟨-, -, -, -, -, -, g7, g8⟩ := id G
  exact va_mmin F.1 F.2.1 (by rw [F.2.2.1]; exact hl.1.symm) F.2.2.2.2.2.1 (hts _ w1) (hts _ st_JM_min) (hts _ (rx_in 14 (by decide +kernel) (by decide +kernel))) (hts _ (rx_in 240 (by decide +kernel) (by decide +kernel))) (by omega) (by omega) (by omega) (by omega) hd (kk p e R s m args below meth c H locs cells slots ls F G hl)
end RXM
theorem rx_rd_lt {V : rx_V} {h : List va_E} {a : Nat} {e : va_E} (he : rx_rd V h a = some e) : V.2.1 ≤ a ∧ a - V.2.1 < h.length := by
  obtain ⟨q, rfl, hq, hqe⟩ := rx_rd_at he
  exact ⟨Nat.le_add_right _ _, by rw [hqe]; exact (List.getElem?_eq_some_iff.mp hq).1⟩
theorem rx_rd_wr {V : rx_V} {h : List va_E} {a : Nat} {e0 e : va_E} (he : rx_rd V h a = some e0) : rx_rd V (rx_wr V h a e) a = some e := by
  obtain ⟨q, rfl, hq, -⟩ := rx_rd_at he
  rw [rx_wr_in, rx_rd_in, List.getElem?_set, if_pos rfl, if_pos (List.getElem?_eq_some_iff.mp hq).1]
theorem rx_rd_wn {V : rx_V} {h : List va_E} {a b : Nat} {e0 e : va_E} (he : rx_rd V h a = some e0) (hab : b ≠ a) : rx_rd V (rx_wr V h a e) b = rx_rd V h b := by
  obtain ⟨q, rfl, hq, -⟩ := rx_rd_at he
  unfold rx_rd
  by_cases hz : V.2.1 ≤ b
  · rw [if_pos hz, if_pos hz, rx_wr_in, List.getElem?_set, if_neg (by omega)]
  · rw [if_neg hz, if_neg hz]
theorem rx_wr_wr {V : rx_V} {h : List va_E} {a : Nat} {e e2 : va_E} : rx_wr V (rx_wr V h a e) a e2 = rx_wr V h a e2 := by
  unfold rx_wr
  exact List.set_set _
theorem rx_wr_len {V : rx_V} {h : List va_E} {a : Nat} {e : va_E} : (rx_wr V h a e).length = h.length := List.length_set
theorem rx_wr_id {V : rx_V} {h : List va_E} {a : Nat} {e : va_E} (he : rx_rd V h a = some e) : rx_wr V h a e = h := by
  obtain ⟨q, rfl, hq, -⟩ := rx_rd_at he
  rw [rx_wr_in]
  apply List.ext_getElem?
  intro i
  rw [List.getElem?_set]
  by_cases hi : q = i
  · subst hi
    rw [if_pos rfl, if_pos (List.getElem?_eq_some_iff.mp hq).1, hq]
  · rw [if_neg hi]
theorem rx_rd_ap {V : rx_V} {h : List va_E} {a : Nat} {e : va_E} {t : List va_E} (he : rx_rd V h a = some e) : rx_rd V (h ++ t) a = some e := by
  obtain ⟨q, rfl, hq, -⟩ := rx_rd_at he
  rw [rx_rd_in, List.getElem?_append_left (List.getElem?_eq_some_iff.mp hq).1]
  exact hq
theorem rx_wr_ap {V : rx_V} {h : List va_E} {a : Nat} {e0 e : va_E} {t : List va_E} (he : rx_rd V h a = some e0) : rx_wr V (h ++ t) a e = rx_wr V h a e ++ t := by
  obtain ⟨q, rfl, hq, -⟩ := rx_rd_at he
  rw [rx_wr_in, rx_wr_in, List.set_append_left _ _ (List.getElem?_eq_some_iff.mp hq).1]
/-! calls that make nothing, exact ends -/
section RXZ
variable {V : rx_V} {d kc ks : Nat} {M y : rx_T} {pc : Nat} {L : rx_L} {S Sr As : List Value} {h h0 : List va_E} {Q : rx_R → List va_E → Prop} {index : Nat} {v0 : Option Value}
theorem rx_cV {b ci : Nat} {fs : List Value} {r : vw_C} (hd : decode M.2.1 pc = .ok (.invokevirtual index, 3)) (hc : rx_cl[ci]? = some r) (w1 : Cond.methodLink M.1.cls index y.1 ∈ rx_tbl) (w2 : Cond.instanceMethod y.1 ∈ rx_tbl) (w3 : Cond.selects r.1 y.1 y.1 ∈ rx_tbl) (hcl : rx_cl9 y As.length (lg_sl (.ref b :: As)).length)
    (he : rx_rd V h b = some (.inr (ci, fs))) (hS : S = As.reverse ++ .ref b :: Sr) (hw8 : (Sr.map fun v => v.category).sum ≤ 8) (K : rx_C V d 0 0 y (.ref b :: As) h (rx_X (.inl v0) h0)) (k : rx_W V (d + 1) kc ks M (pc + 3) L (v0.toList ++ Sr) h0 Q) : rx_W V (d + 1) kc ks M pc L S h Q := by
  have z := rx_callV1 hd hc w1 w2 w3 hcl he hS hw8 K k
  rw [Nat.zero_add, Nat.zero_add] at z
  exact z
theorem rx_cS (hd : decode M.2.1 pc = .ok (.invokestatic index, 3)) (w1 : Cond.methodLink M.1.cls index y.1 ∈ rx_tbl) (w2 : Cond.static y.1 ∈ rx_tbl) (hcl : rx_cl9 y As.length (lg_sl As).length)
    (hS : S = As.reverse ++ Sr) (hw8 : (Sr.map fun v => v.category).sum ≤ 8) (K : rx_C V d 0 0 y As h (rx_X (.inl v0) h0)) (k : rx_W V (d + 1) kc ks M (pc + 3) L (v0.toList ++ Sr) h0 Q) : rx_W V (d + 1) kc ks M pc L S h Q := by
  have z := rx_callS1 hd w1 w2 hcl hS hw8 K k
  rw [Nat.zero_add, Nat.zero_add] at z
  exact z
theorem rx_cSN {host : String} (hd : decode M.2.1 pc = .ok (.invokestatic index, 3)) (w1 : Cond.methodLinkNest M.1.cls index y.1 host ∈ rx_tbl) (w2 : Cond.static y.1 ∈ rx_tbl) (hcl : rx_cl9 y As.length (lg_sl As).length)
    (hS : S = As.reverse ++ Sr) (hw8 : (Sr.map fun v => v.category).sum ≤ 8) (K : rx_C V d 0 0 y As h (rx_X (.inl v0) h0)) (k : rx_W V (d + 1) kc ks M (pc + 3) L (v0.toList ++ Sr) h0 Q) : rx_W V (d + 1) kc ks M pc L S h Q := by
  have z := rx_callSN1 hd w1 w2 hcl hS hw8 K k
  rw [Nat.zero_add, Nat.zero_add] at z
  exact z
end RXZ
