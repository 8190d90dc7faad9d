/-! more rows -/
section RX2
variable {V : rx_V} {d kc ks : Nat} {M : rx_T} {pc : Nat} {L : rx_L} {S : List Value} {h : List va_E} {Q : rx_R → List va_E → Prop}
theorem rx_areturn_r {a : Nat} {C : String} (hd : decode M.2.1 pc = .ok (.areturn, 1)) (hr : M.2.2.2.1 = some (.object C)) (hq : Q (.inl (some (.ref a))) h) : rx_W V d kc ks M pc L [.ref a] h Q := rx_areturn (x := some a) hd hr hq
theorem rx_areturn_N {C : String} (hd : decode M.2.1 pc = .ok (.areturn, 1)) (hr : M.2.2.2.1 = some (.object C)) (hq : Q (.inl (some .null)) h) : rx_W V d kc ks M pc L [.null] h Q := rx_areturn (x := none) hd hr hq
theorem rx_astore_nN {n : Fin 4} (hd : decode M.2.1 pc = .ok (.astore_n n, 1)) (hn : (n : Nat) < L.length) (k : rx_W V d kc ks M (pc + 1) (rx_st1 L n .null) S h Q) : rx_W V d kc ks M pc L (.null :: S) h Q := rx_astore_n (x := none) hd hn k
theorem rx_astore_N {n : Nat} (hd : decode M.2.1 pc = .ok (.astore n, 2)) (hn : n < L.length) (k : rx_W V d kc ks M (pc + 2) (rx_st1 L n .null) S h Q) : rx_W V d kc ks M pc L (.null :: S) h Q := rx_astore (x := none) hd hn k
theorem rx_aload_nN {n : Fin 4} (hd : decode M.2.1 pc = .ok (.aload_n n, 1)) (hv : L[(n : Nat)]? = some (some .null)) (k : rx_W V d kc ks M (pc + 1) L (.null :: S) h Q) : rx_W V d kc ks M pc L S h Q := rx_aload_n (x := none) hd hv k
theorem rx_aload_N {n : Nat} (hd : decode M.2.1 pc = .ok (.aload n, 2)) (hv : L[n]? = some (some .null)) (k : rx_W V d kc ks M (pc + 2) L (.null :: S) h Q) : rx_W V d kc ks M pc L S h Q := rx_aload (x := none) hd hv k
theorem rx_ifnull_r {a : Nat} {off : Int} (hd : decode M.2.1 pc = .ok (.ifnull off, 3)) {tgt : Nat} (ht : (pc : Int) + off = (tgt : Int)) (k : rx_W V d kc ks M (pc + 3) L S h Q) : rx_W V d kc ks M pc L (.ref a :: S) h Q := rx_ifnull (x := some a) hd ht (fun z => nomatch z) (fun _ _ => k)
theorem rx_ifnull_N {off : Int} {tgt : Nat} (hd : decode M.2.1 pc = .ok (.ifnull off, 3)) (ht : (pc : Int) + off = (tgt : Int)) (k : rx_W V d kc ks M tgt L S h Q) : rx_W V d kc ks M pc L (.null :: S) h Q := rx_ifnull (x := none) hd ht (fun _ => k) (fun _ z => nomatch z)
theorem rx_ifnonnull_r {a : Nat} {off : Int} {tgt : Nat} (hd : decode M.2.1 pc = .ok (.ifnonnull off, 3)) (ht : (pc : Int) + off = (tgt : Int)) (k : rx_W V d kc ks M tgt L S h Q) : rx_W V d kc ks M pc L (.ref a :: S) h Q := rx_ifnonnull (x := some a) hd ht (fun _ _ => k) (fun z => nomatch z)
theorem rx_ifnonnull_N {off : Int} (hd : decode M.2.1 pc = .ok (.ifnonnull off, 3)) {tgt : Nat} (ht : (pc : Int) + off = (tgt : Int)) (k : rx_W V d kc ks M (pc + 3) L S h Q) : rx_W V d kc ks M pc L (.null :: S) h Q := rx_ifnonnull (x := none) hd ht (fun _ z => nomatch z) (fun _ => k)
end RX2
theorem ite10 {c : Prop} {i : Decidable c} : (@ite Int32 c i 1 0) = 0 ↔ ¬ c := by
  by_cases h : c
  · rw [if_pos h]; exact ⟨fun z => absurd z (by decide), fun z => absurd h z⟩
  · rw [if_neg h]; exact ⟨fun _ => h, fun _ => rfl⟩
theorem ite11 {c : Prop} {i : Decidable c} : ¬ (@ite Int32 c i 1 0) = 0 ↔ c := by
  rw [ite10]; exact Decidable.not_not
theorem ite01 {c : Prop} {i : Decidable c} : (@ite Int32 c i 0 1) = 0 ↔ c := by
  by_cases h : c
  · rw [if_pos h]; exact ⟨fun _ => h, fun _ => rfl⟩
  · rw [if_neg h]; exact ⟨fun z => absurd z (by decide), fun z => absurd z h⟩
