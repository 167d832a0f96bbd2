set_option maxHeartbeats 4000000 in
set_option maxRecDepth 100000 in
/-- digest of the reference -/
theorem c_X1_digest (l : Launch) (dC : Nat → ClassId) (dI : Nat → Nat → Nat) (h0 k0 : Nat) (cI : ClassId) (a4 a10 a11 : Value) (sz : Nat) : Met l yX1_digest wsX1_digest ({ frames := 11, cells := 9, slots := 81, locals := 300 }) (va_Pc [.ref h0] (zx_pre (dC, dI) [(h0, zM 0 0 1 (.ref k0) a4 a10 a11), (k0, .inl (cI, 7, .inl (fun _ => 0)))] [(cI, .int)] sz)) (va_Ql (fun (r : Int64) (u : Unit) => r = 37782247579258665) (fun (u : Unit) => zx_at (dC, dI) [(h0, zM 0 0 1 (.ref k0) a4 a10 a11), (k0, .inl (cI, 7, .inl (fun _ => 0)))] [(cI, .int)] (va_A [(h0, zM 0 0 1 (.ref k0) a4 a10 a11), (k0, .inl (cI, 7, .inl (fun _ => 0)))] sz)) (va_A [(h0, zM 0 0 1 (.ref k0) a4 a10 a11), (k0, .inl (cI, 7, .inl (fun _ => 0)))] sz)) 9 81 (va_A [(h0, zM 0 0 1 (.ref k0) a4 a10 a11), (k0, .inl (cI, 7, .inl (fun _ => 0)))] sz) := by
  refine Met.ofW (cc := cX1_digest) (maxL := 5) (ret := (some .long)) (by decide) rfl ?_
  intro p e s m args below meth c s₁ B hml hv
  obtain ⟨rfl, hsz, hP, hK, hD0, hZ⟩ := hv
  have hx := B.exec
  have hb := B.bytes
  have hr := B.returns
  have hts := atoms_spec (ws := wsX1_digest) B.pre
  have hown : s.vm.findClass RX1 = some m.cls := findClass_of_methodNamed B.named
  have hlocks := B.notSynchronized
  subst hsz
  have hD := hD0.self (sz := s.heap.size)
  generalize hAe : va_A [(h0, zM 0 0 1 (.ref k0) a4 a10 a11), (k0, .inl (cI, 7, .inl (fun _ => 0)))] s.heap.size = A at hD hZ ⊢
  have hA : ∀ q : Nat, s.heap.size ≤ q → A q := fun q h => by rw [← hAe]; exact Or.inr h
  have hS : va_S A s.heap s.heap [] := va_S.rf
  have hP : va_P (dC, dI) vwCl [(h0, zM 0 0 1 (.ref k0) a4 a10 a11), (k0, .inl (cI, 7, .inl (fun _ => 0)))] s.heap := hP
  have hl := lv_entry ([.ref h0]) (n := 5) (Nat.le_of_ble_eq_true rfl)
  rw [lg_entry_eq]
  generalize (lg_sl ([.ref h0]) ++ List.replicate (5 - (lg_sl ([.ref h0])).length) Slot.unset).toArray = ls at hl ⊢
  have hl : lv_has ls 5 [(0, .ref h0)] := hl
  refine lv_aload_n hx hb dX1_digest_0 rfl (lv_at hl 0 rfl) ?_
  refine lv_iconst (v := 0) hx hb dX1_digest_1 (by decide) ?_
  refine va_put (D := (dC, dI)) (ci := 1) (v := .int 0) (ty := .int) (C := RX1) (T := TX1) (N := 12) hx hb hts (by decide +kernel) tyX1 tyX1_ok nmX1 hown hK hP hD hS 0 rfl rfl 0 (by decide) (hts (.fieldLink RX1 37 "LiarTentsModel" "thrown" "I") (by decide +kernel)) (fun _ h9 => h9) rfl (by decide +kernel) rfl rfl (Nat.le_of_ble_eq_true rfl) dX1_digest_2 (fun H locs hP hD hS => ?_)
  have hP : va_P (dC, dI) vwCl [(h0, zM 0 0 1 (.ref k0) a4 a10 a11), (k0, .inl (cI, 7, .inl (fun _ => 0)))] H := hP
  have hD : va_D A [(h0, zM 0 0 1 (.ref k0) a4 a10 a11), (k0, .inl (cI, 7, .inl (fun _ => 0)))] := hD
  refine lv_ldc2 (v := 1429) hx hb hown (hts (.constantLong RX1 108 (1429)) (by decide +kernel)) dX1_digest_5 ?_
  refine lv_lstore_n (lv' := [(1, .long 1429), (0, .ref h0)]) hx hb dX1_digest_8 rfl hl (by decide) rfl (fun ls hl => ?_)
  refine lv_iconst (v := 0) hx hb dX1_digest_9 (by decide) ?_
  refine lv_istore_n (lv' := [(3, .int 0), (1, .long 1429), (0, .ref h0)]) hx hb dX1_digest_10 rfl hl (by decide) rfl (fun ls hl => ?_)
  refine lv_iload_n hx hb dX1_digest_11 rfl (lv_at hl 0 rfl) ?_
  refine lv_bipush (v := 8) hx hb dX1_digest_12 (by decide) ?_
  refine lv_icmp_gt (tgt := 36) hx hb dX1_digest_14 (by decide) (fun c1 => absurd c1 (by decide)) (fun _ => ?_)
  refine lv_lload_n hx hb dX1_digest_17 rfl (lv_at hl 1 rfl) ?_
  refine lv_ldc2 (v := 31) hx hb hown (hts (.constantLong RX1 110 (31)) (by decide +kernel)) dX1_digest_18 ?_
  refine lv_lmul hx hb dX1_digest_21 ?_
  refine lv_topl (fun z2 ez2 => ?_)
  obtain rfl : z2 = 44299 := ez2.trans (by decide +kernel)
  refine lv_aload_n hx hb dX1_digest_22 rfl (lv_at hl 2 rfl) ?_
  refine lv_iload_n hx hb dX1_digest_23 rfl (lv_at hl 0 rfl) ?_
  have hPc := hP.sub (ws' := [(h0, zM 0 0 1 (.ref k0) a4 a10 a11), (k0, .inl (cI, 7, .inl (fun _ => 0)))]) [0, 1] rfl
  have hDc := hD.sub (ws' := [(h0, zM 0 0 1 (.ref k0) a4 a10 a11), (k0, .inl (cI, 7, .inl (fun _ => 0)))]) [0, 1] (by decide) rfl
  have hKc := hK.sub (tys' := [(cI, .int)]) [0] rfl
  have hFc := va_free (wc := [(h0, zM 0 0 1 (.ref k0) a4 a10 a11), (k0, .inl (cI, 7, .inl (fun _ => 0)))]) hD hS hA [0, 1] rfl
  refine va_calli (va_runV (As := [.int 0]) (rest := [.long 44299]) ⟨hx, hb, hml, hown, hts⟩ (c_X1_counted l dC dI h0 k0 cI 0 (zx_in rfl) a4 a10 a11 H.size) (cwV 1 hts gX1_digest_X1_counted rfl rfl rfl (by decide +kernel) ⟨Nat.le_of_ble_eq_true rfl, Nat.le_of_ble_eq_true rfl⟩) ⟨zx_blind, va_recv hKc hPc (ci := 1) (q0 := 0) rfl rfl, fun U hU hW => ⟨rfl, zx_go hPc hKc hDc hZ hS hFc hU hW⟩⟩ rfl rfl hl.1 rfl (lv_room (Nat.le_of_ble_eq_true rfl)) dX1_digest_24 ⟨Nat.le_of_ble_eq_true rfl, Nat.le_of_ble_eq_true rfl⟩) hS (fun q _ h => hFc q h) hFc (fun r u t H1 locs ht hvm hw hB hz1 hk1 hS => ?_)
  obtain ⟨hP1, hK1, hD1⟩ := hB
  rw [ht] at hP1
  have hK1 := va_K.moved hvm.symm hK1
  try dsimp only at hw hP1 hD1 hK1
  obtain ⟨hP, hD⟩ := va_join (wr := []) (w1 := [(h0, zM 0 0 1 (.ref k0) a4 a10 a11), (k0, .inl (cI, 7, .inl (fun _ => 0)))]) hP hD [0, 1] [] rfl rfl (by decide) (by decide) hk1 hFc hP1 hD1
  generalize H1 = H at hP hS ⊢
  have hP : va_P (dC, dI) vwCl [(h0, zM 0 0 1 (.ref k0) a4 a10 a11), (k0, .inl (cI, 7, .inl (fun _ => 0)))] H := hP
  have hD : va_D A [(h0, zM 0 0 1 (.ref k0) a4 a10 a11), (k0, .inl (cI, 7, .inl (fun _ => 0)))] := hD
  refine W.widen (k := 1) (n := 9) (by omega) (by omega) ?_
  obtain rfl : r = 0 := hw.trans (by decide)
  refine lv_i2l (v := 0) hx hb dX1_digest_27 (by decide) ?_
  refine lv_ladd hx hb dX1_digest_28 ?_
  refine lv_topl (fun z3 ez3 => ?_)
  obtain rfl : z3 = 44299 := ez3.trans (by decide +kernel)
  refine lv_lstore_n (lv' := [(1, .long 44299), (3, .int 0), (0, .ref h0)]) hx hb dX1_digest_29 rfl hl (by decide) rfl (fun ls hl => ?_)
  refine lv_iinc (v := 1) (lv' := [(3, .int 1), (1, .long 44299), (0, .ref h0)]) hx hb dX1_digest_30 hl (k := 1) rfl (by decide) (by decide) rfl (fun ls hl => ?_)
  refine lv_goto (tgt := 11) hx hb dX1_digest_33 (by decide) ?_
  refine lv_iload_n hx hb dX1_digest_11 rfl (lv_at hl 0 rfl) ?_
  refine lv_bipush (v := 8) hx hb dX1_digest_12 (by decide) ?_
  refine lv_icmp_gt (tgt := 36) hx hb dX1_digest_14 (by decide) (fun c4 => absurd c4 (by decide)) (fun _ => ?_)
  refine lv_lload_n hx hb dX1_digest_17 rfl (lv_at hl 1 rfl) ?_
  refine lv_ldc2 (v := 31) hx hb hown (hts (.constantLong RX1 110 (31)) (by decide +kernel)) dX1_digest_18 ?_
  refine lv_lmul hx hb dX1_digest_21 ?_
  refine lv_topl (fun z5 ez5 => ?_)
  obtain rfl : z5 = 1373269 := ez5.trans (by decide +kernel)
  refine lv_aload_n hx hb dX1_digest_22 rfl (lv_at hl 2 rfl) ?_
  refine lv_iload_n hx hb dX1_digest_23 rfl (lv_at hl 0 rfl) ?_
  have hPc := hP.sub (ws' := [(h0, zM 0 0 1 (.ref k0) a4 a10 a11), (k0, .inl (cI, 7, .inl (fun _ => 0)))]) [0, 1] rfl
  have hDc := hD.sub (ws' := [(h0, zM 0 0 1 (.ref k0) a4 a10 a11), (k0, .inl (cI, 7, .inl (fun _ => 0)))]) [0, 1] (by decide) rfl
  have hKc := hK.sub (tys' := [(cI, .int)]) [0] rfl
  have hFc := va_free (wc := [(h0, zM 0 0 1 (.ref k0) a4 a10 a11), (k0, .inl (cI, 7, .inl (fun _ => 0)))]) hD hS hA [0, 1] rfl
  refine va_calli (va_runV (As := [.int 1]) (rest := [.long 1373269]) ⟨hx, hb, hml, hown, hts⟩ (c_X1_counted l dC dI h0 k0 cI 1 (zx_in rfl) a4 a10 a11 H.size) (cwV 1 hts gX1_digest_X1_counted rfl rfl rfl (by decide +kernel) ⟨Nat.le_of_ble_eq_true rfl, Nat.le_of_ble_eq_true rfl⟩) ⟨zx_blind, va_recv hKc hPc (ci := 1) (q0 := 0) rfl rfl, fun U hU hW => ⟨rfl, zx_go hPc hKc hDc hZ hS hFc hU hW⟩⟩ rfl rfl hl.1 rfl (lv_room (Nat.le_of_ble_eq_true rfl)) dX1_digest_24 ⟨Nat.le_of_ble_eq_true rfl, Nat.le_of_ble_eq_true rfl⟩) hS (fun q _ h => hFc q h) hFc (fun r u t H1 locs ht hvm hw hB hz1 hk1 hS => ?_)
  obtain ⟨hP1, hK1, hD1⟩ := hB
  rw [ht] at hP1
  have hK1 := va_K.moved hvm.symm hK1
  try dsimp only at hw hP1 hD1 hK1
  obtain ⟨hP, hD⟩ := va_join (wr := []) (w1 := [(h0, zM 0 0 1 (.ref k0) a4 a10 a11), (k0, .inl (cI, 7, .inl (fun _ => 0)))]) hP hD [0, 1] [] rfl rfl (by decide) (by decide) hk1 hFc hP1 hD1
  generalize H1 = H at hP hS ⊢
  have hP : va_P (dC, dI) vwCl [(h0, zM 0 0 1 (.ref k0) a4 a10 a11), (k0, .inl (cI, 7, .inl (fun _ => 0)))] H := hP
  have hD : va_D A [(h0, zM 0 0 1 (.ref k0) a4 a10 a11), (k0, .inl (cI, 7, .inl (fun _ => 0)))] := hD
  refine W.widen (k := 2) (n := 18) (by omega) (by omega) ?_
  obtain rfl : r = 1 := hw.trans (by decide)
  refine lv_i2l (v := 1) hx hb dX1_digest_27 (by decide) ?_
  refine lv_ladd hx hb dX1_digest_28 ?_
  refine lv_topl (fun z6 ez6 => ?_)
  obtain rfl : z6 = 1373270 := ez6.trans (by decide +kernel)
  refine lv_lstore_n (lv' := [(1, .long 1373270), (3, .int 1), (0, .ref h0)]) hx hb dX1_digest_29 rfl hl (by decide) rfl (fun ls hl => ?_)
  refine lv_iinc (v := 2) (lv' := [(3, .int 2), (1, .long 1373270), (0, .ref h0)]) hx hb dX1_digest_30 hl (k := 1) rfl (by decide) (by decide) rfl (fun ls hl => ?_)
  refine lv_goto (tgt := 11) hx hb dX1_digest_33 (by decide) ?_
  refine lv_iload_n hx hb dX1_digest_11 rfl (lv_at hl 0 rfl) ?_
  refine lv_bipush (v := 8) hx hb dX1_digest_12 (by decide) ?_
  refine lv_icmp_gt (tgt := 36) hx hb dX1_digest_14 (by decide) (fun c7 => absurd c7 (by decide)) (fun _ => ?_)
  refine lv_lload_n hx hb dX1_digest_17 rfl (lv_at hl 1 rfl) ?_
  refine lv_ldc2 (v := 31) hx hb hown (hts (.constantLong RX1 110 (31)) (by decide +kernel)) dX1_digest_18 ?_
  refine lv_lmul hx hb dX1_digest_21 ?_
  refine lv_topl (fun z8 ez8 => ?_)
  obtain rfl : z8 = 42571370 := ez8.trans (by decide +kernel)
  refine lv_aload_n hx hb dX1_digest_22 rfl (lv_at hl 2 rfl) ?_
  refine lv_iload_n hx hb dX1_digest_23 rfl (lv_at hl 0 rfl) ?_
  have hPc := hP.sub (ws' := [(h0, zM 0 0 1 (.ref k0) a4 a10 a11), (k0, .inl (cI, 7, .inl (fun _ => 0)))]) [0, 1] rfl
  have hDc := hD.sub (ws' := [(h0, zM 0 0 1 (.ref k0) a4 a10 a11), (k0, .inl (cI, 7, .inl (fun _ => 0)))]) [0, 1] (by decide) rfl
  have hKc := hK.sub (tys' := [(cI, .int)]) [0] rfl
  have hFc := va_free (wc := [(h0, zM 0 0 1 (.ref k0) a4 a10 a11), (k0, .inl (cI, 7, .inl (fun _ => 0)))]) hD hS hA [0, 1] rfl
  refine va_calli (va_runV (As := [.int 2]) (rest := [.long 42571370]) ⟨hx, hb, hml, hown, hts⟩ (c_X1_counted l dC dI h0 k0 cI 2 (zx_in rfl) a4 a10 a11 H.size) (cwV 1 hts gX1_digest_X1_counted rfl rfl rfl (by decide +kernel) ⟨Nat.le_of_ble_eq_true rfl, Nat.le_of_ble_eq_true rfl⟩) ⟨zx_blind, va_recv hKc hPc (ci := 1) (q0 := 0) rfl rfl, fun U hU hW => ⟨rfl, zx_go hPc hKc hDc hZ hS hFc hU hW⟩⟩ rfl rfl hl.1 rfl (lv_room (Nat.le_of_ble_eq_true rfl)) dX1_digest_24 ⟨Nat.le_of_ble_eq_true rfl, Nat.le_of_ble_eq_true rfl⟩) hS (fun q _ h => hFc q h) hFc (fun r u t H1 locs ht hvm hw hB hz1 hk1 hS => ?_)
  obtain ⟨hP1, hK1, hD1⟩ := hB
  rw [ht] at hP1
  have hK1 := va_K.moved hvm.symm hK1
  try dsimp only at hw hP1 hD1 hK1
  obtain ⟨hP, hD⟩ := va_join (wr := []) (w1 := [(h0, zM 0 0 1 (.ref k0) a4 a10 a11), (k0, .inl (cI, 7, .inl (fun _ => 0)))]) hP hD [0, 1] [] rfl rfl (by decide) (by decide) hk1 hFc hP1 hD1
  generalize H1 = H at hP hS ⊢
  have hP : va_P (dC, dI) vwCl [(h0, zM 0 0 1 (.ref k0) a4 a10 a11), (k0, .inl (cI, 7, .inl (fun _ => 0)))] H := hP
  have hD : va_D A [(h0, zM 0 0 1 (.ref k0) a4 a10 a11), (k0, .inl (cI, 7, .inl (fun _ => 0)))] := hD
  refine W.widen (k := 3) (n := 27) (by omega) (by omega) ?_
  obtain rfl : r = 0 := hw.trans (by decide)
  refine lv_i2l (v := 0) hx hb dX1_digest_27 (by decide) ?_
  refine lv_ladd hx hb dX1_digest_28 ?_
  refine lv_topl (fun z9 ez9 => ?_)
  obtain rfl : z9 = 42571370 := ez9.trans (by decide +kernel)
  refine lv_lstore_n (lv' := [(1, .long 42571370), (3, .int 2), (0, .ref h0)]) hx hb dX1_digest_29 rfl hl (by decide) rfl (fun ls hl => ?_)
  refine lv_iinc (v := 3) (lv' := [(3, .int 3), (1, .long 42571370), (0, .ref h0)]) hx hb dX1_digest_30 hl (k := 1) rfl (by decide) (by decide) rfl (fun ls hl => ?_)
  refine lv_goto (tgt := 11) hx hb dX1_digest_33 (by decide) ?_
  refine lv_iload_n hx hb dX1_digest_11 rfl (lv_at hl 0 rfl) ?_
  refine lv_bipush (v := 8) hx hb dX1_digest_12 (by decide) ?_
  refine lv_icmp_gt (tgt := 36) hx hb dX1_digest_14 (by decide) (fun c10 => absurd c10 (by decide)) (fun _ => ?_)
  refine lv_lload_n hx hb dX1_digest_17 rfl (lv_at hl 1 rfl) ?_
  refine lv_ldc2 (v := 31) hx hb hown (hts (.constantLong RX1 110 (31)) (by decide +kernel)) dX1_digest_18 ?_
  refine lv_lmul hx hb dX1_digest_21 ?_
  refine lv_topl (fun z11 ez11 => ?_)
  obtain rfl : z11 = 1319712470 := ez11.trans (by decide +kernel)
  refine lv_aload_n hx hb dX1_digest_22 rfl (lv_at hl 2 rfl) ?_
  refine lv_iload_n hx hb dX1_digest_23 rfl (lv_at hl 0 rfl) ?_
  have hPc := hP.sub (ws' := [(h0, zM 0 0 1 (.ref k0) a4 a10 a11), (k0, .inl (cI, 7, .inl (fun _ => 0)))]) [0, 1] rfl
  have hDc := hD.sub (ws' := [(h0, zM 0 0 1 (.ref k0) a4 a10 a11), (k0, .inl (cI, 7, .inl (fun _ => 0)))]) [0, 1] (by decide) rfl
  have hKc := hK.sub (tys' := [(cI, .int)]) [0] rfl
  have hFc := va_free (wc := [(h0, zM 0 0 1 (.ref k0) a4 a10 a11), (k0, .inl (cI, 7, .inl (fun _ => 0)))]) hD hS hA [0, 1] rfl
  refine va_calli (va_runV (As := [.int 3]) (rest := [.long 1319712470]) ⟨hx, hb, hml, hown, hts⟩ (c_X1_counted l dC dI h0 k0 cI 3 (zx_in rfl) a4 a10 a11 H.size) (cwV 1 hts gX1_digest_X1_counted rfl rfl rfl (by decide +kernel) ⟨Nat.le_of_ble_eq_true rfl, Nat.le_of_ble_eq_true rfl⟩) ⟨zx_blind, va_recv hKc hPc (ci := 1) (q0 := 0) rfl rfl, fun U hU hW => ⟨rfl, zx_go hPc hKc hDc hZ hS hFc hU hW⟩⟩ rfl rfl hl.1 rfl (lv_room (Nat.le_of_ble_eq_true rfl)) dX1_digest_24 ⟨Nat.le_of_ble_eq_true rfl, Nat.le_of_ble_eq_true rfl⟩) hS (fun q _ h => hFc q h) hFc (fun r u t H1 locs ht hvm hw hB hz1 hk1 hS => ?_)
  obtain ⟨hP1, hK1, hD1⟩ := hB
  rw [ht] at hP1
  have hK1 := va_K.moved hvm.symm hK1
  try dsimp only at hw hP1 hD1 hK1
  obtain ⟨hP, hD⟩ := va_join (wr := []) (w1 := [(h0, zM 0 0 1 (.ref k0) a4 a10 a11), (k0, .inl (cI, 7, .inl (fun _ => 0)))]) hP hD [0, 1] [] rfl rfl (by decide) (by decide) hk1 hFc hP1 hD1
  generalize H1 = H at hP hS ⊢
  have hP : va_P (dC, dI) vwCl [(h0, zM 0 0 1 (.ref k0) a4 a10 a11), (k0, .inl (cI, 7, .inl (fun _ => 0)))] H := hP
  have hD : va_D A [(h0, zM 0 0 1 (.ref k0) a4 a10 a11), (k0, .inl (cI, 7, .inl (fun _ => 0)))] := hD
  refine W.widen (k := 4) (n := 36) (by omega) (by omega) ?_
  obtain rfl : r = 0 := hw.trans (by decide)
  refine lv_i2l (v := 0) hx hb dX1_digest_27 (by decide) ?_
  refine lv_ladd hx hb dX1_digest_28 ?_
  refine lv_topl (fun z12 ez12 => ?_)
  obtain rfl : z12 = 1319712470 := ez12.trans (by decide +kernel)
  refine lv_lstore_n (lv' := [(1, .long 1319712470), (3, .int 3), (0, .ref h0)]) hx hb dX1_digest_29 rfl hl (by decide) rfl (fun ls hl => ?_)
  refine lv_iinc (v := 4) (lv' := [(3, .int 4), (1, .long 1319712470), (0, .ref h0)]) hx hb dX1_digest_30 hl (k := 1) rfl (by decide) (by decide) rfl (fun ls hl => ?_)
  refine lv_goto (tgt := 11) hx hb dX1_digest_33 (by decide) ?_
  refine lv_iload_n hx hb dX1_digest_11 rfl (lv_at hl 0 rfl) ?_
  refine lv_bipush (v := 8) hx hb dX1_digest_12 (by decide) ?_
  refine lv_icmp_gt (tgt := 36) hx hb dX1_digest_14 (by decide) (fun c13 => absurd c13 (by decide)) (fun _ => ?_)
  refine lv_lload_n hx hb dX1_digest_17 rfl (lv_at hl 1 rfl) ?_
  refine lv_ldc2 (v := 31) hx hb hown (hts (.constantLong RX1 110 (31)) (by decide +kernel)) dX1_digest_18 ?_
  refine lv_lmul hx hb dX1_digest_21 ?_
  refine lv_topl (fun z14 ez14 => ?_)
  obtain rfl : z14 = 40911086570 := ez14.trans (by decide +kernel)
  refine lv_aload_n hx hb dX1_digest_22 rfl (lv_at hl 2 rfl) ?_
  refine lv_iload_n hx hb dX1_digest_23 rfl (lv_at hl 0 rfl) ?_
  have hPc := hP.sub (ws' := [(h0, zM 0 0 1 (.ref k0) a4 a10 a11), (k0, .inl (cI, 7, .inl (fun _ => 0)))]) [0, 1] rfl
  have hDc := hD.sub (ws' := [(h0, zM 0 0 1 (.ref k0) a4 a10 a11), (k0, .inl (cI, 7, .inl (fun _ => 0)))]) [0, 1] (by decide) rfl
  have hKc := hK.sub (tys' := [(cI, .int)]) [0] rfl
  have hFc := va_free (wc := [(h0, zM 0 0 1 (.ref k0) a4 a10 a11), (k0, .inl (cI, 7, .inl (fun _ => 0)))]) hD hS hA [0, 1] rfl
  refine va_calli (va_runV (As := [.int 4]) (rest := [.long 40911086570]) ⟨hx, hb, hml, hown, hts⟩ (c_X1_counted l dC dI h0 k0 cI 4 (zx_in rfl) a4 a10 a11 H.size) (cwV 1 hts gX1_digest_X1_counted rfl rfl rfl (by decide +kernel) ⟨Nat.le_of_ble_eq_true rfl, Nat.le_of_ble_eq_true rfl⟩) ⟨zx_blind, va_recv hKc hPc (ci := 1) (q0 := 0) rfl rfl, fun U hU hW => ⟨rfl, zx_go hPc hKc hDc hZ hS hFc hU hW⟩⟩ rfl rfl hl.1 rfl (lv_room (Nat.le_of_ble_eq_true rfl)) dX1_digest_24 ⟨Nat.le_of_ble_eq_true rfl, Nat.le_of_ble_eq_true rfl⟩) hS (fun q _ h => hFc q h) hFc (fun r u t H1 locs ht hvm hw hB hz1 hk1 hS => ?_)
  obtain ⟨hP1, hK1, hD1⟩ := hB
  rw [ht] at hP1
  have hK1 := va_K.moved hvm.symm hK1
  try dsimp only at hw hP1 hD1 hK1
  obtain ⟨hP, hD⟩ := va_join (wr := []) (w1 := [(h0, zM 0 0 1 (.ref k0) a4 a10 a11), (k0, .inl (cI, 7, .inl (fun _ => 0)))]) hP hD [0, 1] [] rfl rfl (by decide) (by decide) hk1 hFc hP1 hD1
  generalize H1 = H at hP hS ⊢
  have hP : va_P (dC, dI) vwCl [(h0, zM 0 0 1 (.ref k0) a4 a10 a11), (k0, .inl (cI, 7, .inl (fun _ => 0)))] H := hP
  have hD : va_D A [(h0, zM 0 0 1 (.ref k0) a4 a10 a11), (k0, .inl (cI, 7, .inl (fun _ => 0)))] := hD
  refine W.widen (k := 5) (n := 45) (by omega) (by omega) ?_
  obtain rfl : r = (-1) := hw.trans (by decide)
  refine lv_i2l (v := (-1)) hx hb dX1_digest_27 (by decide) ?_
  refine lv_ladd hx hb dX1_digest_28 ?_
  refine lv_topl (fun z15 ez15 => ?_)
  obtain rfl : z15 = 40911086569 := ez15.trans (by decide +kernel)
  refine lv_lstore_n (lv' := [(1, .long 40911086569), (3, .int 4), (0, .ref h0)]) hx hb dX1_digest_29 rfl hl (by decide) rfl (fun ls hl => ?_)
  refine lv_iinc (v := 5) (lv' := [(3, .int 5), (1, .long 40911086569), (0, .ref h0)]) hx hb dX1_digest_30 hl (k := 1) rfl (by decide) (by decide) rfl (fun ls hl => ?_)
  refine lv_goto (tgt := 11) hx hb dX1_digest_33 (by decide) ?_
  refine lv_iload_n hx hb dX1_digest_11 rfl (lv_at hl 0 rfl) ?_
  refine lv_bipush (v := 8) hx hb dX1_digest_12 (by decide) ?_
  refine lv_icmp_gt (tgt := 36) hx hb dX1_digest_14 (by decide) (fun c16 => absurd c16 (by decide)) (fun _ => ?_)
  refine lv_lload_n hx hb dX1_digest_17 rfl (lv_at hl 1 rfl) ?_
  refine lv_ldc2 (v := 31) hx hb hown (hts (.constantLong RX1 110 (31)) (by decide +kernel)) dX1_digest_18 ?_
  refine lv_lmul hx hb dX1_digest_21 ?_
  refine lv_topl (fun z17 ez17 => ?_)
  obtain rfl : z17 = 1268243683639 := ez17.trans (by decide +kernel)
  refine lv_aload_n hx hb dX1_digest_22 rfl (lv_at hl 2 rfl) ?_
  refine lv_iload_n hx hb dX1_digest_23 rfl (lv_at hl 0 rfl) ?_
  have hPc := hP.sub (ws' := [(h0, zM 0 0 1 (.ref k0) a4 a10 a11), (k0, .inl (cI, 7, .inl (fun _ => 0)))]) [0, 1] rfl
  have hDc := hD.sub (ws' := [(h0, zM 0 0 1 (.ref k0) a4 a10 a11), (k0, .inl (cI, 7, .inl (fun _ => 0)))]) [0, 1] (by decide) rfl
  have hKc := hK.sub (tys' := [(cI, .int)]) [0] rfl
  have hFc := va_free (wc := [(h0, zM 0 0 1 (.ref k0) a4 a10 a11), (k0, .inl (cI, 7, .inl (fun _ => 0)))]) hD hS hA [0, 1] rfl
  refine va_calli (va_runV (As := [.int 5]) (rest := [.long 1268243683639]) ⟨hx, hb, hml, hown, hts⟩ (c_X1_counted l dC dI h0 k0 cI 5 (zx_in rfl) a4 a10 a11 H.size) (cwV 1 hts gX1_digest_X1_counted rfl rfl rfl (by decide +kernel) ⟨Nat.le_of_ble_eq_true rfl, Nat.le_of_ble_eq_true rfl⟩) ⟨zx_blind, va_recv hKc hPc (ci := 1) (q0 := 0) rfl rfl, fun U hU hW => ⟨rfl, zx_go hPc hKc hDc hZ hS hFc hU hW⟩⟩ rfl rfl hl.1 rfl (lv_room (Nat.le_of_ble_eq_true rfl)) dX1_digest_24 ⟨Nat.le_of_ble_eq_true rfl, Nat.le_of_ble_eq_true rfl⟩) hS (fun q _ h => hFc q h) hFc (fun r u t H1 locs ht hvm hw hB hz1 hk1 hS => ?_)
  obtain ⟨hP1, hK1, hD1⟩ := hB
  rw [ht] at hP1
  have hK1 := va_K.moved hvm.symm hK1
  try dsimp only at hw hP1 hD1 hK1
  obtain ⟨hP, hD⟩ := va_join (wr := []) (w1 := [(h0, zM 0 0 1 (.ref k0) a4 a10 a11), (k0, .inl (cI, 7, .inl (fun _ => 0)))]) hP hD [0, 1] [] rfl rfl (by decide) (by decide) hk1 hFc hP1 hD1
  generalize H1 = H at hP hS ⊢
  have hP : va_P (dC, dI) vwCl [(h0, zM 0 0 1 (.ref k0) a4 a10 a11), (k0, .inl (cI, 7, .inl (fun _ => 0)))] H := hP
  have hD : va_D A [(h0, zM 0 0 1 (.ref k0) a4 a10 a11), (k0, .inl (cI, 7, .inl (fun _ => 0)))] := hD
  refine W.widen (k := 6) (n := 54) (by omega) (by omega) ?_
  obtain rfl : r = (-1) := hw.trans (by decide)
  refine lv_i2l (v := (-1)) hx hb dX1_digest_27 (by decide) ?_
  refine lv_ladd hx hb dX1_digest_28 ?_
  refine lv_topl (fun z18 ez18 => ?_)
  obtain rfl : z18 = 1268243683638 := ez18.trans (by decide +kernel)
  refine lv_lstore_n (lv' := [(1, .long 1268243683638), (3, .int 5), (0, .ref h0)]) hx hb dX1_digest_29 rfl hl (by decide) rfl (fun ls hl => ?_)
  refine lv_iinc (v := 6) (lv' := [(3, .int 6), (1, .long 1268243683638), (0, .ref h0)]) hx hb dX1_digest_30 hl (k := 1) rfl (by decide) (by decide) rfl (fun ls hl => ?_)
  refine lv_goto (tgt := 11) hx hb dX1_digest_33 (by decide) ?_
  refine lv_iload_n hx hb dX1_digest_11 rfl (lv_at hl 0 rfl) ?_
  refine lv_bipush (v := 8) hx hb dX1_digest_12 (by decide) ?_
  refine lv_icmp_gt (tgt := 36) hx hb dX1_digest_14 (by decide) (fun c19 => absurd c19 (by decide)) (fun _ => ?_)
  refine lv_lload_n hx hb dX1_digest_17 rfl (lv_at hl 1 rfl) ?_
  refine lv_ldc2 (v := 31) hx hb hown (hts (.constantLong RX1 110 (31)) (by decide +kernel)) dX1_digest_18 ?_
  refine lv_lmul hx hb dX1_digest_21 ?_
  refine lv_topl (fun z20 ez20 => ?_)
  obtain rfl : z20 = 39315554192778 := ez20.trans (by decide +kernel)
  refine lv_aload_n hx hb dX1_digest_22 rfl (lv_at hl 2 rfl) ?_
  refine lv_iload_n hx hb dX1_digest_23 rfl (lv_at hl 0 rfl) ?_
  have hPc := hP.sub (ws' := [(h0, zM 0 0 1 (.ref k0) a4 a10 a11), (k0, .inl (cI, 7, .inl (fun _ => 0)))]) [0, 1] rfl
  have hDc := hD.sub (ws' := [(h0, zM 0 0 1 (.ref k0) a4 a10 a11), (k0, .inl (cI, 7, .inl (fun _ => 0)))]) [0, 1] (by decide) rfl
  have hKc := hK.sub (tys' := [(cI, .int)]) [0] rfl
  have hFc := va_free (wc := [(h0, zM 0 0 1 (.ref k0) a4 a10 a11), (k0, .inl (cI, 7, .inl (fun _ => 0)))]) hD hS hA [0, 1] rfl
  refine va_calli (va_runV (As := [.int 6]) (rest := [.long 39315554192778]) ⟨hx, hb, hml, hown, hts⟩ (c_X1_counted l dC dI h0 k0 cI 6 (zx_in rfl) a4 a10 a11 H.size) (cwV 1 hts gX1_digest_X1_counted rfl rfl rfl (by decide +kernel) ⟨Nat.le_of_ble_eq_true rfl, Nat.le_of_ble_eq_true rfl⟩) ⟨zx_blind, va_recv hKc hPc (ci := 1) (q0 := 0) rfl rfl, fun U hU hW => ⟨rfl, zx_go hPc hKc hDc hZ hS hFc hU hW⟩⟩ rfl rfl hl.1 rfl (lv_room (Nat.le_of_ble_eq_true rfl)) dX1_digest_24 ⟨Nat.le_of_ble_eq_true rfl, Nat.le_of_ble_eq_true rfl⟩) hS (fun q _ h => hFc q h) hFc (fun r u t H1 locs ht hvm hw hB hz1 hk1 hS => ?_)
  obtain ⟨hP1, hK1, hD1⟩ := hB
  rw [ht] at hP1
  have hK1 := va_K.moved hvm.symm hK1
  try dsimp only at hw hP1 hD1 hK1
  obtain ⟨hP, hD⟩ := va_join (wr := []) (w1 := [(h0, zM 0 0 1 (.ref k0) a4 a10 a11), (k0, .inl (cI, 7, .inl (fun _ => 0)))]) hP hD [0, 1] [] rfl rfl (by decide) (by decide) hk1 hFc hP1 hD1
  generalize H1 = H at hP hS ⊢
  have hP : va_P (dC, dI) vwCl [(h0, zM 0 0 1 (.ref k0) a4 a10 a11), (k0, .inl (cI, 7, .inl (fun _ => 0)))] H := hP
  have hD : va_D A [(h0, zM 0 0 1 (.ref k0) a4 a10 a11), (k0, .inl (cI, 7, .inl (fun _ => 0)))] := hD
  refine W.widen (k := 7) (n := 63) (by omega) (by omega) ?_
  obtain rfl : r = (-1) := hw.trans (by decide)
  refine lv_i2l (v := (-1)) hx hb dX1_digest_27 (by decide) ?_
  refine lv_ladd hx hb dX1_digest_28 ?_
  refine lv_topl (fun z21 ez21 => ?_)
  obtain rfl : z21 = 39315554192777 := ez21.trans (by decide +kernel)
  refine lv_lstore_n (lv' := [(1, .long 39315554192777), (3, .int 6), (0, .ref h0)]) hx hb dX1_digest_29 rfl hl (by decide) rfl (fun ls hl => ?_)
  refine lv_iinc (v := 7) (lv' := [(3, .int 7), (1, .long 39315554192777), (0, .ref h0)]) hx hb dX1_digest_30 hl (k := 1) rfl (by decide) (by decide) rfl (fun ls hl => ?_)
  refine lv_goto (tgt := 11) hx hb dX1_digest_33 (by decide) ?_
  refine lv_iload_n hx hb dX1_digest_11 rfl (lv_at hl 0 rfl) ?_
  refine lv_bipush (v := 8) hx hb dX1_digest_12 (by decide) ?_
  refine lv_icmp_gt (tgt := 36) hx hb dX1_digest_14 (by decide) (fun c22 => absurd c22 (by decide)) (fun _ => ?_)
  refine lv_lload_n hx hb dX1_digest_17 rfl (lv_at hl 1 rfl) ?_
  refine lv_ldc2 (v := 31) hx hb hown (hts (.constantLong RX1 110 (31)) (by decide +kernel)) dX1_digest_18 ?_
  refine lv_lmul hx hb dX1_digest_21 ?_
  refine lv_topl (fun z23 ez23 => ?_)
  obtain rfl : z23 = 1218782179976087 := ez23.trans (by decide +kernel)
  refine lv_aload_n hx hb dX1_digest_22 rfl (lv_at hl 2 rfl) ?_
  refine lv_iload_n hx hb dX1_digest_23 rfl (lv_at hl 0 rfl) ?_
  have hPc := hP.sub (ws' := [(h0, zM 0 0 1 (.ref k0) a4 a10 a11), (k0, .inl (cI, 7, .inl (fun _ => 0)))]) [0, 1] rfl
  have hDc := hD.sub (ws' := [(h0, zM 0 0 1 (.ref k0) a4 a10 a11), (k0, .inl (cI, 7, .inl (fun _ => 0)))]) [0, 1] (by decide) rfl
  have hKc := hK.sub (tys' := [(cI, .int)]) [0] rfl
  have hFc := va_free (wc := [(h0, zM 0 0 1 (.ref k0) a4 a10 a11), (k0, .inl (cI, 7, .inl (fun _ => 0)))]) hD hS hA [0, 1] rfl
  refine va_calli (va_runV (As := [.int 7]) (rest := [.long 1218782179976087]) ⟨hx, hb, hml, hown, hts⟩ (c_X1_counted l dC dI h0 k0 cI 7 (zx_in rfl) a4 a10 a11 H.size) (cwV 1 hts gX1_digest_X1_counted rfl rfl rfl (by decide +kernel) ⟨Nat.le_of_ble_eq_true rfl, Nat.le_of_ble_eq_true rfl⟩) ⟨zx_blind, va_recv hKc hPc (ci := 1) (q0 := 0) rfl rfl, fun U hU hW => ⟨rfl, zx_go hPc hKc hDc hZ hS hFc hU hW⟩⟩ rfl rfl hl.1 rfl (lv_room (Nat.le_of_ble_eq_true rfl)) dX1_digest_24 ⟨Nat.le_of_ble_eq_true rfl, Nat.le_of_ble_eq_true rfl⟩) hS (fun q _ h => hFc q h) hFc (fun r u t H1 locs ht hvm hw hB hz1 hk1 hS => ?_)
  obtain ⟨hP1, hK1, hD1⟩ := hB
  rw [ht] at hP1
  have hK1 := va_K.moved hvm.symm hK1
  try dsimp only at hw hP1 hD1 hK1
  obtain ⟨hP, hD⟩ := va_join (wr := []) (w1 := [(h0, zM 0 0 1 (.ref k0) a4 a10 a11), (k0, .inl (cI, 7, .inl (fun _ => 0)))]) hP hD [0, 1] [] rfl rfl (by decide) (by decide) hk1 hFc hP1 hD1
  generalize H1 = H at hP hS ⊢
  have hP : va_P (dC, dI) vwCl [(h0, zM 0 0 1 (.ref k0) a4 a10 a11), (k0, .inl (cI, 7, .inl (fun _ => 0)))] H := hP
  have hD : va_D A [(h0, zM 0 0 1 (.ref k0) a4 a10 a11), (k0, .inl (cI, 7, .inl (fun _ => 0)))] := hD
  refine W.widen (k := 8) (n := 72) (by omega) (by omega) ?_
  obtain rfl : r = (-1) := hw.trans (by decide)
  refine lv_i2l (v := (-1)) hx hb dX1_digest_27 (by decide) ?_
  refine lv_ladd hx hb dX1_digest_28 ?_
  refine lv_topl (fun z24 ez24 => ?_)
  obtain rfl : z24 = 1218782179976086 := ez24.trans (by decide +kernel)
  refine lv_lstore_n (lv' := [(1, .long 1218782179976086), (3, .int 7), (0, .ref h0)]) hx hb dX1_digest_29 rfl hl (by decide) rfl (fun ls hl => ?_)
  refine lv_iinc (v := 8) (lv' := [(3, .int 8), (1, .long 1218782179976086), (0, .ref h0)]) hx hb dX1_digest_30 hl (k := 1) rfl (by decide) (by decide) rfl (fun ls hl => ?_)
  refine lv_goto (tgt := 11) hx hb dX1_digest_33 (by decide) ?_
  refine lv_iload_n hx hb dX1_digest_11 rfl (lv_at hl 0 rfl) ?_
  refine lv_bipush (v := 8) hx hb dX1_digest_12 (by decide) ?_
  refine lv_icmp_gt (tgt := 36) hx hb dX1_digest_14 (by decide) (fun c25 => absurd c25 (by decide)) (fun _ => ?_)
  refine lv_lload_n hx hb dX1_digest_17 rfl (lv_at hl 1 rfl) ?_
  refine lv_ldc2 (v := 31) hx hb hown (hts (.constantLong RX1 110 (31)) (by decide +kernel)) dX1_digest_18 ?_
  refine lv_lmul hx hb dX1_digest_21 ?_
  refine lv_topl (fun z26 ez26 => ?_)
  obtain rfl : z26 = 37782247579258666 := ez26.trans (by decide +kernel)
  refine lv_aload_n hx hb dX1_digest_22 rfl (lv_at hl 2 rfl) ?_
  refine lv_iload_n hx hb dX1_digest_23 rfl (lv_at hl 0 rfl) ?_
  have hPc := hP.sub (ws' := [(h0, zM 0 0 1 (.ref k0) a4 a10 a11), (k0, .inl (cI, 7, .inl (fun _ => 0)))]) [0, 1] rfl
  have hDc := hD.sub (ws' := [(h0, zM 0 0 1 (.ref k0) a4 a10 a11), (k0, .inl (cI, 7, .inl (fun _ => 0)))]) [0, 1] (by decide) rfl
  have hKc := hK.sub (tys' := [(cI, .int)]) [0] rfl
  have hFc := va_free (wc := [(h0, zM 0 0 1 (.ref k0) a4 a10 a11), (k0, .inl (cI, 7, .inl (fun _ => 0)))]) hD hS hA [0, 1] rfl
  refine va_calli (va_runV (As := [.int 8]) (rest := [.long 37782247579258666]) ⟨hx, hb, hml, hown, hts⟩ (c_X1_counted l dC dI h0 k0 cI 8 (zx_in rfl) a4 a10 a11 H.size) (cwV 1 hts gX1_digest_X1_counted rfl rfl rfl (by decide +kernel) ⟨Nat.le_of_ble_eq_true rfl, Nat.le_of_ble_eq_true rfl⟩) ⟨zx_blind, va_recv hKc hPc (ci := 1) (q0 := 0) rfl rfl, fun U hU hW => ⟨rfl, zx_go hPc hKc hDc hZ hS hFc hU hW⟩⟩ rfl rfl hl.1 rfl (lv_room (Nat.le_of_ble_eq_true rfl)) dX1_digest_24 ⟨Nat.le_of_ble_eq_true rfl, Nat.le_of_ble_eq_true rfl⟩) hS (fun q _ h => hFc q h) hFc (fun r u t H1 locs ht hvm hw hB hz1 hk1 hS => ?_)
  obtain ⟨hP1, hK1, hD1⟩ := hB
  rw [ht] at hP1
  have hK1 := va_K.moved hvm.symm hK1
  try dsimp only at hw hP1 hD1 hK1
  obtain ⟨hP, hD⟩ := va_join (wr := []) (w1 := [(h0, zM 0 0 1 (.ref k0) a4 a10 a11), (k0, .inl (cI, 7, .inl (fun _ => 0)))]) hP hD [0, 1] [] rfl rfl (by decide) (by decide) hk1 hFc hP1 hD1
  generalize H1 = H at hP hS ⊢
  have hP : va_P (dC, dI) vwCl [(h0, zM 0 0 1 (.ref k0) a4 a10 a11), (k0, .inl (cI, 7, .inl (fun _ => 0)))] H := hP
  have hD : va_D A [(h0, zM 0 0 1 (.ref k0) a4 a10 a11), (k0, .inl (cI, 7, .inl (fun _ => 0)))] := hD
  refine W.widen (k := 9) (n := 81) (by omega) (by omega) ?_
  obtain rfl : r = (-1) := hw.trans (by decide)
  refine lv_i2l (v := (-1)) hx hb dX1_digest_27 (by decide) ?_
  refine lv_ladd hx hb dX1_digest_28 ?_
  refine lv_topl (fun z27 ez27 => ?_)
  obtain rfl : z27 = 37782247579258665 := ez27.trans (by decide +kernel)
  refine lv_lstore_n (lv' := [(1, .long 37782247579258665), (3, .int 8), (0, .ref h0)]) hx hb dX1_digest_29 rfl hl (by decide) rfl (fun ls hl => ?_)
  refine lv_iinc (v := 9) (lv' := [(3, .int 9), (1, .long 37782247579258665), (0, .ref h0)]) hx hb dX1_digest_30 hl (k := 1) rfl (by decide) (by decide) rfl (fun ls hl => ?_)
  refine lv_goto (tgt := 11) hx hb dX1_digest_33 (by decide) ?_
  refine lv_iload_n hx hb dX1_digest_11 rfl (lv_at hl 0 rfl) ?_
  refine lv_bipush (v := 8) hx hb dX1_digest_12 (by decide) ?_
  refine lv_icmp_gt (tgt := 36) hx hb dX1_digest_14 (by decide) (fun _ => ?_) (fun c28 => absurd (by decide) c28)
  refine lv_iconst (v := 0) hx hb dX1_digest_36 (by decide) ?_
  refine lv_istore_n (lv' := [(3, .int 0), (1, .long 37782247579258665), (0, .ref h0)]) hx hb dX1_digest_37 rfl hl (by decide) rfl (fun ls hl => ?_)
  refine lv_iload_n hx hb dX1_digest_38 rfl (lv_at hl 0 rfl) ?_
  refine lv_aload_n hx hb dX1_digest_39 rfl (lv_at hl 2 rfl) ?_
  refine va_get (D := (dC, dI)) (ci := 1) (v := .int 0) (C := RX1) (T := TX1) (N := 12) hx hb hts (by decide +kernel) hown hK hP 0 rfl rfl 1 (by decide) (hts (.fieldLink RX1 40 "LiarTentsModel" "generals" "I") (by decide +kernel)) (fun _ h9 => h9) rfl dX1_digest_40 ?_
  refine lv_icmp_ge (tgt := 82) hx hb dX1_digest_43 (by decide) (fun _ => ?_) (fun c29 => absurd (by decide) c29)
  refine lv_iconst (v := 0) hx hb dX1_digest_82 (by decide) ?_
  refine lv_istore_n (lv' := [(3, .int 0), (1, .long 37782247579258665), (0, .ref h0)]) hx hb dX1_digest_83 rfl hl (by decide) rfl (fun ls hl => ?_)
  refine lv_iload_n hx hb dX1_digest_84 rfl (lv_at hl 0 rfl) ?_
  refine lv_aload_n hx hb dX1_digest_85 rfl (lv_at hl 2 rfl) ?_
  refine va_get (D := (dC, dI)) (ci := 1) (v := .int 0) (C := RX1) (T := TX1) (N := 12) hx hb hts (by decide +kernel) hown hK hP 0 rfl rfl 6 (by decide) (hts (.fieldLink RX1 84 "LiarTentsModel" "there" "I") (by decide +kernel)) (fun _ h9 => h9) rfl dX1_digest_86 ?_
  refine lv_icmp_ge (tgt := 112) hx hb dX1_digest_89 (by decide) (fun _ => ?_) (fun c30 => absurd (by decide) c30)
  refine lv_iconst (v := 0) hx hb dX1_digest_112 (by decide) ?_
  refine lv_istore_n (lv' := [(3, .int 0), (1, .long 37782247579258665), (0, .ref h0)]) hx hb dX1_digest_113 rfl hl (by decide) rfl (fun ls hl => ?_)
  refine lv_iload_n hx hb dX1_digest_114 rfl (lv_at hl 0 rfl) ?_
  refine lv_aload_n hx hb dX1_digest_115 rfl (lv_at hl 2 rfl) ?_
  refine va_get (D := (dC, dI)) (ci := 1) (v := .int 0) (C := RX1) (T := TX1) (N := 12) hx hb hts (by decide +kernel) hown hK hP 0 rfl rfl 1 (by decide) (hts (.fieldLink RX1 40 "LiarTentsModel" "generals" "I") (by decide +kernel)) (fun _ h9 => h9) rfl dX1_digest_116 ?_
  refine lv_icmp_ge (tgt := 170) hx hb dX1_digest_119 (by decide) (fun _ => ?_) (fun c31 => absurd (by decide) c31)
  refine lv_lload_n hx hb dX1_digest_170 rfl (lv_at hl 1 rfl) ?_
  have hP9 := hP.sub (ws' := [(h0, zM 0 0 1 (.ref k0) a4 a10 a11), (k0, .inl (cI, 7, .inl (fun _ => 0)))]) [0, 1] rfl
  have hD9 := hD.sub (ws' := [(h0, zM 0 0 1 (.ref k0) a4 a10 a11), (k0, .inl (cI, 7, .inl (fun _ => 0)))]) [0, 1] (by decide) rfl
  have hK9 := hK.sub (tys' := [(cI, .int)]) [0] rfl
  refine W.widen (k := 9) (n := 81) (by omega) (by omega) ?_
  exact W.lret (v := 37782247579258665) hx hb hr (fun t ht hW => ⟨⟨37782247579258665, (), rfl, rfl, by rw [ht]; exact hP9, va_K.moved hW.alike hK9, hD9⟩, hS.F ht⟩) hS.2.2 dX1_digest_171
set_option maxHeartbeats 4000000 in
set_option maxRecDepth 100000 in
/-- mean of the reference -/
theorem c_X1_mean (l : Launch) (dC : Nat → ClassId) (dI : Nat → Nat → Nat) (h0 o0 : Nat) (rr : Nat → Nat) (cI cO : ClassId) (a3 a10 a11 : Value) (sz : Nat) : Met l yX1_mean wsX1_mean ({ frames := 9, cells := 0, slots := 0, locals := 180 }) (va_Pc [.ref h0] (zx_pre (dC, dI) [(h0, zM 0 0 1 a3 (.ref o0) a10 a11), (o0, .inl (cO, 7, .inr (.inr (.inr (.inr (fun i => if i < 7 then some (rr i) else none)))))), (rr 0, .inl (cI, 3, .inl (fun _ => 0))), (rr 1, .inl (cI, 3, .inl (fun _ => 0))), (rr 2, .inl (cI, 3, .inl (fun _ => 0))), (rr 3, .inl (cI, 3, .inl (fun _ => 0))), (rr 4, .inl (cI, 3, .inl (fun _ => 0))), (rr 5, .inl (cI, 3, .inl (fun _ => 0))), (rr 6, .inl (cI, 3, .inl (fun _ => 0)))] [(cI, .int), (cO, .array .int)] sz)) (va_Qd (fun (r : UInt64) (u : Unit) => r = FP.dconst0) (fun (u : Unit) => zx_at (dC, dI) [(h0, zM 0 0 1 a3 (.ref o0) a10 a11), (o0, .inl (cO, 7, .inr (.inr (.inr (.inr (fun i => if i < 7 then some (rr i) else none)))))), (rr 0, .inl (cI, 3, .inl (fun _ => 0))), (rr 1, .inl (cI, 3, .inl (fun _ => 0))), (rr 2, .inl (cI, 3, .inl (fun _ => 0))), (rr 3, .inl (cI, 3, .inl (fun _ => 0))), (rr 4, .inl (cI, 3, .inl (fun _ => 0))), (rr 5, .inl (cI, 3, .inl (fun _ => 0))), (rr 6, .inl (cI, 3, .inl (fun _ => 0)))] [(cI, .int), (cO, .array .int)] (va_A [(h0, zM 0 0 1 a3 (.ref o0) a10 a11), (o0, .inl (cO, 7, .inr (.inr (.inr (.inr (fun i => if i < 7 then some (rr i) else none)))))), (rr 0, .inl (cI, 3, .inl (fun _ => 0))), (rr 1, .inl (cI, 3, .inl (fun _ => 0))), (rr 2, .inl (cI, 3, .inl (fun _ => 0))), (rr 3, .inl (cI, 3, .inl (fun _ => 0))), (rr 4, .inl (cI, 3, .inl (fun _ => 0))), (rr 5, .inl (cI, 3, .inl (fun _ => 0))), (rr 6, .inl (cI, 3, .inl (fun _ => 0)))] sz)) (va_A [(h0, zM 0 0 1 a3 (.ref o0) a10 a11), (o0, .inl (cO, 7, .inr (.inr (.inr (.inr (fun i => if i < 7 then some (rr i) else none)))))), (rr 0, .inl (cI, 3, .inl (fun _ => 0))), (rr 1, .inl (cI, 3, .inl (fun _ => 0))), (rr 2, .inl (cI, 3, .inl (fun _ => 0))), (rr 3, .inl (cI, 3, .inl (fun _ => 0))), (rr 4, .inl (cI, 3, .inl (fun _ => 0))), (rr 5, .inl (cI, 3, .inl (fun _ => 0))), (rr 6, .inl (cI, 3, .inl (fun _ => 0)))] sz)) 0 0 (va_A [(h0, zM 0 0 1 a3 (.ref o0) a10 a11), (o0, .inl (cO, 7, .inr (.inr (.inr (.inr (fun i => if i < 7 then some (rr i) else none)))))), (rr 0, .inl (cI, 3, .inl (fun _ => 0))), (rr 1, .inl (cI, 3, .inl (fun _ => 0))), (rr 2, .inl (cI, 3, .inl (fun _ => 0))), (rr 3, .inl (cI, 3, .inl (fun _ => 0))), (rr 4, .inl (cI, 3, .inl (fun _ => 0))), (rr 5, .inl (cI, 3, .inl (fun _ => 0))), (rr 6, .inl (cI, 3, .inl (fun _ => 0)))] sz) := by
  refine Met.ofW (cc := cX1_mean) (maxL := 6) (ret := (some .double)) (by decide) rfl ?_
  intro p e s m args below meth c s₁ B hml hv
  obtain ⟨rfl, hsz, hP, hK, hD0, hZ⟩ := hv
  have hx := B.exec
  have hb := B.bytes
  have hr := B.returns
  have hts := atoms_spec (ws := wsX1_mean) B.pre
  have hown : s.vm.findClass RX1 = some m.cls := findClass_of_methodNamed B.named
  have hlocks := B.notSynchronized
  subst hsz
  have hD := hD0.self (sz := s.heap.size)
  generalize hAe : va_A [(h0, zM 0 0 1 a3 (.ref o0) a10 a11), (o0, .inl (cO, 7, .inr (.inr (.inr (.inr (fun i => if i < 7 then some (rr i) else none)))))), (rr 0, .inl (cI, 3, .inl (fun _ => 0))), (rr 1, .inl (cI, 3, .inl (fun _ => 0))), (rr 2, .inl (cI, 3, .inl (fun _ => 0))), (rr 3, .inl (cI, 3, .inl (fun _ => 0))), (rr 4, .inl (cI, 3, .inl (fun _ => 0))), (rr 5, .inl (cI, 3, .inl (fun _ => 0))), (rr 6, .inl (cI, 3, .inl (fun _ => 0)))] s.heap.size = A at hD hZ ⊢
  have hA : ∀ q : Nat, s.heap.size ≤ q → A q := fun q h => by rw [← hAe]; exact Or.inr h
  have hS : va_S A s.heap s.heap [] := va_S.rf
  have hP : va_P (dC, dI) vwCl [(h0, zM 0 0 1 a3 (.ref o0) a10 a11), (o0, .inl (cO, 7, .inr (.inr (.inr (.inr (fun i => if i < 7 then some (rr i) else none)))))), (rr 0, .inl (cI, 3, .inl (fun _ => 0))), (rr 1, .inl (cI, 3, .inl (fun _ => 0))), (rr 2, .inl (cI, 3, .inl (fun _ => 0))), (rr 3, .inl (cI, 3, .inl (fun _ => 0))), (rr 4, .inl (cI, 3, .inl (fun _ => 0))), (rr 5, .inl (cI, 3, .inl (fun _ => 0))), (rr 6, .inl (cI, 3, .inl (fun _ => 0)))] s.heap := hP
  have hl := lv_entry ([.ref h0]) (n := 6) (Nat.le_of_ble_eq_true rfl)
  rw [lg_entry_eq]
  generalize (lg_sl ([.ref h0]) ++ List.replicate (6 - (lg_sl ([.ref h0])).length) Slot.unset).toArray = ls at hl ⊢
  have hl : lv_has ls 6 [(0, .ref h0)] := hl
  refine lv_aload_n hx hb dX1_mean_0 rfl (lv_at hl 0 rfl) ?_
  refine lv_iconst (v := 0) hx hb dX1_mean_1 (by decide) ?_
  refine va_put (D := (dC, dI)) (ci := 1) (v := .int 0) (ty := .int) (C := RX1) (T := TX1) (N := 12) hx hb hts (by decide +kernel) tyX1 tyX1_ok nmX1 hown hK hP hD hS 0 rfl rfl 0 (by decide) (hts (.fieldLink RX1 37 "LiarTentsModel" "thrown" "I") (by decide +kernel)) (fun _ h9 => h9) rfl (by decide +kernel) rfl rfl (Nat.le_of_ble_eq_true rfl) dX1_mean_2 (fun H locs hP hD hS => ?_)
  have hP : va_P (dC, dI) vwCl [(h0, zM 0 0 1 a3 (.ref o0) a10 a11), (o0, .inl (cO, 7, .inr (.inr (.inr (.inr (fun i => if i < 7 then some (rr i) else none)))))), (rr 0, .inl (cI, 3, .inl (fun _ => 0))), (rr 1, .inl (cI, 3, .inl (fun _ => 0))), (rr 2, .inl (cI, 3, .inl (fun _ => 0))), (rr 3, .inl (cI, 3, .inl (fun _ => 0))), (rr 4, .inl (cI, 3, .inl (fun _ => 0))), (rr 5, .inl (cI, 3, .inl (fun _ => 0))), (rr 6, .inl (cI, 3, .inl (fun _ => 0)))] H := hP
  have hD : va_D A [(h0, zM 0 0 1 a3 (.ref o0) a10 a11), (o0, .inl (cO, 7, .inr (.inr (.inr (.inr (fun i => if i < 7 then some (rr i) else none)))))), (rr 0, .inl (cI, 3, .inl (fun _ => 0))), (rr 1, .inl (cI, 3, .inl (fun _ => 0))), (rr 2, .inl (cI, 3, .inl (fun _ => 0))), (rr 3, .inl (cI, 3, .inl (fun _ => 0))), (rr 4, .inl (cI, 3, .inl (fun _ => 0))), (rr 5, .inl (cI, 3, .inl (fun _ => 0))), (rr 6, .inl (cI, 3, .inl (fun _ => 0)))] := hD
  refine lv_iconst (v := 0) hx hb dX1_mean_5 (by decide) ?_
  refine lv_istore_n (lv' := [(1, .int 0), (0, .ref h0)]) hx hb dX1_mean_6 rfl hl (by decide) rfl (fun ls hl => ?_)
  refine lv_aload_n hx hb dX1_mean_7 rfl (lv_at hl 1 rfl) ?_
  refine va_get (D := (dC, dI)) (ci := 1) (v := .ref o0) (C := RX1) (T := TX1) (N := 12) hx hb hts (by decide +kernel) hown hK hP 0 rfl rfl 4 (by decide) (hts (.fieldLink RX1 19 "LiarTentsModel" "often" "[[I") (by decide +kernel)) (fun _ h9 => h9) rfl dX1_mean_8 ?_
  refine lv_astore_n (lv' := [(2, .ref o0), (1, .int 0), (0, .ref h0)]) hx hb dX1_mean_11 rfl hl (by decide) rfl (fun ls hl => ?_)
  refine lv_aload_n hx hb dX1_mean_12 rfl (lv_at hl 0 rfl) ?_
  refine va_alen (v := 7) hx hb hK hP 1 1 rfl rfl rfl dX1_mean_13 ?_
  refine lv_istore_n (lv' := [(3, .int 7), (2, .ref o0), (1, .int 0), (0, .ref h0)]) hx hb dX1_mean_14 rfl hl (by decide) rfl (fun ls hl => ?_)
  refine lv_iconst (v := 0) hx hb dX1_mean_15 (by decide) ?_
  refine lv_istore (lv' := [(4, .int 0), (3, .int 7), (2, .ref o0), (1, .int 0), (0, .ref h0)]) hx hb dX1_mean_16 hl (by decide) rfl (fun ls hl => ?_)
  refine lv_iload hx hb dX1_mean_18 (lv_at hl 0 rfl) ?_
  refine lv_iload_n hx hb dX1_mean_20 rfl (lv_at hl 1 rfl) ?_
  refine lv_icmp_ge (tgt := 43) hx hb dX1_mean_21 (by decide) (fun c1 => absurd c1 (by decide)) (fun _ => ?_)
  refine lv_aload_n hx hb dX1_mean_24 rfl (lv_at hl 2 rfl) ?_
  refine lv_iload hx hb dX1_mean_25 (lv_at hl 0 rfl) ?_
  refine zx_aldA hx hb hK hP 1 1 rfl rfl (zx_in rfl) dX1_mean_27 ?_
  refine W.eq (g2 := F0 m 28 ls (.ref (rr 0) :: [])) rfl ?_
  refine lv_astore (lv' := [(5, .ref (rr 0)), (4, .int 0), (3, .int 7), (2, .ref o0), (1, .int 0), (0, .ref h0)]) hx hb dX1_mean_28 hl (by decide) rfl (fun ls hl => ?_)
  refine lv_iload_n hx hb dX1_mean_30 rfl (lv_at hl 4 rfl) ?_
  refine lv_aload hx hb dX1_mean_31 (lv_at hl 0 rfl) ?_
  refine lv_iconst (v := 0) hx hb dX1_mean_33 (by decide) ?_
  refine va_iald hx hb hK hP 2 0 rfl rfl (zx_in rfl) dX1_mean_34 ?_
  refine lv_topi (fun z2 ez2 => ?_)
  obtain rfl : z2 = 0 := ez2.trans rfl
  refine lv_iadd hx hb dX1_mean_35 ?_
  refine lv_topi (fun z3 ez3 => ?_)
  obtain rfl : z3 = 0 := ez3.trans (by decide)
  refine lv_istore_n (lv' := [(1, .int 0), (5, .ref (rr 0)), (4, .int 0), (3, .int 7), (2, .ref o0), (0, .ref h0)]) hx hb dX1_mean_36 rfl hl (by decide) rfl (fun ls hl => ?_)
  refine lv_iinc (v := 1) (lv' := [(4, .int 1), (1, .int 0), (5, .ref (rr 0)), (3, .int 7), (2, .ref o0), (0, .ref h0)]) hx hb dX1_mean_37 hl (k := 2) rfl (by decide) (by decide) rfl (fun ls hl => ?_)
  refine lv_goto (tgt := 18) hx hb dX1_mean_40 (by decide) ?_
  refine lv_iload hx hb dX1_mean_18 (lv_at hl 0 rfl) ?_
  refine lv_iload_n hx hb dX1_mean_20 rfl (lv_at hl 3 rfl) ?_
  refine lv_icmp_ge (tgt := 43) hx hb dX1_mean_21 (by decide) (fun c4 => absurd c4 (by decide)) (fun _ => ?_)
  refine lv_aload_n hx hb dX1_mean_24 rfl (lv_at hl 4 rfl) ?_
  refine lv_iload hx hb dX1_mean_25 (lv_at hl 0 rfl) ?_
  refine zx_aldA hx hb hK hP 1 1 rfl rfl (zx_in rfl) dX1_mean_27 ?_
  refine W.eq (g2 := F0 m 28 ls (.ref (rr 1) :: [])) rfl ?_
  refine lv_astore (lv' := [(5, .ref (rr 1)), (4, .int 1), (1, .int 0), (3, .int 7), (2, .ref o0), (0, .ref h0)]) hx hb dX1_mean_28 hl (by decide) rfl (fun ls hl => ?_)
  refine lv_iload_n hx hb dX1_mean_30 rfl (lv_at hl 2 rfl) ?_
  refine lv_aload hx hb dX1_mean_31 (lv_at hl 0 rfl) ?_
  refine lv_iconst (v := 0) hx hb dX1_mean_33 (by decide) ?_
  refine va_iald hx hb hK hP 3 0 rfl rfl (zx_in rfl) dX1_mean_34 ?_
  refine lv_topi (fun z5 ez5 => ?_)
  obtain rfl : z5 = 0 := ez5.trans rfl
  refine lv_iadd hx hb dX1_mean_35 ?_
  refine lv_topi (fun z6 ez6 => ?_)
  obtain rfl : z6 = 0 := ez6.trans (by decide)
  refine lv_istore_n (lv' := [(1, .int 0), (5, .ref (rr 1)), (4, .int 1), (3, .int 7), (2, .ref o0), (0, .ref h0)]) hx hb dX1_mean_36 rfl hl (by decide) rfl (fun ls hl => ?_)
  refine lv_iinc (v := 2) (lv' := [(4, .int 2), (1, .int 0), (5, .ref (rr 1)), (3, .int 7), (2, .ref o0), (0, .ref h0)]) hx hb dX1_mean_37 hl (k := 2) rfl (by decide) (by decide) rfl (fun ls hl => ?_)
  refine lv_goto (tgt := 18) hx hb dX1_mean_40 (by decide) ?_
  refine lv_iload hx hb dX1_mean_18 (lv_at hl 0 rfl) ?_
  refine lv_iload_n hx hb dX1_mean_20 rfl (lv_at hl 3 rfl) ?_
  refine lv_icmp_ge (tgt := 43) hx hb dX1_mean_21 (by decide) (fun c7 => absurd c7 (by decide)) (fun _ => ?_)
  refine lv_aload_n hx hb dX1_mean_24 rfl (lv_at hl 4 rfl) ?_
  refine lv_iload hx hb dX1_mean_25 (lv_at hl 0 rfl) ?_
  refine zx_aldA hx hb hK hP 1 1 rfl rfl (zx_in rfl) dX1_mean_27 ?_
  refine W.eq (g2 := F0 m 28 ls (.ref (rr 2) :: [])) rfl ?_
  refine lv_astore (lv' := [(5, .ref (rr 2)), (4, .int 2), (1, .int 0), (3, .int 7), (2, .ref o0), (0, .ref h0)]) hx hb dX1_mean_28 hl (by decide) rfl (fun ls hl => ?_)
  refine lv_iload_n hx hb dX1_mean_30 rfl (lv_at hl 2 rfl) ?_
  refine lv_aload hx hb dX1_mean_31 (lv_at hl 0 rfl) ?_
  refine lv_iconst (v := 0) hx hb dX1_mean_33 (by decide) ?_
  refine va_iald hx hb hK hP 4 0 rfl rfl (zx_in rfl) dX1_mean_34 ?_
  refine lv_topi (fun z8 ez8 => ?_)
  obtain rfl : z8 = 0 := ez8.trans rfl
  refine lv_iadd hx hb dX1_mean_35 ?_
  refine lv_topi (fun z9 ez9 => ?_)
  obtain rfl : z9 = 0 := ez9.trans (by decide)
  refine lv_istore_n (lv' := [(1, .int 0), (5, .ref (rr 2)), (4, .int 2), (3, .int 7), (2, .ref o0), (0, .ref h0)]) hx hb dX1_mean_36 rfl hl (by decide) rfl (fun ls hl => ?_)
  refine lv_iinc (v := 3) (lv' := [(4, .int 3), (1, .int 0), (5, .ref (rr 2)), (3, .int 7), (2, .ref o0), (0, .ref h0)]) hx hb dX1_mean_37 hl (k := 2) rfl (by decide) (by decide) rfl (fun ls hl => ?_)
  refine lv_goto (tgt := 18) hx hb dX1_mean_40 (by decide) ?_
  refine lv_iload hx hb dX1_mean_18 (lv_at hl 0 rfl) ?_
  refine lv_iload_n hx hb dX1_mean_20 rfl (lv_at hl 3 rfl) ?_
  refine lv_icmp_ge (tgt := 43) hx hb dX1_mean_21 (by decide) (fun c10 => absurd c10 (by decide)) (fun _ => ?_)
  refine lv_aload_n hx hb dX1_mean_24 rfl (lv_at hl 4 rfl) ?_
  refine lv_iload hx hb dX1_mean_25 (lv_at hl 0 rfl) ?_
  refine zx_aldA hx hb hK hP 1 1 rfl rfl (zx_in rfl) dX1_mean_27 ?_
  refine W.eq (g2 := F0 m 28 ls (.ref (rr 3) :: [])) rfl ?_
  refine lv_astore (lv' := [(5, .ref (rr 3)), (4, .int 3), (1, .int 0), (3, .int 7), (2, .ref o0), (0, .ref h0)]) hx hb dX1_mean_28 hl (by decide) rfl (fun ls hl => ?_)
  refine lv_iload_n hx hb dX1_mean_30 rfl (lv_at hl 2 rfl) ?_
  refine lv_aload hx hb dX1_mean_31 (lv_at hl 0 rfl) ?_
  refine lv_iconst (v := 0) hx hb dX1_mean_33 (by decide) ?_
  refine va_iald hx hb hK hP 5 0 rfl rfl (zx_in rfl) dX1_mean_34 ?_
  refine lv_topi (fun z11 ez11 => ?_)
  obtain rfl : z11 = 0 := ez11.trans rfl
  refine lv_iadd hx hb dX1_mean_35 ?_
  refine lv_topi (fun z12 ez12 => ?_)
  obtain rfl : z12 = 0 := ez12.trans (by decide)
  refine lv_istore_n (lv' := [(1, .int 0), (5, .ref (rr 3)), (4, .int 3), (3, .int 7), (2, .ref o0), (0, .ref h0)]) hx hb dX1_mean_36 rfl hl (by decide) rfl (fun ls hl => ?_)
  refine lv_iinc (v := 4) (lv' := [(4, .int 4), (1, .int 0), (5, .ref (rr 3)), (3, .int 7), (2, .ref o0), (0, .ref h0)]) hx hb dX1_mean_37 hl (k := 2) rfl (by decide) (by decide) rfl (fun ls hl => ?_)
  refine lv_goto (tgt := 18) hx hb dX1_mean_40 (by decide) ?_
  refine lv_iload hx hb dX1_mean_18 (lv_at hl 0 rfl) ?_
  refine lv_iload_n hx hb dX1_mean_20 rfl (lv_at hl 3 rfl) ?_
  refine lv_icmp_ge (tgt := 43) hx hb dX1_mean_21 (by decide) (fun c13 => absurd c13 (by decide)) (fun _ => ?_)
  refine lv_aload_n hx hb dX1_mean_24 rfl (lv_at hl 4 rfl) ?_
  refine lv_iload hx hb dX1_mean_25 (lv_at hl 0 rfl) ?_
  refine zx_aldA hx hb hK hP 1 1 rfl rfl (zx_in rfl) dX1_mean_27 ?_
  refine W.eq (g2 := F0 m 28 ls (.ref (rr 4) :: [])) rfl ?_
  refine lv_astore (lv' := [(5, .ref (rr 4)), (4, .int 4), (1, .int 0), (3, .int 7), (2, .ref o0), (0, .ref h0)]) hx hb dX1_mean_28 hl (by decide) rfl (fun ls hl => ?_)
  refine lv_iload_n hx hb dX1_mean_30 rfl (lv_at hl 2 rfl) ?_
  refine lv_aload hx hb dX1_mean_31 (lv_at hl 0 rfl) ?_
  refine lv_iconst (v := 0) hx hb dX1_mean_33 (by decide) ?_
  refine va_iald hx hb hK hP 6 0 rfl rfl (zx_in rfl) dX1_mean_34 ?_
  refine lv_topi (fun z14 ez14 => ?_)
  obtain rfl : z14 = 0 := ez14.trans rfl
  refine lv_iadd hx hb dX1_mean_35 ?_
  refine lv_topi (fun z15 ez15 => ?_)
  obtain rfl : z15 = 0 := ez15.trans (by decide)
  refine lv_istore_n (lv' := [(1, .int 0), (5, .ref (rr 4)), (4, .int 4), (3, .int 7), (2, .ref o0), (0, .ref h0)]) hx hb dX1_mean_36 rfl hl (by decide) rfl (fun ls hl => ?_)
  refine lv_iinc (v := 5) (lv' := [(4, .int 5), (1, .int 0), (5, .ref (rr 4)), (3, .int 7), (2, .ref o0), (0, .ref h0)]) hx hb dX1_mean_37 hl (k := 2) rfl (by decide) (by decide) rfl (fun ls hl => ?_)
  refine lv_goto (tgt := 18) hx hb dX1_mean_40 (by decide) ?_
  refine lv_iload hx hb dX1_mean_18 (lv_at hl 0 rfl) ?_
  refine lv_iload_n hx hb dX1_mean_20 rfl (lv_at hl 3 rfl) ?_
  refine lv_icmp_ge (tgt := 43) hx hb dX1_mean_21 (by decide) (fun c16 => absurd c16 (by decide)) (fun _ => ?_)
  refine lv_aload_n hx hb dX1_mean_24 rfl (lv_at hl 4 rfl) ?_
  refine lv_iload hx hb dX1_mean_25 (lv_at hl 0 rfl) ?_
  refine zx_aldA hx hb hK hP 1 1 rfl rfl (zx_in rfl) dX1_mean_27 ?_
  refine W.eq (g2 := F0 m 28 ls (.ref (rr 5) :: [])) rfl ?_
  refine lv_astore (lv' := [(5, .ref (rr 5)), (4, .int 5), (1, .int 0), (3, .int 7), (2, .ref o0), (0, .ref h0)]) hx hb dX1_mean_28 hl (by decide) rfl (fun ls hl => ?_)
  refine lv_iload_n hx hb dX1_mean_30 rfl (lv_at hl 2 rfl) ?_
  refine lv_aload hx hb dX1_mean_31 (lv_at hl 0 rfl) ?_
  refine lv_iconst (v := 0) hx hb dX1_mean_33 (by decide) ?_
  refine va_iald hx hb hK hP 7 0 rfl rfl (zx_in rfl) dX1_mean_34 ?_
  refine lv_topi (fun z17 ez17 => ?_)
  obtain rfl : z17 = 0 := ez17.trans rfl
  refine lv_iadd hx hb dX1_mean_35 ?_
  refine lv_topi (fun z18 ez18 => ?_)
  obtain rfl : z18 = 0 := ez18.trans (by decide)
  refine lv_istore_n (lv' := [(1, .int 0), (5, .ref (rr 5)), (4, .int 5), (3, .int 7), (2, .ref o0), (0, .ref h0)]) hx hb dX1_mean_36 rfl hl (by decide) rfl (fun ls hl => ?_)
  refine lv_iinc (v := 6) (lv' := [(4, .int 6), (1, .int 0), (5, .ref (rr 5)), (3, .int 7), (2, .ref o0), (0, .ref h0)]) hx hb dX1_mean_37 hl (k := 2) rfl (by decide) (by decide) rfl (fun ls hl => ?_)
  refine lv_goto (tgt := 18) hx hb dX1_mean_40 (by decide) ?_
  refine lv_iload hx hb dX1_mean_18 (lv_at hl 0 rfl) ?_
  refine lv_iload_n hx hb dX1_mean_20 rfl (lv_at hl 3 rfl) ?_
  refine lv_icmp_ge (tgt := 43) hx hb dX1_mean_21 (by decide) (fun c19 => absurd c19 (by decide)) (fun _ => ?_)
  refine lv_aload_n hx hb dX1_mean_24 rfl (lv_at hl 4 rfl) ?_
  refine lv_iload hx hb dX1_mean_25 (lv_at hl 0 rfl) ?_
  refine zx_aldA hx hb hK hP 1 1 rfl rfl (zx_in rfl) dX1_mean_27 ?_
  refine W.eq (g2 := F0 m 28 ls (.ref (rr 6) :: [])) rfl ?_
  refine lv_astore (lv' := [(5, .ref (rr 6)), (4, .int 6), (1, .int 0), (3, .int 7), (2, .ref o0), (0, .ref h0)]) hx hb dX1_mean_28 hl (by decide) rfl (fun ls hl => ?_)
  refine lv_iload_n hx hb dX1_mean_30 rfl (lv_at hl 2 rfl) ?_
  refine lv_aload hx hb dX1_mean_31 (lv_at hl 0 rfl) ?_
  refine lv_iconst (v := 0) hx hb dX1_mean_33 (by decide) ?_
  refine va_iald hx hb hK hP 8 0 rfl rfl (zx_in rfl) dX1_mean_34 ?_
  refine lv_topi (fun z20 ez20 => ?_)
  obtain rfl : z20 = 0 := ez20.trans rfl
  refine lv_iadd hx hb dX1_mean_35 ?_
  refine lv_topi (fun z21 ez21 => ?_)
  obtain rfl : z21 = 0 := ez21.trans (by decide)
  refine lv_istore_n (lv' := [(1, .int 0), (5, .ref (rr 6)), (4, .int 6), (3, .int 7), (2, .ref o0), (0, .ref h0)]) hx hb dX1_mean_36 rfl hl (by decide) rfl (fun ls hl => ?_)
  refine lv_iinc (v := 7) (lv' := [(4, .int 7), (1, .int 0), (5, .ref (rr 6)), (3, .int 7), (2, .ref o0), (0, .ref h0)]) hx hb dX1_mean_37 hl (k := 2) rfl (by decide) (by decide) rfl (fun ls hl => ?_)
  refine lv_goto (tgt := 18) hx hb dX1_mean_40 (by decide) ?_
  refine lv_iload hx hb dX1_mean_18 (lv_at hl 0 rfl) ?_
  refine lv_iload_n hx hb dX1_mean_20 rfl (lv_at hl 3 rfl) ?_
  refine lv_icmp_ge (tgt := 43) hx hb dX1_mean_21 (by decide) (fun _ => ?_) (fun c22 => absurd (by decide) c22)
  refine lv_aload_n hx hb dX1_mean_43 rfl (lv_at hl 5 rfl) ?_
  refine va_get (D := (dC, dI)) (ci := 1) (v := .int 0) (C := RX1) (T := TX1) (N := 12) hx hb hts (by decide +kernel) hown hK hP 0 rfl rfl 5 (by decide) (hts (.fieldLink RX1 87 "LiarTentsModel" "councils" "I") (by decide +kernel)) (fun _ h9 => h9) rfl dX1_mean_44 ?_
  refine lv_if_ne (tgt := 54) hx hb dX1_mean_47 (by decide) (fun c23 => absurd c23 (by decide)) (fun _ => ?_)
  refine lv_dconst0 hx hb dX1_mean_50 ?_
  refine lv_goto (tgt := 62) hx hb dX1_mean_51 (by decide) ?_
  have hP9 := hP.sub (ws' := [(h0, zM 0 0 1 a3 (.ref o0) a10 a11), (o0, .inl (cO, 7, .inr (.inr (.inr (.inr (fun i => if i < 7 then some (rr i) else none)))))), (rr 0, .inl (cI, 3, .inl (fun _ => 0))), (rr 1, .inl (cI, 3, .inl (fun _ => 0))), (rr 2, .inl (cI, 3, .inl (fun _ => 0))), (rr 3, .inl (cI, 3, .inl (fun _ => 0))), (rr 4, .inl (cI, 3, .inl (fun _ => 0))), (rr 5, .inl (cI, 3, .inl (fun _ => 0))), (rr 6, .inl (cI, 3, .inl (fun _ => 0)))]) [0, 1, 2, 3, 4, 5, 6, 7, 8] rfl
  have hD9 := hD.sub (ws' := [(h0, zM 0 0 1 a3 (.ref o0) a10 a11), (o0, .inl (cO, 7, .inr (.inr (.inr (.inr (fun i => if i < 7 then some (rr i) else none)))))), (rr 0, .inl (cI, 3, .inl (fun _ => 0))), (rr 1, .inl (cI, 3, .inl (fun _ => 0))), (rr 2, .inl (cI, 3, .inl (fun _ => 0))), (rr 3, .inl (cI, 3, .inl (fun _ => 0))), (rr 4, .inl (cI, 3, .inl (fun _ => 0))), (rr 5, .inl (cI, 3, .inl (fun _ => 0))), (rr 6, .inl (cI, 3, .inl (fun _ => 0)))]) [0, 1, 2, 3, 4, 5, 6, 7, 8] (by decide) rfl
  have hK9 := hK.sub (tys' := [(cI, .int), (cO, .array .int)]) [0, 1] rfl
  refine W.widen (k := 0) (n := 0) (by omega) (by omega) ?_
  exact W.dret (v := FP.dconst0) hx hb hr (fun t ht hW => ⟨⟨FP.dconst0, (), rfl, rfl, by rw [ht]; exact hP9, va_K.moved hW.alike hK9, hD9⟩, hS.F ht⟩) hS.2.2 dX1_mean_62
