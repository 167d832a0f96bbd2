set_option maxHeartbeats 4000000 in
set_option maxRecDepth 100000 in
/-- digest of a new camp -/
theorem c_X0_digest (l : Launch) (dC : Nat → ClassId) (dI : Nat → Nat → Nat) (h0 : Nat) (v : Nat → Value) (sz : Nat) : Met l yX0_digest wsX0_digest ({ frames := 10, cells := 0, slots := 0, locals := 240 }) (va_Pc [.ref h0] (zx_pre (dC, dI) [(h0, zX 0 1 v)] [] sz)) (va_Ql (fun (r : Int64) (u : Unit) => r = 37782247579258665) (fun (u : Unit) => zx_at (dC, dI) [(h0, zX 0 1 v)] [] (va_A [(h0, zX 0 1 v)] sz)) (va_A [(h0, zX 0 1 v)] sz)) 0 0 (va_A [(h0, zX 0 1 v)] sz) := by
  refine Met.ofW (cc := cX0_digest) (maxL := 5) (ret := (some .long)) (by decide) rfl ?_
  intro p e s m args below meth c s₁ B hml hv
  obtain ⟨rfl, hsz, hP, hK, hD0, hZ⟩ := hv
  have hx := B.exec
  have hb := B.bytes
  have hr := B.returns
  have hts := atoms_spec (ws := wsX0_digest) B.pre
  have hown : s.vm.findClass RX0 = some m.cls := findClass_of_methodNamed B.named
  have hlocks := B.notSynchronized
  subst hsz
  have hD := hD0.self (sz := s.heap.size)
  generalize hAe : va_A [(h0, zX 0 1 v)] s.heap.size = A at hD hZ ⊢
  have hA : ∀ q : Nat, s.heap.size ≤ q → A q := fun q h => by rw [← hAe]; exact Or.inr h
  have hS : va_S A s.heap s.heap [] := va_S.rf
  have hP : va_P (dC, dI) vwCl [(h0, zX 0 1 v)] s.heap := hP
  have hl := lv_entry ([.ref h0]) (n := 5) (Nat.le_of_ble_eq_true rfl)
  rw [lg_entry_eq]
  generalize (lg_sl ([.ref h0]) ++ List.replicate (5 - (lg_sl ([.ref h0])).length) Slot.unset).toArray = ls at hl ⊢
  have hl : lv_has ls 5 [(0, .ref h0)] := hl
  refine lv_ldc2 (v := 1429) hx hb hown (hts (.constantLong RX0 139 (1429)) (by decide +kernel)) dX0_digest_0 ?_
  refine lv_lstore_n (lv' := [(1, .long 1429), (0, .ref h0)]) hx hb dX0_digest_3 rfl hl (by decide) rfl (fun ls hl => ?_)
  refine lv_iconst (v := 0) hx hb dX0_digest_4 (by decide) ?_
  refine lv_istore_n (lv' := [(3, .int 0), (1, .long 1429), (0, .ref h0)]) hx hb dX0_digest_5 rfl hl (by decide) rfl (fun ls hl => ?_)
  refine lv_iload_n hx hb dX0_digest_6 rfl (lv_at hl 0 rfl) ?_
  refine lv_bipush (v := 8) hx hb dX0_digest_7 (by decide) ?_
  refine lv_icmp_gt (tgt := 29) hx hb dX0_digest_9 (by decide) (fun c1 => absurd c1 (by decide)) (fun _ => ?_)
  refine lv_lload_n hx hb dX0_digest_12 rfl (lv_at hl 1 rfl) ?_
  refine lv_aload_n hx hb dX0_digest_13 rfl (lv_at hl 2 rfl) ?_
  refine lv_iload_n hx hb dX0_digest_14 rfl (lv_at hl 0 rfl) ?_
  have hPc := hP.sub (ws' := [(h0, zX 0 1 v)]) [0] rfl
  have hDc := hD.sub (ws' := [(h0, zX 0 1 v)]) [0] (by decide) rfl
  have hKc := hK.sub (tys' := []) [] rfl
  have hFc := va_free (wc := [(h0, zX 0 1 v)]) hD hS hA [0] rfl
  refine va_calli (va_runV (As := [.int 0]) (rest := [.long 1429]) ⟨hx, hb, hml, hown, hts⟩ (c_X0_counted l dC dI h0 v 0 s.heap.size) (cwV 1 hts gX0_digest_X0_counted rfl rfl rfl (by decide +kernel) ⟨Nat.le_of_ble_eq_true rfl, Nat.le_of_ble_eq_true rfl⟩) ⟨zx_blind, va_recv hKc hPc (ci := 0) (q0 := 0) rfl rfl, fun U hU hW => ⟨rfl, zx_go hPc hKc hDc hZ hS hFc hU hW⟩⟩ rfl rfl hl.1 rfl (lv_room (Nat.le_of_ble_eq_true rfl)) dX0_digest_15 ⟨Nat.le_of_ble_eq_true rfl, Nat.le_of_ble_eq_true rfl⟩) hS (fun q _ h => hFc q h) hFc (fun r u t H1 locs ht hvm hw hB hz1 hk1 hS => ?_)
  obtain ⟨hP1, hK1, hD1⟩ := hB
  rw [ht] at hP1
  have hK1 := va_K.moved hvm.symm hK1
  try dsimp only at hw hP1 hD1 hK1
  obtain ⟨hP, hD⟩ := va_join (wr := []) (w1 := [(h0, zX 0 1 v)]) hP hD [0] [] rfl rfl (by decide) (by decide) hk1 hFc hP1 hD1
  generalize H1 = H at hP hS ⊢
  have hP : va_P (dC, dI) vwCl [(h0, zX 0 1 v)] H := hP
  have hD : va_D A [(h0, zX 0 1 v)] := hD
  obtain rfl : r = 0 := hw.trans (by decide)
  refine lv_i2l (v := 0) hx hb dX0_digest_18 (by decide) ?_
  have hPc := hP.sub (ws' := []) [] rfl
  have hDc := hD.sub (ws' := []) [] (by decide) rfl
  have hKc := hK.sub (tys' := []) [] rfl
  have hFc := va_free (wc := []) hD hS hA [] rfl
  refine va_calll (va_runS (As := [.long 1429, .long 0]) (rest := []) ⟨hx, hb, hml, hown, hts⟩ (c_X0_mixed l dC dI 1429 0 H.size) (va_cwS 2 hts gX0_digest_X0_mixed rfl rfl rfl (by decide +kernel) ⟨Nat.le_of_ble_eq_true rfl, Nat.le_of_ble_eq_true rfl⟩) ⟨zx_blind, fun U hU hW => ⟨rfl, zx_go hPc hKc hDc hZ hS hFc hU hW⟩⟩ rfl rfl hl.1 rfl (lv_room (Nat.le_of_ble_eq_true rfl)) dX0_digest_19 ⟨Nat.le_of_ble_eq_true rfl, Nat.le_of_ble_eq_true rfl⟩) hS (fun q _ h => hFc q h) hFc (fun r u t H1 locs ht hvm hw hB hz1 hk1 hS => ?_)
  obtain ⟨hP1, hK1, hD1⟩ := hB
  rw [ht] at hP1
  have hK1 := va_K.moved hvm.symm hK1
  try dsimp only at hw hP1 hD1 hK1
  obtain ⟨hP, hD⟩ := va_join (wr := [(h0, zX 0 1 v)]) (w1 := []) hP hD [] [0] rfl rfl (by decide) (by decide) hk1 hFc hP1 hD1
  generalize H1 = H at hP hS ⊢
  have hP : va_P (dC, dI) vwCl [(h0, zX 0 1 v)] H := hP
  have hD : va_D A [(h0, zX 0 1 v)] := hD
  obtain rfl : r = 44299 := hw.trans (by decide +kernel)
  refine lv_lstore_n (lv' := [(1, .long 44299), (3, .int 0), (0, .ref h0)]) hx hb dX0_digest_22 rfl hl (by decide) rfl (fun ls hl => ?_)
  refine lv_iinc (v := 1) (lv' := [(3, .int 1), (1, .long 44299), (0, .ref h0)]) hx hb dX0_digest_23 hl (k := 1) rfl (by decide) (by decide) rfl (fun ls hl => ?_)
  refine lv_goto (tgt := 6) hx hb dX0_digest_26 (by decide) ?_
  refine lv_iload_n hx hb dX0_digest_6 rfl (lv_at hl 0 rfl) ?_
  refine lv_bipush (v := 8) hx hb dX0_digest_7 (by decide) ?_
  refine lv_icmp_gt (tgt := 29) hx hb dX0_digest_9 (by decide) (fun c2 => absurd c2 (by decide)) (fun _ => ?_)
  refine lv_lload_n hx hb dX0_digest_12 rfl (lv_at hl 1 rfl) ?_
  refine lv_aload_n hx hb dX0_digest_13 rfl (lv_at hl 2 rfl) ?_
  refine lv_iload_n hx hb dX0_digest_14 rfl (lv_at hl 0 rfl) ?_
  have hPc := hP.sub (ws' := [(h0, zX 0 1 v)]) [0] rfl
  have hDc := hD.sub (ws' := [(h0, zX 0 1 v)]) [0] (by decide) rfl
  have hKc := hK.sub (tys' := []) [] rfl
  have hFc := va_free (wc := [(h0, zX 0 1 v)]) hD hS hA [0] rfl
  refine va_calli (va_runV (As := [.int 1]) (rest := [.long 44299]) ⟨hx, hb, hml, hown, hts⟩ (c_X0_counted l dC dI h0 v 1 H.size) (cwV 1 hts gX0_digest_X0_counted rfl rfl rfl (by decide +kernel) ⟨Nat.le_of_ble_eq_true rfl, Nat.le_of_ble_eq_true rfl⟩) ⟨zx_blind, va_recv hKc hPc (ci := 0) (q0 := 0) rfl rfl, fun U hU hW => ⟨rfl, zx_go hPc hKc hDc hZ hS hFc hU hW⟩⟩ rfl rfl hl.1 rfl (lv_room (Nat.le_of_ble_eq_true rfl)) dX0_digest_15 ⟨Nat.le_of_ble_eq_true rfl, Nat.le_of_ble_eq_true rfl⟩) hS (fun q _ h => hFc q h) hFc (fun r u t H1 locs ht hvm hw hB hz1 hk1 hS => ?_)
  obtain ⟨hP1, hK1, hD1⟩ := hB
  rw [ht] at hP1
  have hK1 := va_K.moved hvm.symm hK1
  try dsimp only at hw hP1 hD1 hK1
  obtain ⟨hP, hD⟩ := va_join (wr := []) (w1 := [(h0, zX 0 1 v)]) hP hD [0] [] rfl rfl (by decide) (by decide) hk1 hFc hP1 hD1
  generalize H1 = H at hP hS ⊢
  have hP : va_P (dC, dI) vwCl [(h0, zX 0 1 v)] H := hP
  have hD : va_D A [(h0, zX 0 1 v)] := hD
  obtain rfl : r = 1 := hw.trans (by decide)
  refine lv_i2l (v := 1) hx hb dX0_digest_18 (by decide) ?_
  have hPc := hP.sub (ws' := []) [] rfl
  have hDc := hD.sub (ws' := []) [] (by decide) rfl
  have hKc := hK.sub (tys' := []) [] rfl
  have hFc := va_free (wc := []) hD hS hA [] rfl
  refine va_calll (va_runS (As := [.long 44299, .long 1]) (rest := []) ⟨hx, hb, hml, hown, hts⟩ (c_X0_mixed l dC dI 44299 1 H.size) (va_cwS 2 hts gX0_digest_X0_mixed rfl rfl rfl (by decide +kernel) ⟨Nat.le_of_ble_eq_true rfl, Nat.le_of_ble_eq_true rfl⟩) ⟨zx_blind, fun U hU hW => ⟨rfl, zx_go hPc hKc hDc hZ hS hFc hU hW⟩⟩ rfl rfl hl.1 rfl (lv_room (Nat.le_of_ble_eq_true rfl)) dX0_digest_19 ⟨Nat.le_of_ble_eq_true rfl, Nat.le_of_ble_eq_true rfl⟩) hS (fun q _ h => hFc q h) hFc (fun r u t H1 locs ht hvm hw hB hz1 hk1 hS => ?_)
  obtain ⟨hP1, hK1, hD1⟩ := hB
  rw [ht] at hP1
  have hK1 := va_K.moved hvm.symm hK1
  try dsimp only at hw hP1 hD1 hK1
  obtain ⟨hP, hD⟩ := va_join (wr := [(h0, zX 0 1 v)]) (w1 := []) hP hD [] [0] rfl rfl (by decide) (by decide) hk1 hFc hP1 hD1
  generalize H1 = H at hP hS ⊢
  have hP : va_P (dC, dI) vwCl [(h0, zX 0 1 v)] H := hP
  have hD : va_D A [(h0, zX 0 1 v)] := hD
  obtain rfl : r = 1373270 := hw.trans (by decide +kernel)
  refine lv_lstore_n (lv' := [(1, .long 1373270), (3, .int 1), (0, .ref h0)]) hx hb dX0_digest_22 rfl hl (by decide) rfl (fun ls hl => ?_)
  refine lv_iinc (v := 2) (lv' := [(3, .int 2), (1, .long 1373270), (0, .ref h0)]) hx hb dX0_digest_23 hl (k := 1) rfl (by decide) (by decide) rfl (fun ls hl => ?_)
  refine lv_goto (tgt := 6) hx hb dX0_digest_26 (by decide) ?_
  refine lv_iload_n hx hb dX0_digest_6 rfl (lv_at hl 0 rfl) ?_
  refine lv_bipush (v := 8) hx hb dX0_digest_7 (by decide) ?_
  refine lv_icmp_gt (tgt := 29) hx hb dX0_digest_9 (by decide) (fun c3 => absurd c3 (by decide)) (fun _ => ?_)
  refine lv_lload_n hx hb dX0_digest_12 rfl (lv_at hl 1 rfl) ?_
  refine lv_aload_n hx hb dX0_digest_13 rfl (lv_at hl 2 rfl) ?_
  refine lv_iload_n hx hb dX0_digest_14 rfl (lv_at hl 0 rfl) ?_
  have hPc := hP.sub (ws' := [(h0, zX 0 1 v)]) [0] rfl
  have hDc := hD.sub (ws' := [(h0, zX 0 1 v)]) [0] (by decide) rfl
  have hKc := hK.sub (tys' := []) [] rfl
  have hFc := va_free (wc := [(h0, zX 0 1 v)]) hD hS hA [0] rfl
  refine va_calli (va_runV (As := [.int 2]) (rest := [.long 1373270]) ⟨hx, hb, hml, hown, hts⟩ (c_X0_counted l dC dI h0 v 2 H.size) (cwV 1 hts gX0_digest_X0_counted rfl rfl rfl (by decide +kernel) ⟨Nat.le_of_ble_eq_true rfl, Nat.le_of_ble_eq_true rfl⟩) ⟨zx_blind, va_recv hKc hPc (ci := 0) (q0 := 0) rfl rfl, fun U hU hW => ⟨rfl, zx_go hPc hKc hDc hZ hS hFc hU hW⟩⟩ rfl rfl hl.1 rfl (lv_room (Nat.le_of_ble_eq_true rfl)) dX0_digest_15 ⟨Nat.le_of_ble_eq_true rfl, Nat.le_of_ble_eq_true rfl⟩) hS (fun q _ h => hFc q h) hFc (fun r u t H1 locs ht hvm hw hB hz1 hk1 hS => ?_)
  obtain ⟨hP1, hK1, hD1⟩ := hB
  rw [ht] at hP1
  have hK1 := va_K.moved hvm.symm hK1
  try dsimp only at hw hP1 hD1 hK1
  obtain ⟨hP, hD⟩ := va_join (wr := []) (w1 := [(h0, zX 0 1 v)]) hP hD [0] [] rfl rfl (by decide) (by decide) hk1 hFc hP1 hD1
  generalize H1 = H at hP hS ⊢
  have hP : va_P (dC, dI) vwCl [(h0, zX 0 1 v)] H := hP
  have hD : va_D A [(h0, zX 0 1 v)] := hD
  obtain rfl : r = 0 := hw.trans (by decide)
  refine lv_i2l (v := 0) hx hb dX0_digest_18 (by decide) ?_
  have hPc := hP.sub (ws' := []) [] rfl
  have hDc := hD.sub (ws' := []) [] (by decide) rfl
  have hKc := hK.sub (tys' := []) [] rfl
  have hFc := va_free (wc := []) hD hS hA [] rfl
  refine va_calll (va_runS (As := [.long 1373270, .long 0]) (rest := []) ⟨hx, hb, hml, hown, hts⟩ (c_X0_mixed l dC dI 1373270 0 H.size) (va_cwS 2 hts gX0_digest_X0_mixed rfl rfl rfl (by decide +kernel) ⟨Nat.le_of_ble_eq_true rfl, Nat.le_of_ble_eq_true rfl⟩) ⟨zx_blind, fun U hU hW => ⟨rfl, zx_go hPc hKc hDc hZ hS hFc hU hW⟩⟩ rfl rfl hl.1 rfl (lv_room (Nat.le_of_ble_eq_true rfl)) dX0_digest_19 ⟨Nat.le_of_ble_eq_true rfl, Nat.le_of_ble_eq_true rfl⟩) hS (fun q _ h => hFc q h) hFc (fun r u t H1 locs ht hvm hw hB hz1 hk1 hS => ?_)
  obtain ⟨hP1, hK1, hD1⟩ := hB
  rw [ht] at hP1
  have hK1 := va_K.moved hvm.symm hK1
  try dsimp only at hw hP1 hD1 hK1
  obtain ⟨hP, hD⟩ := va_join (wr := [(h0, zX 0 1 v)]) (w1 := []) hP hD [] [0] rfl rfl (by decide) (by decide) hk1 hFc hP1 hD1
  generalize H1 = H at hP hS ⊢
  have hP : va_P (dC, dI) vwCl [(h0, zX 0 1 v)] H := hP
  have hD : va_D A [(h0, zX 0 1 v)] := hD
  obtain rfl : r = 42571370 := hw.trans (by decide +kernel)
  refine lv_lstore_n (lv' := [(1, .long 42571370), (3, .int 2), (0, .ref h0)]) hx hb dX0_digest_22 rfl hl (by decide) rfl (fun ls hl => ?_)
  refine lv_iinc (v := 3) (lv' := [(3, .int 3), (1, .long 42571370), (0, .ref h0)]) hx hb dX0_digest_23 hl (k := 1) rfl (by decide) (by decide) rfl (fun ls hl => ?_)
  refine lv_goto (tgt := 6) hx hb dX0_digest_26 (by decide) ?_
  refine lv_iload_n hx hb dX0_digest_6 rfl (lv_at hl 0 rfl) ?_
  refine lv_bipush (v := 8) hx hb dX0_digest_7 (by decide) ?_
  refine lv_icmp_gt (tgt := 29) hx hb dX0_digest_9 (by decide) (fun c4 => absurd c4 (by decide)) (fun _ => ?_)
  refine lv_lload_n hx hb dX0_digest_12 rfl (lv_at hl 1 rfl) ?_
  refine lv_aload_n hx hb dX0_digest_13 rfl (lv_at hl 2 rfl) ?_
  refine lv_iload_n hx hb dX0_digest_14 rfl (lv_at hl 0 rfl) ?_
  have hPc := hP.sub (ws' := [(h0, zX 0 1 v)]) [0] rfl
  have hDc := hD.sub (ws' := [(h0, zX 0 1 v)]) [0] (by decide) rfl
  have hKc := hK.sub (tys' := []) [] rfl
  have hFc := va_free (wc := [(h0, zX 0 1 v)]) hD hS hA [0] rfl
  refine va_calli (va_runV (As := [.int 3]) (rest := [.long 42571370]) ⟨hx, hb, hml, hown, hts⟩ (c_X0_counted l dC dI h0 v 3 H.size) (cwV 1 hts gX0_digest_X0_counted rfl rfl rfl (by decide +kernel) ⟨Nat.le_of_ble_eq_true rfl, Nat.le_of_ble_eq_true rfl⟩) ⟨zx_blind, va_recv hKc hPc (ci := 0) (q0 := 0) rfl rfl, fun U hU hW => ⟨rfl, zx_go hPc hKc hDc hZ hS hFc hU hW⟩⟩ rfl rfl hl.1 rfl (lv_room (Nat.le_of_ble_eq_true rfl)) dX0_digest_15 ⟨Nat.le_of_ble_eq_true rfl, Nat.le_of_ble_eq_true rfl⟩) hS (fun q _ h => hFc q h) hFc (fun r u t H1 locs ht hvm hw hB hz1 hk1 hS => ?_)
  obtain ⟨hP1, hK1, hD1⟩ := hB
  rw [ht] at hP1
  have hK1 := va_K.moved hvm.symm hK1
  try dsimp only at hw hP1 hD1 hK1
  obtain ⟨hP, hD⟩ := va_join (wr := []) (w1 := [(h0, zX 0 1 v)]) hP hD [0] [] rfl rfl (by decide) (by decide) hk1 hFc hP1 hD1
  generalize H1 = H at hP hS ⊢
  have hP : va_P (dC, dI) vwCl [(h0, zX 0 1 v)] H := hP
  have hD : va_D A [(h0, zX 0 1 v)] := hD
  obtain rfl : r = 0 := hw.trans (by decide)
  refine lv_i2l (v := 0) hx hb dX0_digest_18 (by decide) ?_
  have hPc := hP.sub (ws' := []) [] rfl
  have hDc := hD.sub (ws' := []) [] (by decide) rfl
  have hKc := hK.sub (tys' := []) [] rfl
  have hFc := va_free (wc := []) hD hS hA [] rfl
  refine va_calll (va_runS (As := [.long 42571370, .long 0]) (rest := []) ⟨hx, hb, hml, hown, hts⟩ (c_X0_mixed l dC dI 42571370 0 H.size) (va_cwS 2 hts gX0_digest_X0_mixed rfl rfl rfl (by decide +kernel) ⟨Nat.le_of_ble_eq_true rfl, Nat.le_of_ble_eq_true rfl⟩) ⟨zx_blind, fun U hU hW => ⟨rfl, zx_go hPc hKc hDc hZ hS hFc hU hW⟩⟩ rfl rfl hl.1 rfl (lv_room (Nat.le_of_ble_eq_true rfl)) dX0_digest_19 ⟨Nat.le_of_ble_eq_true rfl, Nat.le_of_ble_eq_true rfl⟩) hS (fun q _ h => hFc q h) hFc (fun r u t H1 locs ht hvm hw hB hz1 hk1 hS => ?_)
  obtain ⟨hP1, hK1, hD1⟩ := hB
  rw [ht] at hP1
  have hK1 := va_K.moved hvm.symm hK1
  try dsimp only at hw hP1 hD1 hK1
  obtain ⟨hP, hD⟩ := va_join (wr := [(h0, zX 0 1 v)]) (w1 := []) hP hD [] [0] rfl rfl (by decide) (by decide) hk1 hFc hP1 hD1
  generalize H1 = H at hP hS ⊢
  have hP : va_P (dC, dI) vwCl [(h0, zX 0 1 v)] H := hP
  have hD : va_D A [(h0, zX 0 1 v)] := hD
  obtain rfl : r = 1319712470 := hw.trans (by decide +kernel)
  refine lv_lstore_n (lv' := [(1, .long 1319712470), (3, .int 3), (0, .ref h0)]) hx hb dX0_digest_22 rfl hl (by decide) rfl (fun ls hl => ?_)
  refine lv_iinc (v := 4) (lv' := [(3, .int 4), (1, .long 1319712470), (0, .ref h0)]) hx hb dX0_digest_23 hl (k := 1) rfl (by decide) (by decide) rfl (fun ls hl => ?_)
  refine lv_goto (tgt := 6) hx hb dX0_digest_26 (by decide) ?_
  refine lv_iload_n hx hb dX0_digest_6 rfl (lv_at hl 0 rfl) ?_
  refine lv_bipush (v := 8) hx hb dX0_digest_7 (by decide) ?_
  refine lv_icmp_gt (tgt := 29) hx hb dX0_digest_9 (by decide) (fun c5 => absurd c5 (by decide)) (fun _ => ?_)
  refine lv_lload_n hx hb dX0_digest_12 rfl (lv_at hl 1 rfl) ?_
  refine lv_aload_n hx hb dX0_digest_13 rfl (lv_at hl 2 rfl) ?_
  refine lv_iload_n hx hb dX0_digest_14 rfl (lv_at hl 0 rfl) ?_
  have hPc := hP.sub (ws' := [(h0, zX 0 1 v)]) [0] rfl
  have hDc := hD.sub (ws' := [(h0, zX 0 1 v)]) [0] (by decide) rfl
  have hKc := hK.sub (tys' := []) [] rfl
  have hFc := va_free (wc := [(h0, zX 0 1 v)]) hD hS hA [0] rfl
  refine va_calli (va_runV (As := [.int 4]) (rest := [.long 1319712470]) ⟨hx, hb, hml, hown, hts⟩ (c_X0_counted l dC dI h0 v 4 H.size) (cwV 1 hts gX0_digest_X0_counted rfl rfl rfl (by decide +kernel) ⟨Nat.le_of_ble_eq_true rfl, Nat.le_of_ble_eq_true rfl⟩) ⟨zx_blind, va_recv hKc hPc (ci := 0) (q0 := 0) rfl rfl, fun U hU hW => ⟨rfl, zx_go hPc hKc hDc hZ hS hFc hU hW⟩⟩ rfl rfl hl.1 rfl (lv_room (Nat.le_of_ble_eq_true rfl)) dX0_digest_15 ⟨Nat.le_of_ble_eq_true rfl, Nat.le_of_ble_eq_true rfl⟩) hS (fun q _ h => hFc q h) hFc (fun r u t H1 locs ht hvm hw hB hz1 hk1 hS => ?_)
  obtain ⟨hP1, hK1, hD1⟩ := hB
  rw [ht] at hP1
  have hK1 := va_K.moved hvm.symm hK1
  try dsimp only at hw hP1 hD1 hK1
  obtain ⟨hP, hD⟩ := va_join (wr := []) (w1 := [(h0, zX 0 1 v)]) hP hD [0] [] rfl rfl (by decide) (by decide) hk1 hFc hP1 hD1
  generalize H1 = H at hP hS ⊢
  have hP : va_P (dC, dI) vwCl [(h0, zX 0 1 v)] H := hP
  have hD : va_D A [(h0, zX 0 1 v)] := hD
  obtain rfl : r = (-1) := hw.trans (by decide)
  refine lv_i2l (v := (-1)) hx hb dX0_digest_18 (by decide) ?_
  have hPc := hP.sub (ws' := []) [] rfl
  have hDc := hD.sub (ws' := []) [] (by decide) rfl
  have hKc := hK.sub (tys' := []) [] rfl
  have hFc := va_free (wc := []) hD hS hA [] rfl
  refine va_calll (va_runS (As := [.long 1319712470, .long (-1)]) (rest := []) ⟨hx, hb, hml, hown, hts⟩ (c_X0_mixed l dC dI 1319712470 (-1) H.size) (va_cwS 2 hts gX0_digest_X0_mixed rfl rfl rfl (by decide +kernel) ⟨Nat.le_of_ble_eq_true rfl, Nat.le_of_ble_eq_true rfl⟩) ⟨zx_blind, fun U hU hW => ⟨rfl, zx_go hPc hKc hDc hZ hS hFc hU hW⟩⟩ rfl rfl hl.1 rfl (lv_room (Nat.le_of_ble_eq_true rfl)) dX0_digest_19 ⟨Nat.le_of_ble_eq_true rfl, Nat.le_of_ble_eq_true rfl⟩) hS (fun q _ h => hFc q h) hFc (fun r u t H1 locs ht hvm hw hB hz1 hk1 hS => ?_)
  obtain ⟨hP1, hK1, hD1⟩ := hB
  rw [ht] at hP1
  have hK1 := va_K.moved hvm.symm hK1
  try dsimp only at hw hP1 hD1 hK1
  obtain ⟨hP, hD⟩ := va_join (wr := [(h0, zX 0 1 v)]) (w1 := []) hP hD [] [0] rfl rfl (by decide) (by decide) hk1 hFc hP1 hD1
  generalize H1 = H at hP hS ⊢
  have hP : va_P (dC, dI) vwCl [(h0, zX 0 1 v)] H := hP
  have hD : va_D A [(h0, zX 0 1 v)] := hD
  obtain rfl : r = 40911086569 := hw.trans (by decide +kernel)
  refine lv_lstore_n (lv' := [(1, .long 40911086569), (3, .int 4), (0, .ref h0)]) hx hb dX0_digest_22 rfl hl (by decide) rfl (fun ls hl => ?_)
  refine lv_iinc (v := 5) (lv' := [(3, .int 5), (1, .long 40911086569), (0, .ref h0)]) hx hb dX0_digest_23 hl (k := 1) rfl (by decide) (by decide) rfl (fun ls hl => ?_)
  refine lv_goto (tgt := 6) hx hb dX0_digest_26 (by decide) ?_
  refine lv_iload_n hx hb dX0_digest_6 rfl (lv_at hl 0 rfl) ?_
  refine lv_bipush (v := 8) hx hb dX0_digest_7 (by decide) ?_
  refine lv_icmp_gt (tgt := 29) hx hb dX0_digest_9 (by decide) (fun c6 => absurd c6 (by decide)) (fun _ => ?_)
  refine lv_lload_n hx hb dX0_digest_12 rfl (lv_at hl 1 rfl) ?_
  refine lv_aload_n hx hb dX0_digest_13 rfl (lv_at hl 2 rfl) ?_
  refine lv_iload_n hx hb dX0_digest_14 rfl (lv_at hl 0 rfl) ?_
  have hPc := hP.sub (ws' := [(h0, zX 0 1 v)]) [0] rfl
  have hDc := hD.sub (ws' := [(h0, zX 0 1 v)]) [0] (by decide) rfl
  have hKc := hK.sub (tys' := []) [] rfl
  have hFc := va_free (wc := [(h0, zX 0 1 v)]) hD hS hA [0] rfl
  refine va_calli (va_runV (As := [.int 5]) (rest := [.long 40911086569]) ⟨hx, hb, hml, hown, hts⟩ (c_X0_counted l dC dI h0 v 5 H.size) (cwV 1 hts gX0_digest_X0_counted rfl rfl rfl (by decide +kernel) ⟨Nat.le_of_ble_eq_true rfl, Nat.le_of_ble_eq_true rfl⟩) ⟨zx_blind, va_recv hKc hPc (ci := 0) (q0 := 0) rfl rfl, fun U hU hW => ⟨rfl, zx_go hPc hKc hDc hZ hS hFc hU hW⟩⟩ rfl rfl hl.1 rfl (lv_room (Nat.le_of_ble_eq_true rfl)) dX0_digest_15 ⟨Nat.le_of_ble_eq_true rfl, Nat.le_of_ble_eq_true rfl⟩) hS (fun q _ h => hFc q h) hFc (fun r u t H1 locs ht hvm hw hB hz1 hk1 hS => ?_)
  obtain ⟨hP1, hK1, hD1⟩ := hB
  rw [ht] at hP1
  have hK1 := va_K.moved hvm.symm hK1
  try dsimp only at hw hP1 hD1 hK1
  obtain ⟨hP, hD⟩ := va_join (wr := []) (w1 := [(h0, zX 0 1 v)]) hP hD [0] [] rfl rfl (by decide) (by decide) hk1 hFc hP1 hD1
  generalize H1 = H at hP hS ⊢
  have hP : va_P (dC, dI) vwCl [(h0, zX 0 1 v)] H := hP
  have hD : va_D A [(h0, zX 0 1 v)] := hD
  obtain rfl : r = (-1) := hw.trans (by decide)
  refine lv_i2l (v := (-1)) hx hb dX0_digest_18 (by decide) ?_
  have hPc := hP.sub (ws' := []) [] rfl
  have hDc := hD.sub (ws' := []) [] (by decide) rfl
  have hKc := hK.sub (tys' := []) [] rfl
  have hFc := va_free (wc := []) hD hS hA [] rfl
  refine va_calll (va_runS (As := [.long 40911086569, .long (-1)]) (rest := []) ⟨hx, hb, hml, hown, hts⟩ (c_X0_mixed l dC dI 40911086569 (-1) H.size) (va_cwS 2 hts gX0_digest_X0_mixed rfl rfl rfl (by decide +kernel) ⟨Nat.le_of_ble_eq_true rfl, Nat.le_of_ble_eq_true rfl⟩) ⟨zx_blind, fun U hU hW => ⟨rfl, zx_go hPc hKc hDc hZ hS hFc hU hW⟩⟩ rfl rfl hl.1 rfl (lv_room (Nat.le_of_ble_eq_true rfl)) dX0_digest_19 ⟨Nat.le_of_ble_eq_true rfl, Nat.le_of_ble_eq_true rfl⟩) hS (fun q _ h => hFc q h) hFc (fun r u t H1 locs ht hvm hw hB hz1 hk1 hS => ?_)
  obtain ⟨hP1, hK1, hD1⟩ := hB
  rw [ht] at hP1
  have hK1 := va_K.moved hvm.symm hK1
  try dsimp only at hw hP1 hD1 hK1
  obtain ⟨hP, hD⟩ := va_join (wr := [(h0, zX 0 1 v)]) (w1 := []) hP hD [] [0] rfl rfl (by decide) (by decide) hk1 hFc hP1 hD1
  generalize H1 = H at hP hS ⊢
  have hP : va_P (dC, dI) vwCl [(h0, zX 0 1 v)] H := hP
  have hD : va_D A [(h0, zX 0 1 v)] := hD
  obtain rfl : r = 1268243683638 := hw.trans (by decide +kernel)
  refine lv_lstore_n (lv' := [(1, .long 1268243683638), (3, .int 5), (0, .ref h0)]) hx hb dX0_digest_22 rfl hl (by decide) rfl (fun ls hl => ?_)
  refine lv_iinc (v := 6) (lv' := [(3, .int 6), (1, .long 1268243683638), (0, .ref h0)]) hx hb dX0_digest_23 hl (k := 1) rfl (by decide) (by decide) rfl (fun ls hl => ?_)
  refine lv_goto (tgt := 6) hx hb dX0_digest_26 (by decide) ?_
  refine lv_iload_n hx hb dX0_digest_6 rfl (lv_at hl 0 rfl) ?_
  refine lv_bipush (v := 8) hx hb dX0_digest_7 (by decide) ?_
  refine lv_icmp_gt (tgt := 29) hx hb dX0_digest_9 (by decide) (fun c7 => absurd c7 (by decide)) (fun _ => ?_)
  refine lv_lload_n hx hb dX0_digest_12 rfl (lv_at hl 1 rfl) ?_
  refine lv_aload_n hx hb dX0_digest_13 rfl (lv_at hl 2 rfl) ?_
  refine lv_iload_n hx hb dX0_digest_14 rfl (lv_at hl 0 rfl) ?_
  have hPc := hP.sub (ws' := [(h0, zX 0 1 v)]) [0] rfl
  have hDc := hD.sub (ws' := [(h0, zX 0 1 v)]) [0] (by decide) rfl
  have hKc := hK.sub (tys' := []) [] rfl
  have hFc := va_free (wc := [(h0, zX 0 1 v)]) hD hS hA [0] rfl
  refine va_calli (va_runV (As := [.int 6]) (rest := [.long 1268243683638]) ⟨hx, hb, hml, hown, hts⟩ (c_X0_counted l dC dI h0 v 6 H.size) (cwV 1 hts gX0_digest_X0_counted rfl rfl rfl (by decide +kernel) ⟨Nat.le_of_ble_eq_true rfl, Nat.le_of_ble_eq_true rfl⟩) ⟨zx_blind, va_recv hKc hPc (ci := 0) (q0 := 0) rfl rfl, fun U hU hW => ⟨rfl, zx_go hPc hKc hDc hZ hS hFc hU hW⟩⟩ rfl rfl hl.1 rfl (lv_room (Nat.le_of_ble_eq_true rfl)) dX0_digest_15 ⟨Nat.le_of_ble_eq_true rfl, Nat.le_of_ble_eq_true rfl⟩) hS (fun q _ h => hFc q h) hFc (fun r u t H1 locs ht hvm hw hB hz1 hk1 hS => ?_)
  obtain ⟨hP1, hK1, hD1⟩ := hB
  rw [ht] at hP1
  have hK1 := va_K.moved hvm.symm hK1
  try dsimp only at hw hP1 hD1 hK1
  obtain ⟨hP, hD⟩ := va_join (wr := []) (w1 := [(h0, zX 0 1 v)]) hP hD [0] [] rfl rfl (by decide) (by decide) hk1 hFc hP1 hD1
  generalize H1 = H at hP hS ⊢
  have hP : va_P (dC, dI) vwCl [(h0, zX 0 1 v)] H := hP
  have hD : va_D A [(h0, zX 0 1 v)] := hD
  obtain rfl : r = (-1) := hw.trans (by decide)
  refine lv_i2l (v := (-1)) hx hb dX0_digest_18 (by decide) ?_
  have hPc := hP.sub (ws' := []) [] rfl
  have hDc := hD.sub (ws' := []) [] (by decide) rfl
  have hKc := hK.sub (tys' := []) [] rfl
  have hFc := va_free (wc := []) hD hS hA [] rfl
  refine va_calll (va_runS (As := [.long 1268243683638, .long (-1)]) (rest := []) ⟨hx, hb, hml, hown, hts⟩ (c_X0_mixed l dC dI 1268243683638 (-1) H.size) (va_cwS 2 hts gX0_digest_X0_mixed rfl rfl rfl (by decide +kernel) ⟨Nat.le_of_ble_eq_true rfl, Nat.le_of_ble_eq_true rfl⟩) ⟨zx_blind, fun U hU hW => ⟨rfl, zx_go hPc hKc hDc hZ hS hFc hU hW⟩⟩ rfl rfl hl.1 rfl (lv_room (Nat.le_of_ble_eq_true rfl)) dX0_digest_19 ⟨Nat.le_of_ble_eq_true rfl, Nat.le_of_ble_eq_true rfl⟩) hS (fun q _ h => hFc q h) hFc (fun r u t H1 locs ht hvm hw hB hz1 hk1 hS => ?_)
  obtain ⟨hP1, hK1, hD1⟩ := hB
  rw [ht] at hP1
  have hK1 := va_K.moved hvm.symm hK1
  try dsimp only at hw hP1 hD1 hK1
  obtain ⟨hP, hD⟩ := va_join (wr := [(h0, zX 0 1 v)]) (w1 := []) hP hD [] [0] rfl rfl (by decide) (by decide) hk1 hFc hP1 hD1
  generalize H1 = H at hP hS ⊢
  have hP : va_P (dC, dI) vwCl [(h0, zX 0 1 v)] H := hP
  have hD : va_D A [(h0, zX 0 1 v)] := hD
  obtain rfl : r = 39315554192777 := hw.trans (by decide +kernel)
  refine lv_lstore_n (lv' := [(1, .long 39315554192777), (3, .int 6), (0, .ref h0)]) hx hb dX0_digest_22 rfl hl (by decide) rfl (fun ls hl => ?_)
  refine lv_iinc (v := 7) (lv' := [(3, .int 7), (1, .long 39315554192777), (0, .ref h0)]) hx hb dX0_digest_23 hl (k := 1) rfl (by decide) (by decide) rfl (fun ls hl => ?_)
  refine lv_goto (tgt := 6) hx hb dX0_digest_26 (by decide) ?_
  refine lv_iload_n hx hb dX0_digest_6 rfl (lv_at hl 0 rfl) ?_
  refine lv_bipush (v := 8) hx hb dX0_digest_7 (by decide) ?_
  refine lv_icmp_gt (tgt := 29) hx hb dX0_digest_9 (by decide) (fun c8 => absurd c8 (by decide)) (fun _ => ?_)
  refine lv_lload_n hx hb dX0_digest_12 rfl (lv_at hl 1 rfl) ?_
  refine lv_aload_n hx hb dX0_digest_13 rfl (lv_at hl 2 rfl) ?_
  refine lv_iload_n hx hb dX0_digest_14 rfl (lv_at hl 0 rfl) ?_
  have hPc := hP.sub (ws' := [(h0, zX 0 1 v)]) [0] rfl
  have hDc := hD.sub (ws' := [(h0, zX 0 1 v)]) [0] (by decide) rfl
  have hKc := hK.sub (tys' := []) [] rfl
  have hFc := va_free (wc := [(h0, zX 0 1 v)]) hD hS hA [0] rfl
  refine va_calli (va_runV (As := [.int 7]) (rest := [.long 39315554192777]) ⟨hx, hb, hml, hown, hts⟩ (c_X0_counted l dC dI h0 v 7 H.size) (cwV 1 hts gX0_digest_X0_counted rfl rfl rfl (by decide +kernel) ⟨Nat.le_of_ble_eq_true rfl, Nat.le_of_ble_eq_true rfl⟩) ⟨zx_blind, va_recv hKc hPc (ci := 0) (q0 := 0) rfl rfl, fun U hU hW => ⟨rfl, zx_go hPc hKc hDc hZ hS hFc hU hW⟩⟩ rfl rfl hl.1 rfl (lv_room (Nat.le_of_ble_eq_true rfl)) dX0_digest_15 ⟨Nat.le_of_ble_eq_true rfl, Nat.le_of_ble_eq_true rfl⟩) hS (fun q _ h => hFc q h) hFc (fun r u t H1 locs ht hvm hw hB hz1 hk1 hS => ?_)
  obtain ⟨hP1, hK1, hD1⟩ := hB
  rw [ht] at hP1
  have hK1 := va_K.moved hvm.symm hK1
  try dsimp only at hw hP1 hD1 hK1
  obtain ⟨hP, hD⟩ := va_join (wr := []) (w1 := [(h0, zX 0 1 v)]) hP hD [0] [] rfl rfl (by decide) (by decide) hk1 hFc hP1 hD1
  generalize H1 = H at hP hS ⊢
  have hP : va_P (dC, dI) vwCl [(h0, zX 0 1 v)] H := hP
  have hD : va_D A [(h0, zX 0 1 v)] := hD
  obtain rfl : r = (-1) := hw.trans (by decide)
  refine lv_i2l (v := (-1)) hx hb dX0_digest_18 (by decide) ?_
  have hPc := hP.sub (ws' := []) [] rfl
  have hDc := hD.sub (ws' := []) [] (by decide) rfl
  have hKc := hK.sub (tys' := []) [] rfl
  have hFc := va_free (wc := []) hD hS hA [] rfl
  refine va_calll (va_runS (As := [.long 39315554192777, .long (-1)]) (rest := []) ⟨hx, hb, hml, hown, hts⟩ (c_X0_mixed l dC dI 39315554192777 (-1) H.size) (va_cwS 2 hts gX0_digest_X0_mixed rfl rfl rfl (by decide +kernel) ⟨Nat.le_of_ble_eq_true rfl, Nat.le_of_ble_eq_true rfl⟩) ⟨zx_blind, fun U hU hW => ⟨rfl, zx_go hPc hKc hDc hZ hS hFc hU hW⟩⟩ rfl rfl hl.1 rfl (lv_room (Nat.le_of_ble_eq_true rfl)) dX0_digest_19 ⟨Nat.le_of_ble_eq_true rfl, Nat.le_of_ble_eq_true rfl⟩) hS (fun q _ h => hFc q h) hFc (fun r u t H1 locs ht hvm hw hB hz1 hk1 hS => ?_)
  obtain ⟨hP1, hK1, hD1⟩ := hB
  rw [ht] at hP1
  have hK1 := va_K.moved hvm.symm hK1
  try dsimp only at hw hP1 hD1 hK1
  obtain ⟨hP, hD⟩ := va_join (wr := [(h0, zX 0 1 v)]) (w1 := []) hP hD [] [0] rfl rfl (by decide) (by decide) hk1 hFc hP1 hD1
  generalize H1 = H at hP hS ⊢
  have hP : va_P (dC, dI) vwCl [(h0, zX 0 1 v)] H := hP
  have hD : va_D A [(h0, zX 0 1 v)] := hD
  obtain rfl : r = 1218782179976086 := hw.trans (by decide +kernel)
  refine lv_lstore_n (lv' := [(1, .long 1218782179976086), (3, .int 7), (0, .ref h0)]) hx hb dX0_digest_22 rfl hl (by decide) rfl (fun ls hl => ?_)
  refine lv_iinc (v := 8) (lv' := [(3, .int 8), (1, .long 1218782179976086), (0, .ref h0)]) hx hb dX0_digest_23 hl (k := 1) rfl (by decide) (by decide) rfl (fun ls hl => ?_)
  refine lv_goto (tgt := 6) hx hb dX0_digest_26 (by decide) ?_
  refine lv_iload_n hx hb dX0_digest_6 rfl (lv_at hl 0 rfl) ?_
  refine lv_bipush (v := 8) hx hb dX0_digest_7 (by decide) ?_
  refine lv_icmp_gt (tgt := 29) hx hb dX0_digest_9 (by decide) (fun c9 => absurd c9 (by decide)) (fun _ => ?_)
  refine lv_lload_n hx hb dX0_digest_12 rfl (lv_at hl 1 rfl) ?_
  refine lv_aload_n hx hb dX0_digest_13 rfl (lv_at hl 2 rfl) ?_
  refine lv_iload_n hx hb dX0_digest_14 rfl (lv_at hl 0 rfl) ?_
  have hPc := hP.sub (ws' := [(h0, zX 0 1 v)]) [0] rfl
  have hDc := hD.sub (ws' := [(h0, zX 0 1 v)]) [0] (by decide) rfl
  have hKc := hK.sub (tys' := []) [] rfl
  have hFc := va_free (wc := [(h0, zX 0 1 v)]) hD hS hA [0] rfl
  refine va_calli (va_runV (As := [.int 8]) (rest := [.long 1218782179976086]) ⟨hx, hb, hml, hown, hts⟩ (c_X0_counted l dC dI h0 v 8 H.size) (cwV 1 hts gX0_digest_X0_counted rfl rfl rfl (by decide +kernel) ⟨Nat.le_of_ble_eq_true rfl, Nat.le_of_ble_eq_true rfl⟩) ⟨zx_blind, va_recv hKc hPc (ci := 0) (q0 := 0) rfl rfl, fun U hU hW => ⟨rfl, zx_go hPc hKc hDc hZ hS hFc hU hW⟩⟩ rfl rfl hl.1 rfl (lv_room (Nat.le_of_ble_eq_true rfl)) dX0_digest_15 ⟨Nat.le_of_ble_eq_true rfl, Nat.le_of_ble_eq_true rfl⟩) hS (fun q _ h => hFc q h) hFc (fun r u t H1 locs ht hvm hw hB hz1 hk1 hS => ?_)
  obtain ⟨hP1, hK1, hD1⟩ := hB
  rw [ht] at hP1
  have hK1 := va_K.moved hvm.symm hK1
  try dsimp only at hw hP1 hD1 hK1
  obtain ⟨hP, hD⟩ := va_join (wr := []) (w1 := [(h0, zX 0 1 v)]) hP hD [0] [] rfl rfl (by decide) (by decide) hk1 hFc hP1 hD1
  generalize H1 = H at hP hS ⊢
  have hP : va_P (dC, dI) vwCl [(h0, zX 0 1 v)] H := hP
  have hD : va_D A [(h0, zX 0 1 v)] := hD
  obtain rfl : r = (-1) := hw.trans (by decide)
  refine lv_i2l (v := (-1)) hx hb dX0_digest_18 (by decide) ?_
  have hPc := hP.sub (ws' := []) [] rfl
  have hDc := hD.sub (ws' := []) [] (by decide) rfl
  have hKc := hK.sub (tys' := []) [] rfl
  have hFc := va_free (wc := []) hD hS hA [] rfl
  refine va_calll (va_runS (As := [.long 1218782179976086, .long (-1)]) (rest := []) ⟨hx, hb, hml, hown, hts⟩ (c_X0_mixed l dC dI 1218782179976086 (-1) H.size) (va_cwS 2 hts gX0_digest_X0_mixed rfl rfl rfl (by decide +kernel) ⟨Nat.le_of_ble_eq_true rfl, Nat.le_of_ble_eq_true rfl⟩) ⟨zx_blind, fun U hU hW => ⟨rfl, zx_go hPc hKc hDc hZ hS hFc hU hW⟩⟩ rfl rfl hl.1 rfl (lv_room (Nat.le_of_ble_eq_true rfl)) dX0_digest_19 ⟨Nat.le_of_ble_eq_true rfl, Nat.le_of_ble_eq_true rfl⟩) hS (fun q _ h => hFc q h) hFc (fun r u t H1 locs ht hvm hw hB hz1 hk1 hS => ?_)
  obtain ⟨hP1, hK1, hD1⟩ := hB
  rw [ht] at hP1
  have hK1 := va_K.moved hvm.symm hK1
  try dsimp only at hw hP1 hD1 hK1
  obtain ⟨hP, hD⟩ := va_join (wr := [(h0, zX 0 1 v)]) (w1 := []) hP hD [] [0] rfl rfl (by decide) (by decide) hk1 hFc hP1 hD1
  generalize H1 = H at hP hS ⊢
  have hP : va_P (dC, dI) vwCl [(h0, zX 0 1 v)] H := hP
  have hD : va_D A [(h0, zX 0 1 v)] := hD
  obtain rfl : r = 37782247579258665 := hw.trans (by decide +kernel)
  refine lv_lstore_n (lv' := [(1, .long 37782247579258665), (3, .int 8), (0, .ref h0)]) hx hb dX0_digest_22 rfl hl (by decide) rfl (fun ls hl => ?_)
  refine lv_iinc (v := 9) (lv' := [(3, .int 9), (1, .long 37782247579258665), (0, .ref h0)]) hx hb dX0_digest_23 hl (k := 1) rfl (by decide) (by decide) rfl (fun ls hl => ?_)
  refine lv_goto (tgt := 6) hx hb dX0_digest_26 (by decide) ?_
  refine lv_iload_n hx hb dX0_digest_6 rfl (lv_at hl 0 rfl) ?_
  refine lv_bipush (v := 8) hx hb dX0_digest_7 (by decide) ?_
  refine lv_icmp_gt (tgt := 29) hx hb dX0_digest_9 (by decide) (fun _ => ?_) (fun c10 => absurd (by decide) c10)
  refine lv_iconst (v := 0) hx hb dX0_digest_29 (by decide) ?_
  refine lv_istore_n (lv' := [(3, .int 0), (1, .long 37782247579258665), (0, .ref h0)]) hx hb dX0_digest_30 rfl hl (by decide) rfl (fun ls hl => ?_)
  refine lv_iload_n hx hb dX0_digest_31 rfl (lv_at hl 0 rfl) ?_
  refine lv_aload_n hx hb dX0_digest_32 rfl (lv_at hl 2 rfl) ?_
  refine va_get (D := (dC, dI)) (ci := 0) (v := .int 0) (C := RX0) (T := TX0) (N := 18) hx hb hts (by decide +kernel) hown hK hP 0 rfl rfl 0 (by decide) (hts (.fieldLink RX0 46 "LiarTents" "generals" "I") (by decide +kernel)) (fun _ h9 => h9) rfl dX0_digest_33 ?_
  refine lv_icmp_ge (tgt := 73) hx hb dX0_digest_36 (by decide) (fun _ => ?_) (fun c11 => absurd (by decide) c11)
  refine lv_iconst (v := 0) hx hb dX0_digest_73 (by decide) ?_
  refine lv_istore_n (lv' := [(3, .int 0), (1, .long 37782247579258665), (0, .ref h0)]) hx hb dX0_digest_74 rfl hl (by decide) rfl (fun ls hl => ?_)
  refine lv_iload_n hx hb dX0_digest_75 rfl (lv_at hl 0 rfl) ?_
  refine lv_aload_n hx hb dX0_digest_76 rfl (lv_at hl 2 rfl) ?_
  refine va_get (D := (dC, dI)) (ci := 0) (v := .int 0) (C := RX0) (T := TX0) (N := 18) hx hb hts (by decide +kernel) hown hK hP 0 rfl rfl 8 (by decide) (hts (.fieldLink RX0 145 "LiarTents" "latestGenerals" "I") (by decide +kernel)) (fun _ h9 => h9) rfl dX0_digest_77 ?_
  refine lv_icmp_ge (tgt := 101) hx hb dX0_digest_80 (by decide) (fun _ => ?_) (fun c12 => absurd (by decide) c12)
  refine lv_iconst (v := 0) hx hb dX0_digest_101 (by decide) ?_
  refine lv_istore_n (lv' := [(3, .int 0), (1, .long 37782247579258665), (0, .ref h0)]) hx hb dX0_digest_102 rfl hl (by decide) rfl (fun ls hl => ?_)
  refine lv_iload_n hx hb dX0_digest_103 rfl (lv_at hl 0 rfl) ?_
  refine lv_aload_n hx hb dX0_digest_104 rfl (lv_at hl 2 rfl) ?_
  refine va_get (D := (dC, dI)) (ci := 0) (v := .int 0) (C := RX0) (T := TX0) (N := 18) hx hb hts (by decide +kernel) hown hK hP 0 rfl rfl 0 (by decide) (hts (.fieldLink RX0 46 "LiarTents" "generals" "I") (by decide +kernel)) (fun _ h9 => h9) rfl dX0_digest_105 ?_
  refine lv_icmp_ge (tgt := 156) hx hb dX0_digest_108 (by decide) (fun _ => ?_) (fun c13 => absurd (by decide) c13)
  refine lv_lload_n hx hb dX0_digest_156 rfl (lv_at hl 1 rfl) ?_
  have hP9 := hP.sub (ws' := [(h0, zX 0 1 v)]) [0] rfl
  have hD9 := hD.sub (ws' := [(h0, zX 0 1 v)]) [0] (by decide) rfl
  have hK9 := hK.sub (tys' := []) [] rfl
  refine W.widen (k := 0) (n := 0) (by omega) (by omega) ?_
  exact W.lret (v := 37782247579258665) hx hb hr (fun t ht hW => ⟨⟨37782247579258665, (), rfl, rfl, by rw [ht]; exact hP9, va_K.moved hW.alike hK9, hD9⟩, hS.F ht⟩) hS.2.2 dX0_digest_157
