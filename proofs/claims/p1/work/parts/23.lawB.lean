set_option maxHeartbeats 4000000 in
set_option maxRecDepth 100000 in
theorem law_case_8 {p : Program} {l : Launch} {e : Env} {s : State} {m : MethodId} {below : List Frame} {meth : Method} {c : Code} (hl9 : l.stackTraces = false) {b : Nat} {xs : Nat → Int32} (C0 : lw_At p s m meth c b 4 xs) (hZ : zx_Z (fun q : Nat => s.heap.size ≤ q) s s.heap) {dC : Nat → ClassId} {dI : Nat → Nat → Nat} {h0 m0 o0 k0 q0 : Nat} {v : Nat → Value} {rr : Nat → Nat} {cI cO cJ : ClassId} {a10 a11 : Value} {f : Nat → Int64} {H : Heap} {locs : List Loc} (hK : va_K (dC, dI) vwCl [(cI, .int), (cO, .array .int), (cJ, .long)] s) (hP : va_P (dC, dI) vwCl [(h0, zX 0 1 v), (m0, zM 0 0 1 (.ref k0) (.ref q0) a10 a11), (k0, .inl (cI, 7, .inl (fun _ => 0))), (q0, .inl (cO, 7, .inr (.inr (.inr (.inr (fun i => if i < 7 then some (rr i) else none)))))), (rr 0, .inl (cI, 3, .inl (fun _ => 0))), (rr 1, .inl (cI, 3, .inl (fun _ => 0))), (rr 2, .inl (cI, 3, .inl (fun _ => 0))), (rr 3, .inl (cI, 3, .inl (fun _ => 0))), (rr 4, .inl (cI, 3, .inl (fun _ => 0))), (rr 5, .inl (cI, 3, .inl (fun _ => 0))), (rr 6, .inl (cI, 3, .inl (fun _ => 0))), (o0, .inl (cJ, 1, .inr (.inl f)))] H) (hD : va_D (fun q : Nat => s.heap.size ≤ q) [(h0, zX 0 1 v), (m0, zM 0 0 1 (.ref k0) (.ref q0) a10 a11), (k0, .inl (cI, 7, .inl (fun _ => 0))), (q0, .inl (cO, 7, .inr (.inr (.inr (.inr (fun i => if i < 7 then some (rr i) else none)))))), (rr 0, .inl (cI, 3, .inl (fun _ => 0))), (rr 1, .inl (cI, 3, .inl (fun _ => 0))), (rr 2, .inl (cI, 3, .inl (fun _ => 0))), (rr 3, .inl (cI, 3, .inl (fun _ => 0))), (rr 4, .inl (cI, 3, .inl (fun _ => 0))), (rr 5, .inl (cI, 3, .inl (fun _ => 0))), (rr 6, .inl (cI, 3, .inl (fun _ => 0))), (o0, .inl (cJ, 1, .inr (.inl f)))]) (hS : va_S (fun q : Nat => s.heap.size ≤ q) s.heap H locs) {ls : Array Slot} (hl : lv_has ls 9 [(0, .ref b), (1, .ref h0), (2, .ref m0), (3, .ref o0), (4, .int 0)]) : W p l e room_1 s m #[Value.ref b] below meth c H locs 57 372 (lw_Z below #[Value.ref b] s) (F0 m 600 ls []) := by
  have C1 := C0
  obtain ⟨hx, hb, hr, hml, hown0, hts0, hX, hbl, hlocks, hgv⟩ := C0
  have hown : s.vm.findClass RL = some m.cls := hown0
  have hts : ∀ w ∈ wsL_law, w.before #[Value.ref b] s = true := fun w h => hts0 w (wsL_law_in w h)
  have hA : ∀ q : Nat, s.heap.size ≤ q → (fun q : Nat => s.heap.size ≤ q) q := fun _ h => h
  have hbA : ¬ (fun q : Nat => s.heap.size ≤ q) b := Nat.not_le.mpr hbl
  refine lv_aload_n hx hb dL_law_600 rfl (lv_at hl 1 rfl) ?_
  refine lv_aload_n hx hb dL_law_601 rfl (lv_at hl 0 rfl) ?_
  refine lv_iload hx hb dL_law_602 (lv_at hl 4 rfl) ?_
  refine lv_iconst (v := 1) hx hb dL_law_604 (by decide) ?_
  refine lv_iadd hx hb dL_law_605 ?_
  refine lv_topi (fun z1 ez1 => ?_)
  obtain rfl : z1 = 1 := ez1.trans (by decide)
  refine va_sld hx hb hX hbl hbA hS (zx_in rfl) dL_law_606 ?_
  refine lv_aload_n hx hb dL_law_607 rfl (lv_at hl 0 rfl) ?_
  refine lv_iload hx hb dL_law_608 (lv_at hl 4 rfl) ?_
  refine lv_iconst (v := 2) hx hb dL_law_610 (by decide) ?_
  refine lv_iadd hx hb dL_law_611 ?_
  refine lv_topi (fun z2 ez2 => ?_)
  obtain rfl : z2 = 2 := ez2.trans (by decide)
  refine va_sld hx hb hX hbl hbA hS (zx_in rfl) dL_law_612 ?_
  refine lv_aload_n hx hb dL_law_613 rfl (lv_at hl 0 rfl) ?_
  refine lv_iload hx hb dL_law_614 (lv_at hl 4 rfl) ?_
  refine lv_iconst (v := 3) hx hb dL_law_616 (by decide) ?_
  refine lv_iadd hx hb dL_law_617 ?_
  refine lv_topi (fun z3 ez3 => ?_)
  obtain rfl : z3 = 3 := ez3.trans (by decide)
  refine va_sld hx hb hX hbl hbA hS (zx_in rfl) dL_law_618 ?_
  refine lv_aload_n hx hb dL_law_619 rfl (lv_at hl 3 rfl) ?_
  have hPc := hP.sub (ws' := [(h0, zX 0 1 v), (o0, .inl (cJ, 1, .inr (.inl f)))]) [0, 11] rfl
  have hDc := hD.sub (ws' := [(h0, zX 0 1 v), (o0, .inl (cJ, 1, .inr (.inl f)))]) [0, 11] (by decide) rfl
  have hKc := hK.sub (tys' := [(cJ, .long)]) [2] rfl
  have hFc := va_free (wc := [(h0, zX 0 1 v), (o0, .inl (cJ, 1, .inr (.inl f)))]) hD hS hA [0, 11] rfl
  refine va_calli (vx_runSW (As := [.ref h0, .int (xs (Int32.toNatClampNeg 1)), .int (xs (Int32.toNatClampNeg 2)), .int (xs (Int32.toNatClampNeg 3)), .ref o0]) (rest := []) ⟨hx, hb, hml, hown, hts⟩ (c_L_hears l hl9 dC dI h0 o0 cJ f v (xs (Int32.toNatClampNeg 1)) (xs (Int32.toNatClampNeg 2)) (xs (Int32.toNatClampNeg 3)) H.size) (vx_cwSW 5 hts gL_law_L_hears rfl rfl rfl (by decide +kernel) ⟨Nat.le_of_ble_eq_true rfl, Nat.le_of_ble_eq_true rfl⟩) ⟨zx_blind, fun U hU hW => ⟨rfl, zx_go hPc hKc hDc hZ hS hFc hU hW⟩⟩ rfl rfl hl.1 rfl (lv_room (Nat.le_of_ble_eq_true rfl)) dL_law_620 ⟨Nat.le_of_ble_eq_true rfl, Nat.le_of_ble_eq_true rfl⟩) hS (fun q _ h => hFc q h) hFc (fun r u t H1 locs ht hvm hw hB hz1 hk1 hS => ?_)
  obtain ⟨hP1, hK1, hD1⟩ := hB
  rw [ht] at hP1
  have hK1 := va_K.moved hvm.symm hK1
  try dsimp only at hw hP1 hD1 hK1
  obtain ⟨hP, hD⟩ := va_join (wr := [(m0, zM 0 0 1 (.ref k0) (.ref q0) a10 a11), (k0, .inl (cI, 7, .inl (fun _ => 0))), (q0, .inl (cO, 7, .inr (.inr (.inr (.inr (fun i => if i < 7 then some (rr i) else none)))))), (rr 0, .inl (cI, 3, .inl (fun _ => 0))), (rr 1, .inl (cI, 3, .inl (fun _ => 0))), (rr 2, .inl (cI, 3, .inl (fun _ => 0))), (rr 3, .inl (cI, 3, .inl (fun _ => 0))), (rr 4, .inl (cI, 3, .inl (fun _ => 0))), (rr 5, .inl (cI, 3, .inl (fun _ => 0))), (rr 6, .inl (cI, 3, .inl (fun _ => 0)))]) (w1 := []) hP hD [0, 11] [1, 2, 3, 4, 5, 6, 7, 8, 9, 10] rfl rfl (by decide) (by decide) hk1 hFc hP1 hD1
  generalize H1 = H at hP hS ⊢
  have hP : va_P (dC, dI) vwCl [(m0, zM 0 0 1 (.ref k0) (.ref q0) a10 a11), (k0, .inl (cI, 7, .inl (fun _ => 0))), (q0, .inl (cO, 7, .inr (.inr (.inr (.inr (fun i => if i < 7 then some (rr i) else none)))))), (rr 0, .inl (cI, 3, .inl (fun _ => 0))), (rr 1, .inl (cI, 3, .inl (fun _ => 0))), (rr 2, .inl (cI, 3, .inl (fun _ => 0))), (rr 3, .inl (cI, 3, .inl (fun _ => 0))), (rr 4, .inl (cI, 3, .inl (fun _ => 0))), (rr 5, .inl (cI, 3, .inl (fun _ => 0))), (rr 6, .inl (cI, 3, .inl (fun _ => 0)))] H := hP
  have hD : va_D (fun q : Nat => s.heap.size ≤ q) [(m0, zM 0 0 1 (.ref k0) (.ref q0) a10 a11), (k0, .inl (cI, 7, .inl (fun _ => 0))), (q0, .inl (cO, 7, .inr (.inr (.inr (.inr (fun i => if i < 7 then some (rr i) else none)))))), (rr 0, .inl (cI, 3, .inl (fun _ => 0))), (rr 1, .inl (cI, 3, .inl (fun _ => 0))), (rr 2, .inl (cI, 3, .inl (fun _ => 0))), (rr 3, .inl (cI, 3, .inl (fun _ => 0))), (rr 4, .inl (cI, 3, .inl (fun _ => 0))), (rr 5, .inl (cI, 3, .inl (fun _ => 0))), (rr 6, .inl (cI, 3, .inl (fun _ => 0)))] := hD
  refine W.widen (k := 58) (n := 378) (by omega) (by omega) ?_
  subst hw
  refine lv_istore (lv' := [(5, .int 1), (0, .ref b), (1, .ref h0), (2, .ref m0), (3, .ref o0), (4, .int 0)]) hx hb dL_law_623 hl (by decide) rfl (fun ls hl => ?_)
  refine lv_aload_n hx hb dL_law_625 rfl (lv_at hl 3 rfl) ?_
  refine lv_aload_n hx hb dL_law_626 rfl (lv_at hl 1 rfl) ?_
  refine lv_iload hx hb dL_law_627 (lv_at hl 5 rfl) ?_
  refine lv_iconst (v := 1) hx hb dL_law_629 (by decide) ?_
  refine lv_iadd hx hb dL_law_630 ?_
  refine lv_topi (fun z4 ez4 => ?_)
  obtain rfl : z4 = 1 := ez4.trans (by decide)
  refine va_sld hx hb hX hbl hbA hS (zx_in rfl) dL_law_631 ?_
  refine lv_aload_n hx hb dL_law_632 rfl (lv_at hl 1 rfl) ?_
  refine lv_iload hx hb dL_law_633 (lv_at hl 5 rfl) ?_
  refine lv_iconst (v := 2) hx hb dL_law_635 (by decide) ?_
  refine lv_iadd hx hb dL_law_636 ?_
  refine lv_topi (fun z5 ez5 => ?_)
  obtain rfl : z5 = 2 := ez5.trans (by decide)
  refine va_sld hx hb hX hbl hbA hS (zx_in rfl) dL_law_637 ?_
  refine lv_aload_n hx hb dL_law_638 rfl (lv_at hl 1 rfl) ?_
  refine lv_iload hx hb dL_law_639 (lv_at hl 5 rfl) ?_
  refine lv_iconst (v := 3) hx hb dL_law_641 (by decide) ?_
  refine lv_iadd hx hb dL_law_642 ?_
  refine lv_topi (fun z6 ez6 => ?_)
  obtain rfl : z6 = 3 := ez6.trans (by decide)
  refine va_sld hx hb hX hbl hbA hS (zx_in rfl) dL_law_643 ?_
  have hPc := hP.sub (ws' := [(m0, zM 0 0 1 (.ref k0) (.ref q0) a10 a11)]) [0] rfl
  have hDc := hD.sub (ws' := [(m0, zM 0 0 1 (.ref k0) (.ref q0) a10 a11)]) [0] (by decide) rfl
  have hKc := hK.sub (tys' := []) [] rfl
  have hFc := va_free (wc := [(m0, zM 0 0 1 (.ref k0) (.ref q0) a10 a11)]) hD hS hA [0] rfl
  refine va_calli (va_runV (As := [.int (xs (Int32.toNatClampNeg 1)), .int (xs (Int32.toNatClampNeg 2)), .int (xs (Int32.toNatClampNeg 3))]) (rest := []) ⟨hx, hb, hml, hown, hts⟩ (c_X1_hears l dC dI m0 (xs (Int32.toNatClampNeg 1)) (xs (Int32.toNatClampNeg 2)) (xs (Int32.toNatClampNeg 3)) (.ref k0) (.ref q0) a10 a11 H.size) (cwV 3 hts gL_law_X1_hears rfl rfl rfl (by decide +kernel) ⟨Nat.le_of_ble_eq_true rfl, Nat.le_of_ble_eq_true rfl⟩) ⟨zx_blind, va_recv hKc hPc (ci := 1) (q0 := 0) rfl rfl, fun U hU hW => ⟨rfl, zx_go hPc hKc hDc hZ hS hFc hU hW⟩⟩ rfl rfl hl.1 rfl (lv_room (Nat.le_of_ble_eq_true rfl)) dL_law_644 ⟨Nat.le_of_ble_eq_true rfl, Nat.le_of_ble_eq_true rfl⟩) hS (fun q _ h => hFc q h) hFc (fun r u9 t H1 locs ht hvm hw hB hz1 hk1 hS => ?_)
  obtain ⟨hP1, hK1, hD1⟩ := hB
  rw [ht] at hP1
  have hK1 := va_K.moved hvm.symm hK1
  try dsimp only at hw hP1 hD1 hK1
  obtain ⟨hP, hD⟩ := va_join (wr := [(k0, .inl (cI, 7, .inl (fun _ => 0))), (q0, .inl (cO, 7, .inr (.inr (.inr (.inr (fun i => if i < 7 then some (rr i) else none)))))), (rr 0, .inl (cI, 3, .inl (fun _ => 0))), (rr 1, .inl (cI, 3, .inl (fun _ => 0))), (rr 2, .inl (cI, 3, .inl (fun _ => 0))), (rr 3, .inl (cI, 3, .inl (fun _ => 0))), (rr 4, .inl (cI, 3, .inl (fun _ => 0))), (rr 5, .inl (cI, 3, .inl (fun _ => 0))), (rr 6, .inl (cI, 3, .inl (fun _ => 0)))]) (w1 := [(m0, zM 1 0 1 (.ref k0) (.ref q0) a10 a11)]) hP hD [0] [1, 2, 3, 4, 5, 6, 7, 8, 9] rfl rfl (by decide) (by decide) hk1 hFc hP1 hD1
  generalize H1 = H at hP hS ⊢
  have hP : va_P (dC, dI) vwCl [(k0, .inl (cI, 7, .inl (fun _ => 0))), (q0, .inl (cO, 7, .inr (.inr (.inr (.inr (fun i => if i < 7 then some (rr i) else none)))))), (rr 0, .inl (cI, 3, .inl (fun _ => 0))), (rr 1, .inl (cI, 3, .inl (fun _ => 0))), (rr 2, .inl (cI, 3, .inl (fun _ => 0))), (rr 3, .inl (cI, 3, .inl (fun _ => 0))), (rr 4, .inl (cI, 3, .inl (fun _ => 0))), (rr 5, .inl (cI, 3, .inl (fun _ => 0))), (rr 6, .inl (cI, 3, .inl (fun _ => 0))), (m0, zM 1 0 1 (.ref k0) (.ref q0) a10 a11)] H := hP
  have hD : va_D (fun q : Nat => s.heap.size ≤ q) [(k0, .inl (cI, 7, .inl (fun _ => 0))), (q0, .inl (cO, 7, .inr (.inr (.inr (.inr (fun i => if i < 7 then some (rr i) else none)))))), (rr 0, .inl (cI, 3, .inl (fun _ => 0))), (rr 1, .inl (cI, 3, .inl (fun _ => 0))), (rr 2, .inl (cI, 3, .inl (fun _ => 0))), (rr 3, .inl (cI, 3, .inl (fun _ => 0))), (rr 4, .inl (cI, 3, .inl (fun _ => 0))), (rr 5, .inl (cI, 3, .inl (fun _ => 0))), (rr 6, .inl (cI, 3, .inl (fun _ => 0))), (m0, zM 1 0 1 (.ref k0) (.ref q0) a10 a11)] := hD
  subst hw
  refine lv_istore (lv' := [(6, .int 0), (5, .int 1), (0, .ref b), (1, .ref h0), (2, .ref m0), (3, .ref o0), (4, .int 0)]) hx hb dL_law_647 hl (by decide) rfl (fun ls hl => ?_)
  refine lv_aload_n hx hb dL_law_649 rfl (lv_at hl 4 rfl) ?_
  have hPc := hP.sub (ws' := [(m0, zM 1 0 1 (.ref k0) (.ref q0) a10 a11)]) [9] rfl
  have hDc := hD.sub (ws' := [(m0, zM 1 0 1 (.ref k0) (.ref q0) a10 a11)]) [9] (by decide) rfl
  have hKc := hK.sub (tys' := []) [] rfl
  have hFc := va_free (wc := [(m0, zM 1 0 1 (.ref k0) (.ref q0) a10 a11)]) hD hS hA [9] rfl
  refine va_calli (va_runV (As := []) (rest := []) ⟨hx, hb, hml, hown, hts⟩ (c_X1_thrown l dC dI m0 1 0 1 (.ref k0) (.ref q0) a10 a11 H.size) (cwV 0 hts gL_law_X1_thrown rfl rfl rfl (by decide +kernel) ⟨Nat.le_of_ble_eq_true rfl, Nat.le_of_ble_eq_true rfl⟩) ⟨zx_blind, va_recv hKc hPc (ci := 1) (q0 := 0) rfl rfl, fun U hU hW => ⟨rfl, zx_go hPc hKc hDc hZ hS hFc hU hW⟩⟩ rfl rfl hl.1 rfl (lv_room (Nat.le_of_ble_eq_true rfl)) dL_law_650 ⟨Nat.le_of_ble_eq_true rfl, Nat.le_of_ble_eq_true rfl⟩) hS (fun q _ h => hFc q h) hFc (fun r u8 t H1 locs ht hvm hw hB hz1 hk1 hS => ?_)
  obtain ⟨hP1, hK1, hD1⟩ := hB
  rw [ht] at hP1
  have hK1 := va_K.moved hvm.symm hK1
  try dsimp only at hw hP1 hD1 hK1
  obtain ⟨hP, hD⟩ := va_join (wr := [(k0, .inl (cI, 7, .inl (fun _ => 0))), (q0, .inl (cO, 7, .inr (.inr (.inr (.inr (fun i => if i < 7 then some (rr i) else none)))))), (rr 0, .inl (cI, 3, .inl (fun _ => 0))), (rr 1, .inl (cI, 3, .inl (fun _ => 0))), (rr 2, .inl (cI, 3, .inl (fun _ => 0))), (rr 3, .inl (cI, 3, .inl (fun _ => 0))), (rr 4, .inl (cI, 3, .inl (fun _ => 0))), (rr 5, .inl (cI, 3, .inl (fun _ => 0))), (rr 6, .inl (cI, 3, .inl (fun _ => 0)))]) (w1 := [(m0, zM 1 0 1 (.ref k0) (.ref q0) a10 a11)]) hP hD [9] [0, 1, 2, 3, 4, 5, 6, 7, 8] rfl rfl (by decide) (by decide) hk1 hFc hP1 hD1
  generalize H1 = H at hP hS ⊢
  have hP : va_P (dC, dI) vwCl [(k0, .inl (cI, 7, .inl (fun _ => 0))), (q0, .inl (cO, 7, .inr (.inr (.inr (.inr (fun i => if i < 7 then some (rr i) else none)))))), (rr 0, .inl (cI, 3, .inl (fun _ => 0))), (rr 1, .inl (cI, 3, .inl (fun _ => 0))), (rr 2, .inl (cI, 3, .inl (fun _ => 0))), (rr 3, .inl (cI, 3, .inl (fun _ => 0))), (rr 4, .inl (cI, 3, .inl (fun _ => 0))), (rr 5, .inl (cI, 3, .inl (fun _ => 0))), (rr 6, .inl (cI, 3, .inl (fun _ => 0))), (m0, zM 1 0 1 (.ref k0) (.ref q0) a10 a11)] H := hP
  have hD : va_D (fun q : Nat => s.heap.size ≤ q) [(k0, .inl (cI, 7, .inl (fun _ => 0))), (q0, .inl (cO, 7, .inr (.inr (.inr (.inr (fun i => if i < 7 then some (rr i) else none)))))), (rr 0, .inl (cI, 3, .inl (fun _ => 0))), (rr 1, .inl (cI, 3, .inl (fun _ => 0))), (rr 2, .inl (cI, 3, .inl (fun _ => 0))), (rr 3, .inl (cI, 3, .inl (fun _ => 0))), (rr 4, .inl (cI, 3, .inl (fun _ => 0))), (rr 5, .inl (cI, 3, .inl (fun _ => 0))), (rr 6, .inl (cI, 3, .inl (fun _ => 0))), (m0, zM 1 0 1 (.ref k0) (.ref q0) a10 a11)] := hD
  subst hw
  refine lv_iload hx hb dL_law_653 (lv_at hl 1 rfl) ?_
  refine lv_icmp_eq (tgt := 660) hx hb dL_law_655 (by decide) (fun _ => ?_) (fun c7 => absurd (by decide) c7)
  refine lv_iload hx hb dL_law_660 (lv_at hl 1 rfl) ?_
  refine lv_if_ne (tgt := 677) hx hb dL_law_662 (by decide) (fun _ => ?_) (fun c8 => absurd c8 (by decide))
  refine lv_goto (tgt := 1015) hx hb dL_law_677 (by decide) ?_
  exact law_tail C1 hS (lv_sub hl [2, 6] rfl) (Nat.le_of_ble_eq_true rfl) (Nat.le_of_ble_eq_true rfl)
set_option maxHeartbeats 4000000 in
set_option maxRecDepth 100000 in
theorem law_case_9 {p : Program} {l : Launch} {e : Env} {s : State} {m : MethodId} {below : List Frame} {meth : Method} {c : Code} (hl9 : l.stackTraces = false) {b : Nat} {xs : Nat → Int32} (C0 : lw_At p s m meth c b 4 xs) (hZ : zx_Z (fun q : Nat => s.heap.size ≤ q) s s.heap) {dC : Nat → ClassId} {dI : Nat → Nat → Nat} {h0 m0 o0 k0 q0 : Nat} {v : Nat → Value} {rr : Nat → Nat} {cI cO cJ : ClassId} {a10 a11 : Value} {f : Nat → Int64} {H : Heap} {locs : List Loc} (hK : va_K (dC, dI) vwCl [(cI, .int), (cO, .array .int), (cJ, .long)] s) (hP : va_P (dC, dI) vwCl [(h0, zX 0 1 v), (m0, zM 0 0 1 (.ref k0) (.ref q0) a10 a11), (k0, .inl (cI, 7, .inl (fun _ => 0))), (q0, .inl (cO, 7, .inr (.inr (.inr (.inr (fun i => if i < 7 then some (rr i) else none)))))), (rr 0, .inl (cI, 3, .inl (fun _ => 0))), (rr 1, .inl (cI, 3, .inl (fun _ => 0))), (rr 2, .inl (cI, 3, .inl (fun _ => 0))), (rr 3, .inl (cI, 3, .inl (fun _ => 0))), (rr 4, .inl (cI, 3, .inl (fun _ => 0))), (rr 5, .inl (cI, 3, .inl (fun _ => 0))), (rr 6, .inl (cI, 3, .inl (fun _ => 0))), (o0, .inl (cJ, 1, .inr (.inl f)))] H) (hD : va_D (fun q : Nat => s.heap.size ≤ q) [(h0, zX 0 1 v), (m0, zM 0 0 1 (.ref k0) (.ref q0) a10 a11), (k0, .inl (cI, 7, .inl (fun _ => 0))), (q0, .inl (cO, 7, .inr (.inr (.inr (.inr (fun i => if i < 7 then some (rr i) else none)))))), (rr 0, .inl (cI, 3, .inl (fun _ => 0))), (rr 1, .inl (cI, 3, .inl (fun _ => 0))), (rr 2, .inl (cI, 3, .inl (fun _ => 0))), (rr 3, .inl (cI, 3, .inl (fun _ => 0))), (rr 4, .inl (cI, 3, .inl (fun _ => 0))), (rr 5, .inl (cI, 3, .inl (fun _ => 0))), (rr 6, .inl (cI, 3, .inl (fun _ => 0))), (o0, .inl (cJ, 1, .inr (.inl f)))]) (hS : va_S (fun q : Nat => s.heap.size ≤ q) s.heap H locs) {ls : Array Slot} (hl : lv_has ls 9 [(0, .ref b), (1, .ref h0), (2, .ref m0), (3, .ref o0), (4, .int 0)]) : W p l e room_1 s m #[Value.ref b] below meth c H locs 57 372 (lw_Z below #[Value.ref b] s) (F0 m 680 ls []) := by
  have C1 := C0
  obtain ⟨hx, hb, hr, hml, hown0, hts0, hX, hbl, hlocks, hgv⟩ := C0
  have hown : s.vm.findClass RL = some m.cls := hown0
  have hts : ∀ w ∈ wsL_law, w.before #[Value.ref b] s = true := fun w h => hts0 w (wsL_law_in w h)
  have hA : ∀ q : Nat, s.heap.size ≤ q → (fun q : Nat => s.heap.size ≤ q) q := fun _ h => h
  have hbA : ¬ (fun q : Nat => s.heap.size ≤ q) b := Nat.not_le.mpr hbl
  refine lv_aload_n hx hb dL_law_680 rfl (lv_at hl 1 rfl) ?_
  refine lv_aload_n hx hb dL_law_681 rfl (lv_at hl 0 rfl) ?_
  refine lv_iload hx hb dL_law_682 (lv_at hl 4 rfl) ?_
  refine lv_iconst (v := 1) hx hb dL_law_684 (by decide) ?_
  refine lv_iadd hx hb dL_law_685 ?_
  refine lv_topi (fun z1 ez1 => ?_)
  obtain rfl : z1 = 1 := ez1.trans (by decide)
  refine va_sld hx hb hX hbl hbA hS (zx_in rfl) dL_law_686 ?_
  refine lv_aload_n hx hb dL_law_687 rfl (lv_at hl 0 rfl) ?_
  refine lv_iload hx hb dL_law_688 (lv_at hl 4 rfl) ?_
  refine lv_iconst (v := 2) hx hb dL_law_690 (by decide) ?_
  refine lv_iadd hx hb dL_law_691 ?_
  refine lv_topi (fun z2 ez2 => ?_)
  obtain rfl : z2 = 2 := ez2.trans (by decide)
  refine va_sld hx hb hX hbl hbA hS (zx_in rfl) dL_law_692 ?_
  refine lv_aload_n hx hb dL_law_693 rfl (lv_at hl 0 rfl) ?_
  refine lv_iload hx hb dL_law_694 (lv_at hl 4 rfl) ?_
  refine lv_iconst (v := 3) hx hb dL_law_696 (by decide) ?_
  refine lv_iadd hx hb dL_law_697 ?_
  refine lv_topi (fun z3 ez3 => ?_)
  obtain rfl : z3 = 3 := ez3.trans (by decide)
  refine va_sld hx hb hX hbl hbA hS (zx_in rfl) dL_law_698 ?_
  refine lv_aload_n hx hb dL_law_699 rfl (lv_at hl 3 rfl) ?_
  have hPc := hP.sub (ws' := [(h0, zX 0 1 v), (o0, .inl (cJ, 1, .inr (.inl f)))]) [0, 11] rfl
  have hDc := hD.sub (ws' := [(h0, zX 0 1 v), (o0, .inl (cJ, 1, .inr (.inl f)))]) [0, 11] (by decide) rfl
  have hKc := hK.sub (tys' := [(cJ, .long)]) [2] rfl
  have hFc := va_free (wc := [(h0, zX 0 1 v), (o0, .inl (cJ, 1, .inr (.inl f)))]) hD hS hA [0, 11] rfl
  refine va_calli (vx_runSW (As := [.ref h0, .int (xs (Int32.toNatClampNeg 1)), .int (xs (Int32.toNatClampNeg 2)), .int (xs (Int32.toNatClampNeg 3)), .ref o0]) (rest := []) ⟨hx, hb, hml, hown, hts⟩ (c_L_would l hl9 dC dI h0 o0 cJ f v (xs (Int32.toNatClampNeg 1)) (xs (Int32.toNatClampNeg 2)) (xs (Int32.toNatClampNeg 3)) H.size) (vx_cwSW 5 hts gL_law_L_would rfl rfl rfl (by decide +kernel) ⟨Nat.le_of_ble_eq_true rfl, Nat.le_of_ble_eq_true rfl⟩) ⟨zx_blind, fun U hU hW => ⟨rfl, zx_go hPc hKc hDc hZ hS hFc hU hW⟩⟩ rfl rfl hl.1 rfl (lv_room (Nat.le_of_ble_eq_true rfl)) dL_law_700 ⟨Nat.le_of_ble_eq_true rfl, Nat.le_of_ble_eq_true rfl⟩) hS (fun q _ h => hFc q h) hFc (fun r u t H1 locs ht hvm hw hB hz1 hk1 hS => ?_)
  obtain ⟨hP1, hK1, hD1⟩ := hB
  rw [ht] at hP1
  have hK1 := va_K.moved hvm.symm hK1
  try dsimp only at hw hP1 hD1 hK1
  obtain ⟨hP, hD⟩ := va_join (wr := [(m0, zM 0 0 1 (.ref k0) (.ref q0) a10 a11), (k0, .inl (cI, 7, .inl (fun _ => 0))), (q0, .inl (cO, 7, .inr (.inr (.inr (.inr (fun i => if i < 7 then some (rr i) else none)))))), (rr 0, .inl (cI, 3, .inl (fun _ => 0))), (rr 1, .inl (cI, 3, .inl (fun _ => 0))), (rr 2, .inl (cI, 3, .inl (fun _ => 0))), (rr 3, .inl (cI, 3, .inl (fun _ => 0))), (rr 4, .inl (cI, 3, .inl (fun _ => 0))), (rr 5, .inl (cI, 3, .inl (fun _ => 0))), (rr 6, .inl (cI, 3, .inl (fun _ => 0)))]) (w1 := []) hP hD [0, 11] [1, 2, 3, 4, 5, 6, 7, 8, 9, 10] rfl rfl (by decide) (by decide) hk1 hFc hP1 hD1
  generalize H1 = H at hP hS ⊢
  have hP : va_P (dC, dI) vwCl [(m0, zM 0 0 1 (.ref k0) (.ref q0) a10 a11), (k0, .inl (cI, 7, .inl (fun _ => 0))), (q0, .inl (cO, 7, .inr (.inr (.inr (.inr (fun i => if i < 7 then some (rr i) else none)))))), (rr 0, .inl (cI, 3, .inl (fun _ => 0))), (rr 1, .inl (cI, 3, .inl (fun _ => 0))), (rr 2, .inl (cI, 3, .inl (fun _ => 0))), (rr 3, .inl (cI, 3, .inl (fun _ => 0))), (rr 4, .inl (cI, 3, .inl (fun _ => 0))), (rr 5, .inl (cI, 3, .inl (fun _ => 0))), (rr 6, .inl (cI, 3, .inl (fun _ => 0)))] H := hP
  have hD : va_D (fun q : Nat => s.heap.size ≤ q) [(m0, zM 0 0 1 (.ref k0) (.ref q0) a10 a11), (k0, .inl (cI, 7, .inl (fun _ => 0))), (q0, .inl (cO, 7, .inr (.inr (.inr (.inr (fun i => if i < 7 then some (rr i) else none)))))), (rr 0, .inl (cI, 3, .inl (fun _ => 0))), (rr 1, .inl (cI, 3, .inl (fun _ => 0))), (rr 2, .inl (cI, 3, .inl (fun _ => 0))), (rr 3, .inl (cI, 3, .inl (fun _ => 0))), (rr 4, .inl (cI, 3, .inl (fun _ => 0))), (rr 5, .inl (cI, 3, .inl (fun _ => 0))), (rr 6, .inl (cI, 3, .inl (fun _ => 0)))] := hD
  refine W.widen (k := 58) (n := 378) (by omega) (by omega) ?_
  subst hw
  refine lv_istore (lv' := [(5, .int 1), (0, .ref b), (1, .ref h0), (2, .ref m0), (3, .ref o0), (4, .int 0)]) hx hb dL_law_703 hl (by decide) rfl (fun ls hl => ?_)
  refine lv_aload_n hx hb dL_law_705 rfl (lv_at hl 3 rfl) ?_
  refine lv_aload_n hx hb dL_law_706 rfl (lv_at hl 1 rfl) ?_
  refine lv_iload hx hb dL_law_707 (lv_at hl 5 rfl) ?_
  refine lv_iconst (v := 1) hx hb dL_law_709 (by decide) ?_
  refine lv_iadd hx hb dL_law_710 ?_
  refine lv_topi (fun z4 ez4 => ?_)
  obtain rfl : z4 = 1 := ez4.trans (by decide)
  refine va_sld hx hb hX hbl hbA hS (zx_in rfl) dL_law_711 ?_
  refine lv_aload_n hx hb dL_law_712 rfl (lv_at hl 1 rfl) ?_
  refine lv_iload hx hb dL_law_713 (lv_at hl 5 rfl) ?_
  refine lv_iconst (v := 2) hx hb dL_law_715 (by decide) ?_
  refine lv_iadd hx hb dL_law_716 ?_
  refine lv_topi (fun z5 ez5 => ?_)
  obtain rfl : z5 = 2 := ez5.trans (by decide)
  refine va_sld hx hb hX hbl hbA hS (zx_in rfl) dL_law_717 ?_
  refine lv_aload_n hx hb dL_law_718 rfl (lv_at hl 1 rfl) ?_
  refine lv_iload hx hb dL_law_719 (lv_at hl 5 rfl) ?_
  refine lv_iconst (v := 3) hx hb dL_law_721 (by decide) ?_
  refine lv_iadd hx hb dL_law_722 ?_
  refine lv_topi (fun z6 ez6 => ?_)
  obtain rfl : z6 = 3 := ez6.trans (by decide)
  refine va_sld hx hb hX hbl hbA hS (zx_in rfl) dL_law_723 ?_
  have hPc := hP.sub (ws' := [(m0, zM 0 0 1 (.ref k0) (.ref q0) a10 a11)]) [0] rfl
  have hDc := hD.sub (ws' := [(m0, zM 0 0 1 (.ref k0) (.ref q0) a10 a11)]) [0] (by decide) rfl
  have hKc := hK.sub (tys' := []) [] rfl
  have hFc := va_free (wc := [(m0, zM 0 0 1 (.ref k0) (.ref q0) a10 a11)]) hD hS hA [0] rfl
  refine va_calli (va_runV (As := [.int (xs (Int32.toNatClampNeg 1)), .int (xs (Int32.toNatClampNeg 2)), .int (xs (Int32.toNatClampNeg 3))]) (rest := []) ⟨hx, hb, hml, hown, hts⟩ (c_X1_would l dC dI m0 (xs (Int32.toNatClampNeg 1)) (xs (Int32.toNatClampNeg 2)) (xs (Int32.toNatClampNeg 3)) (.ref k0) (.ref q0) a10 a11 H.size) (cwV 3 hts gL_law_X1_would rfl rfl rfl (by decide +kernel) ⟨Nat.le_of_ble_eq_true rfl, Nat.le_of_ble_eq_true rfl⟩) ⟨zx_blind, va_recv hKc hPc (ci := 1) (q0 := 0) rfl rfl, fun U hU hW => ⟨rfl, zx_go hPc hKc hDc hZ hS hFc hU hW⟩⟩ rfl rfl hl.1 rfl (lv_room (Nat.le_of_ble_eq_true rfl)) dL_law_724 ⟨Nat.le_of_ble_eq_true rfl, Nat.le_of_ble_eq_true rfl⟩) hS (fun q _ h => hFc q h) hFc (fun r u9 t H1 locs ht hvm hw hB hz1 hk1 hS => ?_)
  obtain ⟨hP1, hK1, hD1⟩ := hB
  rw [ht] at hP1
  have hK1 := va_K.moved hvm.symm hK1
  try dsimp only at hw hP1 hD1 hK1
  obtain ⟨hP, hD⟩ := va_join (wr := [(k0, .inl (cI, 7, .inl (fun _ => 0))), (q0, .inl (cO, 7, .inr (.inr (.inr (.inr (fun i => if i < 7 then some (rr i) else none)))))), (rr 0, .inl (cI, 3, .inl (fun _ => 0))), (rr 1, .inl (cI, 3, .inl (fun _ => 0))), (rr 2, .inl (cI, 3, .inl (fun _ => 0))), (rr 3, .inl (cI, 3, .inl (fun _ => 0))), (rr 4, .inl (cI, 3, .inl (fun _ => 0))), (rr 5, .inl (cI, 3, .inl (fun _ => 0))), (rr 6, .inl (cI, 3, .inl (fun _ => 0)))]) (w1 := [(m0, zM 1 0 1 (.ref k0) (.ref q0) a10 a11)]) hP hD [0] [1, 2, 3, 4, 5, 6, 7, 8, 9] rfl rfl (by decide) (by decide) hk1 hFc hP1 hD1
  generalize H1 = H at hP hS ⊢
  have hP : va_P (dC, dI) vwCl [(k0, .inl (cI, 7, .inl (fun _ => 0))), (q0, .inl (cO, 7, .inr (.inr (.inr (.inr (fun i => if i < 7 then some (rr i) else none)))))), (rr 0, .inl (cI, 3, .inl (fun _ => 0))), (rr 1, .inl (cI, 3, .inl (fun _ => 0))), (rr 2, .inl (cI, 3, .inl (fun _ => 0))), (rr 3, .inl (cI, 3, .inl (fun _ => 0))), (rr 4, .inl (cI, 3, .inl (fun _ => 0))), (rr 5, .inl (cI, 3, .inl (fun _ => 0))), (rr 6, .inl (cI, 3, .inl (fun _ => 0))), (m0, zM 1 0 1 (.ref k0) (.ref q0) a10 a11)] H := hP
  have hD : va_D (fun q : Nat => s.heap.size ≤ q) [(k0, .inl (cI, 7, .inl (fun _ => 0))), (q0, .inl (cO, 7, .inr (.inr (.inr (.inr (fun i => if i < 7 then some (rr i) else none)))))), (rr 0, .inl (cI, 3, .inl (fun _ => 0))), (rr 1, .inl (cI, 3, .inl (fun _ => 0))), (rr 2, .inl (cI, 3, .inl (fun _ => 0))), (rr 3, .inl (cI, 3, .inl (fun _ => 0))), (rr 4, .inl (cI, 3, .inl (fun _ => 0))), (rr 5, .inl (cI, 3, .inl (fun _ => 0))), (rr 6, .inl (cI, 3, .inl (fun _ => 0))), (m0, zM 1 0 1 (.ref k0) (.ref q0) a10 a11)] := hD
  subst hw
  refine lv_istore (lv' := [(6, .int 0), (5, .int 1), (0, .ref b), (1, .ref h0), (2, .ref m0), (3, .ref o0), (4, .int 0)]) hx hb dL_law_727 hl (by decide) rfl (fun ls hl => ?_)
  refine lv_aload_n hx hb dL_law_729 rfl (lv_at hl 4 rfl) ?_
  have hPc := hP.sub (ws' := [(m0, zM 1 0 1 (.ref k0) (.ref q0) a10 a11)]) [9] rfl
  have hDc := hD.sub (ws' := [(m0, zM 1 0 1 (.ref k0) (.ref q0) a10 a11)]) [9] (by decide) rfl
  have hKc := hK.sub (tys' := []) [] rfl
  have hFc := va_free (wc := [(m0, zM 1 0 1 (.ref k0) (.ref q0) a10 a11)]) hD hS hA [9] rfl
  refine va_calli (va_runV (As := []) (rest := []) ⟨hx, hb, hml, hown, hts⟩ (c_X1_thrown l dC dI m0 1 0 1 (.ref k0) (.ref q0) a10 a11 H.size) (cwV 0 hts gL_law_X1_thrown rfl rfl rfl (by decide +kernel) ⟨Nat.le_of_ble_eq_true rfl, Nat.le_of_ble_eq_true rfl⟩) ⟨zx_blind, va_recv hKc hPc (ci := 1) (q0 := 0) rfl rfl, fun U hU hW => ⟨rfl, zx_go hPc hKc hDc hZ hS hFc hU hW⟩⟩ rfl rfl hl.1 rfl (lv_room (Nat.le_of_ble_eq_true rfl)) dL_law_730 ⟨Nat.le_of_ble_eq_true rfl, Nat.le_of_ble_eq_true rfl⟩) hS (fun q _ h => hFc q h) hFc (fun r u8 t H1 locs ht hvm hw hB hz1 hk1 hS => ?_)
  obtain ⟨hP1, hK1, hD1⟩ := hB
  rw [ht] at hP1
  have hK1 := va_K.moved hvm.symm hK1
  try dsimp only at hw hP1 hD1 hK1
  obtain ⟨hP, hD⟩ := va_join (wr := [(k0, .inl (cI, 7, .inl (fun _ => 0))), (q0, .inl (cO, 7, .inr (.inr (.inr (.inr (fun i => if i < 7 then some (rr i) else none)))))), (rr 0, .inl (cI, 3, .inl (fun _ => 0))), (rr 1, .inl (cI, 3, .inl (fun _ => 0))), (rr 2, .inl (cI, 3, .inl (fun _ => 0))), (rr 3, .inl (cI, 3, .inl (fun _ => 0))), (rr 4, .inl (cI, 3, .inl (fun _ => 0))), (rr 5, .inl (cI, 3, .inl (fun _ => 0))), (rr 6, .inl (cI, 3, .inl (fun _ => 0)))]) (w1 := [(m0, zM 1 0 1 (.ref k0) (.ref q0) a10 a11)]) hP hD [9] [0, 1, 2, 3, 4, 5, 6, 7, 8] rfl rfl (by decide) (by decide) hk1 hFc hP1 hD1
  generalize H1 = H at hP hS ⊢
  have hP : va_P (dC, dI) vwCl [(k0, .inl (cI, 7, .inl (fun _ => 0))), (q0, .inl (cO, 7, .inr (.inr (.inr (.inr (fun i => if i < 7 then some (rr i) else none)))))), (rr 0, .inl (cI, 3, .inl (fun _ => 0))), (rr 1, .inl (cI, 3, .inl (fun _ => 0))), (rr 2, .inl (cI, 3, .inl (fun _ => 0))), (rr 3, .inl (cI, 3, .inl (fun _ => 0))), (rr 4, .inl (cI, 3, .inl (fun _ => 0))), (rr 5, .inl (cI, 3, .inl (fun _ => 0))), (rr 6, .inl (cI, 3, .inl (fun _ => 0))), (m0, zM 1 0 1 (.ref k0) (.ref q0) a10 a11)] H := hP
  have hD : va_D (fun q : Nat => s.heap.size ≤ q) [(k0, .inl (cI, 7, .inl (fun _ => 0))), (q0, .inl (cO, 7, .inr (.inr (.inr (.inr (fun i => if i < 7 then some (rr i) else none)))))), (rr 0, .inl (cI, 3, .inl (fun _ => 0))), (rr 1, .inl (cI, 3, .inl (fun _ => 0))), (rr 2, .inl (cI, 3, .inl (fun _ => 0))), (rr 3, .inl (cI, 3, .inl (fun _ => 0))), (rr 4, .inl (cI, 3, .inl (fun _ => 0))), (rr 5, .inl (cI, 3, .inl (fun _ => 0))), (rr 6, .inl (cI, 3, .inl (fun _ => 0))), (m0, zM 1 0 1 (.ref k0) (.ref q0) a10 a11)] := hD
  subst hw
  refine lv_iload hx hb dL_law_733 (lv_at hl 1 rfl) ?_
  refine lv_icmp_eq (tgt := 740) hx hb dL_law_735 (by decide) (fun _ => ?_) (fun c7 => absurd (by decide) c7)
  refine lv_iload hx hb dL_law_740 (lv_at hl 1 rfl) ?_
  refine lv_if_ne (tgt := 757) hx hb dL_law_742 (by decide) (fun _ => ?_) (fun c8 => absurd c8 (by decide))
  refine lv_goto (tgt := 1015) hx hb dL_law_757 (by decide) ?_
  exact law_tail C1 hS (lv_sub hl [2, 6] rfl) (Nat.le_of_ble_eq_true rfl) (Nat.le_of_ble_eq_true rfl)
set_option maxHeartbeats 4000000 in
set_option maxRecDepth 100000 in
theorem law_case_10 {p : Program} {l : Launch} {e : Env} {s : State} {m : MethodId} {below : List Frame} {meth : Method} {c : Code} (hl9 : l.stackTraces = false) {b : Nat} {xs : Nat → Int32} (C0 : lw_At p s m meth c b 4 xs) (hZ : zx_Z (fun q : Nat => s.heap.size ≤ q) s s.heap) {dC : Nat → ClassId} {dI : Nat → Nat → Nat} {h0 m0 o0 k0 q0 : Nat} {v : Nat → Value} {rr : Nat → Nat} {cI cO cJ : ClassId} {a10 a11 : Value} {f : Nat → Int64} {H : Heap} {locs : List Loc} (hK : va_K (dC, dI) vwCl [(cI, .int), (cO, .array .int), (cJ, .long)] s) (hP : va_P (dC, dI) vwCl [(h0, zX 0 1 v), (m0, zM 0 0 1 (.ref k0) (.ref q0) a10 a11), (k0, .inl (cI, 7, .inl (fun _ => 0))), (q0, .inl (cO, 7, .inr (.inr (.inr (.inr (fun i => if i < 7 then some (rr i) else none)))))), (rr 0, .inl (cI, 3, .inl (fun _ => 0))), (rr 1, .inl (cI, 3, .inl (fun _ => 0))), (rr 2, .inl (cI, 3, .inl (fun _ => 0))), (rr 3, .inl (cI, 3, .inl (fun _ => 0))), (rr 4, .inl (cI, 3, .inl (fun _ => 0))), (rr 5, .inl (cI, 3, .inl (fun _ => 0))), (rr 6, .inl (cI, 3, .inl (fun _ => 0))), (o0, .inl (cJ, 1, .inr (.inl f)))] H) (hD : va_D (fun q : Nat => s.heap.size ≤ q) [(h0, zX 0 1 v), (m0, zM 0 0 1 (.ref k0) (.ref q0) a10 a11), (k0, .inl (cI, 7, .inl (fun _ => 0))), (q0, .inl (cO, 7, .inr (.inr (.inr (.inr (fun i => if i < 7 then some (rr i) else none)))))), (rr 0, .inl (cI, 3, .inl (fun _ => 0))), (rr 1, .inl (cI, 3, .inl (fun _ => 0))), (rr 2, .inl (cI, 3, .inl (fun _ => 0))), (rr 3, .inl (cI, 3, .inl (fun _ => 0))), (rr 4, .inl (cI, 3, .inl (fun _ => 0))), (rr 5, .inl (cI, 3, .inl (fun _ => 0))), (rr 6, .inl (cI, 3, .inl (fun _ => 0))), (o0, .inl (cJ, 1, .inr (.inl f)))]) (hS : va_S (fun q : Nat => s.heap.size ≤ q) s.heap H locs) {ls : Array Slot} (hl : lv_has ls 9 [(0, .ref b), (1, .ref h0), (2, .ref m0), (3, .ref o0), (4, .int 0)]) : W p l e room_1 s m #[Value.ref b] below meth c H locs 57 372 (lw_Z below #[Value.ref b] s) (F0 m 760 ls []) := by
  have C1 := C0
  obtain ⟨hx, hb, hr, hml, hown0, hts0, hX, hbl, hlocks, hgv⟩ := C0
  have hown : s.vm.findClass RL = some m.cls := hown0
  have hts : ∀ w ∈ wsL_law, w.before #[Value.ref b] s = true := fun w h => hts0 w (wsL_law_in w h)
  have hA : ∀ q : Nat, s.heap.size ≤ q → (fun q : Nat => s.heap.size ≤ q) q := fun _ h => h
  have hbA : ¬ (fun q : Nat => s.heap.size ≤ q) b := Nat.not_le.mpr hbl
  refine lv_aload_n hx hb dL_law_760 rfl (lv_at hl 1 rfl) ?_
  refine lv_aload_n hx hb dL_law_761 rfl (lv_at hl 0 rfl) ?_
  refine lv_iload hx hb dL_law_762 (lv_at hl 4 rfl) ?_
  refine lv_iconst (v := 1) hx hb dL_law_764 (by decide) ?_
  refine lv_iadd hx hb dL_law_765 ?_
  refine lv_topi (fun z1 ez1 => ?_)
  obtain rfl : z1 = 1 := ez1.trans (by decide)
  refine va_sld hx hb hX hbl hbA hS (zx_in rfl) dL_law_766 ?_
  refine lv_aload_n hx hb dL_law_767 rfl (lv_at hl 0 rfl) ?_
  refine lv_iload hx hb dL_law_768 (lv_at hl 4 rfl) ?_
  refine lv_iconst (v := 2) hx hb dL_law_770 (by decide) ?_
  refine lv_iadd hx hb dL_law_771 ?_
  refine lv_topi (fun z2 ez2 => ?_)
  obtain rfl : z2 = 2 := ez2.trans (by decide)
  refine va_sld hx hb hX hbl hbA hS (zx_in rfl) dL_law_772 ?_
  refine lv_aload_n hx hb dL_law_773 rfl (lv_at hl 3 rfl) ?_
  have hPc := hP.sub (ws' := [(h0, zX 0 1 v), (o0, .inl (cJ, 1, .inr (.inl f)))]) [0, 11] rfl
  have hDc := hD.sub (ws' := [(h0, zX 0 1 v), (o0, .inl (cJ, 1, .inr (.inl f)))]) [0, 11] (by decide) rfl
  have hKc := hK.sub (tys' := [(cJ, .long)]) [2] rfl
  have hFc := va_free (wc := [(h0, zX 0 1 v), (o0, .inl (cJ, 1, .inr (.inl f)))]) hD hS hA [0, 11] rfl
  refine va_calli (vx_runSW (As := [.ref h0, .int (xs (Int32.toNatClampNeg 1)), .int (xs (Int32.toNatClampNeg 2)), .ref o0]) (rest := []) ⟨hx, hb, hml, hown, hts⟩ (c_L_agrees l hl9 dC dI h0 o0 cJ f v (xs (Int32.toNatClampNeg 1)) (xs (Int32.toNatClampNeg 2)) H.size) (vx_cwSW 4 hts gL_law_L_agrees rfl rfl rfl (by decide +kernel) ⟨Nat.le_of_ble_eq_true rfl, Nat.le_of_ble_eq_true rfl⟩) ⟨zx_blind, fun U hU hW => ⟨rfl, zx_go hPc hKc hDc hZ hS hFc hU hW⟩⟩ rfl rfl hl.1 rfl (lv_room (Nat.le_of_ble_eq_true rfl)) dL_law_774 ⟨Nat.le_of_ble_eq_true rfl, Nat.le_of_ble_eq_true rfl⟩) hS (fun q _ h => hFc q h) hFc (fun r u t H1 locs ht hvm hw hB hz1 hk1 hS => ?_)
  obtain ⟨hP1, hK1, hD1⟩ := hB
  rw [ht] at hP1
  have hK1 := va_K.moved hvm.symm hK1
  try dsimp only at hw hP1 hD1 hK1
  obtain ⟨hP, hD⟩ := va_join (wr := [(m0, zM 0 0 1 (.ref k0) (.ref q0) a10 a11), (k0, .inl (cI, 7, .inl (fun _ => 0))), (q0, .inl (cO, 7, .inr (.inr (.inr (.inr (fun i => if i < 7 then some (rr i) else none)))))), (rr 0, .inl (cI, 3, .inl (fun _ => 0))), (rr 1, .inl (cI, 3, .inl (fun _ => 0))), (rr 2, .inl (cI, 3, .inl (fun _ => 0))), (rr 3, .inl (cI, 3, .inl (fun _ => 0))), (rr 4, .inl (cI, 3, .inl (fun _ => 0))), (rr 5, .inl (cI, 3, .inl (fun _ => 0))), (rr 6, .inl (cI, 3, .inl (fun _ => 0)))]) (w1 := []) hP hD [0, 11] [1, 2, 3, 4, 5, 6, 7, 8, 9, 10] rfl rfl (by decide) (by decide) hk1 hFc hP1 hD1
  generalize H1 = H at hP hS ⊢
  have hP : va_P (dC, dI) vwCl [(m0, zM 0 0 1 (.ref k0) (.ref q0) a10 a11), (k0, .inl (cI, 7, .inl (fun _ => 0))), (q0, .inl (cO, 7, .inr (.inr (.inr (.inr (fun i => if i < 7 then some (rr i) else none)))))), (rr 0, .inl (cI, 3, .inl (fun _ => 0))), (rr 1, .inl (cI, 3, .inl (fun _ => 0))), (rr 2, .inl (cI, 3, .inl (fun _ => 0))), (rr 3, .inl (cI, 3, .inl (fun _ => 0))), (rr 4, .inl (cI, 3, .inl (fun _ => 0))), (rr 5, .inl (cI, 3, .inl (fun _ => 0))), (rr 6, .inl (cI, 3, .inl (fun _ => 0)))] H := hP
  have hD : va_D (fun q : Nat => s.heap.size ≤ q) [(m0, zM 0 0 1 (.ref k0) (.ref q0) a10 a11), (k0, .inl (cI, 7, .inl (fun _ => 0))), (q0, .inl (cO, 7, .inr (.inr (.inr (.inr (fun i => if i < 7 then some (rr i) else none)))))), (rr 0, .inl (cI, 3, .inl (fun _ => 0))), (rr 1, .inl (cI, 3, .inl (fun _ => 0))), (rr 2, .inl (cI, 3, .inl (fun _ => 0))), (rr 3, .inl (cI, 3, .inl (fun _ => 0))), (rr 4, .inl (cI, 3, .inl (fun _ => 0))), (rr 5, .inl (cI, 3, .inl (fun _ => 0))), (rr 6, .inl (cI, 3, .inl (fun _ => 0)))] := hD
  refine W.widen (k := 58) (n := 378) (by omega) (by omega) ?_
  subst hw
  refine lv_istore (lv' := [(5, .int 1), (0, .ref b), (1, .ref h0), (2, .ref m0), (3, .ref o0), (4, .int 0)]) hx hb dL_law_777 hl (by decide) rfl (fun ls hl => ?_)
  refine lv_aload_n hx hb dL_law_779 rfl (lv_at hl 3 rfl) ?_
  refine lv_aload_n hx hb dL_law_780 rfl (lv_at hl 1 rfl) ?_
  refine lv_iload hx hb dL_law_781 (lv_at hl 5 rfl) ?_
  refine lv_iconst (v := 1) hx hb dL_law_783 (by decide) ?_
  refine lv_iadd hx hb dL_law_784 ?_
  refine lv_topi (fun z3 ez3 => ?_)
  obtain rfl : z3 = 1 := ez3.trans (by decide)
  refine va_sld hx hb hX hbl hbA hS (zx_in rfl) dL_law_785 ?_
  refine lv_aload_n hx hb dL_law_786 rfl (lv_at hl 1 rfl) ?_
  refine lv_iload hx hb dL_law_787 (lv_at hl 5 rfl) ?_
  refine lv_iconst (v := 2) hx hb dL_law_789 (by decide) ?_
  refine lv_iadd hx hb dL_law_790 ?_
  refine lv_topi (fun z4 ez4 => ?_)
  obtain rfl : z4 = 2 := ez4.trans (by decide)
  refine va_sld hx hb hX hbl hbA hS (zx_in rfl) dL_law_791 ?_
  have hPc := hP.sub (ws' := [(m0, zM 0 0 1 (.ref k0) (.ref q0) a10 a11)]) [0] rfl
  have hDc := hD.sub (ws' := [(m0, zM 0 0 1 (.ref k0) (.ref q0) a10 a11)]) [0] (by decide) rfl
  have hKc := hK.sub (tys' := []) [] rfl
  have hFc := va_free (wc := [(m0, zM 0 0 1 (.ref k0) (.ref q0) a10 a11)]) hD hS hA [0] rfl
  refine va_calli (va_runV (As := [.int (xs (Int32.toNatClampNeg 1)), .int (xs (Int32.toNatClampNeg 2))]) (rest := []) ⟨hx, hb, hml, hown, hts⟩ (c_X1_agrees l dC dI m0 (xs (Int32.toNatClampNeg 1)) (xs (Int32.toNatClampNeg 2)) (.ref k0) (.ref q0) a10 a11 H.size) (cwV 2 hts gL_law_X1_agrees rfl rfl rfl (by decide +kernel) ⟨Nat.le_of_ble_eq_true rfl, Nat.le_of_ble_eq_true rfl⟩) ⟨zx_blind, va_recv hKc hPc (ci := 1) (q0 := 0) rfl rfl, fun U hU hW => ⟨rfl, zx_go hPc hKc hDc hZ hS hFc hU hW⟩⟩ rfl rfl hl.1 rfl (lv_room (Nat.le_of_ble_eq_true rfl)) dL_law_792 ⟨Nat.le_of_ble_eq_true rfl, Nat.le_of_ble_eq_true rfl⟩) hS (fun q _ h => hFc q h) hFc (fun r u9 t H1 locs ht hvm hw hB hz1 hk1 hS => ?_)
  obtain ⟨hP1, hK1, hD1⟩ := hB
  rw [ht] at hP1
  have hK1 := va_K.moved hvm.symm hK1
  try dsimp only at hw hP1 hD1 hK1
  obtain ⟨hP, hD⟩ := va_join (wr := [(k0, .inl (cI, 7, .inl (fun _ => 0))), (q0, .inl (cO, 7, .inr (.inr (.inr (.inr (fun i => if i < 7 then some (rr i) else none)))))), (rr 0, .inl (cI, 3, .inl (fun _ => 0))), (rr 1, .inl (cI, 3, .inl (fun _ => 0))), (rr 2, .inl (cI, 3, .inl (fun _ => 0))), (rr 3, .inl (cI, 3, .inl (fun _ => 0))), (rr 4, .inl (cI, 3, .inl (fun _ => 0))), (rr 5, .inl (cI, 3, .inl (fun _ => 0))), (rr 6, .inl (cI, 3, .inl (fun _ => 0)))]) (w1 := [(m0, zM 1 0 1 (.ref k0) (.ref q0) a10 a11)]) hP hD [0] [1, 2, 3, 4, 5, 6, 7, 8, 9] rfl rfl (by decide) (by decide) hk1 hFc hP1 hD1
  generalize H1 = H at hP hS ⊢
  have hP : va_P (dC, dI) vwCl [(k0, .inl (cI, 7, .inl (fun _ => 0))), (q0, .inl (cO, 7, .inr (.inr (.inr (.inr (fun i => if i < 7 then some (rr i) else none)))))), (rr 0, .inl (cI, 3, .inl (fun _ => 0))), (rr 1, .inl (cI, 3, .inl (fun _ => 0))), (rr 2, .inl (cI, 3, .inl (fun _ => 0))), (rr 3, .inl (cI, 3, .inl (fun _ => 0))), (rr 4, .inl (cI, 3, .inl (fun _ => 0))), (rr 5, .inl (cI, 3, .inl (fun _ => 0))), (rr 6, .inl (cI, 3, .inl (fun _ => 0))), (m0, zM 1 0 1 (.ref k0) (.ref q0) a10 a11)] H := hP
  have hD : va_D (fun q : Nat => s.heap.size ≤ q) [(k0, .inl (cI, 7, .inl (fun _ => 0))), (q0, .inl (cO, 7, .inr (.inr (.inr (.inr (fun i => if i < 7 then some (rr i) else none)))))), (rr 0, .inl (cI, 3, .inl (fun _ => 0))), (rr 1, .inl (cI, 3, .inl (fun _ => 0))), (rr 2, .inl (cI, 3, .inl (fun _ => 0))), (rr 3, .inl (cI, 3, .inl (fun _ => 0))), (rr 4, .inl (cI, 3, .inl (fun _ => 0))), (rr 5, .inl (cI, 3, .inl (fun _ => 0))), (rr 6, .inl (cI, 3, .inl (fun _ => 0))), (m0, zM 1 0 1 (.ref k0) (.ref q0) a10 a11)] := hD
  subst hw
  refine lv_istore (lv' := [(6, .int 0), (5, .int 1), (0, .ref b), (1, .ref h0), (2, .ref m0), (3, .ref o0), (4, .int 0)]) hx hb dL_law_795 hl (by decide) rfl (fun ls hl => ?_)
  refine lv_aload_n hx hb dL_law_797 rfl (lv_at hl 4 rfl) ?_
  have hPc := hP.sub (ws' := [(m0, zM 1 0 1 (.ref k0) (.ref q0) a10 a11)]) [9] rfl
  have hDc := hD.sub (ws' := [(m0, zM 1 0 1 (.ref k0) (.ref q0) a10 a11)]) [9] (by decide) rfl
  have hKc := hK.sub (tys' := []) [] rfl
  have hFc := va_free (wc := [(m0, zM 1 0 1 (.ref k0) (.ref q0) a10 a11)]) hD hS hA [9] rfl
  refine va_calli (va_runV (As := []) (rest := []) ⟨hx, hb, hml, hown, hts⟩ (c_X1_thrown l dC dI m0 1 0 1 (.ref k0) (.ref q0) a10 a11 H.size) (cwV 0 hts gL_law_X1_thrown rfl rfl rfl (by decide +kernel) ⟨Nat.le_of_ble_eq_true rfl, Nat.le_of_ble_eq_true rfl⟩) ⟨zx_blind, va_recv hKc hPc (ci := 1) (q0 := 0) rfl rfl, fun U hU hW => ⟨rfl, zx_go hPc hKc hDc hZ hS hFc hU hW⟩⟩ rfl rfl hl.1 rfl (lv_room (Nat.le_of_ble_eq_true rfl)) dL_law_798 ⟨Nat.le_of_ble_eq_true rfl, Nat.le_of_ble_eq_true rfl⟩) hS (fun q _ h => hFc q h) hFc (fun r u8 t H1 locs ht hvm hw hB hz1 hk1 hS => ?_)
  obtain ⟨hP1, hK1, hD1⟩ := hB
  rw [ht] at hP1
  have hK1 := va_K.moved hvm.symm hK1
  try dsimp only at hw hP1 hD1 hK1
  obtain ⟨hP, hD⟩ := va_join (wr := [(k0, .inl (cI, 7, .inl (fun _ => 0))), (q0, .inl (cO, 7, .inr (.inr (.inr (.inr (fun i => if i < 7 then some (rr i) else none)))))), (rr 0, .inl (cI, 3, .inl (fun _ => 0))), (rr 1, .inl (cI, 3, .inl (fun _ => 0))), (rr 2, .inl (cI, 3, .inl (fun _ => 0))), (rr 3, .inl (cI, 3, .inl (fun _ => 0))), (rr 4, .inl (cI, 3, .inl (fun _ => 0))), (rr 5, .inl (cI, 3, .inl (fun _ => 0))), (rr 6, .inl (cI, 3, .inl (fun _ => 0)))]) (w1 := [(m0, zM 1 0 1 (.ref k0) (.ref q0) a10 a11)]) hP hD [9] [0, 1, 2, 3, 4, 5, 6, 7, 8] rfl rfl (by decide) (by decide) hk1 hFc hP1 hD1
  generalize H1 = H at hP hS ⊢
  have hP : va_P (dC, dI) vwCl [(k0, .inl (cI, 7, .inl (fun _ => 0))), (q0, .inl (cO, 7, .inr (.inr (.inr (.inr (fun i => if i < 7 then some (rr i) else none)))))), (rr 0, .inl (cI, 3, .inl (fun _ => 0))), (rr 1, .inl (cI, 3, .inl (fun _ => 0))), (rr 2, .inl (cI, 3, .inl (fun _ => 0))), (rr 3, .inl (cI, 3, .inl (fun _ => 0))), (rr 4, .inl (cI, 3, .inl (fun _ => 0))), (rr 5, .inl (cI, 3, .inl (fun _ => 0))), (rr 6, .inl (cI, 3, .inl (fun _ => 0))), (m0, zM 1 0 1 (.ref k0) (.ref q0) a10 a11)] H := hP
  have hD : va_D (fun q : Nat => s.heap.size ≤ q) [(k0, .inl (cI, 7, .inl (fun _ => 0))), (q0, .inl (cO, 7, .inr (.inr (.inr (.inr (fun i => if i < 7 then some (rr i) else none)))))), (rr 0, .inl (cI, 3, .inl (fun _ => 0))), (rr 1, .inl (cI, 3, .inl (fun _ => 0))), (rr 2, .inl (cI, 3, .inl (fun _ => 0))), (rr 3, .inl (cI, 3, .inl (fun _ => 0))), (rr 4, .inl (cI, 3, .inl (fun _ => 0))), (rr 5, .inl (cI, 3, .inl (fun _ => 0))), (rr 6, .inl (cI, 3, .inl (fun _ => 0))), (m0, zM 1 0 1 (.ref k0) (.ref q0) a10 a11)] := hD
  subst hw
  refine lv_iload hx hb dL_law_801 (lv_at hl 1 rfl) ?_
  refine lv_icmp_eq (tgt := 808) hx hb dL_law_803 (by decide) (fun _ => ?_) (fun c5 => absurd (by decide) c5)
  refine lv_iload hx hb dL_law_808 (lv_at hl 1 rfl) ?_
  refine lv_if_ne (tgt := 832) hx hb dL_law_810 (by decide) (fun _ => ?_) (fun c6 => absurd c6 (by decide))
  refine lv_goto (tgt := 1015) hx hb dL_law_832 (by decide) ?_
  exact law_tail C1 hS (lv_sub hl [2, 6] rfl) (Nat.le_of_ble_eq_true rfl) (Nat.le_of_ble_eq_true rfl)
set_option maxHeartbeats 4000000 in
set_option maxRecDepth 100000 in
theorem law_case_11 {p : Program} {l : Launch} {e : Env} {s : State} {m : MethodId} {below : List Frame} {meth : Method} {c : Code} (hl9 : l.stackTraces = false) {b : Nat} {xs : Nat → Int32} (C0 : lw_At p s m meth c b 4 xs) (hZ : zx_Z (fun q : Nat => s.heap.size ≤ q) s s.heap) {dC : Nat → ClassId} {dI : Nat → Nat → Nat} {h0 m0 o0 k0 q0 : Nat} {v : Nat → Value} {rr : Nat → Nat} {cI cO cJ : ClassId} {a10 a11 : Value} {f : Nat → Int64} {H : Heap} {locs : List Loc} (hK : va_K (dC, dI) vwCl [(cI, .int), (cO, .array .int), (cJ, .long)] s) (hP : va_P (dC, dI) vwCl [(h0, zX 0 1 v), (m0, zM 0 0 1 (.ref k0) (.ref q0) a10 a11), (k0, .inl (cI, 7, .inl (fun _ => 0))), (q0, .inl (cO, 7, .inr (.inr (.inr (.inr (fun i => if i < 7 then some (rr i) else none)))))), (rr 0, .inl (cI, 3, .inl (fun _ => 0))), (rr 1, .inl (cI, 3, .inl (fun _ => 0))), (rr 2, .inl (cI, 3, .inl (fun _ => 0))), (rr 3, .inl (cI, 3, .inl (fun _ => 0))), (rr 4, .inl (cI, 3, .inl (fun _ => 0))), (rr 5, .inl (cI, 3, .inl (fun _ => 0))), (rr 6, .inl (cI, 3, .inl (fun _ => 0))), (o0, .inl (cJ, 1, .inr (.inl f)))] H) (hD : va_D (fun q : Nat => s.heap.size ≤ q) [(h0, zX 0 1 v), (m0, zM 0 0 1 (.ref k0) (.ref q0) a10 a11), (k0, .inl (cI, 7, .inl (fun _ => 0))), (q0, .inl (cO, 7, .inr (.inr (.inr (.inr (fun i => if i < 7 then some (rr i) else none)))))), (rr 0, .inl (cI, 3, .inl (fun _ => 0))), (rr 1, .inl (cI, 3, .inl (fun _ => 0))), (rr 2, .inl (cI, 3, .inl (fun _ => 0))), (rr 3, .inl (cI, 3, .inl (fun _ => 0))), (rr 4, .inl (cI, 3, .inl (fun _ => 0))), (rr 5, .inl (cI, 3, .inl (fun _ => 0))), (rr 6, .inl (cI, 3, .inl (fun _ => 0))), (o0, .inl (cJ, 1, .inr (.inl f)))]) (hS : va_S (fun q : Nat => s.heap.size ≤ q) s.heap H locs) {ls : Array Slot} (hl : lv_has ls 9 [(0, .ref b), (1, .ref h0), (2, .ref m0), (3, .ref o0), (4, .int 0)]) : W p l e room_1 s m #[Value.ref b] below meth c H locs 57 372 (lw_Z below #[Value.ref b] s) (F0 m 835 ls []) := by
  have C1 := C0
  obtain ⟨hx, hb, hr, hml, hown0, hts0, hX, hbl, hlocks, hgv⟩ := C0
  have hown : s.vm.findClass RL = some m.cls := hown0
  have hts : ∀ w ∈ wsL_law, w.before #[Value.ref b] s = true := fun w h => hts0 w (wsL_law_in w h)
  have hA : ∀ q : Nat, s.heap.size ≤ q → (fun q : Nat => s.heap.size ≤ q) q := fun _ h => h
  have hbA : ¬ (fun q : Nat => s.heap.size ≤ q) b := Nat.not_le.mpr hbl
  refine lv_aload_n hx hb dL_law_835 rfl (lv_at hl 1 rfl) ?_
  refine lv_aload_n hx hb dL_law_836 rfl (lv_at hl 0 rfl) ?_
  refine lv_iload hx hb dL_law_837 (lv_at hl 4 rfl) ?_
  refine lv_iconst (v := 1) hx hb dL_law_839 (by decide) ?_
  refine lv_iadd hx hb dL_law_840 ?_
  refine lv_topi (fun z1 ez1 => ?_)
  obtain rfl : z1 = 1 := ez1.trans (by decide)
  refine va_sld hx hb hX hbl hbA hS (zx_in rfl) dL_law_841 ?_
  refine lv_aload_n hx hb dL_law_842 rfl (lv_at hl 3 rfl) ?_
  have hPc := hP.sub (ws' := [(h0, zX 0 1 v), (o0, .inl (cJ, 1, .inr (.inl f)))]) [0, 11] rfl
  have hDc := hD.sub (ws' := [(h0, zX 0 1 v), (o0, .inl (cJ, 1, .inr (.inl f)))]) [0, 11] (by decide) rfl
  have hKc := hK.sub (tys' := [(cJ, .long)]) [2] rfl
  have hFc := va_free (wc := [(h0, zX 0 1 v), (o0, .inl (cJ, 1, .inr (.inl f)))]) hD hS hA [0, 11] rfl
  refine va_calli (vx_runSW (As := [.ref h0, .int (xs (Int32.toNatClampNeg 1)), .ref o0]) (rest := []) ⟨hx, hb, hml, hown, hts⟩ (c_L_messengers l hl9 dC dI h0 o0 cJ f v (xs (Int32.toNatClampNeg 1)) H.size) (vx_cwSW 3 hts gL_law_L_messengers rfl rfl rfl (by decide +kernel) ⟨Nat.le_of_ble_eq_true rfl, Nat.le_of_ble_eq_true rfl⟩) ⟨zx_blind, fun U hU hW => ⟨rfl, zx_go hPc hKc hDc hZ hS hFc hU hW⟩⟩ rfl rfl hl.1 rfl (lv_room (Nat.le_of_ble_eq_true rfl)) dL_law_843 ⟨Nat.le_of_ble_eq_true rfl, Nat.le_of_ble_eq_true rfl⟩) hS (fun q _ h => hFc q h) hFc (fun r u t H1 locs ht hvm hw hB hz1 hk1 hS => ?_)
  obtain ⟨hP1, hK1, hD1⟩ := hB
  rw [ht] at hP1
  have hK1 := va_K.moved hvm.symm hK1
  try dsimp only at hw hP1 hD1 hK1
  obtain ⟨hP, hD⟩ := va_join (wr := [(m0, zM 0 0 1 (.ref k0) (.ref q0) a10 a11), (k0, .inl (cI, 7, .inl (fun _ => 0))), (q0, .inl (cO, 7, .inr (.inr (.inr (.inr (fun i => if i < 7 then some (rr i) else none)))))), (rr 0, .inl (cI, 3, .inl (fun _ => 0))), (rr 1, .inl (cI, 3, .inl (fun _ => 0))), (rr 2, .inl (cI, 3, .inl (fun _ => 0))), (rr 3, .inl (cI, 3, .inl (fun _ => 0))), (rr 4, .inl (cI, 3, .inl (fun _ => 0))), (rr 5, .inl (cI, 3, .inl (fun _ => 0))), (rr 6, .inl (cI, 3, .inl (fun _ => 0)))]) (w1 := [(o0, .inl (cJ, 1, .inr (.inl u)))]) hP hD [0, 11] [1, 2, 3, 4, 5, 6, 7, 8, 9, 10] rfl rfl (by decide) (by decide) hk1 hFc hP1 hD1
  generalize H1 = H at hP hS ⊢
  have hP : va_P (dC, dI) vwCl [(m0, zM 0 0 1 (.ref k0) (.ref q0) a10 a11), (k0, .inl (cI, 7, .inl (fun _ => 0))), (q0, .inl (cO, 7, .inr (.inr (.inr (.inr (fun i => if i < 7 then some (rr i) else none)))))), (rr 0, .inl (cI, 3, .inl (fun _ => 0))), (rr 1, .inl (cI, 3, .inl (fun _ => 0))), (rr 2, .inl (cI, 3, .inl (fun _ => 0))), (rr 3, .inl (cI, 3, .inl (fun _ => 0))), (rr 4, .inl (cI, 3, .inl (fun _ => 0))), (rr 5, .inl (cI, 3, .inl (fun _ => 0))), (rr 6, .inl (cI, 3, .inl (fun _ => 0))), (o0, .inl (cJ, 1, .inr (.inl u)))] H := hP
  have hD : va_D (fun q : Nat => s.heap.size ≤ q) [(m0, zM 0 0 1 (.ref k0) (.ref q0) a10 a11), (k0, .inl (cI, 7, .inl (fun _ => 0))), (q0, .inl (cO, 7, .inr (.inr (.inr (.inr (fun i => if i < 7 then some (rr i) else none)))))), (rr 0, .inl (cI, 3, .inl (fun _ => 0))), (rr 1, .inl (cI, 3, .inl (fun _ => 0))), (rr 2, .inl (cI, 3, .inl (fun _ => 0))), (rr 3, .inl (cI, 3, .inl (fun _ => 0))), (rr 4, .inl (cI, 3, .inl (fun _ => 0))), (rr 5, .inl (cI, 3, .inl (fun _ => 0))), (rr 6, .inl (cI, 3, .inl (fun _ => 0))), (o0, .inl (cJ, 1, .inr (.inl u)))] := hD
  refine W.widen (k := 58) (n := 378) (by omega) (by omega) ?_
  rcases hw with ⟨rfl, g1⟩ | ⟨rfl, hu, g1, g2⟩
  · skip
    refine lv_istore (lv' := [(5, .int 1), (0, .ref b), (1, .ref h0), (2, .ref m0), (3, .ref o0), (4, .int 0)]) hx hb dL_law_846 hl (by decide) rfl (fun ls hl => ?_)
    refine lv_aload_n hx hb dL_law_848 rfl (lv_at hl 3 rfl) ?_
    refine lv_aload_n hx hb dL_law_849 rfl (lv_at hl 1 rfl) ?_
    refine lv_iload hx hb dL_law_850 (lv_at hl 5 rfl) ?_
    refine lv_iconst (v := 1) hx hb dL_law_852 (by decide) ?_
    refine lv_iadd hx hb dL_law_853 ?_
    refine lv_topi (fun z2 ez2 => ?_)
    obtain rfl : z2 = 1 := ez2.trans (by decide)
    refine va_sld hx hb hX hbl hbA hS (zx_in rfl) dL_law_854 ?_
    have hPc := hP.sub (ws' := [(m0, zM 0 0 1 (.ref k0) (.ref q0) a10 a11)]) [0] rfl
    have hDc := hD.sub (ws' := [(m0, zM 0 0 1 (.ref k0) (.ref q0) a10 a11)]) [0] (by decide) rfl
    have hKc := hK.sub (tys' := []) [] rfl
    have hFc := va_free (wc := [(m0, zM 0 0 1 (.ref k0) (.ref q0) a10 a11)]) hD hS hA [0] rfl
    refine va_calli (va_runV (As := [.int (xs (Int32.toNatClampNeg 1))]) (rest := []) ⟨hx, hb, hml, hown, hts⟩ (c_X1_messengers l dC dI m0 (xs (Int32.toNatClampNeg 1)) (.ref k0) (.ref q0) a10 a11 H.size) (cwV 1 hts gL_law_X1_messengers rfl rfl rfl (by decide +kernel) ⟨Nat.le_of_ble_eq_true rfl, Nat.le_of_ble_eq_true rfl⟩) ⟨zx_blind, va_recv hKc hPc (ci := 1) (q0 := 0) rfl rfl, fun U hU hW => ⟨rfl, zx_go hPc hKc hDc hZ hS hFc hU hW⟩⟩ rfl rfl hl.1 rfl (lv_room (Nat.le_of_ble_eq_true rfl)) dL_law_855 ⟨Nat.le_of_ble_eq_true rfl, Nat.le_of_ble_eq_true rfl⟩) hS (fun q _ h => hFc q h) hFc (fun r u9 t H1 locs ht hvm hw hB hz1 hk1 hS => ?_)
    obtain ⟨hP1, hK1, hD1⟩ := hB
    rw [ht] at hP1
    have hK1 := va_K.moved hvm.symm hK1
    try dsimp only at hw hP1 hD1 hK1
    obtain ⟨hP, hD⟩ := va_join (wr := [(k0, .inl (cI, 7, .inl (fun _ => 0))), (q0, .inl (cO, 7, .inr (.inr (.inr (.inr (fun i => if i < 7 then some (rr i) else none)))))), (rr 0, .inl (cI, 3, .inl (fun _ => 0))), (rr 1, .inl (cI, 3, .inl (fun _ => 0))), (rr 2, .inl (cI, 3, .inl (fun _ => 0))), (rr 3, .inl (cI, 3, .inl (fun _ => 0))), (rr 4, .inl (cI, 3, .inl (fun _ => 0))), (rr 5, .inl (cI, 3, .inl (fun _ => 0))), (rr 6, .inl (cI, 3, .inl (fun _ => 0))), (o0, .inl (cJ, 1, .inr (.inl u)))]) (w1 := [(m0, zM u9 0 1 (.ref k0) (.ref q0) a10 a11)]) hP hD [0] [1, 2, 3, 4, 5, 6, 7, 8, 9, 10] rfl rfl (by decide) (by decide) hk1 hFc hP1 hD1
    generalize H1 = H at hP hS ⊢
    have hP : va_P (dC, dI) vwCl [(k0, .inl (cI, 7, .inl (fun _ => 0))), (q0, .inl (cO, 7, .inr (.inr (.inr (.inr (fun i => if i < 7 then some (rr i) else none)))))), (rr 0, .inl (cI, 3, .inl (fun _ => 0))), (rr 1, .inl (cI, 3, .inl (fun _ => 0))), (rr 2, .inl (cI, 3, .inl (fun _ => 0))), (rr 3, .inl (cI, 3, .inl (fun _ => 0))), (rr 4, .inl (cI, 3, .inl (fun _ => 0))), (rr 5, .inl (cI, 3, .inl (fun _ => 0))), (rr 6, .inl (cI, 3, .inl (fun _ => 0))), (o0, .inl (cJ, 1, .inr (.inl u))), (m0, zM u9 0 1 (.ref k0) (.ref q0) a10 a11)] H := hP
    have hD : va_D (fun q : Nat => s.heap.size ≤ q) [(k0, .inl (cI, 7, .inl (fun _ => 0))), (q0, .inl (cO, 7, .inr (.inr (.inr (.inr (fun i => if i < 7 then some (rr i) else none)))))), (rr 0, .inl (cI, 3, .inl (fun _ => 0))), (rr 1, .inl (cI, 3, .inl (fun _ => 0))), (rr 2, .inl (cI, 3, .inl (fun _ => 0))), (rr 3, .inl (cI, 3, .inl (fun _ => 0))), (rr 4, .inl (cI, 3, .inl (fun _ => 0))), (rr 5, .inl (cI, 3, .inl (fun _ => 0))), (rr 6, .inl (cI, 3, .inl (fun _ => 0))), (o0, .inl (cJ, 1, .inr (.inl u))), (m0, zM u9 0 1 (.ref k0) (.ref q0) a10 a11)] := hD
    obtain ⟨rfl, rfl, j1⟩ := hw.resolve_right (fun h => g1.elim h.2.2.1 h.2.2.2)
    have hP : va_P (dC, dI) vwCl [(k0, .inl (cI, 7, .inl (fun _ => 0))), (q0, .inl (cO, 7, .inr (.inr (.inr (.inr (fun i => if i < 7 then some (rr i) else none)))))), (rr 0, .inl (cI, 3, .inl (fun _ => 0))), (rr 1, .inl (cI, 3, .inl (fun _ => 0))), (rr 2, .inl (cI, 3, .inl (fun _ => 0))), (rr 3, .inl (cI, 3, .inl (fun _ => 0))), (rr 4, .inl (cI, 3, .inl (fun _ => 0))), (rr 5, .inl (cI, 3, .inl (fun _ => 0))), (rr 6, .inl (cI, 3, .inl (fun _ => 0))), (o0, .inl (cJ, 1, .inr (.inl u))), (m0, zM 1 0 1 (.ref k0) (.ref q0) a10 a11)] H := hP
    have hD : va_D (fun q : Nat => s.heap.size ≤ q) [(k0, .inl (cI, 7, .inl (fun _ => 0))), (q0, .inl (cO, 7, .inr (.inr (.inr (.inr (fun i => if i < 7 then some (rr i) else none)))))), (rr 0, .inl (cI, 3, .inl (fun _ => 0))), (rr 1, .inl (cI, 3, .inl (fun _ => 0))), (rr 2, .inl (cI, 3, .inl (fun _ => 0))), (rr 3, .inl (cI, 3, .inl (fun _ => 0))), (rr 4, .inl (cI, 3, .inl (fun _ => 0))), (rr 5, .inl (cI, 3, .inl (fun _ => 0))), (rr 6, .inl (cI, 3, .inl (fun _ => 0))), (o0, .inl (cJ, 1, .inr (.inl u))), (m0, zM 1 0 1 (.ref k0) (.ref q0) a10 a11)] := hD
    refine lv_istore (lv' := [(6, .int 0), (5, .int 1), (0, .ref b), (1, .ref h0), (2, .ref m0), (3, .ref o0), (4, .int 0)]) hx hb dL_law_858 hl (by decide) rfl (fun ls hl => ?_)
    refine lv_aload_n hx hb dL_law_860 rfl (lv_at hl 4 rfl) ?_
    have hPc := hP.sub (ws' := [(m0, zM 1 0 1 (.ref k0) (.ref q0) a10 a11)]) [10] rfl
    have hDc := hD.sub (ws' := [(m0, zM 1 0 1 (.ref k0) (.ref q0) a10 a11)]) [10] (by decide) rfl
    have hKc := hK.sub (tys' := []) [] rfl
    have hFc := va_free (wc := [(m0, zM 1 0 1 (.ref k0) (.ref q0) a10 a11)]) hD hS hA [10] rfl
    refine va_calli (va_runV (As := []) (rest := []) ⟨hx, hb, hml, hown, hts⟩ (c_X1_thrown l dC dI m0 1 0 1 (.ref k0) (.ref q0) a10 a11 H.size) (cwV 0 hts gL_law_X1_thrown rfl rfl rfl (by decide +kernel) ⟨Nat.le_of_ble_eq_true rfl, Nat.le_of_ble_eq_true rfl⟩) ⟨zx_blind, va_recv hKc hPc (ci := 1) (q0 := 0) rfl rfl, fun U hU hW => ⟨rfl, zx_go hPc hKc hDc hZ hS hFc hU hW⟩⟩ rfl rfl hl.1 rfl (lv_room (Nat.le_of_ble_eq_true rfl)) dL_law_861 ⟨Nat.le_of_ble_eq_true rfl, Nat.le_of_ble_eq_true rfl⟩) hS (fun q _ h => hFc q h) hFc (fun r u8 t H1 locs ht hvm hw hB hz1 hk1 hS => ?_)
    obtain ⟨hP1, hK1, hD1⟩ := hB
    rw [ht] at hP1
    have hK1 := va_K.moved hvm.symm hK1
    try dsimp only at hw hP1 hD1 hK1
    obtain ⟨hP, hD⟩ := va_join (wr := [(k0, .inl (cI, 7, .inl (fun _ => 0))), (q0, .inl (cO, 7, .inr (.inr (.inr (.inr (fun i => if i < 7 then some (rr i) else none)))))), (rr 0, .inl (cI, 3, .inl (fun _ => 0))), (rr 1, .inl (cI, 3, .inl (fun _ => 0))), (rr 2, .inl (cI, 3, .inl (fun _ => 0))), (rr 3, .inl (cI, 3, .inl (fun _ => 0))), (rr 4, .inl (cI, 3, .inl (fun _ => 0))), (rr 5, .inl (cI, 3, .inl (fun _ => 0))), (rr 6, .inl (cI, 3, .inl (fun _ => 0))), (o0, .inl (cJ, 1, .inr (.inl u)))]) (w1 := [(m0, zM 1 0 1 (.ref k0) (.ref q0) a10 a11)]) hP hD [10] [0, 1, 2, 3, 4, 5, 6, 7, 8, 9] rfl rfl (by decide) (by decide) hk1 hFc hP1 hD1
    generalize H1 = H at hP hS ⊢
    have hP : va_P (dC, dI) vwCl [(k0, .inl (cI, 7, .inl (fun _ => 0))), (q0, .inl (cO, 7, .inr (.inr (.inr (.inr (fun i => if i < 7 then some (rr i) else none)))))), (rr 0, .inl (cI, 3, .inl (fun _ => 0))), (rr 1, .inl (cI, 3, .inl (fun _ => 0))), (rr 2, .inl (cI, 3, .inl (fun _ => 0))), (rr 3, .inl (cI, 3, .inl (fun _ => 0))), (rr 4, .inl (cI, 3, .inl (fun _ => 0))), (rr 5, .inl (cI, 3, .inl (fun _ => 0))), (rr 6, .inl (cI, 3, .inl (fun _ => 0))), (o0, .inl (cJ, 1, .inr (.inl u))), (m0, zM 1 0 1 (.ref k0) (.ref q0) a10 a11)] H := hP
    have hD : va_D (fun q : Nat => s.heap.size ≤ q) [(k0, .inl (cI, 7, .inl (fun _ => 0))), (q0, .inl (cO, 7, .inr (.inr (.inr (.inr (fun i => if i < 7 then some (rr i) else none)))))), (rr 0, .inl (cI, 3, .inl (fun _ => 0))), (rr 1, .inl (cI, 3, .inl (fun _ => 0))), (rr 2, .inl (cI, 3, .inl (fun _ => 0))), (rr 3, .inl (cI, 3, .inl (fun _ => 0))), (rr 4, .inl (cI, 3, .inl (fun _ => 0))), (rr 5, .inl (cI, 3, .inl (fun _ => 0))), (rr 6, .inl (cI, 3, .inl (fun _ => 0))), (o0, .inl (cJ, 1, .inr (.inl u))), (m0, zM 1 0 1 (.ref k0) (.ref q0) a10 a11)] := hD
    subst hw
    refine lv_iload hx hb dL_law_864 (lv_at hl 1 rfl) ?_
    refine lv_icmp_eq (tgt := 871) hx hb dL_law_866 (by decide) (fun _ => ?_) (fun c3 => absurd (by decide) c3)
    refine lv_iload hx hb dL_law_871 (lv_at hl 1 rfl) ?_
    refine lv_if_ne (tgt := 888) hx hb dL_law_873 (by decide) (fun _ => ?_) (fun c4 => absurd c4 (by decide))
    refine lv_goto (tgt := 1015) hx hb dL_law_888 (by decide) ?_
    exact law_tail C1 hS (lv_sub hl [2, 6] rfl) (Nat.le_of_ble_eq_true rfl) (Nat.le_of_ble_eq_true rfl)
  · skip
    refine lv_istore (lv' := [(5, .int 0), (0, .ref b), (1, .ref h0), (2, .ref m0), (3, .ref o0), (4, .int 0)]) hx hb dL_law_846 hl (by decide) rfl (fun ls hl => ?_)
    refine lv_aload_n hx hb dL_law_848 rfl (lv_at hl 3 rfl) ?_
    refine lv_aload_n hx hb dL_law_849 rfl (lv_at hl 1 rfl) ?_
    refine lv_iload hx hb dL_law_850 (lv_at hl 5 rfl) ?_
    refine lv_iconst (v := 1) hx hb dL_law_852 (by decide) ?_
    refine lv_iadd hx hb dL_law_853 ?_
    refine lv_topi (fun z5 ez5 => ?_)
    obtain rfl : z5 = 1 := ez5.trans (by decide)
    refine va_sld hx hb hX hbl hbA hS (zx_in rfl) dL_law_854 ?_
    have hPc := hP.sub (ws' := [(m0, zM 0 0 1 (.ref k0) (.ref q0) a10 a11)]) [0] rfl
    have hDc := hD.sub (ws' := [(m0, zM 0 0 1 (.ref k0) (.ref q0) a10 a11)]) [0] (by decide) rfl
    have hKc := hK.sub (tys' := []) [] rfl
    have hFc := va_free (wc := [(m0, zM 0 0 1 (.ref k0) (.ref q0) a10 a11)]) hD hS hA [0] rfl
    refine va_calli (va_runV (As := [.int (xs (Int32.toNatClampNeg 1))]) (rest := []) ⟨hx, hb, hml, hown, hts⟩ (c_X1_messengers l dC dI m0 (xs (Int32.toNatClampNeg 1)) (.ref k0) (.ref q0) a10 a11 H.size) (cwV 1 hts gL_law_X1_messengers rfl rfl rfl (by decide +kernel) ⟨Nat.le_of_ble_eq_true rfl, Nat.le_of_ble_eq_true rfl⟩) ⟨zx_blind, va_recv hKc hPc (ci := 1) (q0 := 0) rfl rfl, fun U hU hW => ⟨rfl, zx_go hPc hKc hDc hZ hS hFc hU hW⟩⟩ rfl rfl hl.1 rfl (lv_room (Nat.le_of_ble_eq_true rfl)) dL_law_855 ⟨Nat.le_of_ble_eq_true rfl, Nat.le_of_ble_eq_true rfl⟩) hS (fun q _ h => hFc q h) hFc (fun r u9 t H1 locs ht hvm hw hB hz1 hk1 hS => ?_)
    obtain ⟨hP1, hK1, hD1⟩ := hB
    rw [ht] at hP1
    have hK1 := va_K.moved hvm.symm hK1
    try dsimp only at hw hP1 hD1 hK1
    obtain ⟨hP, hD⟩ := va_join (wr := [(k0, .inl (cI, 7, .inl (fun _ => 0))), (q0, .inl (cO, 7, .inr (.inr (.inr (.inr (fun i => if i < 7 then some (rr i) else none)))))), (rr 0, .inl (cI, 3, .inl (fun _ => 0))), (rr 1, .inl (cI, 3, .inl (fun _ => 0))), (rr 2, .inl (cI, 3, .inl (fun _ => 0))), (rr 3, .inl (cI, 3, .inl (fun _ => 0))), (rr 4, .inl (cI, 3, .inl (fun _ => 0))), (rr 5, .inl (cI, 3, .inl (fun _ => 0))), (rr 6, .inl (cI, 3, .inl (fun _ => 0))), (o0, .inl (cJ, 1, .inr (.inl u)))]) (w1 := [(m0, zM u9 0 1 (.ref k0) (.ref q0) a10 a11)]) hP hD [0] [1, 2, 3, 4, 5, 6, 7, 8, 9, 10] rfl rfl (by decide) (by decide) hk1 hFc hP1 hD1
    generalize H1 = H at hP hS ⊢
    have hP : va_P (dC, dI) vwCl [(k0, .inl (cI, 7, .inl (fun _ => 0))), (q0, .inl (cO, 7, .inr (.inr (.inr (.inr (fun i => if i < 7 then some (rr i) else none)))))), (rr 0, .inl (cI, 3, .inl (fun _ => 0))), (rr 1, .inl (cI, 3, .inl (fun _ => 0))), (rr 2, .inl (cI, 3, .inl (fun _ => 0))), (rr 3, .inl (cI, 3, .inl (fun _ => 0))), (rr 4, .inl (cI, 3, .inl (fun _ => 0))), (rr 5, .inl (cI, 3, .inl (fun _ => 0))), (rr 6, .inl (cI, 3, .inl (fun _ => 0))), (o0, .inl (cJ, 1, .inr (.inl u))), (m0, zM u9 0 1 (.ref k0) (.ref q0) a10 a11)] H := hP
    have hD : va_D (fun q : Nat => s.heap.size ≤ q) [(k0, .inl (cI, 7, .inl (fun _ => 0))), (q0, .inl (cO, 7, .inr (.inr (.inr (.inr (fun i => if i < 7 then some (rr i) else none)))))), (rr 0, .inl (cI, 3, .inl (fun _ => 0))), (rr 1, .inl (cI, 3, .inl (fun _ => 0))), (rr 2, .inl (cI, 3, .inl (fun _ => 0))), (rr 3, .inl (cI, 3, .inl (fun _ => 0))), (rr 4, .inl (cI, 3, .inl (fun _ => 0))), (rr 5, .inl (cI, 3, .inl (fun _ => 0))), (rr 6, .inl (cI, 3, .inl (fun _ => 0))), (o0, .inl (cJ, 1, .inr (.inl u))), (m0, zM u9 0 1 (.ref k0) (.ref q0) a10 a11)] := hD
    obtain ⟨rfl, rfl, j1, j2⟩ := hw.resolve_left (fun h => h.2.2.elim g1 g2)
    have hP : va_P (dC, dI) vwCl [(k0, .inl (cI, 7, .inl (fun _ => 0))), (q0, .inl (cO, 7, .inr (.inr (.inr (.inr (fun i => if i < 7 then some (rr i) else none)))))), (rr 0, .inl (cI, 3, .inl (fun _ => 0))), (rr 1, .inl (cI, 3, .inl (fun _ => 0))), (rr 2, .inl (cI, 3, .inl (fun _ => 0))), (rr 3, .inl (cI, 3, .inl (fun _ => 0))), (rr 4, .inl (cI, 3, .inl (fun _ => 0))), (rr 5, .inl (cI, 3, .inl (fun _ => 0))), (rr 6, .inl (cI, 3, .inl (fun _ => 0))), (o0, .inl (cJ, 1, .inr (.inl u))), (m0, zM 0 0 1 (.ref k0) (.ref q0) a10 a11)] H := hP
    have hD : va_D (fun q : Nat => s.heap.size ≤ q) [(k0, .inl (cI, 7, .inl (fun _ => 0))), (q0, .inl (cO, 7, .inr (.inr (.inr (.inr (fun i => if i < 7 then some (rr i) else none)))))), (rr 0, .inl (cI, 3, .inl (fun _ => 0))), (rr 1, .inl (cI, 3, .inl (fun _ => 0))), (rr 2, .inl (cI, 3, .inl (fun _ => 0))), (rr 3, .inl (cI, 3, .inl (fun _ => 0))), (rr 4, .inl (cI, 3, .inl (fun _ => 0))), (rr 5, .inl (cI, 3, .inl (fun _ => 0))), (rr 6, .inl (cI, 3, .inl (fun _ => 0))), (o0, .inl (cJ, 1, .inr (.inl u))), (m0, zM 0 0 1 (.ref k0) (.ref q0) a10 a11)] := hD
    refine lv_istore (lv' := [(6, .int 0), (5, .int 0), (0, .ref b), (1, .ref h0), (2, .ref m0), (3, .ref o0), (4, .int 0)]) hx hb dL_law_858 hl (by decide) rfl (fun ls hl => ?_)
    refine lv_aload_n hx hb dL_law_860 rfl (lv_at hl 4 rfl) ?_
    have hPc := hP.sub (ws' := [(m0, zM 0 0 1 (.ref k0) (.ref q0) a10 a11)]) [10] rfl
    have hDc := hD.sub (ws' := [(m0, zM 0 0 1 (.ref k0) (.ref q0) a10 a11)]) [10] (by decide) rfl
    have hKc := hK.sub (tys' := []) [] rfl
    have hFc := va_free (wc := [(m0, zM 0 0 1 (.ref k0) (.ref q0) a10 a11)]) hD hS hA [10] rfl
    refine va_calli (va_runV (As := []) (rest := []) ⟨hx, hb, hml, hown, hts⟩ (c_X1_thrown l dC dI m0 0 0 1 (.ref k0) (.ref q0) a10 a11 H.size) (cwV 0 hts gL_law_X1_thrown rfl rfl rfl (by decide +kernel) ⟨Nat.le_of_ble_eq_true rfl, Nat.le_of_ble_eq_true rfl⟩) ⟨zx_blind, va_recv hKc hPc (ci := 1) (q0 := 0) rfl rfl, fun U hU hW => ⟨rfl, zx_go hPc hKc hDc hZ hS hFc hU hW⟩⟩ rfl rfl hl.1 rfl (lv_room (Nat.le_of_ble_eq_true rfl)) dL_law_861 ⟨Nat.le_of_ble_eq_true rfl, Nat.le_of_ble_eq_true rfl⟩) hS (fun q _ h => hFc q h) hFc (fun r u8 t H1 locs ht hvm hw hB hz1 hk1 hS => ?_)
    obtain ⟨hP1, hK1, hD1⟩ := hB
    rw [ht] at hP1
    have hK1 := va_K.moved hvm.symm hK1
    try dsimp only at hw hP1 hD1 hK1
    obtain ⟨hP, hD⟩ := va_join (wr := [(k0, .inl (cI, 7, .inl (fun _ => 0))), (q0, .inl (cO, 7, .inr (.inr (.inr (.inr (fun i => if i < 7 then some (rr i) else none)))))), (rr 0, .inl (cI, 3, .inl (fun _ => 0))), (rr 1, .inl (cI, 3, .inl (fun _ => 0))), (rr 2, .inl (cI, 3, .inl (fun _ => 0))), (rr 3, .inl (cI, 3, .inl (fun _ => 0))), (rr 4, .inl (cI, 3, .inl (fun _ => 0))), (rr 5, .inl (cI, 3, .inl (fun _ => 0))), (rr 6, .inl (cI, 3, .inl (fun _ => 0))), (o0, .inl (cJ, 1, .inr (.inl u)))]) (w1 := [(m0, zM 0 0 1 (.ref k0) (.ref q0) a10 a11)]) hP hD [10] [0, 1, 2, 3, 4, 5, 6, 7, 8, 9] rfl rfl (by decide) (by decide) hk1 hFc hP1 hD1
    generalize H1 = H at hP hS ⊢
    have hP : va_P (dC, dI) vwCl [(k0, .inl (cI, 7, .inl (fun _ => 0))), (q0, .inl (cO, 7, .inr (.inr (.inr (.inr (fun i => if i < 7 then some (rr i) else none)))))), (rr 0, .inl (cI, 3, .inl (fun _ => 0))), (rr 1, .inl (cI, 3, .inl (fun _ => 0))), (rr 2, .inl (cI, 3, .inl (fun _ => 0))), (rr 3, .inl (cI, 3, .inl (fun _ => 0))), (rr 4, .inl (cI, 3, .inl (fun _ => 0))), (rr 5, .inl (cI, 3, .inl (fun _ => 0))), (rr 6, .inl (cI, 3, .inl (fun _ => 0))), (o0, .inl (cJ, 1, .inr (.inl u))), (m0, zM 0 0 1 (.ref k0) (.ref q0) a10 a11)] H := hP
    have hD : va_D (fun q : Nat => s.heap.size ≤ q) [(k0, .inl (cI, 7, .inl (fun _ => 0))), (q0, .inl (cO, 7, .inr (.inr (.inr (.inr (fun i => if i < 7 then some (rr i) else none)))))), (rr 0, .inl (cI, 3, .inl (fun _ => 0))), (rr 1, .inl (cI, 3, .inl (fun _ => 0))), (rr 2, .inl (cI, 3, .inl (fun _ => 0))), (rr 3, .inl (cI, 3, .inl (fun _ => 0))), (rr 4, .inl (cI, 3, .inl (fun _ => 0))), (rr 5, .inl (cI, 3, .inl (fun _ => 0))), (rr 6, .inl (cI, 3, .inl (fun _ => 0))), (o0, .inl (cJ, 1, .inr (.inl u))), (m0, zM 0 0 1 (.ref k0) (.ref q0) a10 a11)] := hD
    subst hw
    refine lv_iload hx hb dL_law_864 (lv_at hl 1 rfl) ?_
    refine lv_icmp_eq (tgt := 871) hx hb dL_law_866 (by decide) (fun _ => ?_) (fun c6 => absurd (by decide) c6)
    refine lv_iload hx hb dL_law_871 (lv_at hl 1 rfl) ?_
    refine lv_if_ne (tgt := 888) hx hb dL_law_873 (by decide) (fun c7 => absurd c7 (by decide)) (fun _ => ?_)
    refine lv_aload_n hx hb dL_law_876 rfl (lv_at hl 5 rfl) ?_
    refine lv_iconst (v := 0) hx hb dL_law_877 (by decide) ?_
    refine va_lald hx hb hK hP 9 2 rfl rfl (zx_in rfl) dL_law_878 ?_
    refine lv_topl (fun zl ezl => ?_)
    obtain rfl : zl = 0 := ezl.trans hu
    refine lv_iload hx hb dL_law_879 (lv_at hl 0 rfl) ?_
    refine lv_i2l (v := 0) hx hb dL_law_881 (by decide) ?_
    refine W.lcmp hx hb dL_law_882 ?_
    refine lv_topi (fun z8 ez8 => ?_)
    obtain rfl : z8 = 0 := ez8.trans (zx_cmp _)
    refine lv_if_eq (tgt := 888) hx hb dL_law_883 (by decide) (fun _ => ?_) (fun c9 => absurd (by decide) c9)
    refine lv_goto (tgt := 1015) hx hb dL_law_888 (by decide) ?_
    exact law_tail C1 hS (lv_sub hl [2, 6] rfl) (Nat.le_of_ble_eq_true rfl) (Nat.le_of_ble_eq_true rfl)
set_option maxHeartbeats 4000000 in
set_option maxRecDepth 100000 in
theorem law_case_12 {p : Program} {l : Launch} {e : Env} {s : State} {m : MethodId} {below : List Frame} {meth : Method} {c : Code} (hl9 : l.stackTraces = false) {b : Nat} {xs : Nat → Int32} (C0 : lw_At p s m meth c b 4 xs) (hZ : zx_Z (fun q : Nat => s.heap.size ≤ q) s s.heap) {dC : Nat → ClassId} {dI : Nat → Nat → Nat} {h0 m0 o0 k0 q0 : Nat} {v : Nat → Value} {rr : Nat → Nat} {cI cO cJ : ClassId} {a10 a11 : Value} {f : Nat → Int64} {H : Heap} {locs : List Loc} (hK : va_K (dC, dI) vwCl [(cI, .int), (cO, .array .int), (cJ, .long)] s) (hP : va_P (dC, dI) vwCl [(h0, zX 0 1 v), (m0, zM 0 0 1 (.ref k0) (.ref q0) a10 a11), (k0, .inl (cI, 7, .inl (fun _ => 0))), (q0, .inl (cO, 7, .inr (.inr (.inr (.inr (fun i => if i < 7 then some (rr i) else none)))))), (rr 0, .inl (cI, 3, .inl (fun _ => 0))), (rr 1, .inl (cI, 3, .inl (fun _ => 0))), (rr 2, .inl (cI, 3, .inl (fun _ => 0))), (rr 3, .inl (cI, 3, .inl (fun _ => 0))), (rr 4, .inl (cI, 3, .inl (fun _ => 0))), (rr 5, .inl (cI, 3, .inl (fun _ => 0))), (rr 6, .inl (cI, 3, .inl (fun _ => 0))), (o0, .inl (cJ, 1, .inr (.inl f)))] H) (hD : va_D (fun q : Nat => s.heap.size ≤ q) [(h0, zX 0 1 v), (m0, zM 0 0 1 (.ref k0) (.ref q0) a10 a11), (k0, .inl (cI, 7, .inl (fun _ => 0))), (q0, .inl (cO, 7, .inr (.inr (.inr (.inr (fun i => if i < 7 then some (rr i) else none)))))), (rr 0, .inl (cI, 3, .inl (fun _ => 0))), (rr 1, .inl (cI, 3, .inl (fun _ => 0))), (rr 2, .inl (cI, 3, .inl (fun _ => 0))), (rr 3, .inl (cI, 3, .inl (fun _ => 0))), (rr 4, .inl (cI, 3, .inl (fun _ => 0))), (rr 5, .inl (cI, 3, .inl (fun _ => 0))), (rr 6, .inl (cI, 3, .inl (fun _ => 0))), (o0, .inl (cJ, 1, .inr (.inl f)))]) (hS : va_S (fun q : Nat => s.heap.size ≤ q) s.heap H locs) {ls : Array Slot} (hl : lv_has ls 9 [(0, .ref b), (1, .ref h0), (2, .ref m0), (3, .ref o0), (4, .int 0)]) : W p l e room_1 s m #[Value.ref b] below meth c H locs 57 372 (lw_Z below #[Value.ref b] s) (F0 m 891 ls []) := by
  have C1 := C0
  obtain ⟨hx, hb, hr, hml, hown0, hts0, hX, hbl, hlocks, hgv⟩ := C0
  have hown : s.vm.findClass RL = some m.cls := hown0
  have hts : ∀ w ∈ wsL_law, w.before #[Value.ref b] s = true := fun w h => hts0 w (wsL_law_in w h)
  have hA : ∀ q : Nat, s.heap.size ≤ q → (fun q : Nat => s.heap.size ≤ q) q := fun _ h => h
  have hbA : ¬ (fun q : Nat => s.heap.size ≤ q) b := Nat.not_le.mpr hbl
  refine lv_aload_n hx hb dL_law_891 rfl (lv_at hl 1 rfl) ?_
  have hPc := hP.sub (ws' := [(h0, zX 0 1 v)]) [0] rfl
  have hDc := hD.sub (ws' := [(h0, zX 0 1 v)]) [0] (by decide) rfl
  have hKc := hK.sub (tys' := []) [] rfl
  have hFc := va_free (wc := [(h0, zX 0 1 v)]) hD hS hA [0] rfl
  refine va_calli (va_runV (As := []) (rest := []) ⟨hx, hb, hml, hown, hts⟩ (c_X0_needs l dC dI h0 v H.size) (cwV 0 hts gL_law_X0_needs rfl rfl rfl (by decide +kernel) ⟨Nat.le_of_ble_eq_true rfl, Nat.le_of_ble_eq_true rfl⟩) ⟨zx_blind, va_recv hKc hPc (ci := 0) (q0 := 0) rfl rfl, fun U hU hW => ⟨rfl, zx_go hPc hKc hDc hZ hS hFc hU hW⟩⟩ rfl rfl hl.1 rfl (lv_room (Nat.le_of_ble_eq_true rfl)) dL_law_892 ⟨Nat.le_of_ble_eq_true rfl, Nat.le_of_ble_eq_true rfl⟩) hS (fun q _ h => hFc q h) hFc (fun r u t H1 locs ht hvm hw hB hz1 hk1 hS => ?_)
  obtain ⟨hP1, hK1, hD1⟩ := hB
  rw [ht] at hP1
  have hK1 := va_K.moved hvm.symm hK1
  try dsimp only at hw hP1 hD1 hK1
  obtain ⟨hP, hD⟩ := va_join (wr := [(m0, zM 0 0 1 (.ref k0) (.ref q0) a10 a11), (k0, .inl (cI, 7, .inl (fun _ => 0))), (q0, .inl (cO, 7, .inr (.inr (.inr (.inr (fun i => if i < 7 then some (rr i) else none)))))), (rr 0, .inl (cI, 3, .inl (fun _ => 0))), (rr 1, .inl (cI, 3, .inl (fun _ => 0))), (rr 2, .inl (cI, 3, .inl (fun _ => 0))), (rr 3, .inl (cI, 3, .inl (fun _ => 0))), (rr 4, .inl (cI, 3, .inl (fun _ => 0))), (rr 5, .inl (cI, 3, .inl (fun _ => 0))), (rr 6, .inl (cI, 3, .inl (fun _ => 0))), (o0, .inl (cJ, 1, .inr (.inl f)))]) (w1 := [(h0, zX 0 1 v)]) hP hD [0] [1, 2, 3, 4, 5, 6, 7, 8, 9, 10, 11] rfl rfl (by decide) (by decide) hk1 hFc hP1 hD1
  generalize H1 = H at hP hS ⊢
  have hP : va_P (dC, dI) vwCl [(m0, zM 0 0 1 (.ref k0) (.ref q0) a10 a11), (k0, .inl (cI, 7, .inl (fun _ => 0))), (q0, .inl (cO, 7, .inr (.inr (.inr (.inr (fun i => if i < 7 then some (rr i) else none)))))), (rr 0, .inl (cI, 3, .inl (fun _ => 0))), (rr 1, .inl (cI, 3, .inl (fun _ => 0))), (rr 2, .inl (cI, 3, .inl (fun _ => 0))), (rr 3, .inl (cI, 3, .inl (fun _ => 0))), (rr 4, .inl (cI, 3, .inl (fun _ => 0))), (rr 5, .inl (cI, 3, .inl (fun _ => 0))), (rr 6, .inl (cI, 3, .inl (fun _ => 0))), (o0, .inl (cJ, 1, .inr (.inl f))), (h0, zX 0 1 v)] H := hP
  have hD : va_D (fun q : Nat => s.heap.size ≤ q) [(m0, zM 0 0 1 (.ref k0) (.ref q0) a10 a11), (k0, .inl (cI, 7, .inl (fun _ => 0))), (q0, .inl (cO, 7, .inr (.inr (.inr (.inr (fun i => if i < 7 then some (rr i) else none)))))), (rr 0, .inl (cI, 3, .inl (fun _ => 0))), (rr 1, .inl (cI, 3, .inl (fun _ => 0))), (rr 2, .inl (cI, 3, .inl (fun _ => 0))), (rr 3, .inl (cI, 3, .inl (fun _ => 0))), (rr 4, .inl (cI, 3, .inl (fun _ => 0))), (rr 5, .inl (cI, 3, .inl (fun _ => 0))), (rr 6, .inl (cI, 3, .inl (fun _ => 0))), (o0, .inl (cJ, 1, .inr (.inl f))), (h0, zX 0 1 v)] := hD
  subst hw
  refine lv_aload_n hx hb dL_law_895 rfl (lv_at hl 2 rfl) ?_
  have hPc := hP.sub (ws' := [(m0, zM 0 0 1 (.ref k0) (.ref q0) a10 a11)]) [0] rfl
  have hDc := hD.sub (ws' := [(m0, zM 0 0 1 (.ref k0) (.ref q0) a10 a11)]) [0] (by decide) rfl
  have hKc := hK.sub (tys' := []) [] rfl
  have hFc := va_free (wc := [(m0, zM 0 0 1 (.ref k0) (.ref q0) a10 a11)]) hD hS hA [0] rfl
  refine va_calli (va_runV (As := []) (rest := [.int 0]) ⟨hx, hb, hml, hown, hts⟩ (c_X1_needs l dC dI m0 (.ref k0) (.ref q0) a10 a11 H.size) (cwV 0 hts gL_law_X1_needs rfl rfl rfl (by decide +kernel) ⟨Nat.le_of_ble_eq_true rfl, Nat.le_of_ble_eq_true rfl⟩) ⟨zx_blind, va_recv hKc hPc (ci := 1) (q0 := 0) rfl rfl, fun U hU hW => ⟨rfl, zx_go hPc hKc hDc hZ hS hFc hU hW⟩⟩ rfl rfl hl.1 rfl (lv_room (Nat.le_of_ble_eq_true rfl)) dL_law_896 ⟨Nat.le_of_ble_eq_true rfl, Nat.le_of_ble_eq_true rfl⟩) hS (fun q _ h => hFc q h) hFc (fun r u t H1 locs ht hvm hw hB hz1 hk1 hS => ?_)
  obtain ⟨hP1, hK1, hD1⟩ := hB
  rw [ht] at hP1
  have hK1 := va_K.moved hvm.symm hK1
  try dsimp only at hw hP1 hD1 hK1
  obtain ⟨hP, hD⟩ := va_join (wr := [(k0, .inl (cI, 7, .inl (fun _ => 0))), (q0, .inl (cO, 7, .inr (.inr (.inr (.inr (fun i => if i < 7 then some (rr i) else none)))))), (rr 0, .inl (cI, 3, .inl (fun _ => 0))), (rr 1, .inl (cI, 3, .inl (fun _ => 0))), (rr 2, .inl (cI, 3, .inl (fun _ => 0))), (rr 3, .inl (cI, 3, .inl (fun _ => 0))), (rr 4, .inl (cI, 3, .inl (fun _ => 0))), (rr 5, .inl (cI, 3, .inl (fun _ => 0))), (rr 6, .inl (cI, 3, .inl (fun _ => 0))), (o0, .inl (cJ, 1, .inr (.inl f))), (h0, zX 0 1 v)]) (w1 := [(m0, zM 0 0 1 (.ref k0) (.ref q0) a10 a11)]) hP hD [0] [1, 2, 3, 4, 5, 6, 7, 8, 9, 10, 11] rfl rfl (by decide) (by decide) hk1 hFc hP1 hD1
  generalize H1 = H at hP hS ⊢
  have hP : va_P (dC, dI) vwCl [(k0, .inl (cI, 7, .inl (fun _ => 0))), (q0, .inl (cO, 7, .inr (.inr (.inr (.inr (fun i => if i < 7 then some (rr i) else none)))))), (rr 0, .inl (cI, 3, .inl (fun _ => 0))), (rr 1, .inl (cI, 3, .inl (fun _ => 0))), (rr 2, .inl (cI, 3, .inl (fun _ => 0))), (rr 3, .inl (cI, 3, .inl (fun _ => 0))), (rr 4, .inl (cI, 3, .inl (fun _ => 0))), (rr 5, .inl (cI, 3, .inl (fun _ => 0))), (rr 6, .inl (cI, 3, .inl (fun _ => 0))), (o0, .inl (cJ, 1, .inr (.inl f))), (h0, zX 0 1 v), (m0, zM 0 0 1 (.ref k0) (.ref q0) a10 a11)] H := hP
  have hD : va_D (fun q : Nat => s.heap.size ≤ q) [(k0, .inl (cI, 7, .inl (fun _ => 0))), (q0, .inl (cO, 7, .inr (.inr (.inr (.inr (fun i => if i < 7 then some (rr i) else none)))))), (rr 0, .inl (cI, 3, .inl (fun _ => 0))), (rr 1, .inl (cI, 3, .inl (fun _ => 0))), (rr 2, .inl (cI, 3, .inl (fun _ => 0))), (rr 3, .inl (cI, 3, .inl (fun _ => 0))), (rr 4, .inl (cI, 3, .inl (fun _ => 0))), (rr 5, .inl (cI, 3, .inl (fun _ => 0))), (rr 6, .inl (cI, 3, .inl (fun _ => 0))), (o0, .inl (cJ, 1, .inr (.inl f))), (h0, zX 0 1 v), (m0, zM 0 0 1 (.ref k0) (.ref q0) a10 a11)] := hD
  subst hw
  refine lv_icmp_eq (tgt := 1015) hx hb dL_law_899 (by decide) (fun _ => ?_) (fun c1 => absurd (by decide) c1)
  exact law_tail C1 hS (lv_sub hl [0, 4] rfl) (Nat.le_of_ble_eq_true rfl) (Nat.le_of_ble_eq_true rfl)
set_option maxHeartbeats 4000000 in
set_option maxRecDepth 100000 in
theorem law_case_13 {p : Program} {l : Launch} {e : Env} {s : State} {m : MethodId} {below : List Frame} {meth : Method} {c : Code} (hl9 : l.stackTraces = false) {b : Nat} {xs : Nat → Int32} (C0 : lw_At p s m meth c b 4 xs) (hZ : zx_Z (fun q : Nat => s.heap.size ≤ q) s s.heap) {dC : Nat → ClassId} {dI : Nat → Nat → Nat} {h0 m0 o0 k0 q0 : Nat} {v : Nat → Value} {rr : Nat → Nat} {cI cO cJ : ClassId} {a10 a11 : Value} {f : Nat → Int64} {H : Heap} {locs : List Loc} (hK : va_K (dC, dI) vwCl [(cI, .int), (cO, .array .int), (cJ, .long)] s) (hP : va_P (dC, dI) vwCl [(h0, zX 0 1 v), (m0, zM 0 0 1 (.ref k0) (.ref q0) a10 a11), (k0, .inl (cI, 7, .inl (fun _ => 0))), (q0, .inl (cO, 7, .inr (.inr (.inr (.inr (fun i => if i < 7 then some (rr i) else none)))))), (rr 0, .inl (cI, 3, .inl (fun _ => 0))), (rr 1, .inl (cI, 3, .inl (fun _ => 0))), (rr 2, .inl (cI, 3, .inl (fun _ => 0))), (rr 3, .inl (cI, 3, .inl (fun _ => 0))), (rr 4, .inl (cI, 3, .inl (fun _ => 0))), (rr 5, .inl (cI, 3, .inl (fun _ => 0))), (rr 6, .inl (cI, 3, .inl (fun _ => 0))), (o0, .inl (cJ, 1, .inr (.inl f)))] H) (hD : va_D (fun q : Nat => s.heap.size ≤ q) [(h0, zX 0 1 v), (m0, zM 0 0 1 (.ref k0) (.ref q0) a10 a11), (k0, .inl (cI, 7, .inl (fun _ => 0))), (q0, .inl (cO, 7, .inr (.inr (.inr (.inr (fun i => if i < 7 then some (rr i) else none)))))), (rr 0, .inl (cI, 3, .inl (fun _ => 0))), (rr 1, .inl (cI, 3, .inl (fun _ => 0))), (rr 2, .inl (cI, 3, .inl (fun _ => 0))), (rr 3, .inl (cI, 3, .inl (fun _ => 0))), (rr 4, .inl (cI, 3, .inl (fun _ => 0))), (rr 5, .inl (cI, 3, .inl (fun _ => 0))), (rr 6, .inl (cI, 3, .inl (fun _ => 0))), (o0, .inl (cJ, 1, .inr (.inl f)))]) (hS : va_S (fun q : Nat => s.heap.size ≤ q) s.heap H locs) {ls : Array Slot} (hl : lv_has ls 9 [(0, .ref b), (1, .ref h0), (2, .ref m0), (3, .ref o0), (4, .int 0)]) : W p l e room_1 s m #[Value.ref b] below meth c H locs 57 372 (lw_Z below #[Value.ref b] s) (F0 m 904 ls []) := by
  have C1 := C0
  obtain ⟨hx, hb, hr, hml, hown0, hts0, hX, hbl, hlocks, hgv⟩ := C0
  have hown : s.vm.findClass RL = some m.cls := hown0
  have hts : ∀ w ∈ wsL_law, w.before #[Value.ref b] s = true := fun w h => hts0 w (wsL_law_in w h)
  have hA : ∀ q : Nat, s.heap.size ≤ q → (fun q : Nat => s.heap.size ≤ q) q := fun _ h => h
  have hbA : ¬ (fun q : Nat => s.heap.size ≤ q) b := Nat.not_le.mpr hbl
  refine lv_aload_n hx hb dL_law_904 rfl (lv_at hl 1 rfl) ?_
  refine lv_aload_n hx hb dL_law_905 rfl (lv_at hl 0 rfl) ?_
  refine lv_iload hx hb dL_law_906 (lv_at hl 4 rfl) ?_
  refine lv_iconst (v := 1) hx hb dL_law_908 (by decide) ?_
  refine lv_iadd hx hb dL_law_909 ?_
  refine lv_topi (fun z1 ez1 => ?_)
  obtain rfl : z1 = 1 := ez1.trans (by decide)
  refine va_sld hx hb hX hbl hbA hS (zx_in rfl) dL_law_910 ?_
  refine lv_aload_n hx hb dL_law_911 rfl (lv_at hl 3 rfl) ?_
  have hPc := hP.sub (ws' := [(h0, zX 0 1 v), (o0, .inl (cJ, 1, .inr (.inl f)))]) [0, 11] rfl
  have hDc := hD.sub (ws' := [(h0, zX 0 1 v), (o0, .inl (cJ, 1, .inr (.inl f)))]) [0, 11] (by decide) rfl
  have hKc := hK.sub (tys' := [(cJ, .long)]) [2] rfl
  have hFc := va_free (wc := [(h0, zX 0 1 v), (o0, .inl (cJ, 1, .inr (.inl f)))]) hD hS hA [0, 11] rfl
  refine va_calli (vx_runSW (As := [.ref h0, .int (xs (Int32.toNatClampNeg 1)), .ref o0]) (rest := []) ⟨hx, hb, hml, hown, hts⟩ (c_L_found l hl9 dC dI h0 o0 cJ f v (xs (Int32.toNatClampNeg 1)) H.size) (vx_cwSW 3 hts gL_law_L_found rfl rfl rfl (by decide +kernel) ⟨Nat.le_of_ble_eq_true rfl, Nat.le_of_ble_eq_true rfl⟩) ⟨zx_blind, fun U hU hW => ⟨rfl, zx_go hPc hKc hDc hZ hS hFc hU hW⟩⟩ rfl rfl hl.1 rfl (lv_room (Nat.le_of_ble_eq_true rfl)) dL_law_912 ⟨Nat.le_of_ble_eq_true rfl, Nat.le_of_ble_eq_true rfl⟩) hS (fun q _ h => hFc q h) hFc (fun r u t H1 locs ht hvm hw hB hz1 hk1 hS => ?_)
  obtain ⟨hP1, hK1, hD1⟩ := hB
  rw [ht] at hP1
  have hK1 := va_K.moved hvm.symm hK1
  try dsimp only at hw hP1 hD1 hK1
  obtain ⟨hP, hD⟩ := va_join (wr := [(m0, zM 0 0 1 (.ref k0) (.ref q0) a10 a11), (k0, .inl (cI, 7, .inl (fun _ => 0))), (q0, .inl (cO, 7, .inr (.inr (.inr (.inr (fun i => if i < 7 then some (rr i) else none)))))), (rr 0, .inl (cI, 3, .inl (fun _ => 0))), (rr 1, .inl (cI, 3, .inl (fun _ => 0))), (rr 2, .inl (cI, 3, .inl (fun _ => 0))), (rr 3, .inl (cI, 3, .inl (fun _ => 0))), (rr 4, .inl (cI, 3, .inl (fun _ => 0))), (rr 5, .inl (cI, 3, .inl (fun _ => 0))), (rr 6, .inl (cI, 3, .inl (fun _ => 0)))]) (w1 := []) hP hD [0, 11] [1, 2, 3, 4, 5, 6, 7, 8, 9, 10] rfl rfl (by decide) (by decide) hk1 hFc hP1 hD1
  generalize H1 = H at hP hS ⊢
  have hP : va_P (dC, dI) vwCl [(m0, zM 0 0 1 (.ref k0) (.ref q0) a10 a11), (k0, .inl (cI, 7, .inl (fun _ => 0))), (q0, .inl (cO, 7, .inr (.inr (.inr (.inr (fun i => if i < 7 then some (rr i) else none)))))), (rr 0, .inl (cI, 3, .inl (fun _ => 0))), (rr 1, .inl (cI, 3, .inl (fun _ => 0))), (rr 2, .inl (cI, 3, .inl (fun _ => 0))), (rr 3, .inl (cI, 3, .inl (fun _ => 0))), (rr 4, .inl (cI, 3, .inl (fun _ => 0))), (rr 5, .inl (cI, 3, .inl (fun _ => 0))), (rr 6, .inl (cI, 3, .inl (fun _ => 0)))] H := hP
  have hD : va_D (fun q : Nat => s.heap.size ≤ q) [(m0, zM 0 0 1 (.ref k0) (.ref q0) a10 a11), (k0, .inl (cI, 7, .inl (fun _ => 0))), (q0, .inl (cO, 7, .inr (.inr (.inr (.inr (fun i => if i < 7 then some (rr i) else none)))))), (rr 0, .inl (cI, 3, .inl (fun _ => 0))), (rr 1, .inl (cI, 3, .inl (fun _ => 0))), (rr 2, .inl (cI, 3, .inl (fun _ => 0))), (rr 3, .inl (cI, 3, .inl (fun _ => 0))), (rr 4, .inl (cI, 3, .inl (fun _ => 0))), (rr 5, .inl (cI, 3, .inl (fun _ => 0))), (rr 6, .inl (cI, 3, .inl (fun _ => 0)))] := hD
  refine W.widen (k := 58) (n := 378) (by omega) (by omega) ?_
  subst hw
  refine lv_istore (lv' := [(5, .int 1), (0, .ref b), (1, .ref h0), (2, .ref m0), (3, .ref o0), (4, .int 0)]) hx hb dL_law_915 hl (by decide) rfl (fun ls hl => ?_)
  refine lv_aload_n hx hb dL_law_917 rfl (lv_at hl 3 rfl) ?_
  refine lv_aload_n hx hb dL_law_918 rfl (lv_at hl 1 rfl) ?_
  refine lv_iload hx hb dL_law_919 (lv_at hl 5 rfl) ?_
  refine lv_iconst (v := 1) hx hb dL_law_921 (by decide) ?_
  refine lv_iadd hx hb dL_law_922 ?_
  refine lv_topi (fun z2 ez2 => ?_)
  obtain rfl : z2 = 1 := ez2.trans (by decide)
  refine va_sld hx hb hX hbl hbA hS (zx_in rfl) dL_law_923 ?_
  have hPc := hP.sub (ws' := [(m0, zM 0 0 1 (.ref k0) (.ref q0) a10 a11)]) [0] rfl
  have hDc := hD.sub (ws' := [(m0, zM 0 0 1 (.ref k0) (.ref q0) a10 a11)]) [0] (by decide) rfl
  have hKc := hK.sub (tys' := []) [] rfl
  have hFc := va_free (wc := [(m0, zM 0 0 1 (.ref k0) (.ref q0) a10 a11)]) hD hS hA [0] rfl
  refine va_calli (va_runV (As := [.int (xs (Int32.toNatClampNeg 1))]) (rest := []) ⟨hx, hb, hml, hown, hts⟩ (c_X1_found l dC dI m0 (xs (Int32.toNatClampNeg 1)) (.ref k0) (.ref q0) a10 a11 H.size) (cwV 1 hts gL_law_X1_found rfl rfl rfl (by decide +kernel) ⟨Nat.le_of_ble_eq_true rfl, Nat.le_of_ble_eq_true rfl⟩) ⟨zx_blind, va_recv hKc hPc (ci := 1) (q0 := 0) rfl rfl, fun U hU hW => ⟨rfl, zx_go hPc hKc hDc hZ hS hFc hU hW⟩⟩ rfl rfl hl.1 rfl (lv_room (Nat.le_of_ble_eq_true rfl)) dL_law_924 ⟨Nat.le_of_ble_eq_true rfl, Nat.le_of_ble_eq_true rfl⟩) hS (fun q _ h => hFc q h) hFc (fun r u9 t H1 locs ht hvm hw hB hz1 hk1 hS => ?_)
  obtain ⟨hP1, hK1, hD1⟩ := hB
  rw [ht] at hP1
  have hK1 := va_K.moved hvm.symm hK1
  try dsimp only at hw hP1 hD1 hK1
  obtain ⟨hP, hD⟩ := va_join (wr := [(k0, .inl (cI, 7, .inl (fun _ => 0))), (q0, .inl (cO, 7, .inr (.inr (.inr (.inr (fun i => if i < 7 then some (rr i) else none)))))), (rr 0, .inl (cI, 3, .inl (fun _ => 0))), (rr 1, .inl (cI, 3, .inl (fun _ => 0))), (rr 2, .inl (cI, 3, .inl (fun _ => 0))), (rr 3, .inl (cI, 3, .inl (fun _ => 0))), (rr 4, .inl (cI, 3, .inl (fun _ => 0))), (rr 5, .inl (cI, 3, .inl (fun _ => 0))), (rr 6, .inl (cI, 3, .inl (fun _ => 0)))]) (w1 := [(m0, zM 1 0 1 (.ref k0) (.ref q0) a10 a11)]) hP hD [0] [1, 2, 3, 4, 5, 6, 7, 8, 9] rfl rfl (by decide) (by decide) hk1 hFc hP1 hD1
  generalize H1 = H at hP hS ⊢
  have hP : va_P (dC, dI) vwCl [(k0, .inl (cI, 7, .inl (fun _ => 0))), (q0, .inl (cO, 7, .inr (.inr (.inr (.inr (fun i => if i < 7 then some (rr i) else none)))))), (rr 0, .inl (cI, 3, .inl (fun _ => 0))), (rr 1, .inl (cI, 3, .inl (fun _ => 0))), (rr 2, .inl (cI, 3, .inl (fun _ => 0))), (rr 3, .inl (cI, 3, .inl (fun _ => 0))), (rr 4, .inl (cI, 3, .inl (fun _ => 0))), (rr 5, .inl (cI, 3, .inl (fun _ => 0))), (rr 6, .inl (cI, 3, .inl (fun _ => 0))), (m0, zM 1 0 1 (.ref k0) (.ref q0) a10 a11)] H := hP
  have hD : va_D (fun q : Nat => s.heap.size ≤ q) [(k0, .inl (cI, 7, .inl (fun _ => 0))), (q0, .inl (cO, 7, .inr (.inr (.inr (.inr (fun i => if i < 7 then some (rr i) else none)))))), (rr 0, .inl (cI, 3, .inl (fun _ => 0))), (rr 1, .inl (cI, 3, .inl (fun _ => 0))), (rr 2, .inl (cI, 3, .inl (fun _ => 0))), (rr 3, .inl (cI, 3, .inl (fun _ => 0))), (rr 4, .inl (cI, 3, .inl (fun _ => 0))), (rr 5, .inl (cI, 3, .inl (fun _ => 0))), (rr 6, .inl (cI, 3, .inl (fun _ => 0))), (m0, zM 1 0 1 (.ref k0) (.ref q0) a10 a11)] := hD
  subst hw
  refine lv_istore (lv' := [(6, .int 0), (5, .int 1), (0, .ref b), (1, .ref h0), (2, .ref m0), (3, .ref o0), (4, .int 0)]) hx hb dL_law_927 hl (by decide) rfl (fun ls hl => ?_)
  refine lv_aload_n hx hb dL_law_929 rfl (lv_at hl 4 rfl) ?_
  have hPc := hP.sub (ws' := [(m0, zM 1 0 1 (.ref k0) (.ref q0) a10 a11)]) [9] rfl
  have hDc := hD.sub (ws' := [(m0, zM 1 0 1 (.ref k0) (.ref q0) a10 a11)]) [9] (by decide) rfl
  have hKc := hK.sub (tys' := []) [] rfl
  have hFc := va_free (wc := [(m0, zM 1 0 1 (.ref k0) (.ref q0) a10 a11)]) hD hS hA [9] rfl
  refine va_calli (va_runV (As := []) (rest := []) ⟨hx, hb, hml, hown, hts⟩ (c_X1_thrown l dC dI m0 1 0 1 (.ref k0) (.ref q0) a10 a11 H.size) (cwV 0 hts gL_law_X1_thrown rfl rfl rfl (by decide +kernel) ⟨Nat.le_of_ble_eq_true rfl, Nat.le_of_ble_eq_true rfl⟩) ⟨zx_blind, va_recv hKc hPc (ci := 1) (q0 := 0) rfl rfl, fun U hU hW => ⟨rfl, zx_go hPc hKc hDc hZ hS hFc hU hW⟩⟩ rfl rfl hl.1 rfl (lv_room (Nat.le_of_ble_eq_true rfl)) dL_law_930 ⟨Nat.le_of_ble_eq_true rfl, Nat.le_of_ble_eq_true rfl⟩) hS (fun q _ h => hFc q h) hFc (fun r u8 t H1 locs ht hvm hw hB hz1 hk1 hS => ?_)
  obtain ⟨hP1, hK1, hD1⟩ := hB
  rw [ht] at hP1
  have hK1 := va_K.moved hvm.symm hK1
  try dsimp only at hw hP1 hD1 hK1
  obtain ⟨hP, hD⟩ := va_join (wr := [(k0, .inl (cI, 7, .inl (fun _ => 0))), (q0, .inl (cO, 7, .inr (.inr (.inr (.inr (fun i => if i < 7 then some (rr i) else none)))))), (rr 0, .inl (cI, 3, .inl (fun _ => 0))), (rr 1, .inl (cI, 3, .inl (fun _ => 0))), (rr 2, .inl (cI, 3, .inl (fun _ => 0))), (rr 3, .inl (cI, 3, .inl (fun _ => 0))), (rr 4, .inl (cI, 3, .inl (fun _ => 0))), (rr 5, .inl (cI, 3, .inl (fun _ => 0))), (rr 6, .inl (cI, 3, .inl (fun _ => 0)))]) (w1 := [(m0, zM 1 0 1 (.ref k0) (.ref q0) a10 a11)]) hP hD [9] [0, 1, 2, 3, 4, 5, 6, 7, 8] rfl rfl (by decide) (by decide) hk1 hFc hP1 hD1
  generalize H1 = H at hP hS ⊢
  have hP : va_P (dC, dI) vwCl [(k0, .inl (cI, 7, .inl (fun _ => 0))), (q0, .inl (cO, 7, .inr (.inr (.inr (.inr (fun i => if i < 7 then some (rr i) else none)))))), (rr 0, .inl (cI, 3, .inl (fun _ => 0))), (rr 1, .inl (cI, 3, .inl (fun _ => 0))), (rr 2, .inl (cI, 3, .inl (fun _ => 0))), (rr 3, .inl (cI, 3, .inl (fun _ => 0))), (rr 4, .inl (cI, 3, .inl (fun _ => 0))), (rr 5, .inl (cI, 3, .inl (fun _ => 0))), (rr 6, .inl (cI, 3, .inl (fun _ => 0))), (m0, zM 1 0 1 (.ref k0) (.ref q0) a10 a11)] H := hP
  have hD : va_D (fun q : Nat => s.heap.size ≤ q) [(k0, .inl (cI, 7, .inl (fun _ => 0))), (q0, .inl (cO, 7, .inr (.inr (.inr (.inr (fun i => if i < 7 then some (rr i) else none)))))), (rr 0, .inl (cI, 3, .inl (fun _ => 0))), (rr 1, .inl (cI, 3, .inl (fun _ => 0))), (rr 2, .inl (cI, 3, .inl (fun _ => 0))), (rr 3, .inl (cI, 3, .inl (fun _ => 0))), (rr 4, .inl (cI, 3, .inl (fun _ => 0))), (rr 5, .inl (cI, 3, .inl (fun _ => 0))), (rr 6, .inl (cI, 3, .inl (fun _ => 0))), (m0, zM 1 0 1 (.ref k0) (.ref q0) a10 a11)] := hD
  subst hw
  refine lv_iload hx hb dL_law_933 (lv_at hl 1 rfl) ?_
  refine lv_icmp_eq (tgt := 940) hx hb dL_law_935 (by decide) (fun _ => ?_) (fun c3 => absurd (by decide) c3)
  refine lv_iload hx hb dL_law_940 (lv_at hl 1 rfl) ?_
  refine lv_if_ne (tgt := 957) hx hb dL_law_942 (by decide) (fun _ => ?_) (fun c4 => absurd c4 (by decide))
  refine lv_goto (tgt := 1015) hx hb dL_law_957 (by decide) ?_
  exact law_tail C1 hS (lv_sub hl [2, 6] rfl) (Nat.le_of_ble_eq_true rfl) (Nat.le_of_ble_eq_true rfl)
set_option maxHeartbeats 4000000 in
set_option maxRecDepth 100000 in
theorem law_case_14 {p : Program} {l : Launch} {e : Env} {s : State} {m : MethodId} {below : List Frame} {meth : Method} {c : Code} (hl9 : l.stackTraces = false) {b : Nat} {xs : Nat → Int32} (C0 : lw_At p s m meth c b 4 xs) (hZ : zx_Z (fun q : Nat => s.heap.size ≤ q) s s.heap) {dC : Nat → ClassId} {dI : Nat → Nat → Nat} {h0 m0 o0 k0 q0 : Nat} {v : Nat → Value} {rr : Nat → Nat} {cI cO cJ : ClassId} {a10 a11 : Value} {f : Nat → Int64} {H : Heap} {locs : List Loc} (hK : va_K (dC, dI) vwCl [(cI, .int), (cO, .array .int), (cJ, .long)] s) (hP : va_P (dC, dI) vwCl [(h0, zX 0 1 v), (m0, zM 0 0 1 (.ref k0) (.ref q0) a10 a11), (k0, .inl (cI, 7, .inl (fun _ => 0))), (q0, .inl (cO, 7, .inr (.inr (.inr (.inr (fun i => if i < 7 then some (rr i) else none)))))), (rr 0, .inl (cI, 3, .inl (fun _ => 0))), (rr 1, .inl (cI, 3, .inl (fun _ => 0))), (rr 2, .inl (cI, 3, .inl (fun _ => 0))), (rr 3, .inl (cI, 3, .inl (fun _ => 0))), (rr 4, .inl (cI, 3, .inl (fun _ => 0))), (rr 5, .inl (cI, 3, .inl (fun _ => 0))), (rr 6, .inl (cI, 3, .inl (fun _ => 0))), (o0, .inl (cJ, 1, .inr (.inl f)))] H) (hD : va_D (fun q : Nat => s.heap.size ≤ q) [(h0, zX 0 1 v), (m0, zM 0 0 1 (.ref k0) (.ref q0) a10 a11), (k0, .inl (cI, 7, .inl (fun _ => 0))), (q0, .inl (cO, 7, .inr (.inr (.inr (.inr (fun i => if i < 7 then some (rr i) else none)))))), (rr 0, .inl (cI, 3, .inl (fun _ => 0))), (rr 1, .inl (cI, 3, .inl (fun _ => 0))), (rr 2, .inl (cI, 3, .inl (fun _ => 0))), (rr 3, .inl (cI, 3, .inl (fun _ => 0))), (rr 4, .inl (cI, 3, .inl (fun _ => 0))), (rr 5, .inl (cI, 3, .inl (fun _ => 0))), (rr 6, .inl (cI, 3, .inl (fun _ => 0))), (o0, .inl (cJ, 1, .inr (.inl f)))]) (hS : va_S (fun q : Nat => s.heap.size ≤ q) s.heap H locs) {ls : Array Slot} (hl : lv_has ls 9 [(0, .ref b), (1, .ref h0), (2, .ref m0), (3, .ref o0), (4, .int 0)]) : W p l e room_1 s m #[Value.ref b] below meth c H locs 57 372 (lw_Z below #[Value.ref b] s) (F0 m 960 ls []) := by
  have C1 := C0
  obtain ⟨hx, hb, hr, hml, hown0, hts0, hX, hbl, hlocks, hgv⟩ := C0
  have hown : s.vm.findClass RL = some m.cls := hown0
  have hts : ∀ w ∈ wsL_law, w.before #[Value.ref b] s = true := fun w h => hts0 w (wsL_law_in w h)
  have hA : ∀ q : Nat, s.heap.size ≤ q → (fun q : Nat => s.heap.size ≤ q) q := fun _ h => h
  have hbA : ¬ (fun q : Nat => s.heap.size ≤ q) b := Nat.not_le.mpr hbl
  refine lv_aload_n hx hb dL_law_960 rfl (lv_at hl 1 rfl) ?_
  have hPc := hP.sub (ws' := [(h0, zX 0 1 v)]) [0] rfl
  have hDc := hD.sub (ws' := [(h0, zX 0 1 v)]) [0] (by decide) rfl
  have hKc := hK.sub (tys' := []) [] rfl
  have hFc := va_free (wc := [(h0, zX 0 1 v)]) hD hS hA [0] rfl
  refine va_calld (va_runV (As := []) (rest := []) ⟨hx, hb, hml, hown, hts⟩ (c_X0_mean l dC dI h0 v H.size) (cwV 0 hts gL_law_X0_mean rfl rfl rfl (by decide +kernel) ⟨Nat.le_of_ble_eq_true rfl, Nat.le_of_ble_eq_true rfl⟩) ⟨zx_blind, va_recv hKc hPc (ci := 0) (q0 := 0) rfl rfl, fun U hU hW => ⟨rfl, zx_go hPc hKc hDc hZ hS hFc hU hW⟩⟩ rfl rfl hl.1 rfl (lv_room (Nat.le_of_ble_eq_true rfl)) dL_law_961 ⟨Nat.le_of_ble_eq_true rfl, Nat.le_of_ble_eq_true rfl⟩) hS (fun q _ h => hFc q h) hFc (fun r u t H1 locs ht hvm hw hB hz1 hk1 hS => ?_)
  obtain ⟨hP1, hK1, hD1⟩ := hB
  rw [ht] at hP1
  have hK1 := va_K.moved hvm.symm hK1
  try dsimp only at hw hP1 hD1 hK1
  obtain ⟨hP, hD⟩ := va_join (wr := [(m0, zM 0 0 1 (.ref k0) (.ref q0) a10 a11), (k0, .inl (cI, 7, .inl (fun _ => 0))), (q0, .inl (cO, 7, .inr (.inr (.inr (.inr (fun i => if i < 7 then some (rr i) else none)))))), (rr 0, .inl (cI, 3, .inl (fun _ => 0))), (rr 1, .inl (cI, 3, .inl (fun _ => 0))), (rr 2, .inl (cI, 3, .inl (fun _ => 0))), (rr 3, .inl (cI, 3, .inl (fun _ => 0))), (rr 4, .inl (cI, 3, .inl (fun _ => 0))), (rr 5, .inl (cI, 3, .inl (fun _ => 0))), (rr 6, .inl (cI, 3, .inl (fun _ => 0))), (o0, .inl (cJ, 1, .inr (.inl f)))]) (w1 := [(h0, zX 0 1 v)]) hP hD [0] [1, 2, 3, 4, 5, 6, 7, 8, 9, 10, 11] rfl rfl (by decide) (by decide) hk1 hFc hP1 hD1
  generalize H1 = H at hP hS ⊢
  have hP : va_P (dC, dI) vwCl [(m0, zM 0 0 1 (.ref k0) (.ref q0) a10 a11), (k0, .inl (cI, 7, .inl (fun _ => 0))), (q0, .inl (cO, 7, .inr (.inr (.inr (.inr (fun i => if i < 7 then some (rr i) else none)))))), (rr 0, .inl (cI, 3, .inl (fun _ => 0))), (rr 1, .inl (cI, 3, .inl (fun _ => 0))), (rr 2, .inl (cI, 3, .inl (fun _ => 0))), (rr 3, .inl (cI, 3, .inl (fun _ => 0))), (rr 4, .inl (cI, 3, .inl (fun _ => 0))), (rr 5, .inl (cI, 3, .inl (fun _ => 0))), (rr 6, .inl (cI, 3, .inl (fun _ => 0))), (o0, .inl (cJ, 1, .inr (.inl f))), (h0, zX 0 1 v)] H := hP
  have hD : va_D (fun q : Nat => s.heap.size ≤ q) [(m0, zM 0 0 1 (.ref k0) (.ref q0) a10 a11), (k0, .inl (cI, 7, .inl (fun _ => 0))), (q0, .inl (cO, 7, .inr (.inr (.inr (.inr (fun i => if i < 7 then some (rr i) else none)))))), (rr 0, .inl (cI, 3, .inl (fun _ => 0))), (rr 1, .inl (cI, 3, .inl (fun _ => 0))), (rr 2, .inl (cI, 3, .inl (fun _ => 0))), (rr 3, .inl (cI, 3, .inl (fun _ => 0))), (rr 4, .inl (cI, 3, .inl (fun _ => 0))), (rr 5, .inl (cI, 3, .inl (fun _ => 0))), (rr 6, .inl (cI, 3, .inl (fun _ => 0))), (o0, .inl (cJ, 1, .inr (.inl f))), (h0, zX 0 1 v)] := hD
  subst hw
  refine lv_dstore (lv' := [(5, .double FP.dconst0), (0, .ref b), (1, .ref h0), (2, .ref m0), (3, .ref o0), (4, .int 0)]) hx hb dL_law_964 hl (by decide) rfl (fun ls hl => ?_)
  refine lv_aload_n hx hb dL_law_966 rfl (lv_at hl 3 rfl) ?_
  have hPc := hP.sub (ws' := [(m0, zM 0 0 1 (.ref k0) (.ref q0) a10 a11), (q0, .inl (cO, 7, .inr (.inr (.inr (.inr (fun i => if i < 7 then some (rr i) else none)))))), (rr 0, .inl (cI, 3, .inl (fun _ => 0))), (rr 1, .inl (cI, 3, .inl (fun _ => 0))), (rr 2, .inl (cI, 3, .inl (fun _ => 0))), (rr 3, .inl (cI, 3, .inl (fun _ => 0))), (rr 4, .inl (cI, 3, .inl (fun _ => 0))), (rr 5, .inl (cI, 3, .inl (fun _ => 0))), (rr 6, .inl (cI, 3, .inl (fun _ => 0)))]) [0, 2, 3, 4, 5, 6, 7, 8, 9] rfl
  have hDc := hD.sub (ws' := [(m0, zM 0 0 1 (.ref k0) (.ref q0) a10 a11), (q0, .inl (cO, 7, .inr (.inr (.inr (.inr (fun i => if i < 7 then some (rr i) else none)))))), (rr 0, .inl (cI, 3, .inl (fun _ => 0))), (rr 1, .inl (cI, 3, .inl (fun _ => 0))), (rr 2, .inl (cI, 3, .inl (fun _ => 0))), (rr 3, .inl (cI, 3, .inl (fun _ => 0))), (rr 4, .inl (cI, 3, .inl (fun _ => 0))), (rr 5, .inl (cI, 3, .inl (fun _ => 0))), (rr 6, .inl (cI, 3, .inl (fun _ => 0)))]) [0, 2, 3, 4, 5, 6, 7, 8, 9] (by decide) rfl
  have hKc := hK.sub (tys' := [(cI, .int), (cO, .array .int)]) [0, 1] rfl
  have hFc := va_free (wc := [(m0, zM 0 0 1 (.ref k0) (.ref q0) a10 a11), (q0, .inl (cO, 7, .inr (.inr (.inr (.inr (fun i => if i < 7 then some (rr i) else none)))))), (rr 0, .inl (cI, 3, .inl (fun _ => 0))), (rr 1, .inl (cI, 3, .inl (fun _ => 0))), (rr 2, .inl (cI, 3, .inl (fun _ => 0))), (rr 3, .inl (cI, 3, .inl (fun _ => 0))), (rr 4, .inl (cI, 3, .inl (fun _ => 0))), (rr 5, .inl (cI, 3, .inl (fun _ => 0))), (rr 6, .inl (cI, 3, .inl (fun _ => 0)))]) hD hS hA [0, 2, 3, 4, 5, 6, 7, 8, 9] rfl
  refine va_calld (va_runV (As := []) (rest := []) ⟨hx, hb, hml, hown, hts⟩ (c_X1_mean l dC dI m0 q0 rr cI cO (.ref k0) a10 a11 H.size) (cwV 0 hts gL_law_X1_mean rfl rfl rfl (by decide +kernel) ⟨Nat.le_of_ble_eq_true rfl, Nat.le_of_ble_eq_true rfl⟩) ⟨zx_blind, va_recv hKc hPc (ci := 1) (q0 := 0) rfl rfl, fun U hU hW => ⟨rfl, zx_go hPc hKc hDc hZ hS hFc hU hW⟩⟩ rfl rfl hl.1 rfl (lv_room (Nat.le_of_ble_eq_true rfl)) dL_law_967 ⟨Nat.le_of_ble_eq_true rfl, Nat.le_of_ble_eq_true rfl⟩) hS (fun q _ h => hFc q h) hFc (fun r u t H1 locs ht hvm hw hB hz1 hk1 hS => ?_)
  obtain ⟨hP1, hK1, hD1⟩ := hB
  rw [ht] at hP1
  have hK1 := va_K.moved hvm.symm hK1
  try dsimp only at hw hP1 hD1 hK1
  obtain ⟨hP, hD⟩ := va_join (wr := [(k0, .inl (cI, 7, .inl (fun _ => 0))), (o0, .inl (cJ, 1, .inr (.inl f))), (h0, zX 0 1 v)]) (w1 := [(m0, zM 0 0 1 (.ref k0) (.ref q0) a10 a11), (q0, .inl (cO, 7, .inr (.inr (.inr (.inr (fun i => if i < 7 then some (rr i) else none)))))), (rr 0, .inl (cI, 3, .inl (fun _ => 0))), (rr 1, .inl (cI, 3, .inl (fun _ => 0))), (rr 2, .inl (cI, 3, .inl (fun _ => 0))), (rr 3, .inl (cI, 3, .inl (fun _ => 0))), (rr 4, .inl (cI, 3, .inl (fun _ => 0))), (rr 5, .inl (cI, 3, .inl (fun _ => 0))), (rr 6, .inl (cI, 3, .inl (fun _ => 0)))]) hP hD [0, 2, 3, 4, 5, 6, 7, 8, 9] [1, 10, 11] rfl rfl (by decide) (by decide) hk1 hFc hP1 hD1
  generalize H1 = H at hP hS ⊢
  have hP : va_P (dC, dI) vwCl [(k0, .inl (cI, 7, .inl (fun _ => 0))), (o0, .inl (cJ, 1, .inr (.inl f))), (h0, zX 0 1 v), (m0, zM 0 0 1 (.ref k0) (.ref q0) a10 a11), (q0, .inl (cO, 7, .inr (.inr (.inr (.inr (fun i => if i < 7 then some (rr i) else none)))))), (rr 0, .inl (cI, 3, .inl (fun _ => 0))), (rr 1, .inl (cI, 3, .inl (fun _ => 0))), (rr 2, .inl (cI, 3, .inl (fun _ => 0))), (rr 3, .inl (cI, 3, .inl (fun _ => 0))), (rr 4, .inl (cI, 3, .inl (fun _ => 0))), (rr 5, .inl (cI, 3, .inl (fun _ => 0))), (rr 6, .inl (cI, 3, .inl (fun _ => 0)))] H := hP
  have hD : va_D (fun q : Nat => s.heap.size ≤ q) [(k0, .inl (cI, 7, .inl (fun _ => 0))), (o0, .inl (cJ, 1, .inr (.inl f))), (h0, zX 0 1 v), (m0, zM 0 0 1 (.ref k0) (.ref q0) a10 a11), (q0, .inl (cO, 7, .inr (.inr (.inr (.inr (fun i => if i < 7 then some (rr i) else none)))))), (rr 0, .inl (cI, 3, .inl (fun _ => 0))), (rr 1, .inl (cI, 3, .inl (fun _ => 0))), (rr 2, .inl (cI, 3, .inl (fun _ => 0))), (rr 3, .inl (cI, 3, .inl (fun _ => 0))), (rr 4, .inl (cI, 3, .inl (fun _ => 0))), (rr 5, .inl (cI, 3, .inl (fun _ => 0))), (rr 6, .inl (cI, 3, .inl (fun _ => 0)))] := hD
  subst hw
  refine lv_dstore (lv' := [(7, .double FP.dconst0), (5, .double FP.dconst0), (0, .ref b), (1, .ref h0), (2, .ref m0), (3, .ref o0), (4, .int 0)]) hx hb dL_law_970 hl (by decide) rfl (fun ls hl => ?_)
  refine lv_dload hx hb dL_law_972 (lv_at hl 1 rfl) ?_
  refine lv_dload hx hb dL_law_974 (lv_at hl 0 rfl) ?_
  refine lv_dcmp hx hb dL_law_976 ?_
  refine lv_topi (fun z1 ez1 => ?_)
  obtain rfl : z1 = 0 := ez1.trans (by decide +kernel)
  refine lv_if_eq (tgt := 998) hx hb dL_law_977 (by decide) (fun _ => ?_) (fun c2 => absurd (by decide) c2)
  refine lv_goto (tgt := 1015) hx hb dL_law_998 (by decide) ?_
  exact law_tail C1 hS (lv_sub hl [2, 6] rfl) (Nat.le_of_ble_eq_true rfl) (Nat.le_of_ble_eq_true rfl)
set_option maxHeartbeats 4000000 in
set_option maxRecDepth 100000 in
theorem law_case_15 {p : Program} {l : Launch} {e : Env} {s : State} {m : MethodId} {below : List Frame} {meth : Method} {c : Code} (hl9 : l.stackTraces = false) {b : Nat} {xs : Nat → Int32} (C0 : lw_At p s m meth c b 4 xs) (hZ : zx_Z (fun q : Nat => s.heap.size ≤ q) s s.heap) {dC : Nat → ClassId} {dI : Nat → Nat → Nat} {h0 m0 o0 k0 q0 : Nat} {v : Nat → Value} {rr : Nat → Nat} {cI cO cJ : ClassId} {a10 a11 : Value} {f : Nat → Int64} {H : Heap} {locs : List Loc} (hK : va_K (dC, dI) vwCl [(cI, .int), (cO, .array .int), (cJ, .long)] s) (hP : va_P (dC, dI) vwCl [(h0, zX 0 1 v), (m0, zM 0 0 1 (.ref k0) (.ref q0) a10 a11), (k0, .inl (cI, 7, .inl (fun _ => 0))), (q0, .inl (cO, 7, .inr (.inr (.inr (.inr (fun i => if i < 7 then some (rr i) else none)))))), (rr 0, .inl (cI, 3, .inl (fun _ => 0))), (rr 1, .inl (cI, 3, .inl (fun _ => 0))), (rr 2, .inl (cI, 3, .inl (fun _ => 0))), (rr 3, .inl (cI, 3, .inl (fun _ => 0))), (rr 4, .inl (cI, 3, .inl (fun _ => 0))), (rr 5, .inl (cI, 3, .inl (fun _ => 0))), (rr 6, .inl (cI, 3, .inl (fun _ => 0))), (o0, .inl (cJ, 1, .inr (.inl f)))] H) (hD : va_D (fun q : Nat => s.heap.size ≤ q) [(h0, zX 0 1 v), (m0, zM 0 0 1 (.ref k0) (.ref q0) a10 a11), (k0, .inl (cI, 7, .inl (fun _ => 0))), (q0, .inl (cO, 7, .inr (.inr (.inr (.inr (fun i => if i < 7 then some (rr i) else none)))))), (rr 0, .inl (cI, 3, .inl (fun _ => 0))), (rr 1, .inl (cI, 3, .inl (fun _ => 0))), (rr 2, .inl (cI, 3, .inl (fun _ => 0))), (rr 3, .inl (cI, 3, .inl (fun _ => 0))), (rr 4, .inl (cI, 3, .inl (fun _ => 0))), (rr 5, .inl (cI, 3, .inl (fun _ => 0))), (rr 6, .inl (cI, 3, .inl (fun _ => 0))), (o0, .inl (cJ, 1, .inr (.inl f)))]) (hS : va_S (fun q : Nat => s.heap.size ≤ q) s.heap H locs) {ls : Array Slot} (hl : lv_has ls 9 [(0, .ref b), (1, .ref h0), (2, .ref m0), (3, .ref o0), (4, .int 0)]) : W p l e room_1 s m #[Value.ref b] below meth c H locs 57 372 (lw_Z below #[Value.ref b] s) (F0 m 1001 ls []) := by
  have C1 := C0
  obtain ⟨hx, hb, hr, hml, hown0, hts0, hX, hbl, hlocks, hgv⟩ := C0
  have hown : s.vm.findClass RL = some m.cls := hown0
  have hts : ∀ w ∈ wsL_law, w.before #[Value.ref b] s = true := fun w h => hts0 w (wsL_law_in w h)
  have hA : ∀ q : Nat, s.heap.size ≤ q → (fun q : Nat => s.heap.size ≤ q) q := fun _ h => h
  have hbA : ¬ (fun q : Nat => s.heap.size ≤ q) b := Nat.not_le.mpr hbl
  refine lv_aload_n hx hb dL_law_1001 rfl (lv_at hl 1 rfl) ?_
  have hPc := hP.sub (ws' := [(h0, zX 0 1 v)]) [0] rfl
  have hDc := hD.sub (ws' := [(h0, zX 0 1 v)]) [0] (by decide) rfl
  have hKc := hK.sub (tys' := []) [] rfl
  have hFc := va_free (wc := [(h0, zX 0 1 v)]) hD hS hA [0] rfl
  refine va_calll (va_runV (As := []) (rest := []) ⟨hx, hb, hml, hown, hts⟩ (c_X0_digest l dC dI h0 v H.size) (cwV 0 hts gL_law_X0_digest rfl rfl rfl (by decide +kernel) ⟨Nat.le_of_ble_eq_true rfl, Nat.le_of_ble_eq_true rfl⟩) ⟨zx_blind, va_recv hKc hPc (ci := 0) (q0 := 0) rfl rfl, fun U hU hW => ⟨rfl, zx_go hPc hKc hDc hZ hS hFc hU hW⟩⟩ rfl rfl hl.1 rfl (lv_room (Nat.le_of_ble_eq_true rfl)) dL_law_1002 ⟨Nat.le_of_ble_eq_true rfl, Nat.le_of_ble_eq_true rfl⟩) hS (fun q _ h => hFc q h) hFc (fun r u t H1 locs ht hvm hw hB hz1 hk1 hS => ?_)
  obtain ⟨hP1, hK1, hD1⟩ := hB
  rw [ht] at hP1
  have hK1 := va_K.moved hvm.symm hK1
  try dsimp only at hw hP1 hD1 hK1
  obtain ⟨hP, hD⟩ := va_join (wr := [(m0, zM 0 0 1 (.ref k0) (.ref q0) a10 a11), (k0, .inl (cI, 7, .inl (fun _ => 0))), (q0, .inl (cO, 7, .inr (.inr (.inr (.inr (fun i => if i < 7 then some (rr i) else none)))))), (rr 0, .inl (cI, 3, .inl (fun _ => 0))), (rr 1, .inl (cI, 3, .inl (fun _ => 0))), (rr 2, .inl (cI, 3, .inl (fun _ => 0))), (rr 3, .inl (cI, 3, .inl (fun _ => 0))), (rr 4, .inl (cI, 3, .inl (fun _ => 0))), (rr 5, .inl (cI, 3, .inl (fun _ => 0))), (rr 6, .inl (cI, 3, .inl (fun _ => 0))), (o0, .inl (cJ, 1, .inr (.inl f)))]) (w1 := [(h0, zX 0 1 v)]) hP hD [0] [1, 2, 3, 4, 5, 6, 7, 8, 9, 10, 11] rfl rfl (by decide) (by decide) hk1 hFc hP1 hD1
  generalize H1 = H at hP hS ⊢
  have hP : va_P (dC, dI) vwCl [(m0, zM 0 0 1 (.ref k0) (.ref q0) a10 a11), (k0, .inl (cI, 7, .inl (fun _ => 0))), (q0, .inl (cO, 7, .inr (.inr (.inr (.inr (fun i => if i < 7 then some (rr i) else none)))))), (rr 0, .inl (cI, 3, .inl (fun _ => 0))), (rr 1, .inl (cI, 3, .inl (fun _ => 0))), (rr 2, .inl (cI, 3, .inl (fun _ => 0))), (rr 3, .inl (cI, 3, .inl (fun _ => 0))), (rr 4, .inl (cI, 3, .inl (fun _ => 0))), (rr 5, .inl (cI, 3, .inl (fun _ => 0))), (rr 6, .inl (cI, 3, .inl (fun _ => 0))), (o0, .inl (cJ, 1, .inr (.inl f))), (h0, zX 0 1 v)] H := hP
  have hD : va_D (fun q : Nat => s.heap.size ≤ q) [(m0, zM 0 0 1 (.ref k0) (.ref q0) a10 a11), (k0, .inl (cI, 7, .inl (fun _ => 0))), (q0, .inl (cO, 7, .inr (.inr (.inr (.inr (fun i => if i < 7 then some (rr i) else none)))))), (rr 0, .inl (cI, 3, .inl (fun _ => 0))), (rr 1, .inl (cI, 3, .inl (fun _ => 0))), (rr 2, .inl (cI, 3, .inl (fun _ => 0))), (rr 3, .inl (cI, 3, .inl (fun _ => 0))), (rr 4, .inl (cI, 3, .inl (fun _ => 0))), (rr 5, .inl (cI, 3, .inl (fun _ => 0))), (rr 6, .inl (cI, 3, .inl (fun _ => 0))), (o0, .inl (cJ, 1, .inr (.inl f))), (h0, zX 0 1 v)] := hD
  subst hw
  refine lv_aload_n hx hb dL_law_1005 rfl (lv_at hl 2 rfl) ?_
  have hPc := hP.sub (ws' := [(m0, zM 0 0 1 (.ref k0) (.ref q0) a10 a11), (k0, .inl (cI, 7, .inl (fun _ => 0)))]) [0, 1] rfl
  have hDc := hD.sub (ws' := [(m0, zM 0 0 1 (.ref k0) (.ref q0) a10 a11), (k0, .inl (cI, 7, .inl (fun _ => 0)))]) [0, 1] (by decide) rfl
  have hKc := hK.sub (tys' := [(cI, .int)]) [0] rfl
  have hFc := va_free (wc := [(m0, zM 0 0 1 (.ref k0) (.ref q0) a10 a11), (k0, .inl (cI, 7, .inl (fun _ => 0)))]) hD hS hA [0, 1] rfl
  refine va_calll (va_runV (As := []) (rest := [.long 37782247579258665]) ⟨hx, hb, hml, hown, hts⟩ (c_X1_digest l dC dI m0 k0 cI (.ref q0) a10 a11 H.size) (cwV 0 hts gL_law_X1_digest rfl rfl rfl (by decide +kernel) ⟨Nat.le_of_ble_eq_true rfl, Nat.le_of_ble_eq_true rfl⟩) ⟨zx_blind, va_recv hKc hPc (ci := 1) (q0 := 0) rfl rfl, fun U hU hW => ⟨rfl, zx_go hPc hKc hDc hZ hS hFc hU hW⟩⟩ rfl rfl hl.1 rfl (lv_room (Nat.le_of_ble_eq_true rfl)) dL_law_1006 ⟨Nat.le_of_ble_eq_true rfl, Nat.le_of_ble_eq_true rfl⟩) hS (fun q _ h => hFc q h) hFc (fun r u t H1 locs ht hvm hw hB hz1 hk1 hS => ?_)
  obtain ⟨hP1, hK1, hD1⟩ := hB
  rw [ht] at hP1
  have hK1 := va_K.moved hvm.symm hK1
  try dsimp only at hw hP1 hD1 hK1
  obtain ⟨hP, hD⟩ := va_join (wr := [(q0, .inl (cO, 7, .inr (.inr (.inr (.inr (fun i => if i < 7 then some (rr i) else none)))))), (rr 0, .inl (cI, 3, .inl (fun _ => 0))), (rr 1, .inl (cI, 3, .inl (fun _ => 0))), (rr 2, .inl (cI, 3, .inl (fun _ => 0))), (rr 3, .inl (cI, 3, .inl (fun _ => 0))), (rr 4, .inl (cI, 3, .inl (fun _ => 0))), (rr 5, .inl (cI, 3, .inl (fun _ => 0))), (rr 6, .inl (cI, 3, .inl (fun _ => 0))), (o0, .inl (cJ, 1, .inr (.inl f))), (h0, zX 0 1 v)]) (w1 := [(m0, zM 0 0 1 (.ref k0) (.ref q0) a10 a11), (k0, .inl (cI, 7, .inl (fun _ => 0)))]) hP hD [0, 1] [2, 3, 4, 5, 6, 7, 8, 9, 10, 11] rfl rfl (by decide) (by decide) hk1 hFc hP1 hD1
  generalize H1 = H at hP hS ⊢
  have hP : va_P (dC, dI) vwCl [(q0, .inl (cO, 7, .inr (.inr (.inr (.inr (fun i => if i < 7 then some (rr i) else none)))))), (rr 0, .inl (cI, 3, .inl (fun _ => 0))), (rr 1, .inl (cI, 3, .inl (fun _ => 0))), (rr 2, .inl (cI, 3, .inl (fun _ => 0))), (rr 3, .inl (cI, 3, .inl (fun _ => 0))), (rr 4, .inl (cI, 3, .inl (fun _ => 0))), (rr 5, .inl (cI, 3, .inl (fun _ => 0))), (rr 6, .inl (cI, 3, .inl (fun _ => 0))), (o0, .inl (cJ, 1, .inr (.inl f))), (h0, zX 0 1 v), (m0, zM 0 0 1 (.ref k0) (.ref q0) a10 a11), (k0, .inl (cI, 7, .inl (fun _ => 0)))] H := hP
  have hD : va_D (fun q : Nat => s.heap.size ≤ q) [(q0, .inl (cO, 7, .inr (.inr (.inr (.inr (fun i => if i < 7 then some (rr i) else none)))))), (rr 0, .inl (cI, 3, .inl (fun _ => 0))), (rr 1, .inl (cI, 3, .inl (fun _ => 0))), (rr 2, .inl (cI, 3, .inl (fun _ => 0))), (rr 3, .inl (cI, 3, .inl (fun _ => 0))), (rr 4, .inl (cI, 3, .inl (fun _ => 0))), (rr 5, .inl (cI, 3, .inl (fun _ => 0))), (rr 6, .inl (cI, 3, .inl (fun _ => 0))), (o0, .inl (cJ, 1, .inr (.inl f))), (h0, zX 0 1 v), (m0, zM 0 0 1 (.ref k0) (.ref q0) a10 a11), (k0, .inl (cI, 7, .inl (fun _ => 0)))] := hD
  refine W.widen (k := 66) (n := 453) (by omega) (by omega) ?_
  subst hw
  refine W.lcmp hx hb dL_law_1009 ?_
  refine lv_topi (fun z1 ez1 => ?_)
  obtain rfl : z1 = 0 := ez1.trans (zx_cmp _)
  refine lv_if_eq (tgt := 1015) hx hb dL_law_1010 (by decide) (fun _ => ?_) (fun c2 => absurd (by decide) c2)
  exact law_tail C1 hS (lv_sub hl [0, 4] rfl) (Nat.le_of_ble_eq_true rfl) (Nat.le_of_ble_eq_true rfl)
