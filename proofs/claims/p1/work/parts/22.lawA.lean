set_option maxHeartbeats 4000000 in
set_option maxRecDepth 100000 in
theorem law_case_0 {p : Program} {l : Launch} {e : Env} {s : State} {m : MethodId} {below : List Frame} {meth : Method} {c : Code} (hl9 : l.stackTraces = false) {b : Nat} {xs : Nat → Int32} (C0 : lw_At p s m meth c b 4 xs) (hZ : zx_Z (fun q : Nat => s.heap.size ≤ q) s s.heap) {dC : Nat → ClassId} {dI : Nat → Nat → Nat} {h0 m0 o0 k0 q0 : Nat} {v : Nat → Value} {rr : Nat → Nat} {cI cO cJ : ClassId} {a10 a11 : Value} {f : Nat → Int64} {H : Heap} {locs : List Loc} (hK : va_K (dC, dI) vwCl [(cI, .int), (cO, .array .int), (cJ, .long)] s) (hP : va_P (dC, dI) vwCl [(h0, zX 0 1 v), (m0, zM 0 0 1 (.ref k0) (.ref q0) a10 a11), (k0, .inl (cI, 7, .inl (fun _ => 0))), (q0, .inl (cO, 7, .inr (.inr (.inr (.inr (fun i => if i < 7 then some (rr i) else none)))))), (rr 0, .inl (cI, 3, .inl (fun _ => 0))), (rr 1, .inl (cI, 3, .inl (fun _ => 0))), (rr 2, .inl (cI, 3, .inl (fun _ => 0))), (rr 3, .inl (cI, 3, .inl (fun _ => 0))), (rr 4, .inl (cI, 3, .inl (fun _ => 0))), (rr 5, .inl (cI, 3, .inl (fun _ => 0))), (rr 6, .inl (cI, 3, .inl (fun _ => 0))), (o0, .inl (cJ, 1, .inr (.inl f)))] H) (hD : va_D (fun q : Nat => s.heap.size ≤ q) [(h0, zX 0 1 v), (m0, zM 0 0 1 (.ref k0) (.ref q0) a10 a11), (k0, .inl (cI, 7, .inl (fun _ => 0))), (q0, .inl (cO, 7, .inr (.inr (.inr (.inr (fun i => if i < 7 then some (rr i) else none)))))), (rr 0, .inl (cI, 3, .inl (fun _ => 0))), (rr 1, .inl (cI, 3, .inl (fun _ => 0))), (rr 2, .inl (cI, 3, .inl (fun _ => 0))), (rr 3, .inl (cI, 3, .inl (fun _ => 0))), (rr 4, .inl (cI, 3, .inl (fun _ => 0))), (rr 5, .inl (cI, 3, .inl (fun _ => 0))), (rr 6, .inl (cI, 3, .inl (fun _ => 0))), (o0, .inl (cJ, 1, .inr (.inl f)))]) (hS : va_S (fun q : Nat => s.heap.size ≤ q) s.heap H locs) {ls : Array Slot} (hl : lv_has ls 9 [(0, .ref b), (1, .ref h0), (2, .ref m0), (3, .ref o0), (4, .int 0)]) : W p l e room_1 s m #[Value.ref b] below meth c H locs 57 372 (lw_Z below #[Value.ref b] s) (F0 m 116 ls []) := by
  have C1 := C0
  obtain ⟨hx, hb, hr, hml, hown0, hts0, hX, hbl, hlocks, hgv⟩ := C0
  have hown : s.vm.findClass RL = some m.cls := hown0
  have hts : ∀ w ∈ wsL_law, w.before #[Value.ref b] s = true := fun w h => hts0 w (wsL_law_in w h)
  have hA : ∀ q : Nat, s.heap.size ≤ q → (fun q : Nat => s.heap.size ≤ q) q := fun _ h => h
  have hbA : ¬ (fun q : Nat => s.heap.size ≤ q) b := Nat.not_le.mpr hbl
  refine lv_aload_n hx hb dL_law_116 rfl (lv_at hl 1 rfl) ?_
  refine lv_aload_n hx hb dL_law_117 rfl (lv_at hl 3 rfl) ?_
  have hPc := hP.sub (ws' := [(h0, zX 0 1 v), (o0, .inl (cJ, 1, .inr (.inl f)))]) [0, 11] rfl
  have hDc := hD.sub (ws' := [(h0, zX 0 1 v), (o0, .inl (cJ, 1, .inr (.inl f)))]) [0, 11] (by decide) rfl
  have hKc := hK.sub (tys' := [(cJ, .long)]) [2] rfl
  have hFc := va_free (wc := [(h0, zX 0 1 v), (o0, .inl (cJ, 1, .inr (.inl f)))]) hD hS hA [0, 11] rfl
  refine va_calli (vx_runSW (As := [.ref h0, .ref o0]) (rest := []) ⟨hx, hb, hml, hown, hts⟩ (c_L_come l dC dI h0 o0 cJ f v H.size) (vx_cwSW 2 hts gL_law_L_come rfl rfl rfl (by decide +kernel) ⟨Nat.le_of_ble_eq_true rfl, Nat.le_of_ble_eq_true rfl⟩) ⟨zx_blind, fun U hU hW => ⟨rfl, zx_go hPc hKc hDc hZ hS hFc hU hW⟩⟩ rfl rfl hl.1 rfl (lv_room (Nat.le_of_ble_eq_true rfl)) dL_law_118 ⟨Nat.le_of_ble_eq_true rfl, Nat.le_of_ble_eq_true rfl⟩) hS (fun q _ h => hFc q h) hFc (fun r u t H1 locs ht hvm hw hB hz1 hk1 hS => ?_)
  obtain ⟨hP1, hK1, hD1⟩ := hB
  rw [ht] at hP1
  have hK1 := va_K.moved hvm.symm hK1
  try dsimp only at hw hP1 hD1 hK1
  obtain ⟨hP, hD⟩ := va_join (wr := [(m0, zM 0 0 1 (.ref k0) (.ref q0) a10 a11), (k0, .inl (cI, 7, .inl (fun _ => 0))), (q0, .inl (cO, 7, .inr (.inr (.inr (.inr (fun i => if i < 7 then some (rr i) else none)))))), (rr 0, .inl (cI, 3, .inl (fun _ => 0))), (rr 1, .inl (cI, 3, .inl (fun _ => 0))), (rr 2, .inl (cI, 3, .inl (fun _ => 0))), (rr 3, .inl (cI, 3, .inl (fun _ => 0))), (rr 4, .inl (cI, 3, .inl (fun _ => 0))), (rr 5, .inl (cI, 3, .inl (fun _ => 0))), (rr 6, .inl (cI, 3, .inl (fun _ => 0)))]) (w1 := [(o0, .inl (cJ, 1, .inr (.inl u)))]) hP hD [0, 11] [1, 2, 3, 4, 5, 6, 7, 8, 9, 10] rfl rfl (by decide) (by decide) hk1 hFc hP1 hD1
  generalize H1 = H at hP hS ⊢
  have hP : va_P (dC, dI) vwCl [(m0, zM 0 0 1 (.ref k0) (.ref q0) a10 a11), (k0, .inl (cI, 7, .inl (fun _ => 0))), (q0, .inl (cO, 7, .inr (.inr (.inr (.inr (fun i => if i < 7 then some (rr i) else none)))))), (rr 0, .inl (cI, 3, .inl (fun _ => 0))), (rr 1, .inl (cI, 3, .inl (fun _ => 0))), (rr 2, .inl (cI, 3, .inl (fun _ => 0))), (rr 3, .inl (cI, 3, .inl (fun _ => 0))), (rr 4, .inl (cI, 3, .inl (fun _ => 0))), (rr 5, .inl (cI, 3, .inl (fun _ => 0))), (rr 6, .inl (cI, 3, .inl (fun _ => 0))), (o0, .inl (cJ, 1, .inr (.inl u)))] H := hP
  have hD : va_D (fun q : Nat => s.heap.size ≤ q) [(m0, zM 0 0 1 (.ref k0) (.ref q0) a10 a11), (k0, .inl (cI, 7, .inl (fun _ => 0))), (q0, .inl (cO, 7, .inr (.inr (.inr (.inr (fun i => if i < 7 then some (rr i) else none)))))), (rr 0, .inl (cI, 3, .inl (fun _ => 0))), (rr 1, .inl (cI, 3, .inl (fun _ => 0))), (rr 2, .inl (cI, 3, .inl (fun _ => 0))), (rr 3, .inl (cI, 3, .inl (fun _ => 0))), (rr 4, .inl (cI, 3, .inl (fun _ => 0))), (rr 5, .inl (cI, 3, .inl (fun _ => 0))), (rr 6, .inl (cI, 3, .inl (fun _ => 0))), (o0, .inl (cJ, 1, .inr (.inl u)))] := hD
  obtain ⟨rfl, hu⟩ := hw
  refine lv_istore (lv' := [(5, .int 0), (0, .ref b), (1, .ref h0), (2, .ref m0), (3, .ref o0), (4, .int 0)]) hx hb dL_law_121 hl (by decide) rfl (fun ls hl => ?_)
  refine lv_aload_n hx hb dL_law_123 rfl (lv_at hl 3 rfl) ?_
  have hPc := hP.sub (ws' := [(m0, zM 0 0 1 (.ref k0) (.ref q0) a10 a11)]) [0] rfl
  have hDc := hD.sub (ws' := [(m0, zM 0 0 1 (.ref k0) (.ref q0) a10 a11)]) [0] (by decide) rfl
  have hKc := hK.sub (tys' := []) [] rfl
  have hFc := va_free (wc := [(m0, zM 0 0 1 (.ref k0) (.ref q0) a10 a11)]) hD hS hA [0] rfl
  refine va_calli (va_runV (As := []) (rest := []) ⟨hx, hb, hml, hown, hts⟩ (c_X1_come l dC dI m0 (.ref k0) (.ref q0) a10 a11 H.size) (cwV 0 hts gL_law_X1_come rfl rfl rfl (by decide +kernel) ⟨Nat.le_of_ble_eq_true rfl, Nat.le_of_ble_eq_true rfl⟩) ⟨zx_blind, va_recv hKc hPc (ci := 1) (q0 := 0) rfl rfl, fun U hU hW => ⟨rfl, zx_go hPc hKc hDc hZ hS hFc hU hW⟩⟩ rfl rfl hl.1 rfl (lv_room (Nat.le_of_ble_eq_true rfl)) dL_law_124 ⟨Nat.le_of_ble_eq_true rfl, Nat.le_of_ble_eq_true rfl⟩) hS (fun q _ h => hFc q h) hFc (fun r u9 t H1 locs ht hvm hw hB hz1 hk1 hS => ?_)
  obtain ⟨hP1, hK1, hD1⟩ := hB
  rw [ht] at hP1
  have hK1 := va_K.moved hvm.symm hK1
  try dsimp only at hw hP1 hD1 hK1
  obtain ⟨hP, hD⟩ := va_join (wr := [(k0, .inl (cI, 7, .inl (fun _ => 0))), (q0, .inl (cO, 7, .inr (.inr (.inr (.inr (fun i => if i < 7 then some (rr i) else none)))))), (rr 0, .inl (cI, 3, .inl (fun _ => 0))), (rr 1, .inl (cI, 3, .inl (fun _ => 0))), (rr 2, .inl (cI, 3, .inl (fun _ => 0))), (rr 3, .inl (cI, 3, .inl (fun _ => 0))), (rr 4, .inl (cI, 3, .inl (fun _ => 0))), (rr 5, .inl (cI, 3, .inl (fun _ => 0))), (rr 6, .inl (cI, 3, .inl (fun _ => 0))), (o0, .inl (cJ, 1, .inr (.inl u)))]) (w1 := [(m0, zM 0 1 1 (.ref k0) (.ref q0) a10 a11)]) hP hD [0] [1, 2, 3, 4, 5, 6, 7, 8, 9, 10] rfl rfl (by decide) (by decide) hk1 hFc hP1 hD1
  generalize H1 = H at hP hS ⊢
  have hP : va_P (dC, dI) vwCl [(k0, .inl (cI, 7, .inl (fun _ => 0))), (q0, .inl (cO, 7, .inr (.inr (.inr (.inr (fun i => if i < 7 then some (rr i) else none)))))), (rr 0, .inl (cI, 3, .inl (fun _ => 0))), (rr 1, .inl (cI, 3, .inl (fun _ => 0))), (rr 2, .inl (cI, 3, .inl (fun _ => 0))), (rr 3, .inl (cI, 3, .inl (fun _ => 0))), (rr 4, .inl (cI, 3, .inl (fun _ => 0))), (rr 5, .inl (cI, 3, .inl (fun _ => 0))), (rr 6, .inl (cI, 3, .inl (fun _ => 0))), (o0, .inl (cJ, 1, .inr (.inl u))), (m0, zM 0 1 1 (.ref k0) (.ref q0) a10 a11)] H := hP
  have hD : va_D (fun q : Nat => s.heap.size ≤ q) [(k0, .inl (cI, 7, .inl (fun _ => 0))), (q0, .inl (cO, 7, .inr (.inr (.inr (.inr (fun i => if i < 7 then some (rr i) else none)))))), (rr 0, .inl (cI, 3, .inl (fun _ => 0))), (rr 1, .inl (cI, 3, .inl (fun _ => 0))), (rr 2, .inl (cI, 3, .inl (fun _ => 0))), (rr 3, .inl (cI, 3, .inl (fun _ => 0))), (rr 4, .inl (cI, 3, .inl (fun _ => 0))), (rr 5, .inl (cI, 3, .inl (fun _ => 0))), (rr 6, .inl (cI, 3, .inl (fun _ => 0))), (o0, .inl (cJ, 1, .inr (.inl u))), (m0, zM 0 1 1 (.ref k0) (.ref q0) a10 a11)] := hD
  subst hw
  refine lv_istore (lv' := [(6, .int 0), (5, .int 0), (0, .ref b), (1, .ref h0), (2, .ref m0), (3, .ref o0), (4, .int 0)]) hx hb dL_law_127 hl (by decide) rfl (fun ls hl => ?_)
  refine lv_aload_n hx hb dL_law_129 rfl (lv_at hl 4 rfl) ?_
  have hPc := hP.sub (ws' := [(m0, zM 0 1 1 (.ref k0) (.ref q0) a10 a11)]) [10] rfl
  have hDc := hD.sub (ws' := [(m0, zM 0 1 1 (.ref k0) (.ref q0) a10 a11)]) [10] (by decide) rfl
  have hKc := hK.sub (tys' := []) [] rfl
  have hFc := va_free (wc := [(m0, zM 0 1 1 (.ref k0) (.ref q0) a10 a11)]) hD hS hA [10] rfl
  refine va_calli (va_runV (As := []) (rest := []) ⟨hx, hb, hml, hown, hts⟩ (c_X1_thrown l dC dI m0 0 1 1 (.ref k0) (.ref q0) a10 a11 H.size) (cwV 0 hts gL_law_X1_thrown rfl rfl rfl (by decide +kernel) ⟨Nat.le_of_ble_eq_true rfl, Nat.le_of_ble_eq_true rfl⟩) ⟨zx_blind, va_recv hKc hPc (ci := 1) (q0 := 0) rfl rfl, fun U hU hW => ⟨rfl, zx_go hPc hKc hDc hZ hS hFc hU hW⟩⟩ rfl rfl hl.1 rfl (lv_room (Nat.le_of_ble_eq_true rfl)) dL_law_130 ⟨Nat.le_of_ble_eq_true rfl, Nat.le_of_ble_eq_true rfl⟩) hS (fun q _ h => hFc q h) hFc (fun r u8 t H1 locs ht hvm hw hB hz1 hk1 hS => ?_)
  obtain ⟨hP1, hK1, hD1⟩ := hB
  rw [ht] at hP1
  have hK1 := va_K.moved hvm.symm hK1
  try dsimp only at hw hP1 hD1 hK1
  obtain ⟨hP, hD⟩ := va_join (wr := [(k0, .inl (cI, 7, .inl (fun _ => 0))), (q0, .inl (cO, 7, .inr (.inr (.inr (.inr (fun i => if i < 7 then some (rr i) else none)))))), (rr 0, .inl (cI, 3, .inl (fun _ => 0))), (rr 1, .inl (cI, 3, .inl (fun _ => 0))), (rr 2, .inl (cI, 3, .inl (fun _ => 0))), (rr 3, .inl (cI, 3, .inl (fun _ => 0))), (rr 4, .inl (cI, 3, .inl (fun _ => 0))), (rr 5, .inl (cI, 3, .inl (fun _ => 0))), (rr 6, .inl (cI, 3, .inl (fun _ => 0))), (o0, .inl (cJ, 1, .inr (.inl u)))]) (w1 := [(m0, zM 0 1 1 (.ref k0) (.ref q0) a10 a11)]) hP hD [10] [0, 1, 2, 3, 4, 5, 6, 7, 8, 9] rfl rfl (by decide) (by decide) hk1 hFc hP1 hD1
  generalize H1 = H at hP hS ⊢
  have hP : va_P (dC, dI) vwCl [(k0, .inl (cI, 7, .inl (fun _ => 0))), (q0, .inl (cO, 7, .inr (.inr (.inr (.inr (fun i => if i < 7 then some (rr i) else none)))))), (rr 0, .inl (cI, 3, .inl (fun _ => 0))), (rr 1, .inl (cI, 3, .inl (fun _ => 0))), (rr 2, .inl (cI, 3, .inl (fun _ => 0))), (rr 3, .inl (cI, 3, .inl (fun _ => 0))), (rr 4, .inl (cI, 3, .inl (fun _ => 0))), (rr 5, .inl (cI, 3, .inl (fun _ => 0))), (rr 6, .inl (cI, 3, .inl (fun _ => 0))), (o0, .inl (cJ, 1, .inr (.inl u))), (m0, zM 0 1 1 (.ref k0) (.ref q0) a10 a11)] H := hP
  have hD : va_D (fun q : Nat => s.heap.size ≤ q) [(k0, .inl (cI, 7, .inl (fun _ => 0))), (q0, .inl (cO, 7, .inr (.inr (.inr (.inr (fun i => if i < 7 then some (rr i) else none)))))), (rr 0, .inl (cI, 3, .inl (fun _ => 0))), (rr 1, .inl (cI, 3, .inl (fun _ => 0))), (rr 2, .inl (cI, 3, .inl (fun _ => 0))), (rr 3, .inl (cI, 3, .inl (fun _ => 0))), (rr 4, .inl (cI, 3, .inl (fun _ => 0))), (rr 5, .inl (cI, 3, .inl (fun _ => 0))), (rr 6, .inl (cI, 3, .inl (fun _ => 0))), (o0, .inl (cJ, 1, .inr (.inl u))), (m0, zM 0 1 1 (.ref k0) (.ref q0) a10 a11)] := hD
  subst hw
  refine lv_iload hx hb dL_law_133 (lv_at hl 1 rfl) ?_
  refine lv_icmp_eq (tgt := 140) hx hb dL_law_135 (by decide) (fun _ => ?_) (fun c1 => absurd (by decide) c1)
  refine lv_iload hx hb dL_law_140 (lv_at hl 1 rfl) ?_
  refine lv_if_ne (tgt := 157) hx hb dL_law_142 (by decide) (fun c2 => absurd c2 (by decide)) (fun _ => ?_)
  refine lv_aload_n hx hb dL_law_145 rfl (lv_at hl 5 rfl) ?_
  refine lv_iconst (v := 0) hx hb dL_law_146 (by decide) ?_
  refine va_lald hx hb hK hP 9 2 rfl rfl (zx_in rfl) dL_law_147 ?_
  refine lv_topl (fun zl ezl => ?_)
  obtain rfl : zl = 0 := ezl.trans hu
  refine lv_iload hx hb dL_law_148 (lv_at hl 0 rfl) ?_
  refine lv_i2l (v := 0) hx hb dL_law_150 (by decide) ?_
  refine W.lcmp hx hb dL_law_151 ?_
  refine lv_topi (fun z3 ez3 => ?_)
  obtain rfl : z3 = 0 := ez3.trans (zx_cmp _)
  refine lv_if_eq (tgt := 157) hx hb dL_law_152 (by decide) (fun _ => ?_) (fun c4 => absurd (by decide) c4)
  refine lv_goto (tgt := 1015) hx hb dL_law_157 (by decide) ?_
  exact law_tail C1 hS (lv_sub hl [2, 6] rfl) (Nat.le_of_ble_eq_true rfl) (Nat.le_of_ble_eq_true rfl)
set_option maxHeartbeats 4000000 in
set_option maxRecDepth 100000 in
theorem law_case_1 {p : Program} {l : Launch} {e : Env} {s : State} {m : MethodId} {below : List Frame} {meth : Method} {c : Code} (hl9 : l.stackTraces = false) {b : Nat} {xs : Nat → Int32} (C0 : lw_At p s m meth c b 4 xs) (hZ : zx_Z (fun q : Nat => s.heap.size ≤ q) s s.heap) {dC : Nat → ClassId} {dI : Nat → Nat → Nat} {h0 m0 o0 k0 q0 : Nat} {v : Nat → Value} {rr : Nat → Nat} {cI cO cJ : ClassId} {a10 a11 : Value} {f : Nat → Int64} {H : Heap} {locs : List Loc} (hK : va_K (dC, dI) vwCl [(cI, .int), (cO, .array .int), (cJ, .long)] s) (hP : va_P (dC, dI) vwCl [(h0, zX 0 1 v), (m0, zM 0 0 1 (.ref k0) (.ref q0) a10 a11), (k0, .inl (cI, 7, .inl (fun _ => 0))), (q0, .inl (cO, 7, .inr (.inr (.inr (.inr (fun i => if i < 7 then some (rr i) else none)))))), (rr 0, .inl (cI, 3, .inl (fun _ => 0))), (rr 1, .inl (cI, 3, .inl (fun _ => 0))), (rr 2, .inl (cI, 3, .inl (fun _ => 0))), (rr 3, .inl (cI, 3, .inl (fun _ => 0))), (rr 4, .inl (cI, 3, .inl (fun _ => 0))), (rr 5, .inl (cI, 3, .inl (fun _ => 0))), (rr 6, .inl (cI, 3, .inl (fun _ => 0))), (o0, .inl (cJ, 1, .inr (.inl f)))] H) (hD : va_D (fun q : Nat => s.heap.size ≤ q) [(h0, zX 0 1 v), (m0, zM 0 0 1 (.ref k0) (.ref q0) a10 a11), (k0, .inl (cI, 7, .inl (fun _ => 0))), (q0, .inl (cO, 7, .inr (.inr (.inr (.inr (fun i => if i < 7 then some (rr i) else none)))))), (rr 0, .inl (cI, 3, .inl (fun _ => 0))), (rr 1, .inl (cI, 3, .inl (fun _ => 0))), (rr 2, .inl (cI, 3, .inl (fun _ => 0))), (rr 3, .inl (cI, 3, .inl (fun _ => 0))), (rr 4, .inl (cI, 3, .inl (fun _ => 0))), (rr 5, .inl (cI, 3, .inl (fun _ => 0))), (rr 6, .inl (cI, 3, .inl (fun _ => 0))), (o0, .inl (cJ, 1, .inr (.inl f)))]) (hS : va_S (fun q : Nat => s.heap.size ≤ q) s.heap H locs) {ls : Array Slot} (hl : lv_has ls 9 [(0, .ref b), (1, .ref h0), (2, .ref m0), (3, .ref o0), (4, .int 0)]) : W p l e room_1 s m #[Value.ref b] below meth c H locs 57 372 (lw_Z below #[Value.ref b] s) (F0 m 160 ls []) := by
  have C1 := C0
  obtain ⟨hx, hb, hr, hml, hown0, hts0, hX, hbl, hlocks, hgv⟩ := C0
  have hown : s.vm.findClass RL = some m.cls := hown0
  have hts : ∀ w ∈ wsL_law, w.before #[Value.ref b] s = true := fun w h => hts0 w (wsL_law_in w h)
  have hA : ∀ q : Nat, s.heap.size ≤ q → (fun q : Nat => s.heap.size ≤ q) q := fun _ h => h
  have hbA : ¬ (fun q : Nat => s.heap.size ≤ q) b := Nat.not_le.mpr hbl
  refine lv_aload_n hx hb dL_law_160 rfl (lv_at hl 1 rfl) ?_
  refine lv_aload_n hx hb dL_law_161 rfl (lv_at hl 0 rfl) ?_
  refine lv_iload hx hb dL_law_162 (lv_at hl 4 rfl) ?_
  refine lv_iconst (v := 1) hx hb dL_law_164 (by decide) ?_
  refine lv_iadd hx hb dL_law_165 ?_
  refine lv_topi (fun z1 ez1 => ?_)
  obtain rfl : z1 = 1 := ez1.trans (by decide)
  refine va_sld hx hb hX hbl hbA hS (zx_in rfl) dL_law_166 ?_
  refine lv_aload_n hx hb dL_law_167 rfl (lv_at hl 0 rfl) ?_
  refine lv_iload hx hb dL_law_168 (lv_at hl 4 rfl) ?_
  refine lv_iconst (v := 2) hx hb dL_law_170 (by decide) ?_
  refine lv_iadd hx hb dL_law_171 ?_
  refine lv_topi (fun z2 ez2 => ?_)
  obtain rfl : z2 = 2 := ez2.trans (by decide)
  refine va_sld hx hb hX hbl hbA hS (zx_in rfl) dL_law_172 ?_
  refine lv_aload_n hx hb dL_law_173 rfl (lv_at hl 3 rfl) ?_
  have hPc := hP.sub (ws' := [(h0, zX 0 1 v), (o0, .inl (cJ, 1, .inr (.inl f)))]) [0, 11] rfl
  have hDc := hD.sub (ws' := [(h0, zX 0 1 v), (o0, .inl (cJ, 1, .inr (.inl f)))]) [0, 11] (by decide) rfl
  have hKc := hK.sub (tys' := [(cJ, .long)]) [2] rfl
  have hFc := va_free (wc := [(h0, zX 0 1 v), (o0, .inl (cJ, 1, .inr (.inl f)))]) hD hS hA [0, 11] rfl
  refine va_calli (vx_runSW (As := [.ref h0, .int (xs (Int32.toNatClampNeg 1)), .int (xs (Int32.toNatClampNeg 2)), .ref o0]) (rest := []) ⟨hx, hb, hml, hown, hts⟩ (c_L_setKind l hl9 dC dI h0 o0 cJ f v (xs (Int32.toNatClampNeg 1)) (xs (Int32.toNatClampNeg 2)) H.size) (vx_cwSW 4 hts gL_law_L_setKind rfl rfl rfl (by decide +kernel) ⟨Nat.le_of_ble_eq_true rfl, Nat.le_of_ble_eq_true rfl⟩) ⟨zx_blind, fun U hU hW => ⟨rfl, zx_go hPc hKc hDc hZ hS hFc hU hW⟩⟩ rfl rfl hl.1 rfl (lv_room (Nat.le_of_ble_eq_true rfl)) dL_law_174 ⟨Nat.le_of_ble_eq_true rfl, Nat.le_of_ble_eq_true rfl⟩) hS (fun q _ h => hFc q h) hFc (fun r u t H1 locs ht hvm hw hB hz1 hk1 hS => ?_)
  obtain ⟨hP1, hK1, hD1⟩ := hB
  rw [ht] at hP1
  have hK1 := va_K.moved hvm.symm hK1
  try dsimp only at hw hP1 hD1 hK1
  obtain ⟨hP, hD⟩ := va_join (wr := [(m0, zM 0 0 1 (.ref k0) (.ref q0) a10 a11), (k0, .inl (cI, 7, .inl (fun _ => 0))), (q0, .inl (cO, 7, .inr (.inr (.inr (.inr (fun i => if i < 7 then some (rr i) else none)))))), (rr 0, .inl (cI, 3, .inl (fun _ => 0))), (rr 1, .inl (cI, 3, .inl (fun _ => 0))), (rr 2, .inl (cI, 3, .inl (fun _ => 0))), (rr 3, .inl (cI, 3, .inl (fun _ => 0))), (rr 4, .inl (cI, 3, .inl (fun _ => 0))), (rr 5, .inl (cI, 3, .inl (fun _ => 0))), (rr 6, .inl (cI, 3, .inl (fun _ => 0)))]) (w1 := []) hP hD [0, 11] [1, 2, 3, 4, 5, 6, 7, 8, 9, 10] rfl rfl (by decide) (by decide) hk1 hFc hP1 hD1
  generalize H1 = H at hP hS ⊢
  have hP : va_P (dC, dI) vwCl [(m0, zM 0 0 1 (.ref k0) (.ref q0) a10 a11), (k0, .inl (cI, 7, .inl (fun _ => 0))), (q0, .inl (cO, 7, .inr (.inr (.inr (.inr (fun i => if i < 7 then some (rr i) else none)))))), (rr 0, .inl (cI, 3, .inl (fun _ => 0))), (rr 1, .inl (cI, 3, .inl (fun _ => 0))), (rr 2, .inl (cI, 3, .inl (fun _ => 0))), (rr 3, .inl (cI, 3, .inl (fun _ => 0))), (rr 4, .inl (cI, 3, .inl (fun _ => 0))), (rr 5, .inl (cI, 3, .inl (fun _ => 0))), (rr 6, .inl (cI, 3, .inl (fun _ => 0)))] H := hP
  have hD : va_D (fun q : Nat => s.heap.size ≤ q) [(m0, zM 0 0 1 (.ref k0) (.ref q0) a10 a11), (k0, .inl (cI, 7, .inl (fun _ => 0))), (q0, .inl (cO, 7, .inr (.inr (.inr (.inr (fun i => if i < 7 then some (rr i) else none)))))), (rr 0, .inl (cI, 3, .inl (fun _ => 0))), (rr 1, .inl (cI, 3, .inl (fun _ => 0))), (rr 2, .inl (cI, 3, .inl (fun _ => 0))), (rr 3, .inl (cI, 3, .inl (fun _ => 0))), (rr 4, .inl (cI, 3, .inl (fun _ => 0))), (rr 5, .inl (cI, 3, .inl (fun _ => 0))), (rr 6, .inl (cI, 3, .inl (fun _ => 0)))] := hD
  refine W.widen (k := 58) (n := 378) (by omega) (by omega) ?_
  subst hw
  refine lv_istore (lv' := [(5, .int 1), (0, .ref b), (1, .ref h0), (2, .ref m0), (3, .ref o0), (4, .int 0)]) hx hb dL_law_177 hl (by decide) rfl (fun ls hl => ?_)
  refine lv_aload_n hx hb dL_law_179 rfl (lv_at hl 3 rfl) ?_
  refine lv_aload_n hx hb dL_law_180 rfl (lv_at hl 1 rfl) ?_
  refine lv_iload hx hb dL_law_181 (lv_at hl 5 rfl) ?_
  refine lv_iconst (v := 1) hx hb dL_law_183 (by decide) ?_
  refine lv_iadd hx hb dL_law_184 ?_
  refine lv_topi (fun z3 ez3 => ?_)
  obtain rfl : z3 = 1 := ez3.trans (by decide)
  refine va_sld hx hb hX hbl hbA hS (zx_in rfl) dL_law_185 ?_
  refine lv_aload_n hx hb dL_law_186 rfl (lv_at hl 1 rfl) ?_
  refine lv_iload hx hb dL_law_187 (lv_at hl 5 rfl) ?_
  refine lv_iconst (v := 2) hx hb dL_law_189 (by decide) ?_
  refine lv_iadd hx hb dL_law_190 ?_
  refine lv_topi (fun z4 ez4 => ?_)
  obtain rfl : z4 = 2 := ez4.trans (by decide)
  refine va_sld hx hb hX hbl hbA hS (zx_in rfl) dL_law_191 ?_
  have hPc := hP.sub (ws' := [(m0, zM 0 0 1 (.ref k0) (.ref q0) a10 a11)]) [0] rfl
  have hDc := hD.sub (ws' := [(m0, zM 0 0 1 (.ref k0) (.ref q0) a10 a11)]) [0] (by decide) rfl
  have hKc := hK.sub (tys' := []) [] rfl
  have hFc := va_free (wc := [(m0, zM 0 0 1 (.ref k0) (.ref q0) a10 a11)]) hD hS hA [0] rfl
  refine va_calli (va_runV (As := [.int (xs (Int32.toNatClampNeg 1)), .int (xs (Int32.toNatClampNeg 2))]) (rest := []) ⟨hx, hb, hml, hown, hts⟩ (c_X1_setKind l dC dI m0 (xs (Int32.toNatClampNeg 1)) (xs (Int32.toNatClampNeg 2)) (.ref k0) (.ref q0) a10 a11 H.size) (cwV 2 hts gL_law_X1_setKind rfl rfl rfl (by decide +kernel) ⟨Nat.le_of_ble_eq_true rfl, Nat.le_of_ble_eq_true rfl⟩) ⟨zx_blind, va_recv hKc hPc (ci := 1) (q0 := 0) rfl rfl, fun U hU hW => ⟨rfl, zx_go hPc hKc hDc hZ hS hFc hU hW⟩⟩ rfl rfl hl.1 rfl (lv_room (Nat.le_of_ble_eq_true rfl)) dL_law_192 ⟨Nat.le_of_ble_eq_true rfl, Nat.le_of_ble_eq_true rfl⟩) hS (fun q _ h => hFc q h) hFc (fun r u9 t H1 locs ht hvm hw hB hz1 hk1 hS => ?_)
  obtain ⟨hP1, hK1, hD1⟩ := hB
  rw [ht] at hP1
  have hK1 := va_K.moved hvm.symm hK1
  try dsimp only at hw hP1 hD1 hK1
  obtain ⟨hP, hD⟩ := va_join (wr := [(k0, .inl (cI, 7, .inl (fun _ => 0))), (q0, .inl (cO, 7, .inr (.inr (.inr (.inr (fun i => if i < 7 then some (rr i) else none)))))), (rr 0, .inl (cI, 3, .inl (fun _ => 0))), (rr 1, .inl (cI, 3, .inl (fun _ => 0))), (rr 2, .inl (cI, 3, .inl (fun _ => 0))), (rr 3, .inl (cI, 3, .inl (fun _ => 0))), (rr 4, .inl (cI, 3, .inl (fun _ => 0))), (rr 5, .inl (cI, 3, .inl (fun _ => 0))), (rr 6, .inl (cI, 3, .inl (fun _ => 0)))]) (w1 := [(m0, zM 1 0 1 (.ref k0) (.ref q0) a10 a11)]) hP hD [0] [1, 2, 3, 4, 5, 6, 7, 8, 9] rfl rfl (by decide) (by decide) hk1 hFc hP1 hD1
  generalize H1 = H at hP hS ⊢
  have hP : va_P (dC, dI) vwCl [(k0, .inl (cI, 7, .inl (fun _ => 0))), (q0, .inl (cO, 7, .inr (.inr (.inr (.inr (fun i => if i < 7 then some (rr i) else none)))))), (rr 0, .inl (cI, 3, .inl (fun _ => 0))), (rr 1, .inl (cI, 3, .inl (fun _ => 0))), (rr 2, .inl (cI, 3, .inl (fun _ => 0))), (rr 3, .inl (cI, 3, .inl (fun _ => 0))), (rr 4, .inl (cI, 3, .inl (fun _ => 0))), (rr 5, .inl (cI, 3, .inl (fun _ => 0))), (rr 6, .inl (cI, 3, .inl (fun _ => 0))), (m0, zM 1 0 1 (.ref k0) (.ref q0) a10 a11)] H := hP
  have hD : va_D (fun q : Nat => s.heap.size ≤ q) [(k0, .inl (cI, 7, .inl (fun _ => 0))), (q0, .inl (cO, 7, .inr (.inr (.inr (.inr (fun i => if i < 7 then some (rr i) else none)))))), (rr 0, .inl (cI, 3, .inl (fun _ => 0))), (rr 1, .inl (cI, 3, .inl (fun _ => 0))), (rr 2, .inl (cI, 3, .inl (fun _ => 0))), (rr 3, .inl (cI, 3, .inl (fun _ => 0))), (rr 4, .inl (cI, 3, .inl (fun _ => 0))), (rr 5, .inl (cI, 3, .inl (fun _ => 0))), (rr 6, .inl (cI, 3, .inl (fun _ => 0))), (m0, zM 1 0 1 (.ref k0) (.ref q0) a10 a11)] := hD
  subst hw
  refine lv_istore (lv' := [(6, .int 0), (5, .int 1), (0, .ref b), (1, .ref h0), (2, .ref m0), (3, .ref o0), (4, .int 0)]) hx hb dL_law_195 hl (by decide) rfl (fun ls hl => ?_)
  refine lv_aload_n hx hb dL_law_197 rfl (lv_at hl 4 rfl) ?_
  have hPc := hP.sub (ws' := [(m0, zM 1 0 1 (.ref k0) (.ref q0) a10 a11)]) [9] rfl
  have hDc := hD.sub (ws' := [(m0, zM 1 0 1 (.ref k0) (.ref q0) a10 a11)]) [9] (by decide) rfl
  have hKc := hK.sub (tys' := []) [] rfl
  have hFc := va_free (wc := [(m0, zM 1 0 1 (.ref k0) (.ref q0) a10 a11)]) hD hS hA [9] rfl
  refine va_calli (va_runV (As := []) (rest := []) ⟨hx, hb, hml, hown, hts⟩ (c_X1_thrown l dC dI m0 1 0 1 (.ref k0) (.ref q0) a10 a11 H.size) (cwV 0 hts gL_law_X1_thrown rfl rfl rfl (by decide +kernel) ⟨Nat.le_of_ble_eq_true rfl, Nat.le_of_ble_eq_true rfl⟩) ⟨zx_blind, va_recv hKc hPc (ci := 1) (q0 := 0) rfl rfl, fun U hU hW => ⟨rfl, zx_go hPc hKc hDc hZ hS hFc hU hW⟩⟩ rfl rfl hl.1 rfl (lv_room (Nat.le_of_ble_eq_true rfl)) dL_law_198 ⟨Nat.le_of_ble_eq_true rfl, Nat.le_of_ble_eq_true rfl⟩) hS (fun q _ h => hFc q h) hFc (fun r u8 t H1 locs ht hvm hw hB hz1 hk1 hS => ?_)
  obtain ⟨hP1, hK1, hD1⟩ := hB
  rw [ht] at hP1
  have hK1 := va_K.moved hvm.symm hK1
  try dsimp only at hw hP1 hD1 hK1
  obtain ⟨hP, hD⟩ := va_join (wr := [(k0, .inl (cI, 7, .inl (fun _ => 0))), (q0, .inl (cO, 7, .inr (.inr (.inr (.inr (fun i => if i < 7 then some (rr i) else none)))))), (rr 0, .inl (cI, 3, .inl (fun _ => 0))), (rr 1, .inl (cI, 3, .inl (fun _ => 0))), (rr 2, .inl (cI, 3, .inl (fun _ => 0))), (rr 3, .inl (cI, 3, .inl (fun _ => 0))), (rr 4, .inl (cI, 3, .inl (fun _ => 0))), (rr 5, .inl (cI, 3, .inl (fun _ => 0))), (rr 6, .inl (cI, 3, .inl (fun _ => 0)))]) (w1 := [(m0, zM 1 0 1 (.ref k0) (.ref q0) a10 a11)]) hP hD [9] [0, 1, 2, 3, 4, 5, 6, 7, 8] rfl rfl (by decide) (by decide) hk1 hFc hP1 hD1
  generalize H1 = H at hP hS ⊢
  have hP : va_P (dC, dI) vwCl [(k0, .inl (cI, 7, .inl (fun _ => 0))), (q0, .inl (cO, 7, .inr (.inr (.inr (.inr (fun i => if i < 7 then some (rr i) else none)))))), (rr 0, .inl (cI, 3, .inl (fun _ => 0))), (rr 1, .inl (cI, 3, .inl (fun _ => 0))), (rr 2, .inl (cI, 3, .inl (fun _ => 0))), (rr 3, .inl (cI, 3, .inl (fun _ => 0))), (rr 4, .inl (cI, 3, .inl (fun _ => 0))), (rr 5, .inl (cI, 3, .inl (fun _ => 0))), (rr 6, .inl (cI, 3, .inl (fun _ => 0))), (m0, zM 1 0 1 (.ref k0) (.ref q0) a10 a11)] H := hP
  have hD : va_D (fun q : Nat => s.heap.size ≤ q) [(k0, .inl (cI, 7, .inl (fun _ => 0))), (q0, .inl (cO, 7, .inr (.inr (.inr (.inr (fun i => if i < 7 then some (rr i) else none)))))), (rr 0, .inl (cI, 3, .inl (fun _ => 0))), (rr 1, .inl (cI, 3, .inl (fun _ => 0))), (rr 2, .inl (cI, 3, .inl (fun _ => 0))), (rr 3, .inl (cI, 3, .inl (fun _ => 0))), (rr 4, .inl (cI, 3, .inl (fun _ => 0))), (rr 5, .inl (cI, 3, .inl (fun _ => 0))), (rr 6, .inl (cI, 3, .inl (fun _ => 0))), (m0, zM 1 0 1 (.ref k0) (.ref q0) a10 a11)] := hD
  subst hw
  refine lv_iload hx hb dL_law_201 (lv_at hl 1 rfl) ?_
  refine lv_icmp_eq (tgt := 208) hx hb dL_law_203 (by decide) (fun _ => ?_) (fun c5 => absurd (by decide) c5)
  refine lv_iload hx hb dL_law_208 (lv_at hl 1 rfl) ?_
  refine lv_if_ne (tgt := 225) hx hb dL_law_210 (by decide) (fun _ => ?_) (fun c6 => absurd c6 (by decide))
  refine lv_goto (tgt := 1015) hx hb dL_law_225 (by decide) ?_
  exact law_tail C1 hS (lv_sub hl [2, 6] rfl) (Nat.le_of_ble_eq_true rfl) (Nat.le_of_ble_eq_true rfl)
set_option maxHeartbeats 4000000 in
set_option maxRecDepth 100000 in
theorem law_case_2 {p : Program} {l : Launch} {e : Env} {s : State} {m : MethodId} {below : List Frame} {meth : Method} {c : Code} (hl9 : l.stackTraces = false) {b : Nat} {xs : Nat → Int32} (C0 : lw_At p s m meth c b 4 xs) (hZ : zx_Z (fun q : Nat => s.heap.size ≤ q) s s.heap) {dC : Nat → ClassId} {dI : Nat → Nat → Nat} {h0 m0 o0 k0 q0 : Nat} {v : Nat → Value} {rr : Nat → Nat} {cI cO cJ : ClassId} {a10 a11 : Value} {f : Nat → Int64} {H : Heap} {locs : List Loc} (hK : va_K (dC, dI) vwCl [(cI, .int), (cO, .array .int), (cJ, .long)] s) (hP : va_P (dC, dI) vwCl [(h0, zX 0 1 v), (m0, zM 0 0 1 (.ref k0) (.ref q0) a10 a11), (k0, .inl (cI, 7, .inl (fun _ => 0))), (q0, .inl (cO, 7, .inr (.inr (.inr (.inr (fun i => if i < 7 then some (rr i) else none)))))), (rr 0, .inl (cI, 3, .inl (fun _ => 0))), (rr 1, .inl (cI, 3, .inl (fun _ => 0))), (rr 2, .inl (cI, 3, .inl (fun _ => 0))), (rr 3, .inl (cI, 3, .inl (fun _ => 0))), (rr 4, .inl (cI, 3, .inl (fun _ => 0))), (rr 5, .inl (cI, 3, .inl (fun _ => 0))), (rr 6, .inl (cI, 3, .inl (fun _ => 0))), (o0, .inl (cJ, 1, .inr (.inl f)))] H) (hD : va_D (fun q : Nat => s.heap.size ≤ q) [(h0, zX 0 1 v), (m0, zM 0 0 1 (.ref k0) (.ref q0) a10 a11), (k0, .inl (cI, 7, .inl (fun _ => 0))), (q0, .inl (cO, 7, .inr (.inr (.inr (.inr (fun i => if i < 7 then some (rr i) else none)))))), (rr 0, .inl (cI, 3, .inl (fun _ => 0))), (rr 1, .inl (cI, 3, .inl (fun _ => 0))), (rr 2, .inl (cI, 3, .inl (fun _ => 0))), (rr 3, .inl (cI, 3, .inl (fun _ => 0))), (rr 4, .inl (cI, 3, .inl (fun _ => 0))), (rr 5, .inl (cI, 3, .inl (fun _ => 0))), (rr 6, .inl (cI, 3, .inl (fun _ => 0))), (o0, .inl (cJ, 1, .inr (.inl f)))]) (hS : va_S (fun q : Nat => s.heap.size ≤ q) s.heap H locs) {ls : Array Slot} (hl : lv_has ls 9 [(0, .ref b), (1, .ref h0), (2, .ref m0), (3, .ref o0), (4, .int 0)]) : W p l e room_1 s m #[Value.ref b] below meth c H locs 57 372 (lw_Z below #[Value.ref b] s) (F0 m 228 ls []) := by
  have C1 := C0
  obtain ⟨hx, hb, hr, hml, hown0, hts0, hX, hbl, hlocks, hgv⟩ := C0
  have hown : s.vm.findClass RL = some m.cls := hown0
  have hts : ∀ w ∈ wsL_law, w.before #[Value.ref b] s = true := fun w h => hts0 w (wsL_law_in w h)
  have hA : ∀ q : Nat, s.heap.size ≤ q → (fun q : Nat => s.heap.size ≤ q) q := fun _ h => h
  have hbA : ¬ (fun q : Nat => s.heap.size ≤ q) b := Nat.not_le.mpr hbl
  refine lv_aload_n hx hb dL_law_228 rfl (lv_at hl 1 rfl) ?_
  refine lv_aload_n hx hb dL_law_229 rfl (lv_at hl 0 rfl) ?_
  refine lv_iload hx hb dL_law_230 (lv_at hl 4 rfl) ?_
  refine lv_iconst (v := 1) hx hb dL_law_232 (by decide) ?_
  refine lv_iadd hx hb dL_law_233 ?_
  refine lv_topi (fun z1 ez1 => ?_)
  obtain rfl : z1 = 1 := ez1.trans (by decide)
  refine va_sld hx hb hX hbl hbA hS (zx_in rfl) dL_law_234 ?_
  refine lv_aload_n hx hb dL_law_235 rfl (lv_at hl 3 rfl) ?_
  have hPc := hP.sub (ws' := [(h0, zX 0 1 v), (o0, .inl (cJ, 1, .inr (.inl f)))]) [0, 11] rfl
  have hDc := hD.sub (ws' := [(h0, zX 0 1 v), (o0, .inl (cJ, 1, .inr (.inl f)))]) [0, 11] (by decide) rfl
  have hKc := hK.sub (tys' := [(cJ, .long)]) [2] rfl
  have hFc := va_free (wc := [(h0, zX 0 1 v), (o0, .inl (cJ, 1, .inr (.inl f)))]) hD hS hA [0, 11] rfl
  refine va_calli (vx_runSW (As := [.ref h0, .int (xs (Int32.toNatClampNeg 1)), .ref o0]) (rest := []) ⟨hx, hb, hml, hown, hts⟩ (c_L_setRounds l hl9 dC dI h0 o0 cJ f v (xs (Int32.toNatClampNeg 1)) H.size) (vx_cwSW 3 hts gL_law_L_setRounds rfl rfl rfl (by decide +kernel) ⟨Nat.le_of_ble_eq_true rfl, Nat.le_of_ble_eq_true rfl⟩) ⟨zx_blind, fun U hU hW => ⟨rfl, zx_go hPc hKc hDc hZ hS hFc hU hW⟩⟩ rfl rfl hl.1 rfl (lv_room (Nat.le_of_ble_eq_true rfl)) dL_law_236 ⟨Nat.le_of_ble_eq_true rfl, Nat.le_of_ble_eq_true rfl⟩) hS (fun q _ h => hFc q h) hFc (fun r u t H1 locs ht hvm hw hB hz1 hk1 hS => ?_)
  obtain ⟨hP1, hK1, hD1⟩ := hB
  rw [ht] at hP1
  have hK1 := va_K.moved hvm.symm hK1
  try dsimp only at hw hP1 hD1 hK1
  obtain ⟨hP, hD⟩ := va_join (wr := [(m0, zM 0 0 1 (.ref k0) (.ref q0) a10 a11), (k0, .inl (cI, 7, .inl (fun _ => 0))), (q0, .inl (cO, 7, .inr (.inr (.inr (.inr (fun i => if i < 7 then some (rr i) else none)))))), (rr 0, .inl (cI, 3, .inl (fun _ => 0))), (rr 1, .inl (cI, 3, .inl (fun _ => 0))), (rr 2, .inl (cI, 3, .inl (fun _ => 0))), (rr 3, .inl (cI, 3, .inl (fun _ => 0))), (rr 4, .inl (cI, 3, .inl (fun _ => 0))), (rr 5, .inl (cI, 3, .inl (fun _ => 0))), (rr 6, .inl (cI, 3, .inl (fun _ => 0)))]) (w1 := [(o0, .inl (cJ, 1, .inr (.inl u)))]) hP hD [0, 11] [1, 2, 3, 4, 5, 6, 7, 8, 9, 10] rfl rfl (by decide) (by decide) hk1 hFc hP1 hD1
  generalize H1 = H at hP hS ⊢
  have hP : va_P (dC, dI) vwCl [(m0, zM 0 0 1 (.ref k0) (.ref q0) a10 a11), (k0, .inl (cI, 7, .inl (fun _ => 0))), (q0, .inl (cO, 7, .inr (.inr (.inr (.inr (fun i => if i < 7 then some (rr i) else none)))))), (rr 0, .inl (cI, 3, .inl (fun _ => 0))), (rr 1, .inl (cI, 3, .inl (fun _ => 0))), (rr 2, .inl (cI, 3, .inl (fun _ => 0))), (rr 3, .inl (cI, 3, .inl (fun _ => 0))), (rr 4, .inl (cI, 3, .inl (fun _ => 0))), (rr 5, .inl (cI, 3, .inl (fun _ => 0))), (rr 6, .inl (cI, 3, .inl (fun _ => 0))), (o0, .inl (cJ, 1, .inr (.inl u)))] H := hP
  have hD : va_D (fun q : Nat => s.heap.size ≤ q) [(m0, zM 0 0 1 (.ref k0) (.ref q0) a10 a11), (k0, .inl (cI, 7, .inl (fun _ => 0))), (q0, .inl (cO, 7, .inr (.inr (.inr (.inr (fun i => if i < 7 then some (rr i) else none)))))), (rr 0, .inl (cI, 3, .inl (fun _ => 0))), (rr 1, .inl (cI, 3, .inl (fun _ => 0))), (rr 2, .inl (cI, 3, .inl (fun _ => 0))), (rr 3, .inl (cI, 3, .inl (fun _ => 0))), (rr 4, .inl (cI, 3, .inl (fun _ => 0))), (rr 5, .inl (cI, 3, .inl (fun _ => 0))), (rr 6, .inl (cI, 3, .inl (fun _ => 0))), (o0, .inl (cJ, 1, .inr (.inl u)))] := hD
  refine W.widen (k := 58) (n := 378) (by omega) (by omega) ?_
  rcases hw with ⟨rfl, g1⟩ | ⟨rfl, hu, g1, g2⟩
  · skip
    refine lv_istore (lv' := [(5, .int 1), (0, .ref b), (1, .ref h0), (2, .ref m0), (3, .ref o0), (4, .int 0)]) hx hb dL_law_239 hl (by decide) rfl (fun ls hl => ?_)
    refine lv_aload_n hx hb dL_law_241 rfl (lv_at hl 3 rfl) ?_
    refine lv_aload_n hx hb dL_law_242 rfl (lv_at hl 1 rfl) ?_
    refine lv_iload hx hb dL_law_243 (lv_at hl 5 rfl) ?_
    refine lv_iconst (v := 1) hx hb dL_law_245 (by decide) ?_
    refine lv_iadd hx hb dL_law_246 ?_
    refine lv_topi (fun z2 ez2 => ?_)
    obtain rfl : z2 = 1 := ez2.trans (by decide)
    refine va_sld hx hb hX hbl hbA hS (zx_in rfl) dL_law_247 ?_
    have hPc := hP.sub (ws' := [(m0, zM 0 0 1 (.ref k0) (.ref q0) a10 a11)]) [0] rfl
    have hDc := hD.sub (ws' := [(m0, zM 0 0 1 (.ref k0) (.ref q0) a10 a11)]) [0] (by decide) rfl
    have hKc := hK.sub (tys' := []) [] rfl
    have hFc := va_free (wc := [(m0, zM 0 0 1 (.ref k0) (.ref q0) a10 a11)]) hD hS hA [0] rfl
    refine va_calli (va_runV (As := [.int (xs (Int32.toNatClampNeg 1))]) (rest := []) ⟨hx, hb, hml, hown, hts⟩ (c_X1_setRounds l dC dI m0 (xs (Int32.toNatClampNeg 1)) (.ref k0) (.ref q0) a10 a11 H.size) (cwV 1 hts gL_law_X1_setRounds rfl rfl rfl (by decide +kernel) ⟨Nat.le_of_ble_eq_true rfl, Nat.le_of_ble_eq_true rfl⟩) ⟨zx_blind, va_recv hKc hPc (ci := 1) (q0 := 0) rfl rfl, fun U hU hW => ⟨rfl, zx_go hPc hKc hDc hZ hS hFc hU hW⟩⟩ rfl rfl hl.1 rfl (lv_room (Nat.le_of_ble_eq_true rfl)) dL_law_248 ⟨Nat.le_of_ble_eq_true rfl, Nat.le_of_ble_eq_true rfl⟩) hS (fun q _ h => hFc q h) hFc (fun r u9 t H1 locs ht hvm hw hB hz1 hk1 hS => ?_)
    obtain ⟨hP1, hK1, hD1⟩ := hB
    rw [ht] at hP1
    have hK1 := va_K.moved hvm.symm hK1
    try dsimp only at hw hP1 hD1 hK1
    obtain ⟨hP, hD⟩ := va_join (wr := [(k0, .inl (cI, 7, .inl (fun _ => 0))), (q0, .inl (cO, 7, .inr (.inr (.inr (.inr (fun i => if i < 7 then some (rr i) else none)))))), (rr 0, .inl (cI, 3, .inl (fun _ => 0))), (rr 1, .inl (cI, 3, .inl (fun _ => 0))), (rr 2, .inl (cI, 3, .inl (fun _ => 0))), (rr 3, .inl (cI, 3, .inl (fun _ => 0))), (rr 4, .inl (cI, 3, .inl (fun _ => 0))), (rr 5, .inl (cI, 3, .inl (fun _ => 0))), (rr 6, .inl (cI, 3, .inl (fun _ => 0))), (o0, .inl (cJ, 1, .inr (.inl u)))]) (w1 := [(m0, zM u9.1 0 u9.2 (.ref k0) (.ref q0) a10 a11)]) hP hD [0] [1, 2, 3, 4, 5, 6, 7, 8, 9, 10] rfl rfl (by decide) (by decide) hk1 hFc hP1 hD1
    generalize H1 = H at hP hS ⊢
    have hP : va_P (dC, dI) vwCl [(k0, .inl (cI, 7, .inl (fun _ => 0))), (q0, .inl (cO, 7, .inr (.inr (.inr (.inr (fun i => if i < 7 then some (rr i) else none)))))), (rr 0, .inl (cI, 3, .inl (fun _ => 0))), (rr 1, .inl (cI, 3, .inl (fun _ => 0))), (rr 2, .inl (cI, 3, .inl (fun _ => 0))), (rr 3, .inl (cI, 3, .inl (fun _ => 0))), (rr 4, .inl (cI, 3, .inl (fun _ => 0))), (rr 5, .inl (cI, 3, .inl (fun _ => 0))), (rr 6, .inl (cI, 3, .inl (fun _ => 0))), (o0, .inl (cJ, 1, .inr (.inl u))), (m0, zM u9.1 0 u9.2 (.ref k0) (.ref q0) a10 a11)] H := hP
    have hD : va_D (fun q : Nat => s.heap.size ≤ q) [(k0, .inl (cI, 7, .inl (fun _ => 0))), (q0, .inl (cO, 7, .inr (.inr (.inr (.inr (fun i => if i < 7 then some (rr i) else none)))))), (rr 0, .inl (cI, 3, .inl (fun _ => 0))), (rr 1, .inl (cI, 3, .inl (fun _ => 0))), (rr 2, .inl (cI, 3, .inl (fun _ => 0))), (rr 3, .inl (cI, 3, .inl (fun _ => 0))), (rr 4, .inl (cI, 3, .inl (fun _ => 0))), (rr 5, .inl (cI, 3, .inl (fun _ => 0))), (rr 6, .inl (cI, 3, .inl (fun _ => 0))), (o0, .inl (cJ, 1, .inr (.inl u))), (m0, zM u9.1 0 u9.2 (.ref k0) (.ref q0) a10 a11)] := hD
    obtain ⟨t9, n9⟩ := u9
    dsimp only at hw hP hD
    have hP : va_P (dC, dI) vwCl [(k0, .inl (cI, 7, .inl (fun _ => 0))), (q0, .inl (cO, 7, .inr (.inr (.inr (.inr (fun i => if i < 7 then some (rr i) else none)))))), (rr 0, .inl (cI, 3, .inl (fun _ => 0))), (rr 1, .inl (cI, 3, .inl (fun _ => 0))), (rr 2, .inl (cI, 3, .inl (fun _ => 0))), (rr 3, .inl (cI, 3, .inl (fun _ => 0))), (rr 4, .inl (cI, 3, .inl (fun _ => 0))), (rr 5, .inl (cI, 3, .inl (fun _ => 0))), (rr 6, .inl (cI, 3, .inl (fun _ => 0))), (o0, .inl (cJ, 1, .inr (.inl u))), (m0, zM t9 0 n9 (.ref k0) (.ref q0) a10 a11)] H := hP
    have hD : va_D (fun q : Nat => s.heap.size ≤ q) [(k0, .inl (cI, 7, .inl (fun _ => 0))), (q0, .inl (cO, 7, .inr (.inr (.inr (.inr (fun i => if i < 7 then some (rr i) else none)))))), (rr 0, .inl (cI, 3, .inl (fun _ => 0))), (rr 1, .inl (cI, 3, .inl (fun _ => 0))), (rr 2, .inl (cI, 3, .inl (fun _ => 0))), (rr 3, .inl (cI, 3, .inl (fun _ => 0))), (rr 4, .inl (cI, 3, .inl (fun _ => 0))), (rr 5, .inl (cI, 3, .inl (fun _ => 0))), (rr 6, .inl (cI, 3, .inl (fun _ => 0))), (o0, .inl (cJ, 1, .inr (.inl u))), (m0, zM t9 0 n9 (.ref k0) (.ref q0) a10 a11)] := hD
    obtain ⟨rfl, rfl, rfl, j1⟩ := hw.resolve_right (fun h => g1.elim h.2.2.1 h.2.2.2)
    have hP : va_P (dC, dI) vwCl [(k0, .inl (cI, 7, .inl (fun _ => 0))), (q0, .inl (cO, 7, .inr (.inr (.inr (.inr (fun i => if i < 7 then some (rr i) else none)))))), (rr 0, .inl (cI, 3, .inl (fun _ => 0))), (rr 1, .inl (cI, 3, .inl (fun _ => 0))), (rr 2, .inl (cI, 3, .inl (fun _ => 0))), (rr 3, .inl (cI, 3, .inl (fun _ => 0))), (rr 4, .inl (cI, 3, .inl (fun _ => 0))), (rr 5, .inl (cI, 3, .inl (fun _ => 0))), (rr 6, .inl (cI, 3, .inl (fun _ => 0))), (o0, .inl (cJ, 1, .inr (.inl u))), (m0, zM 1 0 1 (.ref k0) (.ref q0) a10 a11)] H := hP
    have hD : va_D (fun q : Nat => s.heap.size ≤ q) [(k0, .inl (cI, 7, .inl (fun _ => 0))), (q0, .inl (cO, 7, .inr (.inr (.inr (.inr (fun i => if i < 7 then some (rr i) else none)))))), (rr 0, .inl (cI, 3, .inl (fun _ => 0))), (rr 1, .inl (cI, 3, .inl (fun _ => 0))), (rr 2, .inl (cI, 3, .inl (fun _ => 0))), (rr 3, .inl (cI, 3, .inl (fun _ => 0))), (rr 4, .inl (cI, 3, .inl (fun _ => 0))), (rr 5, .inl (cI, 3, .inl (fun _ => 0))), (rr 6, .inl (cI, 3, .inl (fun _ => 0))), (o0, .inl (cJ, 1, .inr (.inl u))), (m0, zM 1 0 1 (.ref k0) (.ref q0) a10 a11)] := hD
    refine lv_istore (lv' := [(6, .int 0), (5, .int 1), (0, .ref b), (1, .ref h0), (2, .ref m0), (3, .ref o0), (4, .int 0)]) hx hb dL_law_251 hl (by decide) rfl (fun ls hl => ?_)
    refine lv_aload_n hx hb dL_law_253 rfl (lv_at hl 4 rfl) ?_
    have hPc := hP.sub (ws' := [(m0, zM 1 0 1 (.ref k0) (.ref q0) a10 a11)]) [10] rfl
    have hDc := hD.sub (ws' := [(m0, zM 1 0 1 (.ref k0) (.ref q0) a10 a11)]) [10] (by decide) rfl
    have hKc := hK.sub (tys' := []) [] rfl
    have hFc := va_free (wc := [(m0, zM 1 0 1 (.ref k0) (.ref q0) a10 a11)]) hD hS hA [10] rfl
    refine va_calli (va_runV (As := []) (rest := []) ⟨hx, hb, hml, hown, hts⟩ (c_X1_thrown l dC dI m0 1 0 1 (.ref k0) (.ref q0) a10 a11 H.size) (cwV 0 hts gL_law_X1_thrown rfl rfl rfl (by decide +kernel) ⟨Nat.le_of_ble_eq_true rfl, Nat.le_of_ble_eq_true rfl⟩) ⟨zx_blind, va_recv hKc hPc (ci := 1) (q0 := 0) rfl rfl, fun U hU hW => ⟨rfl, zx_go hPc hKc hDc hZ hS hFc hU hW⟩⟩ rfl rfl hl.1 rfl (lv_room (Nat.le_of_ble_eq_true rfl)) dL_law_254 ⟨Nat.le_of_ble_eq_true rfl, Nat.le_of_ble_eq_true rfl⟩) hS (fun q _ h => hFc q h) hFc (fun r u8 t H1 locs ht hvm hw hB hz1 hk1 hS => ?_)
    obtain ⟨hP1, hK1, hD1⟩ := hB
    rw [ht] at hP1
    have hK1 := va_K.moved hvm.symm hK1
    try dsimp only at hw hP1 hD1 hK1
    obtain ⟨hP, hD⟩ := va_join (wr := [(k0, .inl (cI, 7, .inl (fun _ => 0))), (q0, .inl (cO, 7, .inr (.inr (.inr (.inr (fun i => if i < 7 then some (rr i) else none)))))), (rr 0, .inl (cI, 3, .inl (fun _ => 0))), (rr 1, .inl (cI, 3, .inl (fun _ => 0))), (rr 2, .inl (cI, 3, .inl (fun _ => 0))), (rr 3, .inl (cI, 3, .inl (fun _ => 0))), (rr 4, .inl (cI, 3, .inl (fun _ => 0))), (rr 5, .inl (cI, 3, .inl (fun _ => 0))), (rr 6, .inl (cI, 3, .inl (fun _ => 0))), (o0, .inl (cJ, 1, .inr (.inl u)))]) (w1 := [(m0, zM 1 0 1 (.ref k0) (.ref q0) a10 a11)]) hP hD [10] [0, 1, 2, 3, 4, 5, 6, 7, 8, 9] rfl rfl (by decide) (by decide) hk1 hFc hP1 hD1
    generalize H1 = H at hP hS ⊢
    have hP : va_P (dC, dI) vwCl [(k0, .inl (cI, 7, .inl (fun _ => 0))), (q0, .inl (cO, 7, .inr (.inr (.inr (.inr (fun i => if i < 7 then some (rr i) else none)))))), (rr 0, .inl (cI, 3, .inl (fun _ => 0))), (rr 1, .inl (cI, 3, .inl (fun _ => 0))), (rr 2, .inl (cI, 3, .inl (fun _ => 0))), (rr 3, .inl (cI, 3, .inl (fun _ => 0))), (rr 4, .inl (cI, 3, .inl (fun _ => 0))), (rr 5, .inl (cI, 3, .inl (fun _ => 0))), (rr 6, .inl (cI, 3, .inl (fun _ => 0))), (o0, .inl (cJ, 1, .inr (.inl u))), (m0, zM 1 0 1 (.ref k0) (.ref q0) a10 a11)] H := hP
    have hD : va_D (fun q : Nat => s.heap.size ≤ q) [(k0, .inl (cI, 7, .inl (fun _ => 0))), (q0, .inl (cO, 7, .inr (.inr (.inr (.inr (fun i => if i < 7 then some (rr i) else none)))))), (rr 0, .inl (cI, 3, .inl (fun _ => 0))), (rr 1, .inl (cI, 3, .inl (fun _ => 0))), (rr 2, .inl (cI, 3, .inl (fun _ => 0))), (rr 3, .inl (cI, 3, .inl (fun _ => 0))), (rr 4, .inl (cI, 3, .inl (fun _ => 0))), (rr 5, .inl (cI, 3, .inl (fun _ => 0))), (rr 6, .inl (cI, 3, .inl (fun _ => 0))), (o0, .inl (cJ, 1, .inr (.inl u))), (m0, zM 1 0 1 (.ref k0) (.ref q0) a10 a11)] := hD
    subst hw
    refine lv_iload hx hb dL_law_257 (lv_at hl 1 rfl) ?_
    refine lv_icmp_eq (tgt := 264) hx hb dL_law_259 (by decide) (fun _ => ?_) (fun c3 => absurd (by decide) c3)
    refine lv_iload hx hb dL_law_264 (lv_at hl 1 rfl) ?_
    refine lv_if_ne (tgt := 281) hx hb dL_law_266 (by decide) (fun _ => ?_) (fun c4 => absurd c4 (by decide))
    refine lv_goto (tgt := 1015) hx hb dL_law_281 (by decide) ?_
    exact law_tail C1 hS (lv_sub hl [2, 6] rfl) (Nat.le_of_ble_eq_true rfl) (Nat.le_of_ble_eq_true rfl)
  · skip
    refine lv_istore (lv' := [(5, .int 0), (0, .ref b), (1, .ref h0), (2, .ref m0), (3, .ref o0), (4, .int 0)]) hx hb dL_law_239 hl (by decide) rfl (fun ls hl => ?_)
    refine lv_aload_n hx hb dL_law_241 rfl (lv_at hl 3 rfl) ?_
    refine lv_aload_n hx hb dL_law_242 rfl (lv_at hl 1 rfl) ?_
    refine lv_iload hx hb dL_law_243 (lv_at hl 5 rfl) ?_
    refine lv_iconst (v := 1) hx hb dL_law_245 (by decide) ?_
    refine lv_iadd hx hb dL_law_246 ?_
    refine lv_topi (fun z5 ez5 => ?_)
    obtain rfl : z5 = 1 := ez5.trans (by decide)
    refine va_sld hx hb hX hbl hbA hS (zx_in rfl) dL_law_247 ?_
    have hPc := hP.sub (ws' := [(m0, zM 0 0 1 (.ref k0) (.ref q0) a10 a11)]) [0] rfl
    have hDc := hD.sub (ws' := [(m0, zM 0 0 1 (.ref k0) (.ref q0) a10 a11)]) [0] (by decide) rfl
    have hKc := hK.sub (tys' := []) [] rfl
    have hFc := va_free (wc := [(m0, zM 0 0 1 (.ref k0) (.ref q0) a10 a11)]) hD hS hA [0] rfl
    refine va_calli (va_runV (As := [.int (xs (Int32.toNatClampNeg 1))]) (rest := []) ⟨hx, hb, hml, hown, hts⟩ (c_X1_setRounds l dC dI m0 (xs (Int32.toNatClampNeg 1)) (.ref k0) (.ref q0) a10 a11 H.size) (cwV 1 hts gL_law_X1_setRounds rfl rfl rfl (by decide +kernel) ⟨Nat.le_of_ble_eq_true rfl, Nat.le_of_ble_eq_true rfl⟩) ⟨zx_blind, va_recv hKc hPc (ci := 1) (q0 := 0) rfl rfl, fun U hU hW => ⟨rfl, zx_go hPc hKc hDc hZ hS hFc hU hW⟩⟩ rfl rfl hl.1 rfl (lv_room (Nat.le_of_ble_eq_true rfl)) dL_law_248 ⟨Nat.le_of_ble_eq_true rfl, Nat.le_of_ble_eq_true rfl⟩) hS (fun q _ h => hFc q h) hFc (fun r u9 t H1 locs ht hvm hw hB hz1 hk1 hS => ?_)
    obtain ⟨hP1, hK1, hD1⟩ := hB
    rw [ht] at hP1
    have hK1 := va_K.moved hvm.symm hK1
    try dsimp only at hw hP1 hD1 hK1
    obtain ⟨hP, hD⟩ := va_join (wr := [(k0, .inl (cI, 7, .inl (fun _ => 0))), (q0, .inl (cO, 7, .inr (.inr (.inr (.inr (fun i => if i < 7 then some (rr i) else none)))))), (rr 0, .inl (cI, 3, .inl (fun _ => 0))), (rr 1, .inl (cI, 3, .inl (fun _ => 0))), (rr 2, .inl (cI, 3, .inl (fun _ => 0))), (rr 3, .inl (cI, 3, .inl (fun _ => 0))), (rr 4, .inl (cI, 3, .inl (fun _ => 0))), (rr 5, .inl (cI, 3, .inl (fun _ => 0))), (rr 6, .inl (cI, 3, .inl (fun _ => 0))), (o0, .inl (cJ, 1, .inr (.inl u)))]) (w1 := [(m0, zM u9.1 0 u9.2 (.ref k0) (.ref q0) a10 a11)]) hP hD [0] [1, 2, 3, 4, 5, 6, 7, 8, 9, 10] rfl rfl (by decide) (by decide) hk1 hFc hP1 hD1
    generalize H1 = H at hP hS ⊢
    have hP : va_P (dC, dI) vwCl [(k0, .inl (cI, 7, .inl (fun _ => 0))), (q0, .inl (cO, 7, .inr (.inr (.inr (.inr (fun i => if i < 7 then some (rr i) else none)))))), (rr 0, .inl (cI, 3, .inl (fun _ => 0))), (rr 1, .inl (cI, 3, .inl (fun _ => 0))), (rr 2, .inl (cI, 3, .inl (fun _ => 0))), (rr 3, .inl (cI, 3, .inl (fun _ => 0))), (rr 4, .inl (cI, 3, .inl (fun _ => 0))), (rr 5, .inl (cI, 3, .inl (fun _ => 0))), (rr 6, .inl (cI, 3, .inl (fun _ => 0))), (o0, .inl (cJ, 1, .inr (.inl u))), (m0, zM u9.1 0 u9.2 (.ref k0) (.ref q0) a10 a11)] H := hP
    have hD : va_D (fun q : Nat => s.heap.size ≤ q) [(k0, .inl (cI, 7, .inl (fun _ => 0))), (q0, .inl (cO, 7, .inr (.inr (.inr (.inr (fun i => if i < 7 then some (rr i) else none)))))), (rr 0, .inl (cI, 3, .inl (fun _ => 0))), (rr 1, .inl (cI, 3, .inl (fun _ => 0))), (rr 2, .inl (cI, 3, .inl (fun _ => 0))), (rr 3, .inl (cI, 3, .inl (fun _ => 0))), (rr 4, .inl (cI, 3, .inl (fun _ => 0))), (rr 5, .inl (cI, 3, .inl (fun _ => 0))), (rr 6, .inl (cI, 3, .inl (fun _ => 0))), (o0, .inl (cJ, 1, .inr (.inl u))), (m0, zM u9.1 0 u9.2 (.ref k0) (.ref q0) a10 a11)] := hD
    obtain ⟨t9, n9⟩ := u9
    dsimp only at hw hP hD
    have hP : va_P (dC, dI) vwCl [(k0, .inl (cI, 7, .inl (fun _ => 0))), (q0, .inl (cO, 7, .inr (.inr (.inr (.inr (fun i => if i < 7 then some (rr i) else none)))))), (rr 0, .inl (cI, 3, .inl (fun _ => 0))), (rr 1, .inl (cI, 3, .inl (fun _ => 0))), (rr 2, .inl (cI, 3, .inl (fun _ => 0))), (rr 3, .inl (cI, 3, .inl (fun _ => 0))), (rr 4, .inl (cI, 3, .inl (fun _ => 0))), (rr 5, .inl (cI, 3, .inl (fun _ => 0))), (rr 6, .inl (cI, 3, .inl (fun _ => 0))), (o0, .inl (cJ, 1, .inr (.inl u))), (m0, zM t9 0 n9 (.ref k0) (.ref q0) a10 a11)] H := hP
    have hD : va_D (fun q : Nat => s.heap.size ≤ q) [(k0, .inl (cI, 7, .inl (fun _ => 0))), (q0, .inl (cO, 7, .inr (.inr (.inr (.inr (fun i => if i < 7 then some (rr i) else none)))))), (rr 0, .inl (cI, 3, .inl (fun _ => 0))), (rr 1, .inl (cI, 3, .inl (fun _ => 0))), (rr 2, .inl (cI, 3, .inl (fun _ => 0))), (rr 3, .inl (cI, 3, .inl (fun _ => 0))), (rr 4, .inl (cI, 3, .inl (fun _ => 0))), (rr 5, .inl (cI, 3, .inl (fun _ => 0))), (rr 6, .inl (cI, 3, .inl (fun _ => 0))), (o0, .inl (cJ, 1, .inr (.inl u))), (m0, zM t9 0 n9 (.ref k0) (.ref q0) a10 a11)] := hD
    obtain ⟨rfl, rfl, j1, j2⟩ := hw.resolve_left (fun h => h.2.2.2.elim g1 g2)
    have hP : va_P (dC, dI) vwCl [(k0, .inl (cI, 7, .inl (fun _ => 0))), (q0, .inl (cO, 7, .inr (.inr (.inr (.inr (fun i => if i < 7 then some (rr i) else none)))))), (rr 0, .inl (cI, 3, .inl (fun _ => 0))), (rr 1, .inl (cI, 3, .inl (fun _ => 0))), (rr 2, .inl (cI, 3, .inl (fun _ => 0))), (rr 3, .inl (cI, 3, .inl (fun _ => 0))), (rr 4, .inl (cI, 3, .inl (fun _ => 0))), (rr 5, .inl (cI, 3, .inl (fun _ => 0))), (rr 6, .inl (cI, 3, .inl (fun _ => 0))), (o0, .inl (cJ, 1, .inr (.inl u))), (m0, zM 0 0 n9 (.ref k0) (.ref q0) a10 a11)] H := hP
    have hD : va_D (fun q : Nat => s.heap.size ≤ q) [(k0, .inl (cI, 7, .inl (fun _ => 0))), (q0, .inl (cO, 7, .inr (.inr (.inr (.inr (fun i => if i < 7 then some (rr i) else none)))))), (rr 0, .inl (cI, 3, .inl (fun _ => 0))), (rr 1, .inl (cI, 3, .inl (fun _ => 0))), (rr 2, .inl (cI, 3, .inl (fun _ => 0))), (rr 3, .inl (cI, 3, .inl (fun _ => 0))), (rr 4, .inl (cI, 3, .inl (fun _ => 0))), (rr 5, .inl (cI, 3, .inl (fun _ => 0))), (rr 6, .inl (cI, 3, .inl (fun _ => 0))), (o0, .inl (cJ, 1, .inr (.inl u))), (m0, zM 0 0 n9 (.ref k0) (.ref q0) a10 a11)] := hD
    refine lv_istore (lv' := [(6, .int 1), (5, .int 0), (0, .ref b), (1, .ref h0), (2, .ref m0), (3, .ref o0), (4, .int 0)]) hx hb dL_law_251 hl (by decide) rfl (fun ls hl => ?_)
    refine lv_aload_n hx hb dL_law_253 rfl (lv_at hl 4 rfl) ?_
    have hPc := hP.sub (ws' := [(m0, zM 0 0 n9 (.ref k0) (.ref q0) a10 a11)]) [10] rfl
    have hDc := hD.sub (ws' := [(m0, zM 0 0 n9 (.ref k0) (.ref q0) a10 a11)]) [10] (by decide) rfl
    have hKc := hK.sub (tys' := []) [] rfl
    have hFc := va_free (wc := [(m0, zM 0 0 n9 (.ref k0) (.ref q0) a10 a11)]) hD hS hA [10] rfl
    refine va_calli (va_runV (As := []) (rest := []) ⟨hx, hb, hml, hown, hts⟩ (c_X1_thrown l dC dI m0 0 0 n9 (.ref k0) (.ref q0) a10 a11 H.size) (cwV 0 hts gL_law_X1_thrown rfl rfl rfl (by decide +kernel) ⟨Nat.le_of_ble_eq_true rfl, Nat.le_of_ble_eq_true rfl⟩) ⟨zx_blind, va_recv hKc hPc (ci := 1) (q0 := 0) rfl rfl, fun U hU hW => ⟨rfl, zx_go hPc hKc hDc hZ hS hFc hU hW⟩⟩ rfl rfl hl.1 rfl (lv_room (Nat.le_of_ble_eq_true rfl)) dL_law_254 ⟨Nat.le_of_ble_eq_true rfl, Nat.le_of_ble_eq_true rfl⟩) hS (fun q _ h => hFc q h) hFc (fun r u8 t H1 locs ht hvm hw hB hz1 hk1 hS => ?_)
    obtain ⟨hP1, hK1, hD1⟩ := hB
    rw [ht] at hP1
    have hK1 := va_K.moved hvm.symm hK1
    try dsimp only at hw hP1 hD1 hK1
    obtain ⟨hP, hD⟩ := va_join (wr := [(k0, .inl (cI, 7, .inl (fun _ => 0))), (q0, .inl (cO, 7, .inr (.inr (.inr (.inr (fun i => if i < 7 then some (rr i) else none)))))), (rr 0, .inl (cI, 3, .inl (fun _ => 0))), (rr 1, .inl (cI, 3, .inl (fun _ => 0))), (rr 2, .inl (cI, 3, .inl (fun _ => 0))), (rr 3, .inl (cI, 3, .inl (fun _ => 0))), (rr 4, .inl (cI, 3, .inl (fun _ => 0))), (rr 5, .inl (cI, 3, .inl (fun _ => 0))), (rr 6, .inl (cI, 3, .inl (fun _ => 0))), (o0, .inl (cJ, 1, .inr (.inl u)))]) (w1 := [(m0, zM 0 0 n9 (.ref k0) (.ref q0) a10 a11)]) hP hD [10] [0, 1, 2, 3, 4, 5, 6, 7, 8, 9] rfl rfl (by decide) (by decide) hk1 hFc hP1 hD1
    generalize H1 = H at hP hS ⊢
    have hP : va_P (dC, dI) vwCl [(k0, .inl (cI, 7, .inl (fun _ => 0))), (q0, .inl (cO, 7, .inr (.inr (.inr (.inr (fun i => if i < 7 then some (rr i) else none)))))), (rr 0, .inl (cI, 3, .inl (fun _ => 0))), (rr 1, .inl (cI, 3, .inl (fun _ => 0))), (rr 2, .inl (cI, 3, .inl (fun _ => 0))), (rr 3, .inl (cI, 3, .inl (fun _ => 0))), (rr 4, .inl (cI, 3, .inl (fun _ => 0))), (rr 5, .inl (cI, 3, .inl (fun _ => 0))), (rr 6, .inl (cI, 3, .inl (fun _ => 0))), (o0, .inl (cJ, 1, .inr (.inl u))), (m0, zM 0 0 n9 (.ref k0) (.ref q0) a10 a11)] H := hP
    have hD : va_D (fun q : Nat => s.heap.size ≤ q) [(k0, .inl (cI, 7, .inl (fun _ => 0))), (q0, .inl (cO, 7, .inr (.inr (.inr (.inr (fun i => if i < 7 then some (rr i) else none)))))), (rr 0, .inl (cI, 3, .inl (fun _ => 0))), (rr 1, .inl (cI, 3, .inl (fun _ => 0))), (rr 2, .inl (cI, 3, .inl (fun _ => 0))), (rr 3, .inl (cI, 3, .inl (fun _ => 0))), (rr 4, .inl (cI, 3, .inl (fun _ => 0))), (rr 5, .inl (cI, 3, .inl (fun _ => 0))), (rr 6, .inl (cI, 3, .inl (fun _ => 0))), (o0, .inl (cJ, 1, .inr (.inl u))), (m0, zM 0 0 n9 (.ref k0) (.ref q0) a10 a11)] := hD
    subst hw
    refine lv_iload hx hb dL_law_257 (lv_at hl 1 rfl) ?_
    refine lv_icmp_eq (tgt := 264) hx hb dL_law_259 (by decide) (fun _ => ?_) (fun c6 => absurd (by decide) c6)
    refine lv_iload hx hb dL_law_264 (lv_at hl 1 rfl) ?_
    refine lv_if_ne (tgt := 281) hx hb dL_law_266 (by decide) (fun c7 => absurd c7 (by decide)) (fun _ => ?_)
    refine lv_aload_n hx hb dL_law_269 rfl (lv_at hl 5 rfl) ?_
    refine lv_iconst (v := 0) hx hb dL_law_270 (by decide) ?_
    refine va_lald hx hb hK hP 9 2 rfl rfl (zx_in rfl) dL_law_271 ?_
    refine lv_topl (fun zl ezl => ?_)
    obtain rfl : zl = 1 := ezl.trans hu
    refine lv_iload hx hb dL_law_272 (lv_at hl 0 rfl) ?_
    refine lv_i2l (v := 1) hx hb dL_law_274 (by decide) ?_
    refine W.lcmp hx hb dL_law_275 ?_
    refine lv_topi (fun z8 ez8 => ?_)
    obtain rfl : z8 = 0 := ez8.trans (zx_cmp _)
    refine lv_if_eq (tgt := 281) hx hb dL_law_276 (by decide) (fun _ => ?_) (fun c9 => absurd (by decide) c9)
    refine lv_goto (tgt := 1015) hx hb dL_law_281 (by decide) ?_
    exact law_tail C1 hS (lv_sub hl [2, 6] rfl) (Nat.le_of_ble_eq_true rfl) (Nat.le_of_ble_eq_true rfl)
set_option maxHeartbeats 4000000 in
set_option maxRecDepth 100000 in
theorem law_case_3 {p : Program} {l : Launch} {e : Env} {s : State} {m : MethodId} {below : List Frame} {meth : Method} {c : Code} (hl9 : l.stackTraces = false) {b : Nat} {xs : Nat → Int32} (C0 : lw_At p s m meth c b 4 xs) (hZ : zx_Z (fun q : Nat => s.heap.size ≤ q) s s.heap) {dC : Nat → ClassId} {dI : Nat → Nat → Nat} {h0 m0 o0 k0 q0 : Nat} {v : Nat → Value} {rr : Nat → Nat} {cI cO cJ : ClassId} {a10 a11 : Value} {f : Nat → Int64} {H : Heap} {locs : List Loc} (hK : va_K (dC, dI) vwCl [(cI, .int), (cO, .array .int), (cJ, .long)] s) (hP : va_P (dC, dI) vwCl [(h0, zX 0 1 v), (m0, zM 0 0 1 (.ref k0) (.ref q0) a10 a11), (k0, .inl (cI, 7, .inl (fun _ => 0))), (q0, .inl (cO, 7, .inr (.inr (.inr (.inr (fun i => if i < 7 then some (rr i) else none)))))), (rr 0, .inl (cI, 3, .inl (fun _ => 0))), (rr 1, .inl (cI, 3, .inl (fun _ => 0))), (rr 2, .inl (cI, 3, .inl (fun _ => 0))), (rr 3, .inl (cI, 3, .inl (fun _ => 0))), (rr 4, .inl (cI, 3, .inl (fun _ => 0))), (rr 5, .inl (cI, 3, .inl (fun _ => 0))), (rr 6, .inl (cI, 3, .inl (fun _ => 0))), (o0, .inl (cJ, 1, .inr (.inl f)))] H) (hD : va_D (fun q : Nat => s.heap.size ≤ q) [(h0, zX 0 1 v), (m0, zM 0 0 1 (.ref k0) (.ref q0) a10 a11), (k0, .inl (cI, 7, .inl (fun _ => 0))), (q0, .inl (cO, 7, .inr (.inr (.inr (.inr (fun i => if i < 7 then some (rr i) else none)))))), (rr 0, .inl (cI, 3, .inl (fun _ => 0))), (rr 1, .inl (cI, 3, .inl (fun _ => 0))), (rr 2, .inl (cI, 3, .inl (fun _ => 0))), (rr 3, .inl (cI, 3, .inl (fun _ => 0))), (rr 4, .inl (cI, 3, .inl (fun _ => 0))), (rr 5, .inl (cI, 3, .inl (fun _ => 0))), (rr 6, .inl (cI, 3, .inl (fun _ => 0))), (o0, .inl (cJ, 1, .inr (.inl f)))]) (hS : va_S (fun q : Nat => s.heap.size ≤ q) s.heap H locs) {ls : Array Slot} (hl : lv_has ls 9 [(0, .ref b), (1, .ref h0), (2, .ref m0), (3, .ref o0), (4, .int 0)]) : W p l e room_1 s m #[Value.ref b] below meth c H locs 57 372 (lw_Z below #[Value.ref b] s) (F0 m 284 ls []) := by
  have C1 := C0
  obtain ⟨hx, hb, hr, hml, hown0, hts0, hX, hbl, hlocks, hgv⟩ := C0
  have hown : s.vm.findClass RL = some m.cls := hown0
  have hts : ∀ w ∈ wsL_law, w.before #[Value.ref b] s = true := fun w h => hts0 w (wsL_law_in w h)
  have hA : ∀ q : Nat, s.heap.size ≤ q → (fun q : Nat => s.heap.size ≤ q) q := fun _ h => h
  have hbA : ¬ (fun q : Nat => s.heap.size ≤ q) b := Nat.not_le.mpr hbl
  refine lv_aload_n hx hb dL_law_284 rfl (lv_at hl 1 rfl) ?_
  refine lv_aload_n hx hb dL_law_285 rfl (lv_at hl 0 rfl) ?_
  refine lv_iload hx hb dL_law_286 (lv_at hl 4 rfl) ?_
  refine lv_iconst (v := 1) hx hb dL_law_288 (by decide) ?_
  refine lv_iadd hx hb dL_law_289 ?_
  refine lv_topi (fun z1 ez1 => ?_)
  obtain rfl : z1 = 1 := ez1.trans (by decide)
  refine va_sld hx hb hX hbl hbA hS (zx_in rfl) dL_law_290 ?_
  refine lv_aload_n hx hb dL_law_291 rfl (lv_at hl 0 rfl) ?_
  refine lv_iload hx hb dL_law_292 (lv_at hl 4 rfl) ?_
  refine lv_iconst (v := 2) hx hb dL_law_294 (by decide) ?_
  refine lv_iadd hx hb dL_law_295 ?_
  refine lv_topi (fun z2 ez2 => ?_)
  obtain rfl : z2 = 2 := ez2.trans (by decide)
  refine va_sld hx hb hX hbl hbA hS (zx_in rfl) dL_law_296 ?_
  refine lv_aload_n hx hb dL_law_297 rfl (lv_at hl 3 rfl) ?_
  have hPc := hP.sub (ws' := [(h0, zX 0 1 v), (o0, .inl (cJ, 1, .inr (.inl f)))]) [0, 11] rfl
  have hDc := hD.sub (ws' := [(h0, zX 0 1 v), (o0, .inl (cJ, 1, .inr (.inl f)))]) [0, 11] (by decide) rfl
  have hKc := hK.sub (tys' := [(cJ, .long)]) [2] rfl
  have hFc := va_free (wc := [(h0, zX 0 1 v), (o0, .inl (cJ, 1, .inr (.inl f)))]) hD hS hA [0, 11] rfl
  refine va_calli (vx_runSW (As := [.ref h0, .int (xs (Int32.toNatClampNeg 1)), .int (xs (Int32.toNatClampNeg 2)), .ref o0]) (rest := []) ⟨hx, hb, hml, hown, hts⟩ (c_L_hold l hl9 dC dI h0 o0 cJ f v (xs (Int32.toNatClampNeg 1)) (xs (Int32.toNatClampNeg 2)) H.size) (vx_cwSW 4 hts gL_law_L_hold rfl rfl rfl (by decide +kernel) ⟨Nat.le_of_ble_eq_true rfl, Nat.le_of_ble_eq_true rfl⟩) ⟨zx_blind, fun U hU hW => ⟨rfl, zx_go hPc hKc hDc hZ hS hFc hU hW⟩⟩ rfl rfl hl.1 rfl (lv_room (Nat.le_of_ble_eq_true rfl)) dL_law_298 ⟨Nat.le_of_ble_eq_true rfl, Nat.le_of_ble_eq_true rfl⟩) hS (fun q _ h => hFc q h) hFc (fun r u t H1 locs ht hvm hw hB hz1 hk1 hS => ?_)
  obtain ⟨hP1, hK1, hD1⟩ := hB
  rw [ht] at hP1
  have hK1 := va_K.moved hvm.symm hK1
  try dsimp only at hw hP1 hD1 hK1
  obtain ⟨hP, hD⟩ := va_join (wr := [(m0, zM 0 0 1 (.ref k0) (.ref q0) a10 a11), (k0, .inl (cI, 7, .inl (fun _ => 0))), (q0, .inl (cO, 7, .inr (.inr (.inr (.inr (fun i => if i < 7 then some (rr i) else none)))))), (rr 0, .inl (cI, 3, .inl (fun _ => 0))), (rr 1, .inl (cI, 3, .inl (fun _ => 0))), (rr 2, .inl (cI, 3, .inl (fun _ => 0))), (rr 3, .inl (cI, 3, .inl (fun _ => 0))), (rr 4, .inl (cI, 3, .inl (fun _ => 0))), (rr 5, .inl (cI, 3, .inl (fun _ => 0))), (rr 6, .inl (cI, 3, .inl (fun _ => 0)))]) (w1 := []) hP hD [0, 11] [1, 2, 3, 4, 5, 6, 7, 8, 9, 10] rfl rfl (by decide) (by decide) hk1 hFc hP1 hD1
  generalize H1 = H at hP hS ⊢
  have hP : va_P (dC, dI) vwCl [(m0, zM 0 0 1 (.ref k0) (.ref q0) a10 a11), (k0, .inl (cI, 7, .inl (fun _ => 0))), (q0, .inl (cO, 7, .inr (.inr (.inr (.inr (fun i => if i < 7 then some (rr i) else none)))))), (rr 0, .inl (cI, 3, .inl (fun _ => 0))), (rr 1, .inl (cI, 3, .inl (fun _ => 0))), (rr 2, .inl (cI, 3, .inl (fun _ => 0))), (rr 3, .inl (cI, 3, .inl (fun _ => 0))), (rr 4, .inl (cI, 3, .inl (fun _ => 0))), (rr 5, .inl (cI, 3, .inl (fun _ => 0))), (rr 6, .inl (cI, 3, .inl (fun _ => 0)))] H := hP
  have hD : va_D (fun q : Nat => s.heap.size ≤ q) [(m0, zM 0 0 1 (.ref k0) (.ref q0) a10 a11), (k0, .inl (cI, 7, .inl (fun _ => 0))), (q0, .inl (cO, 7, .inr (.inr (.inr (.inr (fun i => if i < 7 then some (rr i) else none)))))), (rr 0, .inl (cI, 3, .inl (fun _ => 0))), (rr 1, .inl (cI, 3, .inl (fun _ => 0))), (rr 2, .inl (cI, 3, .inl (fun _ => 0))), (rr 3, .inl (cI, 3, .inl (fun _ => 0))), (rr 4, .inl (cI, 3, .inl (fun _ => 0))), (rr 5, .inl (cI, 3, .inl (fun _ => 0))), (rr 6, .inl (cI, 3, .inl (fun _ => 0)))] := hD
  refine W.widen (k := 58) (n := 378) (by omega) (by omega) ?_
  subst hw
  refine lv_istore (lv' := [(5, .int 1), (0, .ref b), (1, .ref h0), (2, .ref m0), (3, .ref o0), (4, .int 0)]) hx hb dL_law_301 hl (by decide) rfl (fun ls hl => ?_)
  refine lv_aload_n hx hb dL_law_303 rfl (lv_at hl 3 rfl) ?_
  refine lv_aload_n hx hb dL_law_304 rfl (lv_at hl 1 rfl) ?_
  refine lv_iload hx hb dL_law_305 (lv_at hl 5 rfl) ?_
  refine lv_iconst (v := 1) hx hb dL_law_307 (by decide) ?_
  refine lv_iadd hx hb dL_law_308 ?_
  refine lv_topi (fun z3 ez3 => ?_)
  obtain rfl : z3 = 1 := ez3.trans (by decide)
  refine va_sld hx hb hX hbl hbA hS (zx_in rfl) dL_law_309 ?_
  refine lv_aload_n hx hb dL_law_310 rfl (lv_at hl 1 rfl) ?_
  refine lv_iload hx hb dL_law_311 (lv_at hl 5 rfl) ?_
  refine lv_iconst (v := 2) hx hb dL_law_313 (by decide) ?_
  refine lv_iadd hx hb dL_law_314 ?_
  refine lv_topi (fun z4 ez4 => ?_)
  obtain rfl : z4 = 2 := ez4.trans (by decide)
  refine va_sld hx hb hX hbl hbA hS (zx_in rfl) dL_law_315 ?_
  have hPc := hP.sub (ws' := [(m0, zM 0 0 1 (.ref k0) (.ref q0) a10 a11)]) [0] rfl
  have hDc := hD.sub (ws' := [(m0, zM 0 0 1 (.ref k0) (.ref q0) a10 a11)]) [0] (by decide) rfl
  have hKc := hK.sub (tys' := []) [] rfl
  have hFc := va_free (wc := [(m0, zM 0 0 1 (.ref k0) (.ref q0) a10 a11)]) hD hS hA [0] rfl
  refine va_calli (va_runV (As := [.int (xs (Int32.toNatClampNeg 1)), .int (xs (Int32.toNatClampNeg 2))]) (rest := []) ⟨hx, hb, hml, hown, hts⟩ (c_X1_hold l dC dI m0 (xs (Int32.toNatClampNeg 1)) (xs (Int32.toNatClampNeg 2)) (.ref k0) (.ref q0) a10 a11 H.size) (cwV 2 hts gL_law_X1_hold rfl rfl rfl (by decide +kernel) ⟨Nat.le_of_ble_eq_true rfl, Nat.le_of_ble_eq_true rfl⟩) ⟨zx_blind, va_recv hKc hPc (ci := 1) (q0 := 0) rfl rfl, fun U hU hW => ⟨rfl, zx_go hPc hKc hDc hZ hS hFc hU hW⟩⟩ rfl rfl hl.1 rfl (lv_room (Nat.le_of_ble_eq_true rfl)) dL_law_316 ⟨Nat.le_of_ble_eq_true rfl, Nat.le_of_ble_eq_true rfl⟩) hS (fun q _ h => hFc q h) hFc (fun r u9 t H1 locs ht hvm hw hB hz1 hk1 hS => ?_)
  obtain ⟨hP1, hK1, hD1⟩ := hB
  rw [ht] at hP1
  have hK1 := va_K.moved hvm.symm hK1
  try dsimp only at hw hP1 hD1 hK1
  obtain ⟨hP, hD⟩ := va_join (wr := [(k0, .inl (cI, 7, .inl (fun _ => 0))), (q0, .inl (cO, 7, .inr (.inr (.inr (.inr (fun i => if i < 7 then some (rr i) else none)))))), (rr 0, .inl (cI, 3, .inl (fun _ => 0))), (rr 1, .inl (cI, 3, .inl (fun _ => 0))), (rr 2, .inl (cI, 3, .inl (fun _ => 0))), (rr 3, .inl (cI, 3, .inl (fun _ => 0))), (rr 4, .inl (cI, 3, .inl (fun _ => 0))), (rr 5, .inl (cI, 3, .inl (fun _ => 0))), (rr 6, .inl (cI, 3, .inl (fun _ => 0)))]) (w1 := [(m0, zM 1 0 1 (.ref k0) (.ref q0) a10 a11)]) hP hD [0] [1, 2, 3, 4, 5, 6, 7, 8, 9] rfl rfl (by decide) (by decide) hk1 hFc hP1 hD1
  generalize H1 = H at hP hS ⊢
  have hP : va_P (dC, dI) vwCl [(k0, .inl (cI, 7, .inl (fun _ => 0))), (q0, .inl (cO, 7, .inr (.inr (.inr (.inr (fun i => if i < 7 then some (rr i) else none)))))), (rr 0, .inl (cI, 3, .inl (fun _ => 0))), (rr 1, .inl (cI, 3, .inl (fun _ => 0))), (rr 2, .inl (cI, 3, .inl (fun _ => 0))), (rr 3, .inl (cI, 3, .inl (fun _ => 0))), (rr 4, .inl (cI, 3, .inl (fun _ => 0))), (rr 5, .inl (cI, 3, .inl (fun _ => 0))), (rr 6, .inl (cI, 3, .inl (fun _ => 0))), (m0, zM 1 0 1 (.ref k0) (.ref q0) a10 a11)] H := hP
  have hD : va_D (fun q : Nat => s.heap.size ≤ q) [(k0, .inl (cI, 7, .inl (fun _ => 0))), (q0, .inl (cO, 7, .inr (.inr (.inr (.inr (fun i => if i < 7 then some (rr i) else none)))))), (rr 0, .inl (cI, 3, .inl (fun _ => 0))), (rr 1, .inl (cI, 3, .inl (fun _ => 0))), (rr 2, .inl (cI, 3, .inl (fun _ => 0))), (rr 3, .inl (cI, 3, .inl (fun _ => 0))), (rr 4, .inl (cI, 3, .inl (fun _ => 0))), (rr 5, .inl (cI, 3, .inl (fun _ => 0))), (rr 6, .inl (cI, 3, .inl (fun _ => 0))), (m0, zM 1 0 1 (.ref k0) (.ref q0) a10 a11)] := hD
  subst hw
  refine lv_istore (lv' := [(6, .int 0), (5, .int 1), (0, .ref b), (1, .ref h0), (2, .ref m0), (3, .ref o0), (4, .int 0)]) hx hb dL_law_319 hl (by decide) rfl (fun ls hl => ?_)
  refine lv_aload_n hx hb dL_law_321 rfl (lv_at hl 4 rfl) ?_
  have hPc := hP.sub (ws' := [(m0, zM 1 0 1 (.ref k0) (.ref q0) a10 a11)]) [9] rfl
  have hDc := hD.sub (ws' := [(m0, zM 1 0 1 (.ref k0) (.ref q0) a10 a11)]) [9] (by decide) rfl
  have hKc := hK.sub (tys' := []) [] rfl
  have hFc := va_free (wc := [(m0, zM 1 0 1 (.ref k0) (.ref q0) a10 a11)]) hD hS hA [9] rfl
  refine va_calli (va_runV (As := []) (rest := []) ⟨hx, hb, hml, hown, hts⟩ (c_X1_thrown l dC dI m0 1 0 1 (.ref k0) (.ref q0) a10 a11 H.size) (cwV 0 hts gL_law_X1_thrown rfl rfl rfl (by decide +kernel) ⟨Nat.le_of_ble_eq_true rfl, Nat.le_of_ble_eq_true rfl⟩) ⟨zx_blind, va_recv hKc hPc (ci := 1) (q0 := 0) rfl rfl, fun U hU hW => ⟨rfl, zx_go hPc hKc hDc hZ hS hFc hU hW⟩⟩ rfl rfl hl.1 rfl (lv_room (Nat.le_of_ble_eq_true rfl)) dL_law_322 ⟨Nat.le_of_ble_eq_true rfl, Nat.le_of_ble_eq_true rfl⟩) hS (fun q _ h => hFc q h) hFc (fun r u8 t H1 locs ht hvm hw hB hz1 hk1 hS => ?_)
  obtain ⟨hP1, hK1, hD1⟩ := hB
  rw [ht] at hP1
  have hK1 := va_K.moved hvm.symm hK1
  try dsimp only at hw hP1 hD1 hK1
  obtain ⟨hP, hD⟩ := va_join (wr := [(k0, .inl (cI, 7, .inl (fun _ => 0))), (q0, .inl (cO, 7, .inr (.inr (.inr (.inr (fun i => if i < 7 then some (rr i) else none)))))), (rr 0, .inl (cI, 3, .inl (fun _ => 0))), (rr 1, .inl (cI, 3, .inl (fun _ => 0))), (rr 2, .inl (cI, 3, .inl (fun _ => 0))), (rr 3, .inl (cI, 3, .inl (fun _ => 0))), (rr 4, .inl (cI, 3, .inl (fun _ => 0))), (rr 5, .inl (cI, 3, .inl (fun _ => 0))), (rr 6, .inl (cI, 3, .inl (fun _ => 0)))]) (w1 := [(m0, zM 1 0 1 (.ref k0) (.ref q0) a10 a11)]) hP hD [9] [0, 1, 2, 3, 4, 5, 6, 7, 8] rfl rfl (by decide) (by decide) hk1 hFc hP1 hD1
  generalize H1 = H at hP hS ⊢
  have hP : va_P (dC, dI) vwCl [(k0, .inl (cI, 7, .inl (fun _ => 0))), (q0, .inl (cO, 7, .inr (.inr (.inr (.inr (fun i => if i < 7 then some (rr i) else none)))))), (rr 0, .inl (cI, 3, .inl (fun _ => 0))), (rr 1, .inl (cI, 3, .inl (fun _ => 0))), (rr 2, .inl (cI, 3, .inl (fun _ => 0))), (rr 3, .inl (cI, 3, .inl (fun _ => 0))), (rr 4, .inl (cI, 3, .inl (fun _ => 0))), (rr 5, .inl (cI, 3, .inl (fun _ => 0))), (rr 6, .inl (cI, 3, .inl (fun _ => 0))), (m0, zM 1 0 1 (.ref k0) (.ref q0) a10 a11)] H := hP
  have hD : va_D (fun q : Nat => s.heap.size ≤ q) [(k0, .inl (cI, 7, .inl (fun _ => 0))), (q0, .inl (cO, 7, .inr (.inr (.inr (.inr (fun i => if i < 7 then some (rr i) else none)))))), (rr 0, .inl (cI, 3, .inl (fun _ => 0))), (rr 1, .inl (cI, 3, .inl (fun _ => 0))), (rr 2, .inl (cI, 3, .inl (fun _ => 0))), (rr 3, .inl (cI, 3, .inl (fun _ => 0))), (rr 4, .inl (cI, 3, .inl (fun _ => 0))), (rr 5, .inl (cI, 3, .inl (fun _ => 0))), (rr 6, .inl (cI, 3, .inl (fun _ => 0))), (m0, zM 1 0 1 (.ref k0) (.ref q0) a10 a11)] := hD
  subst hw
  refine lv_iload hx hb dL_law_325 (lv_at hl 1 rfl) ?_
  refine lv_icmp_eq (tgt := 332) hx hb dL_law_327 (by decide) (fun _ => ?_) (fun c5 => absurd (by decide) c5)
  refine lv_iload hx hb dL_law_332 (lv_at hl 1 rfl) ?_
  refine lv_if_ne (tgt := 349) hx hb dL_law_334 (by decide) (fun _ => ?_) (fun c6 => absurd c6 (by decide))
  refine lv_goto (tgt := 1015) hx hb dL_law_349 (by decide) ?_
  exact law_tail C1 hS (lv_sub hl [2, 6] rfl) (Nat.le_of_ble_eq_true rfl) (Nat.le_of_ble_eq_true rfl)
set_option maxHeartbeats 4000000 in
set_option maxRecDepth 100000 in
theorem law_case_4 {p : Program} {l : Launch} {e : Env} {s : State} {m : MethodId} {below : List Frame} {meth : Method} {c : Code} (hl9 : l.stackTraces = false) {b : Nat} {xs : Nat → Int32} (C0 : lw_At p s m meth c b 4 xs) (hZ : zx_Z (fun q : Nat => s.heap.size ≤ q) s s.heap) {dC : Nat → ClassId} {dI : Nat → Nat → Nat} {h0 m0 o0 k0 q0 : Nat} {v : Nat → Value} {rr : Nat → Nat} {cI cO cJ : ClassId} {a10 a11 : Value} {f : Nat → Int64} {H : Heap} {locs : List Loc} (hK : va_K (dC, dI) vwCl [(cI, .int), (cO, .array .int), (cJ, .long)] s) (hP : va_P (dC, dI) vwCl [(h0, zX 0 1 v), (m0, zM 0 0 1 (.ref k0) (.ref q0) a10 a11), (k0, .inl (cI, 7, .inl (fun _ => 0))), (q0, .inl (cO, 7, .inr (.inr (.inr (.inr (fun i => if i < 7 then some (rr i) else none)))))), (rr 0, .inl (cI, 3, .inl (fun _ => 0))), (rr 1, .inl (cI, 3, .inl (fun _ => 0))), (rr 2, .inl (cI, 3, .inl (fun _ => 0))), (rr 3, .inl (cI, 3, .inl (fun _ => 0))), (rr 4, .inl (cI, 3, .inl (fun _ => 0))), (rr 5, .inl (cI, 3, .inl (fun _ => 0))), (rr 6, .inl (cI, 3, .inl (fun _ => 0))), (o0, .inl (cJ, 1, .inr (.inl f)))] H) (hD : va_D (fun q : Nat => s.heap.size ≤ q) [(h0, zX 0 1 v), (m0, zM 0 0 1 (.ref k0) (.ref q0) a10 a11), (k0, .inl (cI, 7, .inl (fun _ => 0))), (q0, .inl (cO, 7, .inr (.inr (.inr (.inr (fun i => if i < 7 then some (rr i) else none)))))), (rr 0, .inl (cI, 3, .inl (fun _ => 0))), (rr 1, .inl (cI, 3, .inl (fun _ => 0))), (rr 2, .inl (cI, 3, .inl (fun _ => 0))), (rr 3, .inl (cI, 3, .inl (fun _ => 0))), (rr 4, .inl (cI, 3, .inl (fun _ => 0))), (rr 5, .inl (cI, 3, .inl (fun _ => 0))), (rr 6, .inl (cI, 3, .inl (fun _ => 0))), (o0, .inl (cJ, 1, .inr (.inl f)))]) (hS : va_S (fun q : Nat => s.heap.size ≤ q) s.heap H locs) {ls : Array Slot} (hl : lv_has ls 9 [(0, .ref b), (1, .ref h0), (2, .ref m0), (3, .ref o0), (4, .int 0)]) : W p l e room_1 s m #[Value.ref b] below meth c H locs 57 372 (lw_Z below #[Value.ref b] s) (F0 m 352 ls []) := by
  have C1 := C0
  obtain ⟨hx, hb, hr, hml, hown0, hts0, hX, hbl, hlocks, hgv⟩ := C0
  have hown : s.vm.findClass RL = some m.cls := hown0
  have hts : ∀ w ∈ wsL_law, w.before #[Value.ref b] s = true := fun w h => hts0 w (wsL_law_in w h)
  have hA : ∀ q : Nat, s.heap.size ≤ q → (fun q : Nat => s.heap.size ≤ q) q := fun _ h => h
  have hbA : ¬ (fun q : Nat => s.heap.size ≤ q) b := Nat.not_le.mpr hbl
  refine lv_aload_n hx hb dL_law_352 rfl (lv_at hl 1 rfl) ?_
  refine lv_aload_n hx hb dL_law_353 rfl (lv_at hl 0 rfl) ?_
  refine lv_iload hx hb dL_law_354 (lv_at hl 4 rfl) ?_
  refine lv_iconst (v := 1) hx hb dL_law_356 (by decide) ?_
  refine lv_iadd hx hb dL_law_357 ?_
  refine lv_topi (fun z1 ez1 => ?_)
  obtain rfl : z1 = 1 := ez1.trans (by decide)
  refine va_sld hx hb hX hbl hbA hS (zx_in rfl) dL_law_358 ?_
  refine lv_aload_n hx hb dL_law_359 rfl (lv_at hl 3 rfl) ?_
  have hPc := hP.sub (ws' := [(h0, zX 0 1 v), (o0, .inl (cJ, 1, .inr (.inl f)))]) [0, 11] rfl
  have hDc := hD.sub (ws' := [(h0, zX 0 1 v), (o0, .inl (cJ, 1, .inr (.inl f)))]) [0, 11] (by decide) rfl
  have hKc := hK.sub (tys' := [(cJ, .long)]) [2] rfl
  have hFc := va_free (wc := [(h0, zX 0 1 v), (o0, .inl (cJ, 1, .inr (.inl f)))]) hD hS hA [0, 11] rfl
  refine va_calli (vx_runSW (As := [.ref h0, .int (xs (Int32.toNatClampNeg 1)), .ref o0]) (rest := []) ⟨hx, hb, hml, hown, hts⟩ (c_L_does l hl9 dC dI h0 o0 cJ f v (xs (Int32.toNatClampNeg 1)) H.size) (vx_cwSW 3 hts gL_law_L_does rfl rfl rfl (by decide +kernel) ⟨Nat.le_of_ble_eq_true rfl, Nat.le_of_ble_eq_true rfl⟩) ⟨zx_blind, fun U hU hW => ⟨rfl, zx_go hPc hKc hDc hZ hS hFc hU hW⟩⟩ rfl rfl hl.1 rfl (lv_room (Nat.le_of_ble_eq_true rfl)) dL_law_360 ⟨Nat.le_of_ble_eq_true rfl, Nat.le_of_ble_eq_true rfl⟩) hS (fun q _ h => hFc q h) hFc (fun r u t H1 locs ht hvm hw hB hz1 hk1 hS => ?_)
  obtain ⟨hP1, hK1, hD1⟩ := hB
  rw [ht] at hP1
  have hK1 := va_K.moved hvm.symm hK1
  try dsimp only at hw hP1 hD1 hK1
  obtain ⟨hP, hD⟩ := va_join (wr := [(m0, zM 0 0 1 (.ref k0) (.ref q0) a10 a11), (k0, .inl (cI, 7, .inl (fun _ => 0))), (q0, .inl (cO, 7, .inr (.inr (.inr (.inr (fun i => if i < 7 then some (rr i) else none)))))), (rr 0, .inl (cI, 3, .inl (fun _ => 0))), (rr 1, .inl (cI, 3, .inl (fun _ => 0))), (rr 2, .inl (cI, 3, .inl (fun _ => 0))), (rr 3, .inl (cI, 3, .inl (fun _ => 0))), (rr 4, .inl (cI, 3, .inl (fun _ => 0))), (rr 5, .inl (cI, 3, .inl (fun _ => 0))), (rr 6, .inl (cI, 3, .inl (fun _ => 0)))]) (w1 := []) hP hD [0, 11] [1, 2, 3, 4, 5, 6, 7, 8, 9, 10] rfl rfl (by decide) (by decide) hk1 hFc hP1 hD1
  generalize H1 = H at hP hS ⊢
  have hP : va_P (dC, dI) vwCl [(m0, zM 0 0 1 (.ref k0) (.ref q0) a10 a11), (k0, .inl (cI, 7, .inl (fun _ => 0))), (q0, .inl (cO, 7, .inr (.inr (.inr (.inr (fun i => if i < 7 then some (rr i) else none)))))), (rr 0, .inl (cI, 3, .inl (fun _ => 0))), (rr 1, .inl (cI, 3, .inl (fun _ => 0))), (rr 2, .inl (cI, 3, .inl (fun _ => 0))), (rr 3, .inl (cI, 3, .inl (fun _ => 0))), (rr 4, .inl (cI, 3, .inl (fun _ => 0))), (rr 5, .inl (cI, 3, .inl (fun _ => 0))), (rr 6, .inl (cI, 3, .inl (fun _ => 0)))] H := hP
  have hD : va_D (fun q : Nat => s.heap.size ≤ q) [(m0, zM 0 0 1 (.ref k0) (.ref q0) a10 a11), (k0, .inl (cI, 7, .inl (fun _ => 0))), (q0, .inl (cO, 7, .inr (.inr (.inr (.inr (fun i => if i < 7 then some (rr i) else none)))))), (rr 0, .inl (cI, 3, .inl (fun _ => 0))), (rr 1, .inl (cI, 3, .inl (fun _ => 0))), (rr 2, .inl (cI, 3, .inl (fun _ => 0))), (rr 3, .inl (cI, 3, .inl (fun _ => 0))), (rr 4, .inl (cI, 3, .inl (fun _ => 0))), (rr 5, .inl (cI, 3, .inl (fun _ => 0))), (rr 6, .inl (cI, 3, .inl (fun _ => 0)))] := hD
  refine W.widen (k := 58) (n := 378) (by omega) (by omega) ?_
  subst hw
  refine lv_istore (lv' := [(5, .int 1), (0, .ref b), (1, .ref h0), (2, .ref m0), (3, .ref o0), (4, .int 0)]) hx hb dL_law_363 hl (by decide) rfl (fun ls hl => ?_)
  refine lv_aload_n hx hb dL_law_365 rfl (lv_at hl 3 rfl) ?_
  refine lv_aload_n hx hb dL_law_366 rfl (lv_at hl 1 rfl) ?_
  refine lv_iload hx hb dL_law_367 (lv_at hl 5 rfl) ?_
  refine lv_iconst (v := 1) hx hb dL_law_369 (by decide) ?_
  refine lv_iadd hx hb dL_law_370 ?_
  refine lv_topi (fun z2 ez2 => ?_)
  obtain rfl : z2 = 1 := ez2.trans (by decide)
  refine va_sld hx hb hX hbl hbA hS (zx_in rfl) dL_law_371 ?_
  have hPc := hP.sub (ws' := [(m0, zM 0 0 1 (.ref k0) (.ref q0) a10 a11)]) [0] rfl
  have hDc := hD.sub (ws' := [(m0, zM 0 0 1 (.ref k0) (.ref q0) a10 a11)]) [0] (by decide) rfl
  have hKc := hK.sub (tys' := []) [] rfl
  have hFc := va_free (wc := [(m0, zM 0 0 1 (.ref k0) (.ref q0) a10 a11)]) hD hS hA [0] rfl
  refine va_calli (va_runV (As := [.int (xs (Int32.toNatClampNeg 1))]) (rest := []) ⟨hx, hb, hml, hown, hts⟩ (c_X1_does l dC dI m0 (xs (Int32.toNatClampNeg 1)) (.ref k0) (.ref q0) a10 a11 H.size) (cwV 1 hts gL_law_X1_does rfl rfl rfl (by decide +kernel) ⟨Nat.le_of_ble_eq_true rfl, Nat.le_of_ble_eq_true rfl⟩) ⟨zx_blind, va_recv hKc hPc (ci := 1) (q0 := 0) rfl rfl, fun U hU hW => ⟨rfl, zx_go hPc hKc hDc hZ hS hFc hU hW⟩⟩ rfl rfl hl.1 rfl (lv_room (Nat.le_of_ble_eq_true rfl)) dL_law_372 ⟨Nat.le_of_ble_eq_true rfl, Nat.le_of_ble_eq_true rfl⟩) hS (fun q _ h => hFc q h) hFc (fun r u9 t H1 locs ht hvm hw hB hz1 hk1 hS => ?_)
  obtain ⟨hP1, hK1, hD1⟩ := hB
  rw [ht] at hP1
  have hK1 := va_K.moved hvm.symm hK1
  try dsimp only at hw hP1 hD1 hK1
  obtain ⟨hP, hD⟩ := va_join (wr := [(k0, .inl (cI, 7, .inl (fun _ => 0))), (q0, .inl (cO, 7, .inr (.inr (.inr (.inr (fun i => if i < 7 then some (rr i) else none)))))), (rr 0, .inl (cI, 3, .inl (fun _ => 0))), (rr 1, .inl (cI, 3, .inl (fun _ => 0))), (rr 2, .inl (cI, 3, .inl (fun _ => 0))), (rr 3, .inl (cI, 3, .inl (fun _ => 0))), (rr 4, .inl (cI, 3, .inl (fun _ => 0))), (rr 5, .inl (cI, 3, .inl (fun _ => 0))), (rr 6, .inl (cI, 3, .inl (fun _ => 0)))]) (w1 := [(m0, zM 1 0 1 (.ref k0) (.ref q0) a10 a11)]) hP hD [0] [1, 2, 3, 4, 5, 6, 7, 8, 9] rfl rfl (by decide) (by decide) hk1 hFc hP1 hD1
  generalize H1 = H at hP hS ⊢
  have hP : va_P (dC, dI) vwCl [(k0, .inl (cI, 7, .inl (fun _ => 0))), (q0, .inl (cO, 7, .inr (.inr (.inr (.inr (fun i => if i < 7 then some (rr i) else none)))))), (rr 0, .inl (cI, 3, .inl (fun _ => 0))), (rr 1, .inl (cI, 3, .inl (fun _ => 0))), (rr 2, .inl (cI, 3, .inl (fun _ => 0))), (rr 3, .inl (cI, 3, .inl (fun _ => 0))), (rr 4, .inl (cI, 3, .inl (fun _ => 0))), (rr 5, .inl (cI, 3, .inl (fun _ => 0))), (rr 6, .inl (cI, 3, .inl (fun _ => 0))), (m0, zM 1 0 1 (.ref k0) (.ref q0) a10 a11)] H := hP
  have hD : va_D (fun q : Nat => s.heap.size ≤ q) [(k0, .inl (cI, 7, .inl (fun _ => 0))), (q0, .inl (cO, 7, .inr (.inr (.inr (.inr (fun i => if i < 7 then some (rr i) else none)))))), (rr 0, .inl (cI, 3, .inl (fun _ => 0))), (rr 1, .inl (cI, 3, .inl (fun _ => 0))), (rr 2, .inl (cI, 3, .inl (fun _ => 0))), (rr 3, .inl (cI, 3, .inl (fun _ => 0))), (rr 4, .inl (cI, 3, .inl (fun _ => 0))), (rr 5, .inl (cI, 3, .inl (fun _ => 0))), (rr 6, .inl (cI, 3, .inl (fun _ => 0))), (m0, zM 1 0 1 (.ref k0) (.ref q0) a10 a11)] := hD
  subst hw
  refine lv_istore (lv' := [(6, .int 0), (5, .int 1), (0, .ref b), (1, .ref h0), (2, .ref m0), (3, .ref o0), (4, .int 0)]) hx hb dL_law_375 hl (by decide) rfl (fun ls hl => ?_)
  refine lv_aload_n hx hb dL_law_377 rfl (lv_at hl 4 rfl) ?_
  have hPc := hP.sub (ws' := [(m0, zM 1 0 1 (.ref k0) (.ref q0) a10 a11)]) [9] rfl
  have hDc := hD.sub (ws' := [(m0, zM 1 0 1 (.ref k0) (.ref q0) a10 a11)]) [9] (by decide) rfl
  have hKc := hK.sub (tys' := []) [] rfl
  have hFc := va_free (wc := [(m0, zM 1 0 1 (.ref k0) (.ref q0) a10 a11)]) hD hS hA [9] rfl
  refine va_calli (va_runV (As := []) (rest := []) ⟨hx, hb, hml, hown, hts⟩ (c_X1_thrown l dC dI m0 1 0 1 (.ref k0) (.ref q0) a10 a11 H.size) (cwV 0 hts gL_law_X1_thrown rfl rfl rfl (by decide +kernel) ⟨Nat.le_of_ble_eq_true rfl, Nat.le_of_ble_eq_true rfl⟩) ⟨zx_blind, va_recv hKc hPc (ci := 1) (q0 := 0) rfl rfl, fun U hU hW => ⟨rfl, zx_go hPc hKc hDc hZ hS hFc hU hW⟩⟩ rfl rfl hl.1 rfl (lv_room (Nat.le_of_ble_eq_true rfl)) dL_law_378 ⟨Nat.le_of_ble_eq_true rfl, Nat.le_of_ble_eq_true rfl⟩) hS (fun q _ h => hFc q h) hFc (fun r u8 t H1 locs ht hvm hw hB hz1 hk1 hS => ?_)
  obtain ⟨hP1, hK1, hD1⟩ := hB
  rw [ht] at hP1
  have hK1 := va_K.moved hvm.symm hK1
  try dsimp only at hw hP1 hD1 hK1
  obtain ⟨hP, hD⟩ := va_join (wr := [(k0, .inl (cI, 7, .inl (fun _ => 0))), (q0, .inl (cO, 7, .inr (.inr (.inr (.inr (fun i => if i < 7 then some (rr i) else none)))))), (rr 0, .inl (cI, 3, .inl (fun _ => 0))), (rr 1, .inl (cI, 3, .inl (fun _ => 0))), (rr 2, .inl (cI, 3, .inl (fun _ => 0))), (rr 3, .inl (cI, 3, .inl (fun _ => 0))), (rr 4, .inl (cI, 3, .inl (fun _ => 0))), (rr 5, .inl (cI, 3, .inl (fun _ => 0))), (rr 6, .inl (cI, 3, .inl (fun _ => 0)))]) (w1 := [(m0, zM 1 0 1 (.ref k0) (.ref q0) a10 a11)]) hP hD [9] [0, 1, 2, 3, 4, 5, 6, 7, 8] rfl rfl (by decide) (by decide) hk1 hFc hP1 hD1
  generalize H1 = H at hP hS ⊢
  have hP : va_P (dC, dI) vwCl [(k0, .inl (cI, 7, .inl (fun _ => 0))), (q0, .inl (cO, 7, .inr (.inr (.inr (.inr (fun i => if i < 7 then some (rr i) else none)))))), (rr 0, .inl (cI, 3, .inl (fun _ => 0))), (rr 1, .inl (cI, 3, .inl (fun _ => 0))), (rr 2, .inl (cI, 3, .inl (fun _ => 0))), (rr 3, .inl (cI, 3, .inl (fun _ => 0))), (rr 4, .inl (cI, 3, .inl (fun _ => 0))), (rr 5, .inl (cI, 3, .inl (fun _ => 0))), (rr 6, .inl (cI, 3, .inl (fun _ => 0))), (m0, zM 1 0 1 (.ref k0) (.ref q0) a10 a11)] H := hP
  have hD : va_D (fun q : Nat => s.heap.size ≤ q) [(k0, .inl (cI, 7, .inl (fun _ => 0))), (q0, .inl (cO, 7, .inr (.inr (.inr (.inr (fun i => if i < 7 then some (rr i) else none)))))), (rr 0, .inl (cI, 3, .inl (fun _ => 0))), (rr 1, .inl (cI, 3, .inl (fun _ => 0))), (rr 2, .inl (cI, 3, .inl (fun _ => 0))), (rr 3, .inl (cI, 3, .inl (fun _ => 0))), (rr 4, .inl (cI, 3, .inl (fun _ => 0))), (rr 5, .inl (cI, 3, .inl (fun _ => 0))), (rr 6, .inl (cI, 3, .inl (fun _ => 0))), (m0, zM 1 0 1 (.ref k0) (.ref q0) a10 a11)] := hD
  subst hw
  refine lv_iload hx hb dL_law_381 (lv_at hl 1 rfl) ?_
  refine lv_icmp_eq (tgt := 388) hx hb dL_law_383 (by decide) (fun _ => ?_) (fun c3 => absurd (by decide) c3)
  refine lv_iload hx hb dL_law_388 (lv_at hl 1 rfl) ?_
  refine lv_if_ne (tgt := 405) hx hb dL_law_390 (by decide) (fun _ => ?_) (fun c4 => absurd c4 (by decide))
  refine lv_goto (tgt := 1015) hx hb dL_law_405 (by decide) ?_
  exact law_tail C1 hS (lv_sub hl [2, 6] rfl) (Nat.le_of_ble_eq_true rfl) (Nat.le_of_ble_eq_true rfl)
set_option maxHeartbeats 4000000 in
set_option maxRecDepth 100000 in
theorem law_case_5 {p : Program} {l : Launch} {e : Env} {s : State} {m : MethodId} {below : List Frame} {meth : Method} {c : Code} (hl9 : l.stackTraces = false) {b : Nat} {xs : Nat → Int32} (C0 : lw_At p s m meth c b 4 xs) (hZ : zx_Z (fun q : Nat => s.heap.size ≤ q) s s.heap) {dC : Nat → ClassId} {dI : Nat → Nat → Nat} {h0 m0 o0 k0 q0 : Nat} {v : Nat → Value} {rr : Nat → Nat} {cI cO cJ : ClassId} {a10 a11 : Value} {f : Nat → Int64} {H : Heap} {locs : List Loc} (hK : va_K (dC, dI) vwCl [(cI, .int), (cO, .array .int), (cJ, .long)] s) (hP : va_P (dC, dI) vwCl [(h0, zX 0 1 v), (m0, zM 0 0 1 (.ref k0) (.ref q0) a10 a11), (k0, .inl (cI, 7, .inl (fun _ => 0))), (q0, .inl (cO, 7, .inr (.inr (.inr (.inr (fun i => if i < 7 then some (rr i) else none)))))), (rr 0, .inl (cI, 3, .inl (fun _ => 0))), (rr 1, .inl (cI, 3, .inl (fun _ => 0))), (rr 2, .inl (cI, 3, .inl (fun _ => 0))), (rr 3, .inl (cI, 3, .inl (fun _ => 0))), (rr 4, .inl (cI, 3, .inl (fun _ => 0))), (rr 5, .inl (cI, 3, .inl (fun _ => 0))), (rr 6, .inl (cI, 3, .inl (fun _ => 0))), (o0, .inl (cJ, 1, .inr (.inl f)))] H) (hD : va_D (fun q : Nat => s.heap.size ≤ q) [(h0, zX 0 1 v), (m0, zM 0 0 1 (.ref k0) (.ref q0) a10 a11), (k0, .inl (cI, 7, .inl (fun _ => 0))), (q0, .inl (cO, 7, .inr (.inr (.inr (.inr (fun i => if i < 7 then some (rr i) else none)))))), (rr 0, .inl (cI, 3, .inl (fun _ => 0))), (rr 1, .inl (cI, 3, .inl (fun _ => 0))), (rr 2, .inl (cI, 3, .inl (fun _ => 0))), (rr 3, .inl (cI, 3, .inl (fun _ => 0))), (rr 4, .inl (cI, 3, .inl (fun _ => 0))), (rr 5, .inl (cI, 3, .inl (fun _ => 0))), (rr 6, .inl (cI, 3, .inl (fun _ => 0))), (o0, .inl (cJ, 1, .inr (.inl f)))]) (hS : va_S (fun q : Nat => s.heap.size ≤ q) s.heap H locs) {ls : Array Slot} (hl : lv_has ls 9 [(0, .ref b), (1, .ref h0), (2, .ref m0), (3, .ref o0), (4, .int 0)]) : W p l e room_1 s m #[Value.ref b] below meth c H locs 57 372 (lw_Z below #[Value.ref b] s) (F0 m 408 ls []) := by
  have C1 := C0
  obtain ⟨hx, hb, hr, hml, hown0, hts0, hX, hbl, hlocks, hgv⟩ := C0
  have hown : s.vm.findClass RL = some m.cls := hown0
  have hts : ∀ w ∈ wsL_law, w.before #[Value.ref b] s = true := fun w h => hts0 w (wsL_law_in w h)
  have hA : ∀ q : Nat, s.heap.size ≤ q → (fun q : Nat => s.heap.size ≤ q) q := fun _ h => h
  have hbA : ¬ (fun q : Nat => s.heap.size ≤ q) b := Nat.not_le.mpr hbl
  refine lv_aload_n hx hb dL_law_408 rfl (lv_at hl 1 rfl) ?_
  refine lv_aload_n hx hb dL_law_409 rfl (lv_at hl 0 rfl) ?_
  refine lv_iload hx hb dL_law_410 (lv_at hl 4 rfl) ?_
  refine lv_iconst (v := 1) hx hb dL_law_412 (by decide) ?_
  refine lv_iadd hx hb dL_law_413 ?_
  refine lv_topi (fun z1 ez1 => ?_)
  obtain rfl : z1 = 1 := ez1.trans (by decide)
  refine va_sld hx hb hX hbl hbA hS (zx_in rfl) dL_law_414 ?_
  refine lv_aload_n hx hb dL_law_415 rfl (lv_at hl 0 rfl) ?_
  refine lv_iload hx hb dL_law_416 (lv_at hl 4 rfl) ?_
  refine lv_iconst (v := 2) hx hb dL_law_418 (by decide) ?_
  refine lv_iadd hx hb dL_law_419 ?_
  refine lv_topi (fun z2 ez2 => ?_)
  obtain rfl : z2 = 2 := ez2.trans (by decide)
  refine va_sld hx hb hX hbl hbA hS (zx_in rfl) dL_law_420 ?_
  refine lv_aload_n hx hb dL_law_421 rfl (lv_at hl 3 rfl) ?_
  have hPc := hP.sub (ws' := [(h0, zX 0 1 v), (o0, .inl (cJ, 1, .inr (.inl f)))]) [0, 11] rfl
  have hDc := hD.sub (ws' := [(h0, zX 0 1 v), (o0, .inl (cJ, 1, .inr (.inl f)))]) [0, 11] (by decide) rfl
  have hKc := hK.sub (tys' := [(cJ, .long)]) [2] rfl
  have hFc := va_free (wc := [(h0, zX 0 1 v), (o0, .inl (cJ, 1, .inr (.inl f)))]) hD hS hA [0, 11] rfl
  refine va_calli (vx_runSW (As := [.ref h0, .int (xs (Int32.toNatClampNeg 1)), .int (xs (Int32.toNatClampNeg 2)), .ref o0]) (rest := []) ⟨hx, hb, hml, hown, hts⟩ (c_L_took l hl9 dC dI h0 o0 cJ f v (xs (Int32.toNatClampNeg 1)) (xs (Int32.toNatClampNeg 2)) H.size) (vx_cwSW 4 hts gL_law_L_took rfl rfl rfl (by decide +kernel) ⟨Nat.le_of_ble_eq_true rfl, Nat.le_of_ble_eq_true rfl⟩) ⟨zx_blind, fun U hU hW => ⟨rfl, zx_go hPc hKc hDc hZ hS hFc hU hW⟩⟩ rfl rfl hl.1 rfl (lv_room (Nat.le_of_ble_eq_true rfl)) dL_law_422 ⟨Nat.le_of_ble_eq_true rfl, Nat.le_of_ble_eq_true rfl⟩) hS (fun q _ h => hFc q h) hFc (fun r u t H1 locs ht hvm hw hB hz1 hk1 hS => ?_)
  obtain ⟨hP1, hK1, hD1⟩ := hB
  rw [ht] at hP1
  have hK1 := va_K.moved hvm.symm hK1
  try dsimp only at hw hP1 hD1 hK1
  obtain ⟨hP, hD⟩ := va_join (wr := [(m0, zM 0 0 1 (.ref k0) (.ref q0) a10 a11), (k0, .inl (cI, 7, .inl (fun _ => 0))), (q0, .inl (cO, 7, .inr (.inr (.inr (.inr (fun i => if i < 7 then some (rr i) else none)))))), (rr 0, .inl (cI, 3, .inl (fun _ => 0))), (rr 1, .inl (cI, 3, .inl (fun _ => 0))), (rr 2, .inl (cI, 3, .inl (fun _ => 0))), (rr 3, .inl (cI, 3, .inl (fun _ => 0))), (rr 4, .inl (cI, 3, .inl (fun _ => 0))), (rr 5, .inl (cI, 3, .inl (fun _ => 0))), (rr 6, .inl (cI, 3, .inl (fun _ => 0)))]) (w1 := []) hP hD [0, 11] [1, 2, 3, 4, 5, 6, 7, 8, 9, 10] rfl rfl (by decide) (by decide) hk1 hFc hP1 hD1
  generalize H1 = H at hP hS ⊢
  have hP : va_P (dC, dI) vwCl [(m0, zM 0 0 1 (.ref k0) (.ref q0) a10 a11), (k0, .inl (cI, 7, .inl (fun _ => 0))), (q0, .inl (cO, 7, .inr (.inr (.inr (.inr (fun i => if i < 7 then some (rr i) else none)))))), (rr 0, .inl (cI, 3, .inl (fun _ => 0))), (rr 1, .inl (cI, 3, .inl (fun _ => 0))), (rr 2, .inl (cI, 3, .inl (fun _ => 0))), (rr 3, .inl (cI, 3, .inl (fun _ => 0))), (rr 4, .inl (cI, 3, .inl (fun _ => 0))), (rr 5, .inl (cI, 3, .inl (fun _ => 0))), (rr 6, .inl (cI, 3, .inl (fun _ => 0)))] H := hP
  have hD : va_D (fun q : Nat => s.heap.size ≤ q) [(m0, zM 0 0 1 (.ref k0) (.ref q0) a10 a11), (k0, .inl (cI, 7, .inl (fun _ => 0))), (q0, .inl (cO, 7, .inr (.inr (.inr (.inr (fun i => if i < 7 then some (rr i) else none)))))), (rr 0, .inl (cI, 3, .inl (fun _ => 0))), (rr 1, .inl (cI, 3, .inl (fun _ => 0))), (rr 2, .inl (cI, 3, .inl (fun _ => 0))), (rr 3, .inl (cI, 3, .inl (fun _ => 0))), (rr 4, .inl (cI, 3, .inl (fun _ => 0))), (rr 5, .inl (cI, 3, .inl (fun _ => 0))), (rr 6, .inl (cI, 3, .inl (fun _ => 0)))] := hD
  refine W.widen (k := 58) (n := 378) (by omega) (by omega) ?_
  subst hw
  refine lv_istore (lv' := [(5, .int 1), (0, .ref b), (1, .ref h0), (2, .ref m0), (3, .ref o0), (4, .int 0)]) hx hb dL_law_425 hl (by decide) rfl (fun ls hl => ?_)
  refine lv_aload_n hx hb dL_law_427 rfl (lv_at hl 3 rfl) ?_
  refine lv_aload_n hx hb dL_law_428 rfl (lv_at hl 1 rfl) ?_
  refine lv_iload hx hb dL_law_429 (lv_at hl 5 rfl) ?_
  refine lv_iconst (v := 1) hx hb dL_law_431 (by decide) ?_
  refine lv_iadd hx hb dL_law_432 ?_
  refine lv_topi (fun z3 ez3 => ?_)
  obtain rfl : z3 = 1 := ez3.trans (by decide)
  refine va_sld hx hb hX hbl hbA hS (zx_in rfl) dL_law_433 ?_
  refine lv_aload_n hx hb dL_law_434 rfl (lv_at hl 1 rfl) ?_
  refine lv_iload hx hb dL_law_435 (lv_at hl 5 rfl) ?_
  refine lv_iconst (v := 2) hx hb dL_law_437 (by decide) ?_
  refine lv_iadd hx hb dL_law_438 ?_
  refine lv_topi (fun z4 ez4 => ?_)
  obtain rfl : z4 = 2 := ez4.trans (by decide)
  refine va_sld hx hb hX hbl hbA hS (zx_in rfl) dL_law_439 ?_
  have hPc := hP.sub (ws' := [(m0, zM 0 0 1 (.ref k0) (.ref q0) a10 a11)]) [0] rfl
  have hDc := hD.sub (ws' := [(m0, zM 0 0 1 (.ref k0) (.ref q0) a10 a11)]) [0] (by decide) rfl
  have hKc := hK.sub (tys' := []) [] rfl
  have hFc := va_free (wc := [(m0, zM 0 0 1 (.ref k0) (.ref q0) a10 a11)]) hD hS hA [0] rfl
  refine va_calli (va_runV (As := [.int (xs (Int32.toNatClampNeg 1)), .int (xs (Int32.toNatClampNeg 2))]) (rest := []) ⟨hx, hb, hml, hown, hts⟩ (c_X1_took l dC dI m0 (xs (Int32.toNatClampNeg 1)) (xs (Int32.toNatClampNeg 2)) (.ref k0) (.ref q0) a10 a11 H.size) (cwV 2 hts gL_law_X1_took rfl rfl rfl (by decide +kernel) ⟨Nat.le_of_ble_eq_true rfl, Nat.le_of_ble_eq_true rfl⟩) ⟨zx_blind, va_recv hKc hPc (ci := 1) (q0 := 0) rfl rfl, fun U hU hW => ⟨rfl, zx_go hPc hKc hDc hZ hS hFc hU hW⟩⟩ rfl rfl hl.1 rfl (lv_room (Nat.le_of_ble_eq_true rfl)) dL_law_440 ⟨Nat.le_of_ble_eq_true rfl, Nat.le_of_ble_eq_true rfl⟩) hS (fun q _ h => hFc q h) hFc (fun r u9 t H1 locs ht hvm hw hB hz1 hk1 hS => ?_)
  obtain ⟨hP1, hK1, hD1⟩ := hB
  rw [ht] at hP1
  have hK1 := va_K.moved hvm.symm hK1
  try dsimp only at hw hP1 hD1 hK1
  obtain ⟨hP, hD⟩ := va_join (wr := [(k0, .inl (cI, 7, .inl (fun _ => 0))), (q0, .inl (cO, 7, .inr (.inr (.inr (.inr (fun i => if i < 7 then some (rr i) else none)))))), (rr 0, .inl (cI, 3, .inl (fun _ => 0))), (rr 1, .inl (cI, 3, .inl (fun _ => 0))), (rr 2, .inl (cI, 3, .inl (fun _ => 0))), (rr 3, .inl (cI, 3, .inl (fun _ => 0))), (rr 4, .inl (cI, 3, .inl (fun _ => 0))), (rr 5, .inl (cI, 3, .inl (fun _ => 0))), (rr 6, .inl (cI, 3, .inl (fun _ => 0)))]) (w1 := [(m0, zM 1 0 1 (.ref k0) (.ref q0) a10 a11)]) hP hD [0] [1, 2, 3, 4, 5, 6, 7, 8, 9] rfl rfl (by decide) (by decide) hk1 hFc hP1 hD1
  generalize H1 = H at hP hS ⊢
  have hP : va_P (dC, dI) vwCl [(k0, .inl (cI, 7, .inl (fun _ => 0))), (q0, .inl (cO, 7, .inr (.inr (.inr (.inr (fun i => if i < 7 then some (rr i) else none)))))), (rr 0, .inl (cI, 3, .inl (fun _ => 0))), (rr 1, .inl (cI, 3, .inl (fun _ => 0))), (rr 2, .inl (cI, 3, .inl (fun _ => 0))), (rr 3, .inl (cI, 3, .inl (fun _ => 0))), (rr 4, .inl (cI, 3, .inl (fun _ => 0))), (rr 5, .inl (cI, 3, .inl (fun _ => 0))), (rr 6, .inl (cI, 3, .inl (fun _ => 0))), (m0, zM 1 0 1 (.ref k0) (.ref q0) a10 a11)] H := hP
  have hD : va_D (fun q : Nat => s.heap.size ≤ q) [(k0, .inl (cI, 7, .inl (fun _ => 0))), (q0, .inl (cO, 7, .inr (.inr (.inr (.inr (fun i => if i < 7 then some (rr i) else none)))))), (rr 0, .inl (cI, 3, .inl (fun _ => 0))), (rr 1, .inl (cI, 3, .inl (fun _ => 0))), (rr 2, .inl (cI, 3, .inl (fun _ => 0))), (rr 3, .inl (cI, 3, .inl (fun _ => 0))), (rr 4, .inl (cI, 3, .inl (fun _ => 0))), (rr 5, .inl (cI, 3, .inl (fun _ => 0))), (rr 6, .inl (cI, 3, .inl (fun _ => 0))), (m0, zM 1 0 1 (.ref k0) (.ref q0) a10 a11)] := hD
  subst hw
  refine lv_istore (lv' := [(6, .int 0), (5, .int 1), (0, .ref b), (1, .ref h0), (2, .ref m0), (3, .ref o0), (4, .int 0)]) hx hb dL_law_443 hl (by decide) rfl (fun ls hl => ?_)
  refine lv_aload_n hx hb dL_law_445 rfl (lv_at hl 4 rfl) ?_
  have hPc := hP.sub (ws' := [(m0, zM 1 0 1 (.ref k0) (.ref q0) a10 a11)]) [9] rfl
  have hDc := hD.sub (ws' := [(m0, zM 1 0 1 (.ref k0) (.ref q0) a10 a11)]) [9] (by decide) rfl
  have hKc := hK.sub (tys' := []) [] rfl
  have hFc := va_free (wc := [(m0, zM 1 0 1 (.ref k0) (.ref q0) a10 a11)]) hD hS hA [9] rfl
  refine va_calli (va_runV (As := []) (rest := []) ⟨hx, hb, hml, hown, hts⟩ (c_X1_thrown l dC dI m0 1 0 1 (.ref k0) (.ref q0) a10 a11 H.size) (cwV 0 hts gL_law_X1_thrown rfl rfl rfl (by decide +kernel) ⟨Nat.le_of_ble_eq_true rfl, Nat.le_of_ble_eq_true rfl⟩) ⟨zx_blind, va_recv hKc hPc (ci := 1) (q0 := 0) rfl rfl, fun U hU hW => ⟨rfl, zx_go hPc hKc hDc hZ hS hFc hU hW⟩⟩ rfl rfl hl.1 rfl (lv_room (Nat.le_of_ble_eq_true rfl)) dL_law_446 ⟨Nat.le_of_ble_eq_true rfl, Nat.le_of_ble_eq_true rfl⟩) hS (fun q _ h => hFc q h) hFc (fun r u8 t H1 locs ht hvm hw hB hz1 hk1 hS => ?_)
  obtain ⟨hP1, hK1, hD1⟩ := hB
  rw [ht] at hP1
  have hK1 := va_K.moved hvm.symm hK1
  try dsimp only at hw hP1 hD1 hK1
  obtain ⟨hP, hD⟩ := va_join (wr := [(k0, .inl (cI, 7, .inl (fun _ => 0))), (q0, .inl (cO, 7, .inr (.inr (.inr (.inr (fun i => if i < 7 then some (rr i) else none)))))), (rr 0, .inl (cI, 3, .inl (fun _ => 0))), (rr 1, .inl (cI, 3, .inl (fun _ => 0))), (rr 2, .inl (cI, 3, .inl (fun _ => 0))), (rr 3, .inl (cI, 3, .inl (fun _ => 0))), (rr 4, .inl (cI, 3, .inl (fun _ => 0))), (rr 5, .inl (cI, 3, .inl (fun _ => 0))), (rr 6, .inl (cI, 3, .inl (fun _ => 0)))]) (w1 := [(m0, zM 1 0 1 (.ref k0) (.ref q0) a10 a11)]) hP hD [9] [0, 1, 2, 3, 4, 5, 6, 7, 8] rfl rfl (by decide) (by decide) hk1 hFc hP1 hD1
  generalize H1 = H at hP hS ⊢
  have hP : va_P (dC, dI) vwCl [(k0, .inl (cI, 7, .inl (fun _ => 0))), (q0, .inl (cO, 7, .inr (.inr (.inr (.inr (fun i => if i < 7 then some (rr i) else none)))))), (rr 0, .inl (cI, 3, .inl (fun _ => 0))), (rr 1, .inl (cI, 3, .inl (fun _ => 0))), (rr 2, .inl (cI, 3, .inl (fun _ => 0))), (rr 3, .inl (cI, 3, .inl (fun _ => 0))), (rr 4, .inl (cI, 3, .inl (fun _ => 0))), (rr 5, .inl (cI, 3, .inl (fun _ => 0))), (rr 6, .inl (cI, 3, .inl (fun _ => 0))), (m0, zM 1 0 1 (.ref k0) (.ref q0) a10 a11)] H := hP
  have hD : va_D (fun q : Nat => s.heap.size ≤ q) [(k0, .inl (cI, 7, .inl (fun _ => 0))), (q0, .inl (cO, 7, .inr (.inr (.inr (.inr (fun i => if i < 7 then some (rr i) else none)))))), (rr 0, .inl (cI, 3, .inl (fun _ => 0))), (rr 1, .inl (cI, 3, .inl (fun _ => 0))), (rr 2, .inl (cI, 3, .inl (fun _ => 0))), (rr 3, .inl (cI, 3, .inl (fun _ => 0))), (rr 4, .inl (cI, 3, .inl (fun _ => 0))), (rr 5, .inl (cI, 3, .inl (fun _ => 0))), (rr 6, .inl (cI, 3, .inl (fun _ => 0))), (m0, zM 1 0 1 (.ref k0) (.ref q0) a10 a11)] := hD
  subst hw
  refine lv_iload hx hb dL_law_449 (lv_at hl 1 rfl) ?_
  refine lv_icmp_eq (tgt := 456) hx hb dL_law_451 (by decide) (fun _ => ?_) (fun c5 => absurd (by decide) c5)
  refine lv_iload hx hb dL_law_456 (lv_at hl 1 rfl) ?_
  refine lv_if_ne (tgt := 473) hx hb dL_law_458 (by decide) (fun _ => ?_) (fun c6 => absurd c6 (by decide))
  refine lv_goto (tgt := 1015) hx hb dL_law_473 (by decide) ?_
  exact law_tail C1 hS (lv_sub hl [2, 6] rfl) (Nat.le_of_ble_eq_true rfl) (Nat.le_of_ble_eq_true rfl)
set_option maxHeartbeats 4000000 in
set_option maxRecDepth 100000 in
theorem law_case_6 {p : Program} {l : Launch} {e : Env} {s : State} {m : MethodId} {below : List Frame} {meth : Method} {c : Code} (hl9 : l.stackTraces = false) {b : Nat} {xs : Nat → Int32} (C0 : lw_At p s m meth c b 4 xs) (hZ : zx_Z (fun q : Nat => s.heap.size ≤ q) s s.heap) {dC : Nat → ClassId} {dI : Nat → Nat → Nat} {h0 m0 o0 k0 q0 : Nat} {v : Nat → Value} {rr : Nat → Nat} {cI cO cJ : ClassId} {a10 a11 : Value} {f : Nat → Int64} {H : Heap} {locs : List Loc} (hK : va_K (dC, dI) vwCl [(cI, .int), (cO, .array .int), (cJ, .long)] s) (hP : va_P (dC, dI) vwCl [(h0, zX 0 1 v), (m0, zM 0 0 1 (.ref k0) (.ref q0) a10 a11), (k0, .inl (cI, 7, .inl (fun _ => 0))), (q0, .inl (cO, 7, .inr (.inr (.inr (.inr (fun i => if i < 7 then some (rr i) else none)))))), (rr 0, .inl (cI, 3, .inl (fun _ => 0))), (rr 1, .inl (cI, 3, .inl (fun _ => 0))), (rr 2, .inl (cI, 3, .inl (fun _ => 0))), (rr 3, .inl (cI, 3, .inl (fun _ => 0))), (rr 4, .inl (cI, 3, .inl (fun _ => 0))), (rr 5, .inl (cI, 3, .inl (fun _ => 0))), (rr 6, .inl (cI, 3, .inl (fun _ => 0))), (o0, .inl (cJ, 1, .inr (.inl f)))] H) (hD : va_D (fun q : Nat => s.heap.size ≤ q) [(h0, zX 0 1 v), (m0, zM 0 0 1 (.ref k0) (.ref q0) a10 a11), (k0, .inl (cI, 7, .inl (fun _ => 0))), (q0, .inl (cO, 7, .inr (.inr (.inr (.inr (fun i => if i < 7 then some (rr i) else none)))))), (rr 0, .inl (cI, 3, .inl (fun _ => 0))), (rr 1, .inl (cI, 3, .inl (fun _ => 0))), (rr 2, .inl (cI, 3, .inl (fun _ => 0))), (rr 3, .inl (cI, 3, .inl (fun _ => 0))), (rr 4, .inl (cI, 3, .inl (fun _ => 0))), (rr 5, .inl (cI, 3, .inl (fun _ => 0))), (rr 6, .inl (cI, 3, .inl (fun _ => 0))), (o0, .inl (cJ, 1, .inr (.inl f)))]) (hS : va_S (fun q : Nat => s.heap.size ≤ q) s.heap H locs) {ls : Array Slot} (hl : lv_has ls 9 [(0, .ref b), (1, .ref h0), (2, .ref m0), (3, .ref o0), (4, .int 0)]) : W p l e room_1 s m #[Value.ref b] below meth c H locs 57 372 (lw_Z below #[Value.ref b] s) (F0 m 476 ls []) := by
  have C1 := C0
  obtain ⟨hx, hb, hr, hml, hown0, hts0, hX, hbl, hlocks, hgv⟩ := C0
  have hown : s.vm.findClass RL = some m.cls := hown0
  have hts : ∀ w ∈ wsL_law, w.before #[Value.ref b] s = true := fun w h => hts0 w (wsL_law_in w h)
  have hA : ∀ q : Nat, s.heap.size ≤ q → (fun q : Nat => s.heap.size ≤ q) q := fun _ h => h
  have hbA : ¬ (fun q : Nat => s.heap.size ≤ q) b := Nat.not_le.mpr hbl
  refine lv_aload_n hx hb dL_law_476 rfl (lv_at hl 1 rfl) ?_
  refine lv_aload_n hx hb dL_law_477 rfl (lv_at hl 0 rfl) ?_
  refine lv_iload hx hb dL_law_478 (lv_at hl 4 rfl) ?_
  refine lv_iconst (v := 1) hx hb dL_law_480 (by decide) ?_
  refine lv_iadd hx hb dL_law_481 ?_
  refine lv_topi (fun z1 ez1 => ?_)
  obtain rfl : z1 = 1 := ez1.trans (by decide)
  refine va_sld hx hb hX hbl hbA hS (zx_in rfl) dL_law_482 ?_
  refine lv_aload_n hx hb dL_law_483 rfl (lv_at hl 3 rfl) ?_
  have hPc := hP.sub (ws' := [(h0, zX 0 1 v), (o0, .inl (cJ, 1, .inr (.inl f)))]) [0, 11] rfl
  have hDc := hD.sub (ws' := [(h0, zX 0 1 v), (o0, .inl (cJ, 1, .inr (.inl f)))]) [0, 11] (by decide) rfl
  have hKc := hK.sub (tys' := [(cJ, .long)]) [2] rfl
  have hFc := va_free (wc := [(h0, zX 0 1 v), (o0, .inl (cJ, 1, .inr (.inl f)))]) hD hS hA [0, 11] rfl
  refine va_calli (vx_runSW (As := [.ref h0, .int (xs (Int32.toNatClampNeg 1)), .ref o0]) (rest := []) ⟨hx, hb, hml, hown, hts⟩ (c_L_count l hl9 dC dI h0 o0 cJ f v (xs (Int32.toNatClampNeg 1)) H.size) (vx_cwSW 3 hts gL_law_L_count rfl rfl rfl (by decide +kernel) ⟨Nat.le_of_ble_eq_true rfl, Nat.le_of_ble_eq_true rfl⟩) ⟨zx_blind, fun U hU hW => ⟨rfl, zx_go hPc hKc hDc hZ hS hFc hU hW⟩⟩ rfl rfl hl.1 rfl (lv_room (Nat.le_of_ble_eq_true rfl)) dL_law_484 ⟨Nat.le_of_ble_eq_true rfl, Nat.le_of_ble_eq_true rfl⟩) hS (fun q _ h => hFc q h) hFc (fun r u t H1 locs ht hvm hw hB hz1 hk1 hS => ?_)
  obtain ⟨hP1, hK1, hD1⟩ := hB
  rw [ht] at hP1
  have hK1 := va_K.moved hvm.symm hK1
  try dsimp only at hw hP1 hD1 hK1
  obtain ⟨hP, hD⟩ := va_join (wr := [(m0, zM 0 0 1 (.ref k0) (.ref q0) a10 a11), (k0, .inl (cI, 7, .inl (fun _ => 0))), (q0, .inl (cO, 7, .inr (.inr (.inr (.inr (fun i => if i < 7 then some (rr i) else none)))))), (rr 0, .inl (cI, 3, .inl (fun _ => 0))), (rr 1, .inl (cI, 3, .inl (fun _ => 0))), (rr 2, .inl (cI, 3, .inl (fun _ => 0))), (rr 3, .inl (cI, 3, .inl (fun _ => 0))), (rr 4, .inl (cI, 3, .inl (fun _ => 0))), (rr 5, .inl (cI, 3, .inl (fun _ => 0))), (rr 6, .inl (cI, 3, .inl (fun _ => 0)))]) (w1 := [(o0, .inl (cJ, 1, .inr (.inl u)))]) hP hD [0, 11] [1, 2, 3, 4, 5, 6, 7, 8, 9, 10] rfl rfl (by decide) (by decide) hk1 hFc hP1 hD1
  generalize H1 = H at hP hS ⊢
  have hP : va_P (dC, dI) vwCl [(m0, zM 0 0 1 (.ref k0) (.ref q0) a10 a11), (k0, .inl (cI, 7, .inl (fun _ => 0))), (q0, .inl (cO, 7, .inr (.inr (.inr (.inr (fun i => if i < 7 then some (rr i) else none)))))), (rr 0, .inl (cI, 3, .inl (fun _ => 0))), (rr 1, .inl (cI, 3, .inl (fun _ => 0))), (rr 2, .inl (cI, 3, .inl (fun _ => 0))), (rr 3, .inl (cI, 3, .inl (fun _ => 0))), (rr 4, .inl (cI, 3, .inl (fun _ => 0))), (rr 5, .inl (cI, 3, .inl (fun _ => 0))), (rr 6, .inl (cI, 3, .inl (fun _ => 0))), (o0, .inl (cJ, 1, .inr (.inl u)))] H := hP
  have hD : va_D (fun q : Nat => s.heap.size ≤ q) [(m0, zM 0 0 1 (.ref k0) (.ref q0) a10 a11), (k0, .inl (cI, 7, .inl (fun _ => 0))), (q0, .inl (cO, 7, .inr (.inr (.inr (.inr (fun i => if i < 7 then some (rr i) else none)))))), (rr 0, .inl (cI, 3, .inl (fun _ => 0))), (rr 1, .inl (cI, 3, .inl (fun _ => 0))), (rr 2, .inl (cI, 3, .inl (fun _ => 0))), (rr 3, .inl (cI, 3, .inl (fun _ => 0))), (rr 4, .inl (cI, 3, .inl (fun _ => 0))), (rr 5, .inl (cI, 3, .inl (fun _ => 0))), (rr 6, .inl (cI, 3, .inl (fun _ => 0))), (o0, .inl (cJ, 1, .inr (.inl u)))] := hD
  refine W.widen (k := 58) (n := 378) (by omega) (by omega) ?_
  rcases hw with ⟨rfl, g1⟩ | ⟨rfl, hu, g1, g2⟩
  · skip
    refine lv_istore (lv' := [(5, .int 1), (0, .ref b), (1, .ref h0), (2, .ref m0), (3, .ref o0), (4, .int 0)]) hx hb dL_law_487 hl (by decide) rfl (fun ls hl => ?_)
    refine lv_aload_n hx hb dL_law_489 rfl (lv_at hl 3 rfl) ?_
    refine lv_aload_n hx hb dL_law_490 rfl (lv_at hl 1 rfl) ?_
    refine lv_iload hx hb dL_law_491 (lv_at hl 5 rfl) ?_
    refine lv_iconst (v := 1) hx hb dL_law_493 (by decide) ?_
    refine lv_iadd hx hb dL_law_494 ?_
    refine lv_topi (fun z2 ez2 => ?_)
    obtain rfl : z2 = 1 := ez2.trans (by decide)
    refine va_sld hx hb hX hbl hbA hS (zx_in rfl) dL_law_495 ?_
    have hPc := hP.sub (ws' := [(m0, zM 0 0 1 (.ref k0) (.ref q0) a10 a11), (k0, .inl (cI, 7, .inl (fun _ => 0)))]) [0, 1] rfl
    have hDc := hD.sub (ws' := [(m0, zM 0 0 1 (.ref k0) (.ref q0) a10 a11), (k0, .inl (cI, 7, .inl (fun _ => 0)))]) [0, 1] (by decide) rfl
    have hKc := hK.sub (tys' := [(cI, .int)]) [0] rfl
    have hFc := va_free (wc := [(m0, zM 0 0 1 (.ref k0) (.ref q0) a10 a11), (k0, .inl (cI, 7, .inl (fun _ => 0)))]) hD hS hA [0, 1] rfl
    refine va_calli (va_runV (As := [.int (xs (Int32.toNatClampNeg 1))]) (rest := []) ⟨hx, hb, hml, hown, hts⟩ (c_X1_count l dC dI m0 k0 cI (xs (Int32.toNatClampNeg 1)) (.ref q0) a10 a11 H.size) (cwV 1 hts gL_law_X1_count rfl rfl rfl (by decide +kernel) ⟨Nat.le_of_ble_eq_true rfl, Nat.le_of_ble_eq_true rfl⟩) ⟨zx_blind, va_recv hKc hPc (ci := 1) (q0 := 0) rfl rfl, fun U hU hW => ⟨rfl, zx_go hPc hKc hDc hZ hS hFc hU hW⟩⟩ rfl rfl hl.1 rfl (lv_room (Nat.le_of_ble_eq_true rfl)) dL_law_496 ⟨Nat.le_of_ble_eq_true rfl, Nat.le_of_ble_eq_true rfl⟩) hS (fun q _ h => hFc q h) hFc (fun r u9 t H1 locs ht hvm hw hB hz1 hk1 hS => ?_)
    obtain ⟨hP1, hK1, hD1⟩ := hB
    rw [ht] at hP1
    have hK1 := va_K.moved hvm.symm hK1
    try dsimp only at hw hP1 hD1 hK1
    obtain ⟨hP, hD⟩ := va_join (wr := [(q0, .inl (cO, 7, .inr (.inr (.inr (.inr (fun i => if i < 7 then some (rr i) else none)))))), (rr 0, .inl (cI, 3, .inl (fun _ => 0))), (rr 1, .inl (cI, 3, .inl (fun _ => 0))), (rr 2, .inl (cI, 3, .inl (fun _ => 0))), (rr 3, .inl (cI, 3, .inl (fun _ => 0))), (rr 4, .inl (cI, 3, .inl (fun _ => 0))), (rr 5, .inl (cI, 3, .inl (fun _ => 0))), (rr 6, .inl (cI, 3, .inl (fun _ => 0))), (o0, .inl (cJ, 1, .inr (.inl u)))]) (w1 := [(m0, zM u9 0 1 (.ref k0) (.ref q0) a10 a11), (k0, .inl (cI, 7, .inl (fun _ => 0)))]) hP hD [0, 1] [2, 3, 4, 5, 6, 7, 8, 9, 10] rfl rfl (by decide) (by decide) hk1 hFc hP1 hD1
    generalize H1 = H at hP hS ⊢
    have hP : va_P (dC, dI) vwCl [(q0, .inl (cO, 7, .inr (.inr (.inr (.inr (fun i => if i < 7 then some (rr i) else none)))))), (rr 0, .inl (cI, 3, .inl (fun _ => 0))), (rr 1, .inl (cI, 3, .inl (fun _ => 0))), (rr 2, .inl (cI, 3, .inl (fun _ => 0))), (rr 3, .inl (cI, 3, .inl (fun _ => 0))), (rr 4, .inl (cI, 3, .inl (fun _ => 0))), (rr 5, .inl (cI, 3, .inl (fun _ => 0))), (rr 6, .inl (cI, 3, .inl (fun _ => 0))), (o0, .inl (cJ, 1, .inr (.inl u))), (m0, zM u9 0 1 (.ref k0) (.ref q0) a10 a11), (k0, .inl (cI, 7, .inl (fun _ => 0)))] H := hP
    have hD : va_D (fun q : Nat => s.heap.size ≤ q) [(q0, .inl (cO, 7, .inr (.inr (.inr (.inr (fun i => if i < 7 then some (rr i) else none)))))), (rr 0, .inl (cI, 3, .inl (fun _ => 0))), (rr 1, .inl (cI, 3, .inl (fun _ => 0))), (rr 2, .inl (cI, 3, .inl (fun _ => 0))), (rr 3, .inl (cI, 3, .inl (fun _ => 0))), (rr 4, .inl (cI, 3, .inl (fun _ => 0))), (rr 5, .inl (cI, 3, .inl (fun _ => 0))), (rr 6, .inl (cI, 3, .inl (fun _ => 0))), (o0, .inl (cJ, 1, .inr (.inl u))), (m0, zM u9 0 1 (.ref k0) (.ref q0) a10 a11), (k0, .inl (cI, 7, .inl (fun _ => 0)))] := hD
    refine W.widen (k := 59) (n := 387) (by omega) (by omega) ?_
    obtain ⟨rfl, rfl, j1⟩ := hw.resolve_right (fun h => g1.elim h.2.2.1 h.2.2.2)
    have hP : va_P (dC, dI) vwCl [(q0, .inl (cO, 7, .inr (.inr (.inr (.inr (fun i => if i < 7 then some (rr i) else none)))))), (rr 0, .inl (cI, 3, .inl (fun _ => 0))), (rr 1, .inl (cI, 3, .inl (fun _ => 0))), (rr 2, .inl (cI, 3, .inl (fun _ => 0))), (rr 3, .inl (cI, 3, .inl (fun _ => 0))), (rr 4, .inl (cI, 3, .inl (fun _ => 0))), (rr 5, .inl (cI, 3, .inl (fun _ => 0))), (rr 6, .inl (cI, 3, .inl (fun _ => 0))), (o0, .inl (cJ, 1, .inr (.inl u))), (m0, zM 1 0 1 (.ref k0) (.ref q0) a10 a11), (k0, .inl (cI, 7, .inl (fun _ => 0)))] H := hP
    have hD : va_D (fun q : Nat => s.heap.size ≤ q) [(q0, .inl (cO, 7, .inr (.inr (.inr (.inr (fun i => if i < 7 then some (rr i) else none)))))), (rr 0, .inl (cI, 3, .inl (fun _ => 0))), (rr 1, .inl (cI, 3, .inl (fun _ => 0))), (rr 2, .inl (cI, 3, .inl (fun _ => 0))), (rr 3, .inl (cI, 3, .inl (fun _ => 0))), (rr 4, .inl (cI, 3, .inl (fun _ => 0))), (rr 5, .inl (cI, 3, .inl (fun _ => 0))), (rr 6, .inl (cI, 3, .inl (fun _ => 0))), (o0, .inl (cJ, 1, .inr (.inl u))), (m0, zM 1 0 1 (.ref k0) (.ref q0) a10 a11), (k0, .inl (cI, 7, .inl (fun _ => 0)))] := hD
    refine lv_istore (lv' := [(6, .int 0), (5, .int 1), (0, .ref b), (1, .ref h0), (2, .ref m0), (3, .ref o0), (4, .int 0)]) hx hb dL_law_499 hl (by decide) rfl (fun ls hl => ?_)
    refine lv_aload_n hx hb dL_law_501 rfl (lv_at hl 4 rfl) ?_
    have hPc := hP.sub (ws' := [(m0, zM 1 0 1 (.ref k0) (.ref q0) a10 a11)]) [9] rfl
    have hDc := hD.sub (ws' := [(m0, zM 1 0 1 (.ref k0) (.ref q0) a10 a11)]) [9] (by decide) rfl
    have hKc := hK.sub (tys' := []) [] rfl
    have hFc := va_free (wc := [(m0, zM 1 0 1 (.ref k0) (.ref q0) a10 a11)]) hD hS hA [9] rfl
    refine va_calli (va_runV (As := []) (rest := []) ⟨hx, hb, hml, hown, hts⟩ (c_X1_thrown l dC dI m0 1 0 1 (.ref k0) (.ref q0) a10 a11 H.size) (cwV 0 hts gL_law_X1_thrown rfl rfl rfl (by decide +kernel) ⟨Nat.le_of_ble_eq_true rfl, Nat.le_of_ble_eq_true rfl⟩) ⟨zx_blind, va_recv hKc hPc (ci := 1) (q0 := 0) rfl rfl, fun U hU hW => ⟨rfl, zx_go hPc hKc hDc hZ hS hFc hU hW⟩⟩ rfl rfl hl.1 rfl (lv_room (Nat.le_of_ble_eq_true rfl)) dL_law_502 ⟨Nat.le_of_ble_eq_true rfl, Nat.le_of_ble_eq_true rfl⟩) hS (fun q _ h => hFc q h) hFc (fun r u8 t H1 locs ht hvm hw hB hz1 hk1 hS => ?_)
    obtain ⟨hP1, hK1, hD1⟩ := hB
    rw [ht] at hP1
    have hK1 := va_K.moved hvm.symm hK1
    try dsimp only at hw hP1 hD1 hK1
    obtain ⟨hP, hD⟩ := va_join (wr := [(q0, .inl (cO, 7, .inr (.inr (.inr (.inr (fun i => if i < 7 then some (rr i) else none)))))), (rr 0, .inl (cI, 3, .inl (fun _ => 0))), (rr 1, .inl (cI, 3, .inl (fun _ => 0))), (rr 2, .inl (cI, 3, .inl (fun _ => 0))), (rr 3, .inl (cI, 3, .inl (fun _ => 0))), (rr 4, .inl (cI, 3, .inl (fun _ => 0))), (rr 5, .inl (cI, 3, .inl (fun _ => 0))), (rr 6, .inl (cI, 3, .inl (fun _ => 0))), (o0, .inl (cJ, 1, .inr (.inl u))), (k0, .inl (cI, 7, .inl (fun _ => 0)))]) (w1 := [(m0, zM 1 0 1 (.ref k0) (.ref q0) a10 a11)]) hP hD [9] [0, 1, 2, 3, 4, 5, 6, 7, 8, 10] rfl rfl (by decide) (by decide) hk1 hFc hP1 hD1
    generalize H1 = H at hP hS ⊢
    have hP : va_P (dC, dI) vwCl [(q0, .inl (cO, 7, .inr (.inr (.inr (.inr (fun i => if i < 7 then some (rr i) else none)))))), (rr 0, .inl (cI, 3, .inl (fun _ => 0))), (rr 1, .inl (cI, 3, .inl (fun _ => 0))), (rr 2, .inl (cI, 3, .inl (fun _ => 0))), (rr 3, .inl (cI, 3, .inl (fun _ => 0))), (rr 4, .inl (cI, 3, .inl (fun _ => 0))), (rr 5, .inl (cI, 3, .inl (fun _ => 0))), (rr 6, .inl (cI, 3, .inl (fun _ => 0))), (o0, .inl (cJ, 1, .inr (.inl u))), (k0, .inl (cI, 7, .inl (fun _ => 0))), (m0, zM 1 0 1 (.ref k0) (.ref q0) a10 a11)] H := hP
    have hD : va_D (fun q : Nat => s.heap.size ≤ q) [(q0, .inl (cO, 7, .inr (.inr (.inr (.inr (fun i => if i < 7 then some (rr i) else none)))))), (rr 0, .inl (cI, 3, .inl (fun _ => 0))), (rr 1, .inl (cI, 3, .inl (fun _ => 0))), (rr 2, .inl (cI, 3, .inl (fun _ => 0))), (rr 3, .inl (cI, 3, .inl (fun _ => 0))), (rr 4, .inl (cI, 3, .inl (fun _ => 0))), (rr 5, .inl (cI, 3, .inl (fun _ => 0))), (rr 6, .inl (cI, 3, .inl (fun _ => 0))), (o0, .inl (cJ, 1, .inr (.inl u))), (k0, .inl (cI, 7, .inl (fun _ => 0))), (m0, zM 1 0 1 (.ref k0) (.ref q0) a10 a11)] := hD
    subst hw
    refine lv_iload hx hb dL_law_505 (lv_at hl 1 rfl) ?_
    refine lv_icmp_eq (tgt := 512) hx hb dL_law_507 (by decide) (fun _ => ?_) (fun c3 => absurd (by decide) c3)
    refine lv_iload hx hb dL_law_512 (lv_at hl 1 rfl) ?_
    refine lv_if_ne (tgt := 529) hx hb dL_law_514 (by decide) (fun _ => ?_) (fun c4 => absurd c4 (by decide))
    refine lv_goto (tgt := 1015) hx hb dL_law_529 (by decide) ?_
    exact law_tail C1 hS (lv_sub hl [2, 6] rfl) (Nat.le_of_ble_eq_true rfl) (Nat.le_of_ble_eq_true rfl)
  · skip
    refine lv_istore (lv' := [(5, .int 0), (0, .ref b), (1, .ref h0), (2, .ref m0), (3, .ref o0), (4, .int 0)]) hx hb dL_law_487 hl (by decide) rfl (fun ls hl => ?_)
    refine lv_aload_n hx hb dL_law_489 rfl (lv_at hl 3 rfl) ?_
    refine lv_aload_n hx hb dL_law_490 rfl (lv_at hl 1 rfl) ?_
    refine lv_iload hx hb dL_law_491 (lv_at hl 5 rfl) ?_
    refine lv_iconst (v := 1) hx hb dL_law_493 (by decide) ?_
    refine lv_iadd hx hb dL_law_494 ?_
    refine lv_topi (fun z5 ez5 => ?_)
    obtain rfl : z5 = 1 := ez5.trans (by decide)
    refine va_sld hx hb hX hbl hbA hS (zx_in rfl) dL_law_495 ?_
    have hPc := hP.sub (ws' := [(m0, zM 0 0 1 (.ref k0) (.ref q0) a10 a11), (k0, .inl (cI, 7, .inl (fun _ => 0)))]) [0, 1] rfl
    have hDc := hD.sub (ws' := [(m0, zM 0 0 1 (.ref k0) (.ref q0) a10 a11), (k0, .inl (cI, 7, .inl (fun _ => 0)))]) [0, 1] (by decide) rfl
    have hKc := hK.sub (tys' := [(cI, .int)]) [0] rfl
    have hFc := va_free (wc := [(m0, zM 0 0 1 (.ref k0) (.ref q0) a10 a11), (k0, .inl (cI, 7, .inl (fun _ => 0)))]) hD hS hA [0, 1] rfl
    refine va_calli (va_runV (As := [.int (xs (Int32.toNatClampNeg 1))]) (rest := []) ⟨hx, hb, hml, hown, hts⟩ (c_X1_count l dC dI m0 k0 cI (xs (Int32.toNatClampNeg 1)) (.ref q0) a10 a11 H.size) (cwV 1 hts gL_law_X1_count rfl rfl rfl (by decide +kernel) ⟨Nat.le_of_ble_eq_true rfl, Nat.le_of_ble_eq_true rfl⟩) ⟨zx_blind, va_recv hKc hPc (ci := 1) (q0 := 0) rfl rfl, fun U hU hW => ⟨rfl, zx_go hPc hKc hDc hZ hS hFc hU hW⟩⟩ rfl rfl hl.1 rfl (lv_room (Nat.le_of_ble_eq_true rfl)) dL_law_496 ⟨Nat.le_of_ble_eq_true rfl, Nat.le_of_ble_eq_true rfl⟩) hS (fun q _ h => hFc q h) hFc (fun r u9 t H1 locs ht hvm hw hB hz1 hk1 hS => ?_)
    obtain ⟨hP1, hK1, hD1⟩ := hB
    rw [ht] at hP1
    have hK1 := va_K.moved hvm.symm hK1
    try dsimp only at hw hP1 hD1 hK1
    obtain ⟨hP, hD⟩ := va_join (wr := [(q0, .inl (cO, 7, .inr (.inr (.inr (.inr (fun i => if i < 7 then some (rr i) else none)))))), (rr 0, .inl (cI, 3, .inl (fun _ => 0))), (rr 1, .inl (cI, 3, .inl (fun _ => 0))), (rr 2, .inl (cI, 3, .inl (fun _ => 0))), (rr 3, .inl (cI, 3, .inl (fun _ => 0))), (rr 4, .inl (cI, 3, .inl (fun _ => 0))), (rr 5, .inl (cI, 3, .inl (fun _ => 0))), (rr 6, .inl (cI, 3, .inl (fun _ => 0))), (o0, .inl (cJ, 1, .inr (.inl u)))]) (w1 := [(m0, zM u9 0 1 (.ref k0) (.ref q0) a10 a11), (k0, .inl (cI, 7, .inl (fun _ => 0)))]) hP hD [0, 1] [2, 3, 4, 5, 6, 7, 8, 9, 10] rfl rfl (by decide) (by decide) hk1 hFc hP1 hD1
    generalize H1 = H at hP hS ⊢
    have hP : va_P (dC, dI) vwCl [(q0, .inl (cO, 7, .inr (.inr (.inr (.inr (fun i => if i < 7 then some (rr i) else none)))))), (rr 0, .inl (cI, 3, .inl (fun _ => 0))), (rr 1, .inl (cI, 3, .inl (fun _ => 0))), (rr 2, .inl (cI, 3, .inl (fun _ => 0))), (rr 3, .inl (cI, 3, .inl (fun _ => 0))), (rr 4, .inl (cI, 3, .inl (fun _ => 0))), (rr 5, .inl (cI, 3, .inl (fun _ => 0))), (rr 6, .inl (cI, 3, .inl (fun _ => 0))), (o0, .inl (cJ, 1, .inr (.inl u))), (m0, zM u9 0 1 (.ref k0) (.ref q0) a10 a11), (k0, .inl (cI, 7, .inl (fun _ => 0)))] H := hP
    have hD : va_D (fun q : Nat => s.heap.size ≤ q) [(q0, .inl (cO, 7, .inr (.inr (.inr (.inr (fun i => if i < 7 then some (rr i) else none)))))), (rr 0, .inl (cI, 3, .inl (fun _ => 0))), (rr 1, .inl (cI, 3, .inl (fun _ => 0))), (rr 2, .inl (cI, 3, .inl (fun _ => 0))), (rr 3, .inl (cI, 3, .inl (fun _ => 0))), (rr 4, .inl (cI, 3, .inl (fun _ => 0))), (rr 5, .inl (cI, 3, .inl (fun _ => 0))), (rr 6, .inl (cI, 3, .inl (fun _ => 0))), (o0, .inl (cJ, 1, .inr (.inl u))), (m0, zM u9 0 1 (.ref k0) (.ref q0) a10 a11), (k0, .inl (cI, 7, .inl (fun _ => 0)))] := hD
    refine W.widen (k := 59) (n := 387) (by omega) (by omega) ?_
    obtain ⟨rfl, rfl, j1, j2⟩ := hw.resolve_left (fun h => h.2.2.elim g1 g2)
    have hP : va_P (dC, dI) vwCl [(q0, .inl (cO, 7, .inr (.inr (.inr (.inr (fun i => if i < 7 then some (rr i) else none)))))), (rr 0, .inl (cI, 3, .inl (fun _ => 0))), (rr 1, .inl (cI, 3, .inl (fun _ => 0))), (rr 2, .inl (cI, 3, .inl (fun _ => 0))), (rr 3, .inl (cI, 3, .inl (fun _ => 0))), (rr 4, .inl (cI, 3, .inl (fun _ => 0))), (rr 5, .inl (cI, 3, .inl (fun _ => 0))), (rr 6, .inl (cI, 3, .inl (fun _ => 0))), (o0, .inl (cJ, 1, .inr (.inl u))), (m0, zM 0 0 1 (.ref k0) (.ref q0) a10 a11), (k0, .inl (cI, 7, .inl (fun _ => 0)))] H := hP
    have hD : va_D (fun q : Nat => s.heap.size ≤ q) [(q0, .inl (cO, 7, .inr (.inr (.inr (.inr (fun i => if i < 7 then some (rr i) else none)))))), (rr 0, .inl (cI, 3, .inl (fun _ => 0))), (rr 1, .inl (cI, 3, .inl (fun _ => 0))), (rr 2, .inl (cI, 3, .inl (fun _ => 0))), (rr 3, .inl (cI, 3, .inl (fun _ => 0))), (rr 4, .inl (cI, 3, .inl (fun _ => 0))), (rr 5, .inl (cI, 3, .inl (fun _ => 0))), (rr 6, .inl (cI, 3, .inl (fun _ => 0))), (o0, .inl (cJ, 1, .inr (.inl u))), (m0, zM 0 0 1 (.ref k0) (.ref q0) a10 a11), (k0, .inl (cI, 7, .inl (fun _ => 0)))] := hD
    refine lv_istore (lv' := [(6, .int (zx_c (xs (Int32.toNatClampNeg 1)))), (5, .int 0), (0, .ref b), (1, .ref h0), (2, .ref m0), (3, .ref o0), (4, .int 0)]) hx hb dL_law_499 hl (by decide) rfl (fun ls hl => ?_)
    refine lv_aload_n hx hb dL_law_501 rfl (lv_at hl 4 rfl) ?_
    have hPc := hP.sub (ws' := [(m0, zM 0 0 1 (.ref k0) (.ref q0) a10 a11)]) [9] rfl
    have hDc := hD.sub (ws' := [(m0, zM 0 0 1 (.ref k0) (.ref q0) a10 a11)]) [9] (by decide) rfl
    have hKc := hK.sub (tys' := []) [] rfl
    have hFc := va_free (wc := [(m0, zM 0 0 1 (.ref k0) (.ref q0) a10 a11)]) hD hS hA [9] rfl
    refine va_calli (va_runV (As := []) (rest := []) ⟨hx, hb, hml, hown, hts⟩ (c_X1_thrown l dC dI m0 0 0 1 (.ref k0) (.ref q0) a10 a11 H.size) (cwV 0 hts gL_law_X1_thrown rfl rfl rfl (by decide +kernel) ⟨Nat.le_of_ble_eq_true rfl, Nat.le_of_ble_eq_true rfl⟩) ⟨zx_blind, va_recv hKc hPc (ci := 1) (q0 := 0) rfl rfl, fun U hU hW => ⟨rfl, zx_go hPc hKc hDc hZ hS hFc hU hW⟩⟩ rfl rfl hl.1 rfl (lv_room (Nat.le_of_ble_eq_true rfl)) dL_law_502 ⟨Nat.le_of_ble_eq_true rfl, Nat.le_of_ble_eq_true rfl⟩) hS (fun q _ h => hFc q h) hFc (fun r u8 t H1 locs ht hvm hw hB hz1 hk1 hS => ?_)
    obtain ⟨hP1, hK1, hD1⟩ := hB
    rw [ht] at hP1
    have hK1 := va_K.moved hvm.symm hK1
    try dsimp only at hw hP1 hD1 hK1
    obtain ⟨hP, hD⟩ := va_join (wr := [(q0, .inl (cO, 7, .inr (.inr (.inr (.inr (fun i => if i < 7 then some (rr i) else none)))))), (rr 0, .inl (cI, 3, .inl (fun _ => 0))), (rr 1, .inl (cI, 3, .inl (fun _ => 0))), (rr 2, .inl (cI, 3, .inl (fun _ => 0))), (rr 3, .inl (cI, 3, .inl (fun _ => 0))), (rr 4, .inl (cI, 3, .inl (fun _ => 0))), (rr 5, .inl (cI, 3, .inl (fun _ => 0))), (rr 6, .inl (cI, 3, .inl (fun _ => 0))), (o0, .inl (cJ, 1, .inr (.inl u))), (k0, .inl (cI, 7, .inl (fun _ => 0)))]) (w1 := [(m0, zM 0 0 1 (.ref k0) (.ref q0) a10 a11)]) hP hD [9] [0, 1, 2, 3, 4, 5, 6, 7, 8, 10] rfl rfl (by decide) (by decide) hk1 hFc hP1 hD1
    generalize H1 = H at hP hS ⊢
    have hP : va_P (dC, dI) vwCl [(q0, .inl (cO, 7, .inr (.inr (.inr (.inr (fun i => if i < 7 then some (rr i) else none)))))), (rr 0, .inl (cI, 3, .inl (fun _ => 0))), (rr 1, .inl (cI, 3, .inl (fun _ => 0))), (rr 2, .inl (cI, 3, .inl (fun _ => 0))), (rr 3, .inl (cI, 3, .inl (fun _ => 0))), (rr 4, .inl (cI, 3, .inl (fun _ => 0))), (rr 5, .inl (cI, 3, .inl (fun _ => 0))), (rr 6, .inl (cI, 3, .inl (fun _ => 0))), (o0, .inl (cJ, 1, .inr (.inl u))), (k0, .inl (cI, 7, .inl (fun _ => 0))), (m0, zM 0 0 1 (.ref k0) (.ref q0) a10 a11)] H := hP
    have hD : va_D (fun q : Nat => s.heap.size ≤ q) [(q0, .inl (cO, 7, .inr (.inr (.inr (.inr (fun i => if i < 7 then some (rr i) else none)))))), (rr 0, .inl (cI, 3, .inl (fun _ => 0))), (rr 1, .inl (cI, 3, .inl (fun _ => 0))), (rr 2, .inl (cI, 3, .inl (fun _ => 0))), (rr 3, .inl (cI, 3, .inl (fun _ => 0))), (rr 4, .inl (cI, 3, .inl (fun _ => 0))), (rr 5, .inl (cI, 3, .inl (fun _ => 0))), (rr 6, .inl (cI, 3, .inl (fun _ => 0))), (o0, .inl (cJ, 1, .inr (.inl u))), (k0, .inl (cI, 7, .inl (fun _ => 0))), (m0, zM 0 0 1 (.ref k0) (.ref q0) a10 a11)] := hD
    subst hw
    refine lv_iload hx hb dL_law_505 (lv_at hl 1 rfl) ?_
    refine lv_icmp_eq (tgt := 512) hx hb dL_law_507 (by decide) (fun _ => ?_) (fun c6 => absurd (by decide) c6)
    refine lv_iload hx hb dL_law_512 (lv_at hl 1 rfl) ?_
    refine lv_if_ne (tgt := 529) hx hb dL_law_514 (by decide) (fun c7 => absurd c7 (by decide)) (fun _ => ?_)
    refine lv_aload_n hx hb dL_law_517 rfl (lv_at hl 5 rfl) ?_
    refine lv_iconst (v := 0) hx hb dL_law_518 (by decide) ?_
    refine va_lald hx hb hK hP 8 2 rfl rfl (zx_in rfl) dL_law_519 ?_
    refine lv_topl (fun zl ezl => ?_)
    obtain rfl : zl = (zx_c (xs (Int32.toNatClampNeg 1))).toInt64 := ezl.trans hu
    refine lv_iload hx hb dL_law_520 (lv_at hl 0 rfl) ?_
    refine lv_i2l hx hb dL_law_522 rfl ?_
    refine W.lcmp hx hb dL_law_523 ?_
    refine lv_topi (fun z8 ez8 => ?_)
    obtain rfl : z8 = 0 := ez8.trans (zx_cmp _)
    refine lv_if_eq (tgt := 529) hx hb dL_law_524 (by decide) (fun _ => ?_) (fun c9 => absurd (by decide) c9)
    refine lv_goto (tgt := 1015) hx hb dL_law_529 (by decide) ?_
    exact law_tail C1 hS (lv_sub hl [2, 6] rfl) (Nat.le_of_ble_eq_true rfl) (Nat.le_of_ble_eq_true rfl)
set_option maxHeartbeats 4000000 in
set_option maxRecDepth 100000 in
theorem law_case_7 {p : Program} {l : Launch} {e : Env} {s : State} {m : MethodId} {below : List Frame} {meth : Method} {c : Code} (hl9 : l.stackTraces = false) {b : Nat} {xs : Nat → Int32} (C0 : lw_At p s m meth c b 4 xs) (hZ : zx_Z (fun q : Nat => s.heap.size ≤ q) s s.heap) {dC : Nat → ClassId} {dI : Nat → Nat → Nat} {h0 m0 o0 k0 q0 : Nat} {v : Nat → Value} {rr : Nat → Nat} {cI cO cJ : ClassId} {a10 a11 : Value} {f : Nat → Int64} {H : Heap} {locs : List Loc} (hK : va_K (dC, dI) vwCl [(cI, .int), (cO, .array .int), (cJ, .long)] s) (hP : va_P (dC, dI) vwCl [(h0, zX 0 1 v), (m0, zM 0 0 1 (.ref k0) (.ref q0) a10 a11), (k0, .inl (cI, 7, .inl (fun _ => 0))), (q0, .inl (cO, 7, .inr (.inr (.inr (.inr (fun i => if i < 7 then some (rr i) else none)))))), (rr 0, .inl (cI, 3, .inl (fun _ => 0))), (rr 1, .inl (cI, 3, .inl (fun _ => 0))), (rr 2, .inl (cI, 3, .inl (fun _ => 0))), (rr 3, .inl (cI, 3, .inl (fun _ => 0))), (rr 4, .inl (cI, 3, .inl (fun _ => 0))), (rr 5, .inl (cI, 3, .inl (fun _ => 0))), (rr 6, .inl (cI, 3, .inl (fun _ => 0))), (o0, .inl (cJ, 1, .inr (.inl f)))] H) (hD : va_D (fun q : Nat => s.heap.size ≤ q) [(h0, zX 0 1 v), (m0, zM 0 0 1 (.ref k0) (.ref q0) a10 a11), (k0, .inl (cI, 7, .inl (fun _ => 0))), (q0, .inl (cO, 7, .inr (.inr (.inr (.inr (fun i => if i < 7 then some (rr i) else none)))))), (rr 0, .inl (cI, 3, .inl (fun _ => 0))), (rr 1, .inl (cI, 3, .inl (fun _ => 0))), (rr 2, .inl (cI, 3, .inl (fun _ => 0))), (rr 3, .inl (cI, 3, .inl (fun _ => 0))), (rr 4, .inl (cI, 3, .inl (fun _ => 0))), (rr 5, .inl (cI, 3, .inl (fun _ => 0))), (rr 6, .inl (cI, 3, .inl (fun _ => 0))), (o0, .inl (cJ, 1, .inr (.inl f)))]) (hS : va_S (fun q : Nat => s.heap.size ≤ q) s.heap H locs) {ls : Array Slot} (hl : lv_has ls 9 [(0, .ref b), (1, .ref h0), (2, .ref m0), (3, .ref o0), (4, .int 0)]) : W p l e room_1 s m #[Value.ref b] below meth c H locs 57 372 (lw_Z below #[Value.ref b] s) (F0 m 532 ls []) := by
  have C1 := C0
  obtain ⟨hx, hb, hr, hml, hown0, hts0, hX, hbl, hlocks, hgv⟩ := C0
  have hown : s.vm.findClass RL = some m.cls := hown0
  have hts : ∀ w ∈ wsL_law, w.before #[Value.ref b] s = true := fun w h => hts0 w (wsL_law_in w h)
  have hA : ∀ q : Nat, s.heap.size ≤ q → (fun q : Nat => s.heap.size ≤ q) q := fun _ h => h
  have hbA : ¬ (fun q : Nat => s.heap.size ≤ q) b := Nat.not_le.mpr hbl
  refine lv_aload_n hx hb dL_law_532 rfl (lv_at hl 1 rfl) ?_
  refine lv_aload_n hx hb dL_law_533 rfl (lv_at hl 0 rfl) ?_
  refine lv_iload hx hb dL_law_534 (lv_at hl 4 rfl) ?_
  refine lv_iconst (v := 1) hx hb dL_law_536 (by decide) ?_
  refine lv_iadd hx hb dL_law_537 ?_
  refine lv_topi (fun z1 ez1 => ?_)
  obtain rfl : z1 = 1 := ez1.trans (by decide)
  refine va_sld hx hb hX hbl hbA hS (zx_in rfl) dL_law_538 ?_
  refine lv_aload_n hx hb dL_law_539 rfl (lv_at hl 0 rfl) ?_
  refine lv_iload hx hb dL_law_540 (lv_at hl 4 rfl) ?_
  refine lv_iconst (v := 2) hx hb dL_law_542 (by decide) ?_
  refine lv_iadd hx hb dL_law_543 ?_
  refine lv_topi (fun z2 ez2 => ?_)
  obtain rfl : z2 = 2 := ez2.trans (by decide)
  refine va_sld hx hb hX hbl hbA hS (zx_in rfl) dL_law_544 ?_
  refine lv_aload_n hx hb dL_law_545 rfl (lv_at hl 3 rfl) ?_
  have hPc := hP.sub (ws' := [(h0, zX 0 1 v), (o0, .inl (cJ, 1, .inr (.inl f)))]) [0, 11] rfl
  have hDc := hD.sub (ws' := [(h0, zX 0 1 v), (o0, .inl (cJ, 1, .inr (.inl f)))]) [0, 11] (by decide) rfl
  have hKc := hK.sub (tys' := [(cJ, .long)]) [2] rfl
  have hFc := va_free (wc := [(h0, zX 0 1 v), (o0, .inl (cJ, 1, .inr (.inl f)))]) hD hS hA [0, 11] rfl
  refine va_calli (vx_runSW (As := [.ref h0, .int (xs (Int32.toNatClampNeg 1)), .int (xs (Int32.toNatClampNeg 2)), .ref o0]) (rest := []) ⟨hx, hb, hml, hown, hts⟩ (c_L_told l hl9 dC dI h0 o0 cJ f v (xs (Int32.toNatClampNeg 1)) (xs (Int32.toNatClampNeg 2)) H.size) (vx_cwSW 4 hts gL_law_L_told rfl rfl rfl (by decide +kernel) ⟨Nat.le_of_ble_eq_true rfl, Nat.le_of_ble_eq_true rfl⟩) ⟨zx_blind, fun U hU hW => ⟨rfl, zx_go hPc hKc hDc hZ hS hFc hU hW⟩⟩ rfl rfl hl.1 rfl (lv_room (Nat.le_of_ble_eq_true rfl)) dL_law_546 ⟨Nat.le_of_ble_eq_true rfl, Nat.le_of_ble_eq_true rfl⟩) hS (fun q _ h => hFc q h) hFc (fun r u t H1 locs ht hvm hw hB hz1 hk1 hS => ?_)
  obtain ⟨hP1, hK1, hD1⟩ := hB
  rw [ht] at hP1
  have hK1 := va_K.moved hvm.symm hK1
  try dsimp only at hw hP1 hD1 hK1
  obtain ⟨hP, hD⟩ := va_join (wr := [(m0, zM 0 0 1 (.ref k0) (.ref q0) a10 a11), (k0, .inl (cI, 7, .inl (fun _ => 0))), (q0, .inl (cO, 7, .inr (.inr (.inr (.inr (fun i => if i < 7 then some (rr i) else none)))))), (rr 0, .inl (cI, 3, .inl (fun _ => 0))), (rr 1, .inl (cI, 3, .inl (fun _ => 0))), (rr 2, .inl (cI, 3, .inl (fun _ => 0))), (rr 3, .inl (cI, 3, .inl (fun _ => 0))), (rr 4, .inl (cI, 3, .inl (fun _ => 0))), (rr 5, .inl (cI, 3, .inl (fun _ => 0))), (rr 6, .inl (cI, 3, .inl (fun _ => 0)))]) (w1 := []) hP hD [0, 11] [1, 2, 3, 4, 5, 6, 7, 8, 9, 10] rfl rfl (by decide) (by decide) hk1 hFc hP1 hD1
  generalize H1 = H at hP hS ⊢
  have hP : va_P (dC, dI) vwCl [(m0, zM 0 0 1 (.ref k0) (.ref q0) a10 a11), (k0, .inl (cI, 7, .inl (fun _ => 0))), (q0, .inl (cO, 7, .inr (.inr (.inr (.inr (fun i => if i < 7 then some (rr i) else none)))))), (rr 0, .inl (cI, 3, .inl (fun _ => 0))), (rr 1, .inl (cI, 3, .inl (fun _ => 0))), (rr 2, .inl (cI, 3, .inl (fun _ => 0))), (rr 3, .inl (cI, 3, .inl (fun _ => 0))), (rr 4, .inl (cI, 3, .inl (fun _ => 0))), (rr 5, .inl (cI, 3, .inl (fun _ => 0))), (rr 6, .inl (cI, 3, .inl (fun _ => 0)))] H := hP
  have hD : va_D (fun q : Nat => s.heap.size ≤ q) [(m0, zM 0 0 1 (.ref k0) (.ref q0) a10 a11), (k0, .inl (cI, 7, .inl (fun _ => 0))), (q0, .inl (cO, 7, .inr (.inr (.inr (.inr (fun i => if i < 7 then some (rr i) else none)))))), (rr 0, .inl (cI, 3, .inl (fun _ => 0))), (rr 1, .inl (cI, 3, .inl (fun _ => 0))), (rr 2, .inl (cI, 3, .inl (fun _ => 0))), (rr 3, .inl (cI, 3, .inl (fun _ => 0))), (rr 4, .inl (cI, 3, .inl (fun _ => 0))), (rr 5, .inl (cI, 3, .inl (fun _ => 0))), (rr 6, .inl (cI, 3, .inl (fun _ => 0)))] := hD
  refine W.widen (k := 58) (n := 378) (by omega) (by omega) ?_
  subst hw
  refine lv_istore (lv' := [(5, .int 1), (0, .ref b), (1, .ref h0), (2, .ref m0), (3, .ref o0), (4, .int 0)]) hx hb dL_law_549 hl (by decide) rfl (fun ls hl => ?_)
  refine lv_aload_n hx hb dL_law_551 rfl (lv_at hl 3 rfl) ?_
  refine lv_aload_n hx hb dL_law_552 rfl (lv_at hl 1 rfl) ?_
  refine lv_iload hx hb dL_law_553 (lv_at hl 5 rfl) ?_
  refine lv_iconst (v := 1) hx hb dL_law_555 (by decide) ?_
  refine lv_iadd hx hb dL_law_556 ?_
  refine lv_topi (fun z3 ez3 => ?_)
  obtain rfl : z3 = 1 := ez3.trans (by decide)
  refine va_sld hx hb hX hbl hbA hS (zx_in rfl) dL_law_557 ?_
  refine lv_aload_n hx hb dL_law_558 rfl (lv_at hl 1 rfl) ?_
  refine lv_iload hx hb dL_law_559 (lv_at hl 5 rfl) ?_
  refine lv_iconst (v := 2) hx hb dL_law_561 (by decide) ?_
  refine lv_iadd hx hb dL_law_562 ?_
  refine lv_topi (fun z4 ez4 => ?_)
  obtain rfl : z4 = 2 := ez4.trans (by decide)
  refine va_sld hx hb hX hbl hbA hS (zx_in rfl) dL_law_563 ?_
  have hPc := hP.sub (ws' := [(m0, zM 0 0 1 (.ref k0) (.ref q0) a10 a11)]) [0] rfl
  have hDc := hD.sub (ws' := [(m0, zM 0 0 1 (.ref k0) (.ref q0) a10 a11)]) [0] (by decide) rfl
  have hKc := hK.sub (tys' := []) [] rfl
  have hFc := va_free (wc := [(m0, zM 0 0 1 (.ref k0) (.ref q0) a10 a11)]) hD hS hA [0] rfl
  refine va_calli (va_runV (As := [.int (xs (Int32.toNatClampNeg 1)), .int (xs (Int32.toNatClampNeg 2))]) (rest := []) ⟨hx, hb, hml, hown, hts⟩ (c_X1_told l dC dI m0 (xs (Int32.toNatClampNeg 1)) (xs (Int32.toNatClampNeg 2)) (.ref k0) (.ref q0) a10 a11 H.size) (cwV 2 hts gL_law_X1_told rfl rfl rfl (by decide +kernel) ⟨Nat.le_of_ble_eq_true rfl, Nat.le_of_ble_eq_true rfl⟩) ⟨zx_blind, va_recv hKc hPc (ci := 1) (q0 := 0) rfl rfl, fun U hU hW => ⟨rfl, zx_go hPc hKc hDc hZ hS hFc hU hW⟩⟩ rfl rfl hl.1 rfl (lv_room (Nat.le_of_ble_eq_true rfl)) dL_law_564 ⟨Nat.le_of_ble_eq_true rfl, Nat.le_of_ble_eq_true rfl⟩) hS (fun q _ h => hFc q h) hFc (fun r u9 t H1 locs ht hvm hw hB hz1 hk1 hS => ?_)
  obtain ⟨hP1, hK1, hD1⟩ := hB
  rw [ht] at hP1
  have hK1 := va_K.moved hvm.symm hK1
  try dsimp only at hw hP1 hD1 hK1
  obtain ⟨hP, hD⟩ := va_join (wr := [(k0, .inl (cI, 7, .inl (fun _ => 0))), (q0, .inl (cO, 7, .inr (.inr (.inr (.inr (fun i => if i < 7 then some (rr i) else none)))))), (rr 0, .inl (cI, 3, .inl (fun _ => 0))), (rr 1, .inl (cI, 3, .inl (fun _ => 0))), (rr 2, .inl (cI, 3, .inl (fun _ => 0))), (rr 3, .inl (cI, 3, .inl (fun _ => 0))), (rr 4, .inl (cI, 3, .inl (fun _ => 0))), (rr 5, .inl (cI, 3, .inl (fun _ => 0))), (rr 6, .inl (cI, 3, .inl (fun _ => 0)))]) (w1 := [(m0, zM 1 0 1 (.ref k0) (.ref q0) a10 a11)]) hP hD [0] [1, 2, 3, 4, 5, 6, 7, 8, 9] rfl rfl (by decide) (by decide) hk1 hFc hP1 hD1
  generalize H1 = H at hP hS ⊢
  have hP : va_P (dC, dI) vwCl [(k0, .inl (cI, 7, .inl (fun _ => 0))), (q0, .inl (cO, 7, .inr (.inr (.inr (.inr (fun i => if i < 7 then some (rr i) else none)))))), (rr 0, .inl (cI, 3, .inl (fun _ => 0))), (rr 1, .inl (cI, 3, .inl (fun _ => 0))), (rr 2, .inl (cI, 3, .inl (fun _ => 0))), (rr 3, .inl (cI, 3, .inl (fun _ => 0))), (rr 4, .inl (cI, 3, .inl (fun _ => 0))), (rr 5, .inl (cI, 3, .inl (fun _ => 0))), (rr 6, .inl (cI, 3, .inl (fun _ => 0))), (m0, zM 1 0 1 (.ref k0) (.ref q0) a10 a11)] H := hP
  have hD : va_D (fun q : Nat => s.heap.size ≤ q) [(k0, .inl (cI, 7, .inl (fun _ => 0))), (q0, .inl (cO, 7, .inr (.inr (.inr (.inr (fun i => if i < 7 then some (rr i) else none)))))), (rr 0, .inl (cI, 3, .inl (fun _ => 0))), (rr 1, .inl (cI, 3, .inl (fun _ => 0))), (rr 2, .inl (cI, 3, .inl (fun _ => 0))), (rr 3, .inl (cI, 3, .inl (fun _ => 0))), (rr 4, .inl (cI, 3, .inl (fun _ => 0))), (rr 5, .inl (cI, 3, .inl (fun _ => 0))), (rr 6, .inl (cI, 3, .inl (fun _ => 0))), (m0, zM 1 0 1 (.ref k0) (.ref q0) a10 a11)] := hD
  subst hw
  refine lv_istore (lv' := [(6, .int 0), (5, .int 1), (0, .ref b), (1, .ref h0), (2, .ref m0), (3, .ref o0), (4, .int 0)]) hx hb dL_law_567 hl (by decide) rfl (fun ls hl => ?_)
  refine lv_aload_n hx hb dL_law_569 rfl (lv_at hl 4 rfl) ?_
  have hPc := hP.sub (ws' := [(m0, zM 1 0 1 (.ref k0) (.ref q0) a10 a11)]) [9] rfl
  have hDc := hD.sub (ws' := [(m0, zM 1 0 1 (.ref k0) (.ref q0) a10 a11)]) [9] (by decide) rfl
  have hKc := hK.sub (tys' := []) [] rfl
  have hFc := va_free (wc := [(m0, zM 1 0 1 (.ref k0) (.ref q0) a10 a11)]) hD hS hA [9] rfl
  refine va_calli (va_runV (As := []) (rest := []) ⟨hx, hb, hml, hown, hts⟩ (c_X1_thrown l dC dI m0 1 0 1 (.ref k0) (.ref q0) a10 a11 H.size) (cwV 0 hts gL_law_X1_thrown rfl rfl rfl (by decide +kernel) ⟨Nat.le_of_ble_eq_true rfl, Nat.le_of_ble_eq_true rfl⟩) ⟨zx_blind, va_recv hKc hPc (ci := 1) (q0 := 0) rfl rfl, fun U hU hW => ⟨rfl, zx_go hPc hKc hDc hZ hS hFc hU hW⟩⟩ rfl rfl hl.1 rfl (lv_room (Nat.le_of_ble_eq_true rfl)) dL_law_570 ⟨Nat.le_of_ble_eq_true rfl, Nat.le_of_ble_eq_true rfl⟩) hS (fun q _ h => hFc q h) hFc (fun r u8 t H1 locs ht hvm hw hB hz1 hk1 hS => ?_)
  obtain ⟨hP1, hK1, hD1⟩ := hB
  rw [ht] at hP1
  have hK1 := va_K.moved hvm.symm hK1
  try dsimp only at hw hP1 hD1 hK1
  obtain ⟨hP, hD⟩ := va_join (wr := [(k0, .inl (cI, 7, .inl (fun _ => 0))), (q0, .inl (cO, 7, .inr (.inr (.inr (.inr (fun i => if i < 7 then some (rr i) else none)))))), (rr 0, .inl (cI, 3, .inl (fun _ => 0))), (rr 1, .inl (cI, 3, .inl (fun _ => 0))), (rr 2, .inl (cI, 3, .inl (fun _ => 0))), (rr 3, .inl (cI, 3, .inl (fun _ => 0))), (rr 4, .inl (cI, 3, .inl (fun _ => 0))), (rr 5, .inl (cI, 3, .inl (fun _ => 0))), (rr 6, .inl (cI, 3, .inl (fun _ => 0)))]) (w1 := [(m0, zM 1 0 1 (.ref k0) (.ref q0) a10 a11)]) hP hD [9] [0, 1, 2, 3, 4, 5, 6, 7, 8] rfl rfl (by decide) (by decide) hk1 hFc hP1 hD1
  generalize H1 = H at hP hS ⊢
  have hP : va_P (dC, dI) vwCl [(k0, .inl (cI, 7, .inl (fun _ => 0))), (q0, .inl (cO, 7, .inr (.inr (.inr (.inr (fun i => if i < 7 then some (rr i) else none)))))), (rr 0, .inl (cI, 3, .inl (fun _ => 0))), (rr 1, .inl (cI, 3, .inl (fun _ => 0))), (rr 2, .inl (cI, 3, .inl (fun _ => 0))), (rr 3, .inl (cI, 3, .inl (fun _ => 0))), (rr 4, .inl (cI, 3, .inl (fun _ => 0))), (rr 5, .inl (cI, 3, .inl (fun _ => 0))), (rr 6, .inl (cI, 3, .inl (fun _ => 0))), (m0, zM 1 0 1 (.ref k0) (.ref q0) a10 a11)] H := hP
  have hD : va_D (fun q : Nat => s.heap.size ≤ q) [(k0, .inl (cI, 7, .inl (fun _ => 0))), (q0, .inl (cO, 7, .inr (.inr (.inr (.inr (fun i => if i < 7 then some (rr i) else none)))))), (rr 0, .inl (cI, 3, .inl (fun _ => 0))), (rr 1, .inl (cI, 3, .inl (fun _ => 0))), (rr 2, .inl (cI, 3, .inl (fun _ => 0))), (rr 3, .inl (cI, 3, .inl (fun _ => 0))), (rr 4, .inl (cI, 3, .inl (fun _ => 0))), (rr 5, .inl (cI, 3, .inl (fun _ => 0))), (rr 6, .inl (cI, 3, .inl (fun _ => 0))), (m0, zM 1 0 1 (.ref k0) (.ref q0) a10 a11)] := hD
  subst hw
  refine lv_iload hx hb dL_law_573 (lv_at hl 1 rfl) ?_
  refine lv_icmp_eq (tgt := 580) hx hb dL_law_575 (by decide) (fun _ => ?_) (fun c5 => absurd (by decide) c5)
  refine lv_iload hx hb dL_law_580 (lv_at hl 1 rfl) ?_
  refine lv_if_ne (tgt := 597) hx hb dL_law_582 (by decide) (fun _ => ?_) (fun c6 => absurd c6 (by decide))
  refine lv_goto (tgt := 1015) hx hb dL_law_597 (by decide) ?_
  exact law_tail C1 hS (lv_sub hl [2, 6] rfl) (Nat.le_of_ble_eq_true rfl) (Nat.le_of_ble_eq_true rfl)
