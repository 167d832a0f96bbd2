set_option maxHeartbeats 4000000 in
set_option maxRecDepth 100000 in
/-- come of the reference -/
theorem c_X1_come (l : Launch) (dC : Nat → ClassId) (dI : Nat → Nat → Nat) (h0 : Nat) (a3 a4 a10 a11 : Value) (sz : Nat) : Met l yX1_come wsX1_come ({ frames := 8, cells := 0, slots := 0, locals := 120 }) (va_Pc [.ref h0] (zx_pre (dC, dI) [(h0, zM 0 0 1 a3 a4 a10 a11)] [] sz)) (va_Qi (fun (r : Int32) (u : Unit) => r = 0) (fun (u : Unit) => zx_at (dC, dI) [(h0, zM 0 1 1 a3 a4 a10 a11)] [] (va_A [(h0, zM 0 0 1 a3 a4 a10 a11)] sz)) (va_A [(h0, zM 0 0 1 a3 a4 a10 a11)] sz)) 0 0 (va_A [(h0, zM 0 0 1 a3 a4 a10 a11)] sz) := by
  refine Met.ofW (cc := cX1_come) (maxL := 1) (ret := (some .int)) (by decide) rfl ?_
  intro p e s m args below meth c s₁ B hml hv
  obtain ⟨rfl, hsz, hP, hK, hD0, hZ⟩ := hv
  have hx := B.exec
  have hb := B.bytes
  have hr := B.returns
  have hts := atoms_spec (ws := wsX1_come) B.pre
  have hown : s.vm.findClass RX1 = some m.cls := findClass_of_methodNamed B.named
  have hlocks := B.notSynchronized
  subst hsz
  have hD := hD0.self (sz := s.heap.size)
  generalize hAe : va_A [(h0, zM 0 0 1 a3 a4 a10 a11)] s.heap.size = A at hD hZ ⊢
  have hA : ∀ q : Nat, s.heap.size ≤ q → A q := fun q h => by rw [← hAe]; exact Or.inr h
  have hS : va_S A s.heap s.heap [] := va_S.rf
  have hP : va_P (dC, dI) vwCl [(h0, zM 0 0 1 a3 a4 a10 a11)] s.heap := hP
  have hl := lv_entry ([.ref h0]) (n := 1) (Nat.le_of_ble_eq_true rfl)
  rw [lg_entry_eq]
  generalize (lg_sl ([.ref h0]) ++ List.replicate (1 - (lg_sl ([.ref h0])).length) Slot.unset).toArray = ls at hl ⊢
  have hl : lv_has ls 1 [(0, .ref h0)] := hl
  refine lv_aload_n hx hb dX1_come_0 rfl (lv_at hl 0 rfl) ?_
  refine lv_iconst (v := 0) hx hb dX1_come_1 (by decide) ?_
  refine va_put (D := (dC, dI)) (ci := 1) (v := .int 0) (ty := .int) (C := RX1) (T := TX1) (N := 12) hx hb hts (by decide +kernel) tyX1 tyX1_ok nmX1 hown hK hP hD hS 0 rfl rfl 0 (by decide) (hts (.fieldLink RX1 37 "LiarTentsModel" "thrown" "I") (by decide +kernel)) (fun _ h9 => h9) rfl (by decide +kernel) rfl rfl (Nat.le_of_ble_eq_true rfl) dX1_come_2 (fun H locs hP hD hS => ?_)
  have hP : va_P (dC, dI) vwCl [(h0, zM 0 0 1 a3 a4 a10 a11)] H := hP
  have hD : va_D A [(h0, zM 0 0 1 a3 a4 a10 a11)] := hD
  refine lv_aload_n hx hb dX1_come_5 rfl (lv_at hl 0 rfl) ?_
  refine va_get (D := (dC, dI)) (ci := 1) (v := .int 0) (C := RX1) (T := TX1) (N := 12) hx hb hts (by decide +kernel) hown hK hP 0 rfl rfl 1 (by decide) (hts (.fieldLink RX1 40 "LiarTentsModel" "generals" "I") (by decide +kernel)) (fun _ h9 => h9) rfl dX1_come_6 ?_
  refine lv_bipush (v := 7) hx hb dX1_come_9 (by decide) ?_
  refine lv_icmp_ne (tgt := 20) hx hb dX1_come_11 (by decide) (fun _ => ?_) (fun c1 => absurd c1 (by decide))
  refine lv_aload_n hx hb dX1_come_20 rfl (lv_at hl 0 rfl) ?_
  refine lv_dup hx hb dX1_come_21 rfl ?_
  refine va_get (D := (dC, dI)) (ci := 1) (v := .int 0) (C := RX1) (T := TX1) (N := 12) hx hb hts (by decide +kernel) hown hK hP 0 rfl rfl 1 (by decide) (hts (.fieldLink RX1 40 "LiarTentsModel" "generals" "I") (by decide +kernel)) (fun _ h9 => h9) rfl dX1_come_22 ?_
  refine lv_iconst (v := 1) hx hb dX1_come_25 (by decide) ?_
  refine lv_iadd hx hb dX1_come_26 ?_
  refine lv_topi (fun z2 ez2 => ?_)
  obtain rfl : z2 = 1 := ez2.trans (by decide)
  refine va_put (D := (dC, dI)) (ci := 1) (v := .int 1) (ty := .int) (C := RX1) (T := TX1) (N := 12) hx hb hts (by decide +kernel) tyX1 tyX1_ok nmX1 hown hK hP hD hS 0 rfl rfl 1 (by decide) (hts (.fieldLink RX1 40 "LiarTentsModel" "generals" "I") (by decide +kernel)) (fun _ h9 => h9) rfl (by decide +kernel) rfl rfl (Nat.le_of_ble_eq_true rfl) dX1_come_27 (fun H locs hP hD hS => ?_)
  have hP : va_P (dC, dI) vwCl [(h0, zM 0 1 1 a3 a4 a10 a11)] H := hP
  have hD : va_D A [(h0, zM 0 1 1 a3 a4 a10 a11)] := hD
  refine lv_aload_n hx hb dX1_come_30 rfl (lv_at hl 0 rfl) ?_
  refine va_get (D := (dC, dI)) (ci := 1) (v := .int 1) (C := RX1) (T := TX1) (N := 12) hx hb hts (by decide +kernel) hown hK hP 0 rfl rfl 1 (by decide) (hts (.fieldLink RX1 40 "LiarTentsModel" "generals" "I") (by decide +kernel)) (fun _ h9 => h9) rfl dX1_come_31 ?_
  refine lv_iconst (v := 1) hx hb dX1_come_34 (by decide) ?_
  refine lv_isub hx hb dX1_come_35 ?_
  refine lv_topi (fun z3 ez3 => ?_)
  obtain rfl : z3 = 0 := ez3.trans (by decide)
  have hP9 := hP.sub (ws' := [(h0, zM 0 1 1 a3 a4 a10 a11)]) [0] rfl
  have hD9 := hD.sub (ws' := [(h0, zM 0 1 1 a3 a4 a10 a11)]) [0] (by decide) rfl
  have hK9 := hK.sub (tys' := []) [] rfl
  refine W.widen (k := 0) (n := 0) (by omega) (by omega) ?_
  exact W.iret (v := 0) hx hb hr (fun t ht hW => ⟨⟨0, (), rfl, rfl, by rw [ht]; exact hP9, va_K.moved hW.alike hK9, hD9⟩, hS.F ht⟩) hS.2.2 dX1_come_36
set_option maxHeartbeats 4000000 in
set_option maxRecDepth 100000 in
/-- setKind of the reference: refused -/
theorem c_X1_setKind (l : Launch) (dC : Nat → ClassId) (dI : Nat → Nat → Nat) (h0 : Nat) (p0 p1 : Int32) (a3 a4 a10 a11 : Value) (sz : Nat) : Met l yX1_setKind wsX1_setKind ({ frames := 11, cells := 0, slots := 0, locals := 300 }) (va_Pc [.ref h0, .int p0, .int p1] (zx_pre (dC, dI) [(h0, zM 0 0 1 a3 a4 a10 a11)] [] sz)) (va_Qi (fun (r : Int32) (u : Unit) => r = 0) (fun (u : Unit) => zx_at (dC, dI) [(h0, zM 1 0 1 a3 a4 a10 a11)] [] (va_A [(h0, zM 0 0 1 a3 a4 a10 a11)] sz)) (va_A [(h0, zM 0 0 1 a3 a4 a10 a11)] sz)) 0 0 (va_A [(h0, zM 0 0 1 a3 a4 a10 a11)] sz) := by
  refine Met.ofW (cc := cX1_setKind) (maxL := 4) (ret := (some .int)) (by decide) rfl ?_
  intro p e s m args below meth c s₁ B hml hv
  obtain ⟨rfl, hsz, hP, hK, hD0, hZ⟩ := hv
  have hx := B.exec
  have hb := B.bytes
  have hr := B.returns
  have hts := atoms_spec (ws := wsX1_setKind) B.pre
  have hown : s.vm.findClass RX1 = some m.cls := findClass_of_methodNamed B.named
  have hlocks := B.notSynchronized
  subst hsz
  have hD := hD0.self (sz := s.heap.size)
  generalize hAe : va_A [(h0, zM 0 0 1 a3 a4 a10 a11)] s.heap.size = A at hD hZ ⊢
  have hA : ∀ q : Nat, s.heap.size ≤ q → A q := fun q h => by rw [← hAe]; exact Or.inr h
  have hS : va_S A s.heap s.heap [] := va_S.rf
  have hP : va_P (dC, dI) vwCl [(h0, zM 0 0 1 a3 a4 a10 a11)] s.heap := hP
  have hl := lv_entry ([.ref h0, .int p0, .int p1]) (n := 4) (Nat.le_of_ble_eq_true rfl)
  rw [lg_entry_eq]
  generalize (lg_sl ([.ref h0, .int p0, .int p1]) ++ List.replicate (4 - (lg_sl ([.ref h0, .int p0, .int p1])).length) Slot.unset).toArray = ls at hl ⊢
  have hl : lv_has ls 4 [(0, .ref h0), (1, .int p0), (2, .int p1)] := hl
  refine lv_aload_n hx hb dX1_setKind_0 rfl (lv_at hl 0 rfl) ?_
  refine lv_iconst (v := 0) hx hb dX1_setKind_1 (by decide) ?_
  refine va_put (D := (dC, dI)) (ci := 1) (v := .int 0) (ty := .int) (C := RX1) (T := TX1) (N := 12) hx hb hts (by decide +kernel) tyX1 tyX1_ok nmX1 hown hK hP hD hS 0 rfl rfl 0 (by decide) (hts (.fieldLink RX1 37 "LiarTentsModel" "thrown" "I") (by decide +kernel)) (fun _ h9 => h9) rfl (by decide +kernel) rfl rfl (Nat.le_of_ble_eq_true rfl) dX1_setKind_2 (fun H locs hP hD hS => ?_)
  have hP : va_P (dC, dI) vwCl [(h0, zM 0 0 1 a3 a4 a10 a11)] H := hP
  have hD : va_D A [(h0, zM 0 0 1 a3 a4 a10 a11)] := hD
  refine lv_aload_n hx hb dX1_setKind_5 rfl (lv_at hl 0 rfl) ?_
  refine lv_iload_n hx hb dX1_setKind_6 rfl (lv_at hl 1 rfl) ?_
  have hPc := hP.sub (ws' := [(h0, zM 0 0 1 a3 a4 a10 a11)]) [0] rfl
  have hDc := hD.sub (ws' := [(h0, zM 0 0 1 a3 a4 a10 a11)]) [0] (by decide) rfl
  have hKc := hK.sub (tys' := []) [] rfl
  have hFc := va_free (wc := [(h0, zM 0 0 1 a3 a4 a10 a11)]) hD hS hA [0] rfl
  refine va_calli (va_runV (As := [.int p0]) (rest := []) ⟨hx, hb, hml, hown, hts⟩ (c_X1_isGeneral l dC dI h0 p0 a3 a4 a10 a11 H.size) (cwV 1 hts gX1_setKind_X1_isGeneral rfl rfl rfl (by decide +kernel) ⟨Nat.le_of_ble_eq_true rfl, Nat.le_of_ble_eq_true rfl⟩) ⟨zx_blind, va_recv hKc hPc (ci := 1) (q0 := 0) rfl rfl, fun U hU hW => ⟨rfl, zx_go hPc hKc hDc hZ hS hFc hU hW⟩⟩ rfl rfl hl.1 rfl (lv_room (Nat.le_of_ble_eq_true rfl)) dX1_setKind_7 ⟨Nat.le_of_ble_eq_true rfl, Nat.le_of_ble_eq_true rfl⟩) hS (fun q _ h => hFc q h) hFc (fun r u t H1 locs ht hvm hw hB hz1 hk1 hS => ?_)
  obtain ⟨hP1, hK1, hD1⟩ := hB
  rw [ht] at hP1
  have hK1 := va_K.moved hvm.symm hK1
  try dsimp only at hw hP1 hD1 hK1
  obtain ⟨hP, hD⟩ := va_join (wr := []) (w1 := [(h0, zM 0 0 1 a3 a4 a10 a11)]) hP hD [0] [] rfl rfl (by decide) (by decide) hk1 hFc hP1 hD1
  generalize H1 = H at hP hS ⊢
  have hP : va_P (dC, dI) vwCl [(h0, zM 0 0 1 a3 a4 a10 a11)] H := hP
  have hD : va_D A [(h0, zM 0 0 1 a3 a4 a10 a11)] := hD
  obtain rfl := hw
  refine lv_if_eq (tgt := 22) hx hb dX1_setKind_10 (by decide) (fun _ => ?_) (fun c1 => absurd (by decide) c1)
  refine lv_aload_n hx hb dX1_setKind_22 rfl (lv_at hl 0 rfl) ?_
  refine lv_iconst (v := 1) hx hb dX1_setKind_23 (by decide) ?_
  have hPc := hP.sub (ws' := [(h0, zM 0 0 1 a3 a4 a10 a11)]) [0] rfl
  have hDc := hD.sub (ws' := [(h0, zM 0 0 1 a3 a4 a10 a11)]) [0] (by decide) rfl
  have hKc := hK.sub (tys' := []) [] rfl
  have hFc := va_free (wc := [(h0, zM 0 0 1 a3 a4 a10 a11)]) hD hS hA [0] rfl
  refine va_calli (va_runV (As := [.int 1]) (rest := []) ⟨hx, hb, hml, hown, hts⟩ (c_X1_no l dC dI h0 1 a3 a4 a10 a11 H.size) (cwV 1 hts gX1_setKind_X1_no rfl rfl rfl (by decide +kernel) ⟨Nat.le_of_ble_eq_true rfl, Nat.le_of_ble_eq_true rfl⟩) ⟨zx_blind, va_recv hKc hPc (ci := 1) (q0 := 0) rfl rfl, fun U hU hW => ⟨rfl, zx_go hPc hKc hDc hZ hS hFc hU hW⟩⟩ rfl rfl hl.1 rfl (lv_room (Nat.le_of_ble_eq_true rfl)) dX1_setKind_24 ⟨Nat.le_of_ble_eq_true rfl, Nat.le_of_ble_eq_true rfl⟩) hS (fun q _ h => hFc q h) hFc (fun r u t H1 locs ht hvm hw hB hz1 hk1 hS => ?_)
  obtain ⟨hP1, hK1, hD1⟩ := hB
  rw [ht] at hP1
  have hK1 := va_K.moved hvm.symm hK1
  try dsimp only at hw hP1 hD1 hK1
  obtain ⟨hP, hD⟩ := va_join (wr := []) (w1 := [(h0, zM 1 0 1 a3 a4 a10 a11)]) hP hD [0] [] rfl rfl (by decide) (by decide) hk1 hFc hP1 hD1
  generalize H1 = H at hP hS ⊢
  have hP : va_P (dC, dI) vwCl [(h0, zM 1 0 1 a3 a4 a10 a11)] H := hP
  have hD : va_D A [(h0, zM 1 0 1 a3 a4 a10 a11)] := hD
  obtain rfl := hw
  have hP9 := hP.sub (ws' := [(h0, zM 1 0 1 a3 a4 a10 a11)]) [0] rfl
  have hD9 := hD.sub (ws' := [(h0, zM 1 0 1 a3 a4 a10 a11)]) [0] (by decide) rfl
  have hK9 := hK.sub (tys' := []) [] rfl
  refine W.widen (k := 0) (n := 0) (by omega) (by omega) ?_
  exact W.iret (v := 0) hx hb hr (fun t ht hW => ⟨⟨0, (), rfl, rfl, by rw [ht]; exact hP9, va_K.moved hW.alike hK9, hD9⟩, hS.F ht⟩) hS.2.2 dX1_setKind_27
set_option maxHeartbeats 4000000 in
set_option maxRecDepth 100000 in
/-- hold of the reference: refused -/
theorem c_X1_hold (l : Launch) (dC : Nat → ClassId) (dI : Nat → Nat → Nat) (h0 : Nat) (p0 p1 : Int32) (a3 a4 a10 a11 : Value) (sz : Nat) : Met l yX1_hold wsX1_hold ({ frames := 11, cells := 0, slots := 0, locals := 300 }) (va_Pc [.ref h0, .int p0, .int p1] (zx_pre (dC, dI) [(h0, zM 0 0 1 a3 a4 a10 a11)] [] sz)) (va_Qi (fun (r : Int32) (u : Unit) => r = 0) (fun (u : Unit) => zx_at (dC, dI) [(h0, zM 1 0 1 a3 a4 a10 a11)] [] (va_A [(h0, zM 0 0 1 a3 a4 a10 a11)] sz)) (va_A [(h0, zM 0 0 1 a3 a4 a10 a11)] sz)) 0 0 (va_A [(h0, zM 0 0 1 a3 a4 a10 a11)] sz) := by
  refine Met.ofW (cc := cX1_hold) (maxL := 6) (ret := (some .int)) (by decide) rfl ?_
  intro p e s m args below meth c s₁ B hml hv
  obtain ⟨rfl, hsz, hP, hK, hD0, hZ⟩ := hv
  have hx := B.exec
  have hb := B.bytes
  have hr := B.returns
  have hts := atoms_spec (ws := wsX1_hold) B.pre
  have hown : s.vm.findClass RX1 = some m.cls := findClass_of_methodNamed B.named
  have hlocks := B.notSynchronized
  subst hsz
  have hD := hD0.self (sz := s.heap.size)
  generalize hAe : va_A [(h0, zM 0 0 1 a3 a4 a10 a11)] s.heap.size = A at hD hZ ⊢
  have hA : ∀ q : Nat, s.heap.size ≤ q → A q := fun q h => by rw [← hAe]; exact Or.inr h
  have hS : va_S A s.heap s.heap [] := va_S.rf
  have hP : va_P (dC, dI) vwCl [(h0, zM 0 0 1 a3 a4 a10 a11)] s.heap := hP
  have hl := lv_entry ([.ref h0, .int p0, .int p1]) (n := 6) (Nat.le_of_ble_eq_true rfl)
  rw [lg_entry_eq]
  generalize (lg_sl ([.ref h0, .int p0, .int p1]) ++ List.replicate (6 - (lg_sl ([.ref h0, .int p0, .int p1])).length) Slot.unset).toArray = ls at hl ⊢
  have hl : lv_has ls 6 [(0, .ref h0), (1, .int p0), (2, .int p1)] := hl
  refine lv_aload_n hx hb dX1_hold_0 rfl (lv_at hl 0 rfl) ?_
  refine lv_iconst (v := 0) hx hb dX1_hold_1 (by decide) ?_
  refine va_put (D := (dC, dI)) (ci := 1) (v := .int 0) (ty := .int) (C := RX1) (T := TX1) (N := 12) hx hb hts (by decide +kernel) tyX1 tyX1_ok nmX1 hown hK hP hD hS 0 rfl rfl 0 (by decide) (hts (.fieldLink RX1 37 "LiarTentsModel" "thrown" "I") (by decide +kernel)) (fun _ h9 => h9) rfl (by decide +kernel) rfl rfl (Nat.le_of_ble_eq_true rfl) dX1_hold_2 (fun H locs hP hD hS => ?_)
  have hP : va_P (dC, dI) vwCl [(h0, zM 0 0 1 a3 a4 a10 a11)] H := hP
  have hD : va_D A [(h0, zM 0 0 1 a3 a4 a10 a11)] := hD
  refine lv_aload_n hx hb dX1_hold_5 rfl (lv_at hl 0 rfl) ?_
  refine lv_iload_n hx hb dX1_hold_6 rfl (lv_at hl 1 rfl) ?_
  have hPc := hP.sub (ws' := [(h0, zM 0 0 1 a3 a4 a10 a11)]) [0] rfl
  have hDc := hD.sub (ws' := [(h0, zM 0 0 1 a3 a4 a10 a11)]) [0] (by decide) rfl
  have hKc := hK.sub (tys' := []) [] rfl
  have hFc := va_free (wc := [(h0, zM 0 0 1 a3 a4 a10 a11)]) hD hS hA [0] rfl
  refine va_calli (va_runV (As := [.int p0]) (rest := []) ⟨hx, hb, hml, hown, hts⟩ (c_X1_isGeneral l dC dI h0 p0 a3 a4 a10 a11 H.size) (cwV 1 hts gX1_hold_X1_isGeneral rfl rfl rfl (by decide +kernel) ⟨Nat.le_of_ble_eq_true rfl, Nat.le_of_ble_eq_true rfl⟩) ⟨zx_blind, va_recv hKc hPc (ci := 1) (q0 := 0) rfl rfl, fun U hU hW => ⟨rfl, zx_go hPc hKc hDc hZ hS hFc hU hW⟩⟩ rfl rfl hl.1 rfl (lv_room (Nat.le_of_ble_eq_true rfl)) dX1_hold_7 ⟨Nat.le_of_ble_eq_true rfl, Nat.le_of_ble_eq_true rfl⟩) hS (fun q _ h => hFc q h) hFc (fun r u t H1 locs ht hvm hw hB hz1 hk1 hS => ?_)
  obtain ⟨hP1, hK1, hD1⟩ := hB
  rw [ht] at hP1
  have hK1 := va_K.moved hvm.symm hK1
  try dsimp only at hw hP1 hD1 hK1
  obtain ⟨hP, hD⟩ := va_join (wr := []) (w1 := [(h0, zM 0 0 1 a3 a4 a10 a11)]) hP hD [0] [] rfl rfl (by decide) (by decide) hk1 hFc hP1 hD1
  generalize H1 = H at hP hS ⊢
  have hP : va_P (dC, dI) vwCl [(h0, zM 0 0 1 a3 a4 a10 a11)] H := hP
  have hD : va_D A [(h0, zM 0 0 1 a3 a4 a10 a11)] := hD
  obtain rfl := hw
  refine lv_if_ne (tgt := 19) hx hb dX1_hold_10 (by decide) (fun c1 => absurd c1 (by decide)) (fun _ => ?_)
  refine lv_aload_n hx hb dX1_hold_13 rfl (lv_at hl 0 rfl) ?_
  refine lv_iconst (v := 1) hx hb dX1_hold_14 (by decide) ?_
  have hPc := hP.sub (ws' := [(h0, zM 0 0 1 a3 a4 a10 a11)]) [0] rfl
  have hDc := hD.sub (ws' := [(h0, zM 0 0 1 a3 a4 a10 a11)]) [0] (by decide) rfl
  have hKc := hK.sub (tys' := []) [] rfl
  have hFc := va_free (wc := [(h0, zM 0 0 1 a3 a4 a10 a11)]) hD hS hA [0] rfl
  refine va_calli (va_runV (As := [.int 1]) (rest := []) ⟨hx, hb, hml, hown, hts⟩ (c_X1_no l dC dI h0 1 a3 a4 a10 a11 H.size) (cwV 1 hts gX1_hold_X1_no rfl rfl rfl (by decide +kernel) ⟨Nat.le_of_ble_eq_true rfl, Nat.le_of_ble_eq_true rfl⟩) ⟨zx_blind, va_recv hKc hPc (ci := 1) (q0 := 0) rfl rfl, fun U hU hW => ⟨rfl, zx_go hPc hKc hDc hZ hS hFc hU hW⟩⟩ rfl rfl hl.1 rfl (lv_room (Nat.le_of_ble_eq_true rfl)) dX1_hold_15 ⟨Nat.le_of_ble_eq_true rfl, Nat.le_of_ble_eq_true rfl⟩) hS (fun q _ h => hFc q h) hFc (fun r u t H1 locs ht hvm hw hB hz1 hk1 hS => ?_)
  obtain ⟨hP1, hK1, hD1⟩ := hB
  rw [ht] at hP1
  have hK1 := va_K.moved hvm.symm hK1
  try dsimp only at hw hP1 hD1 hK1
  obtain ⟨hP, hD⟩ := va_join (wr := []) (w1 := [(h0, zM 1 0 1 a3 a4 a10 a11)]) hP hD [0] [] rfl rfl (by decide) (by decide) hk1 hFc hP1 hD1
  generalize H1 = H at hP hS ⊢
  have hP : va_P (dC, dI) vwCl [(h0, zM 1 0 1 a3 a4 a10 a11)] H := hP
  have hD : va_D A [(h0, zM 1 0 1 a3 a4 a10 a11)] := hD
  obtain rfl := hw
  have hP9 := hP.sub (ws' := [(h0, zM 1 0 1 a3 a4 a10 a11)]) [0] rfl
  have hD9 := hD.sub (ws' := [(h0, zM 1 0 1 a3 a4 a10 a11)]) [0] (by decide) rfl
  have hK9 := hK.sub (tys' := []) [] rfl
  refine W.widen (k := 0) (n := 0) (by omega) (by omega) ?_
  exact W.iret (v := 0) hx hb hr (fun t ht hW => ⟨⟨0, (), rfl, rfl, by rw [ht]; exact hP9, va_K.moved hW.alike hK9, hD9⟩, hS.F ht⟩) hS.2.2 dX1_hold_18
set_option maxHeartbeats 4000000 in
set_option maxRecDepth 100000 in
/-- does of the reference: refused -/
theorem c_X1_does (l : Launch) (dC : Nat → ClassId) (dI : Nat → Nat → Nat) (h0 : Nat) (p0 : Int32) (a3 a4 a10 a11 : Value) (sz : Nat) : Met l yX1_does wsX1_does ({ frames := 11, cells := 0, slots := 0, locals := 300 }) (va_Pc [.ref h0, .int p0] (zx_pre (dC, dI) [(h0, zM 0 0 1 a3 a4 a10 a11)] [] sz)) (va_Qi (fun (r : Int32) (u : Unit) => r = 0) (fun (u : Unit) => zx_at (dC, dI) [(h0, zM 1 0 1 a3 a4 a10 a11)] [] (va_A [(h0, zM 0 0 1 a3 a4 a10 a11)] sz)) (va_A [(h0, zM 0 0 1 a3 a4 a10 a11)] sz)) 0 0 (va_A [(h0, zM 0 0 1 a3 a4 a10 a11)] sz) := by
  refine Met.ofW (cc := cX1_does) (maxL := 2) (ret := (some .int)) (by decide) rfl ?_
  intro p e s m args below meth c s₁ B hml hv
  obtain ⟨rfl, hsz, hP, hK, hD0, hZ⟩ := hv
  have hx := B.exec
  have hb := B.bytes
  have hr := B.returns
  have hts := atoms_spec (ws := wsX1_does) B.pre
  have hown : s.vm.findClass RX1 = some m.cls := findClass_of_methodNamed B.named
  have hlocks := B.notSynchronized
  subst hsz
  have hD := hD0.self (sz := s.heap.size)
  generalize hAe : va_A [(h0, zM 0 0 1 a3 a4 a10 a11)] s.heap.size = A at hD hZ ⊢
  have hA : ∀ q : Nat, s.heap.size ≤ q → A q := fun q h => by rw [← hAe]; exact Or.inr h
  have hS : va_S A s.heap s.heap [] := va_S.rf
  have hP : va_P (dC, dI) vwCl [(h0, zM 0 0 1 a3 a4 a10 a11)] s.heap := hP
  have hl := lv_entry ([.ref h0, .int p0]) (n := 2) (Nat.le_of_ble_eq_true rfl)
  rw [lg_entry_eq]
  generalize (lg_sl ([.ref h0, .int p0]) ++ List.replicate (2 - (lg_sl ([.ref h0, .int p0])).length) Slot.unset).toArray = ls at hl ⊢
  have hl : lv_has ls 2 [(0, .ref h0), (1, .int p0)] := hl
  refine lv_aload_n hx hb dX1_does_0 rfl (lv_at hl 0 rfl) ?_
  refine lv_iconst (v := 0) hx hb dX1_does_1 (by decide) ?_
  refine va_put (D := (dC, dI)) (ci := 1) (v := .int 0) (ty := .int) (C := RX1) (T := TX1) (N := 12) hx hb hts (by decide +kernel) tyX1 tyX1_ok nmX1 hown hK hP hD hS 0 rfl rfl 0 (by decide) (hts (.fieldLink RX1 37 "LiarTentsModel" "thrown" "I") (by decide +kernel)) (fun _ h9 => h9) rfl (by decide +kernel) rfl rfl (Nat.le_of_ble_eq_true rfl) dX1_does_2 (fun H locs hP hD hS => ?_)
  have hP : va_P (dC, dI) vwCl [(h0, zM 0 0 1 a3 a4 a10 a11)] H := hP
  have hD : va_D A [(h0, zM 0 0 1 a3 a4 a10 a11)] := hD
  refine lv_aload_n hx hb dX1_does_5 rfl (lv_at hl 0 rfl) ?_
  refine lv_iload_n hx hb dX1_does_6 rfl (lv_at hl 1 rfl) ?_
  have hPc := hP.sub (ws' := [(h0, zM 0 0 1 a3 a4 a10 a11)]) [0] rfl
  have hDc := hD.sub (ws' := [(h0, zM 0 0 1 a3 a4 a10 a11)]) [0] (by decide) rfl
  have hKc := hK.sub (tys' := []) [] rfl
  have hFc := va_free (wc := [(h0, zM 0 0 1 a3 a4 a10 a11)]) hD hS hA [0] rfl
  refine va_calli (va_runV (As := [.int p0]) (rest := []) ⟨hx, hb, hml, hown, hts⟩ (c_X1_wasThere l dC dI h0 p0 a3 a4 a10 a11 H.size) (cwV 1 hts gX1_does_X1_wasThere rfl rfl rfl (by decide +kernel) ⟨Nat.le_of_ble_eq_true rfl, Nat.le_of_ble_eq_true rfl⟩) ⟨zx_blind, va_recv hKc hPc (ci := 1) (q0 := 0) rfl rfl, fun U hU hW => ⟨rfl, zx_go hPc hKc hDc hZ hS hFc hU hW⟩⟩ rfl rfl hl.1 rfl (lv_room (Nat.le_of_ble_eq_true rfl)) dX1_does_7 ⟨Nat.le_of_ble_eq_true rfl, Nat.le_of_ble_eq_true rfl⟩) hS (fun q _ h => hFc q h) hFc (fun r u t H1 locs ht hvm hw hB hz1 hk1 hS => ?_)
  obtain ⟨hP1, hK1, hD1⟩ := hB
  rw [ht] at hP1
  have hK1 := va_K.moved hvm.symm hK1
  try dsimp only at hw hP1 hD1 hK1
  obtain ⟨hP, hD⟩ := va_join (wr := []) (w1 := [(h0, zM 0 0 1 a3 a4 a10 a11)]) hP hD [0] [] rfl rfl (by decide) (by decide) hk1 hFc hP1 hD1
  generalize H1 = H at hP hS ⊢
  have hP : va_P (dC, dI) vwCl [(h0, zM 0 0 1 a3 a4 a10 a11)] H := hP
  have hD : va_D A [(h0, zM 0 0 1 a3 a4 a10 a11)] := hD
  obtain rfl := hw
  refine lv_if_ne (tgt := 19) hx hb dX1_does_10 (by decide) (fun c1 => absurd c1 (by decide)) (fun _ => ?_)
  refine lv_aload_n hx hb dX1_does_13 rfl (lv_at hl 0 rfl) ?_
  refine lv_iconst (v := 1) hx hb dX1_does_14 (by decide) ?_
  have hPc := hP.sub (ws' := [(h0, zM 0 0 1 a3 a4 a10 a11)]) [0] rfl
  have hDc := hD.sub (ws' := [(h0, zM 0 0 1 a3 a4 a10 a11)]) [0] (by decide) rfl
  have hKc := hK.sub (tys' := []) [] rfl
  have hFc := va_free (wc := [(h0, zM 0 0 1 a3 a4 a10 a11)]) hD hS hA [0] rfl
  refine va_calli (va_runV (As := [.int 1]) (rest := []) ⟨hx, hb, hml, hown, hts⟩ (c_X1_no l dC dI h0 1 a3 a4 a10 a11 H.size) (cwV 1 hts gX1_does_X1_no rfl rfl rfl (by decide +kernel) ⟨Nat.le_of_ble_eq_true rfl, Nat.le_of_ble_eq_true rfl⟩) ⟨zx_blind, va_recv hKc hPc (ci := 1) (q0 := 0) rfl rfl, fun U hU hW => ⟨rfl, zx_go hPc hKc hDc hZ hS hFc hU hW⟩⟩ rfl rfl hl.1 rfl (lv_room (Nat.le_of_ble_eq_true rfl)) dX1_does_15 ⟨Nat.le_of_ble_eq_true rfl, Nat.le_of_ble_eq_true rfl⟩) hS (fun q _ h => hFc q h) hFc (fun r u t H1 locs ht hvm hw hB hz1 hk1 hS => ?_)
  obtain ⟨hP1, hK1, hD1⟩ := hB
  rw [ht] at hP1
  have hK1 := va_K.moved hvm.symm hK1
  try dsimp only at hw hP1 hD1 hK1
  obtain ⟨hP, hD⟩ := va_join (wr := []) (w1 := [(h0, zM 1 0 1 a3 a4 a10 a11)]) hP hD [0] [] rfl rfl (by decide) (by decide) hk1 hFc hP1 hD1
  generalize H1 = H at hP hS ⊢
  have hP : va_P (dC, dI) vwCl [(h0, zM 1 0 1 a3 a4 a10 a11)] H := hP
  have hD : va_D A [(h0, zM 1 0 1 a3 a4 a10 a11)] := hD
  obtain rfl := hw
  have hP9 := hP.sub (ws' := [(h0, zM 1 0 1 a3 a4 a10 a11)]) [0] rfl
  have hD9 := hD.sub (ws' := [(h0, zM 1 0 1 a3 a4 a10 a11)]) [0] (by decide) rfl
  have hK9 := hK.sub (tys' := []) [] rfl
  refine W.widen (k := 0) (n := 0) (by omega) (by omega) ?_
  exact W.iret (v := 0) hx hb hr (fun t ht hW => ⟨⟨0, (), rfl, rfl, by rw [ht]; exact hP9, va_K.moved hW.alike hK9, hD9⟩, hS.F ht⟩) hS.2.2 dX1_does_18
set_option maxHeartbeats 4000000 in
set_option maxRecDepth 100000 in
/-- took of the reference: refused -/
theorem c_X1_took (l : Launch) (dC : Nat → ClassId) (dI : Nat → Nat → Nat) (h0 : Nat) (p0 p1 : Int32) (a3 a4 a10 a11 : Value) (sz : Nat) : Met l yX1_took wsX1_took ({ frames := 11, cells := 0, slots := 0, locals := 300 }) (va_Pc [.ref h0, .int p0, .int p1] (zx_pre (dC, dI) [(h0, zM 0 0 1 a3 a4 a10 a11)] [] sz)) (va_Qi (fun (r : Int32) (u : Unit) => r = 0) (fun (u : Unit) => zx_at (dC, dI) [(h0, zM 1 0 1 a3 a4 a10 a11)] [] (va_A [(h0, zM 0 0 1 a3 a4 a10 a11)] sz)) (va_A [(h0, zM 0 0 1 a3 a4 a10 a11)] sz)) 0 0 (va_A [(h0, zM 0 0 1 a3 a4 a10 a11)] sz) := by
  refine Met.ofW (cc := cX1_took) (maxL := 3) (ret := (some .int)) (by decide) rfl ?_
  intro p e s m args below meth c s₁ B hml hv
  obtain ⟨rfl, hsz, hP, hK, hD0, hZ⟩ := hv
  have hx := B.exec
  have hb := B.bytes
  have hr := B.returns
  have hts := atoms_spec (ws := wsX1_took) B.pre
  have hown : s.vm.findClass RX1 = some m.cls := findClass_of_methodNamed B.named
  have hlocks := B.notSynchronized
  subst hsz
  have hD := hD0.self (sz := s.heap.size)
  generalize hAe : va_A [(h0, zM 0 0 1 a3 a4 a10 a11)] s.heap.size = A at hD hZ ⊢
  have hA : ∀ q : Nat, s.heap.size ≤ q → A q := fun q h => by rw [← hAe]; exact Or.inr h
  have hS : va_S A s.heap s.heap [] := va_S.rf
  have hP : va_P (dC, dI) vwCl [(h0, zM 0 0 1 a3 a4 a10 a11)] s.heap := hP
  have hl := lv_entry ([.ref h0, .int p0, .int p1]) (n := 3) (Nat.le_of_ble_eq_true rfl)
  rw [lg_entry_eq]
  generalize (lg_sl ([.ref h0, .int p0, .int p1]) ++ List.replicate (3 - (lg_sl ([.ref h0, .int p0, .int p1])).length) Slot.unset).toArray = ls at hl ⊢
  have hl : lv_has ls 3 [(0, .ref h0), (1, .int p0), (2, .int p1)] := hl
  refine lv_aload_n hx hb dX1_took_0 rfl (lv_at hl 0 rfl) ?_
  refine lv_iconst (v := 0) hx hb dX1_took_1 (by decide) ?_
  refine va_put (D := (dC, dI)) (ci := 1) (v := .int 0) (ty := .int) (C := RX1) (T := TX1) (N := 12) hx hb hts (by decide +kernel) tyX1 tyX1_ok nmX1 hown hK hP hD hS 0 rfl rfl 0 (by decide) (hts (.fieldLink RX1 37 "LiarTentsModel" "thrown" "I") (by decide +kernel)) (fun _ h9 => h9) rfl (by decide +kernel) rfl rfl (Nat.le_of_ble_eq_true rfl) dX1_took_2 (fun H locs hP hD hS => ?_)
  have hP : va_P (dC, dI) vwCl [(h0, zM 0 0 1 a3 a4 a10 a11)] H := hP
  have hD : va_D A [(h0, zM 0 0 1 a3 a4 a10 a11)] := hD
  refine lv_aload_n hx hb dX1_took_5 rfl (lv_at hl 0 rfl) ?_
  refine lv_iload_n hx hb dX1_took_6 rfl (lv_at hl 1 rfl) ?_
  have hPc := hP.sub (ws' := [(h0, zM 0 0 1 a3 a4 a10 a11)]) [0] rfl
  have hDc := hD.sub (ws' := [(h0, zM 0 0 1 a3 a4 a10 a11)]) [0] (by decide) rfl
  have hKc := hK.sub (tys' := []) [] rfl
  have hFc := va_free (wc := [(h0, zM 0 0 1 a3 a4 a10 a11)]) hD hS hA [0] rfl
  refine va_calli (va_runV (As := [.int p0]) (rest := []) ⟨hx, hb, hml, hown, hts⟩ (c_X1_wasThere l dC dI h0 p0 a3 a4 a10 a11 H.size) (cwV 1 hts gX1_took_X1_wasThere rfl rfl rfl (by decide +kernel) ⟨Nat.le_of_ble_eq_true rfl, Nat.le_of_ble_eq_true rfl⟩) ⟨zx_blind, va_recv hKc hPc (ci := 1) (q0 := 0) rfl rfl, fun U hU hW => ⟨rfl, zx_go hPc hKc hDc hZ hS hFc hU hW⟩⟩ rfl rfl hl.1 rfl (lv_room (Nat.le_of_ble_eq_true rfl)) dX1_took_7 ⟨Nat.le_of_ble_eq_true rfl, Nat.le_of_ble_eq_true rfl⟩) hS (fun q _ h => hFc q h) hFc (fun r u t H1 locs ht hvm hw hB hz1 hk1 hS => ?_)
  obtain ⟨hP1, hK1, hD1⟩ := hB
  rw [ht] at hP1
  have hK1 := va_K.moved hvm.symm hK1
  try dsimp only at hw hP1 hD1 hK1
  obtain ⟨hP, hD⟩ := va_join (wr := []) (w1 := [(h0, zM 0 0 1 a3 a4 a10 a11)]) hP hD [0] [] rfl rfl (by decide) (by decide) hk1 hFc hP1 hD1
  generalize H1 = H at hP hS ⊢
  have hP : va_P (dC, dI) vwCl [(h0, zM 0 0 1 a3 a4 a10 a11)] H := hP
  have hD : va_D A [(h0, zM 0 0 1 a3 a4 a10 a11)] := hD
  obtain rfl := hw
  refine lv_if_eq (tgt := 21) hx hb dX1_took_10 (by decide) (fun _ => ?_) (fun c1 => absurd (by decide) c1)
  refine lv_aload_n hx hb dX1_took_21 rfl (lv_at hl 0 rfl) ?_
  refine lv_iconst (v := 1) hx hb dX1_took_22 (by decide) ?_
  have hPc := hP.sub (ws' := [(h0, zM 0 0 1 a3 a4 a10 a11)]) [0] rfl
  have hDc := hD.sub (ws' := [(h0, zM 0 0 1 a3 a4 a10 a11)]) [0] (by decide) rfl
  have hKc := hK.sub (tys' := []) [] rfl
  have hFc := va_free (wc := [(h0, zM 0 0 1 a3 a4 a10 a11)]) hD hS hA [0] rfl
  refine va_calli (va_runV (As := [.int 1]) (rest := []) ⟨hx, hb, hml, hown, hts⟩ (c_X1_no l dC dI h0 1 a3 a4 a10 a11 H.size) (cwV 1 hts gX1_took_X1_no rfl rfl rfl (by decide +kernel) ⟨Nat.le_of_ble_eq_true rfl, Nat.le_of_ble_eq_true rfl⟩) ⟨zx_blind, va_recv hKc hPc (ci := 1) (q0 := 0) rfl rfl, fun U hU hW => ⟨rfl, zx_go hPc hKc hDc hZ hS hFc hU hW⟩⟩ rfl rfl hl.1 rfl (lv_room (Nat.le_of_ble_eq_true rfl)) dX1_took_23 ⟨Nat.le_of_ble_eq_true rfl, Nat.le_of_ble_eq_true rfl⟩) hS (fun q _ h => hFc q h) hFc (fun r u t H1 locs ht hvm hw hB hz1 hk1 hS => ?_)
  obtain ⟨hP1, hK1, hD1⟩ := hB
  rw [ht] at hP1
  have hK1 := va_K.moved hvm.symm hK1
  try dsimp only at hw hP1 hD1 hK1
  obtain ⟨hP, hD⟩ := va_join (wr := []) (w1 := [(h0, zM 1 0 1 a3 a4 a10 a11)]) hP hD [0] [] rfl rfl (by decide) (by decide) hk1 hFc hP1 hD1
  generalize H1 = H at hP hS ⊢
  have hP : va_P (dC, dI) vwCl [(h0, zM 1 0 1 a3 a4 a10 a11)] H := hP
  have hD : va_D A [(h0, zM 1 0 1 a3 a4 a10 a11)] := hD
  obtain rfl := hw
  have hP9 := hP.sub (ws' := [(h0, zM 1 0 1 a3 a4 a10 a11)]) [0] rfl
  have hD9 := hD.sub (ws' := [(h0, zM 1 0 1 a3 a4 a10 a11)]) [0] (by decide) rfl
  have hK9 := hK.sub (tys' := []) [] rfl
  refine W.widen (k := 0) (n := 0) (by omega) (by omega) ?_
  exact W.iret (v := 0) hx hb hr (fun t ht hW => ⟨⟨0, (), rfl, rfl, by rw [ht]; exact hP9, va_K.moved hW.alike hK9, hD9⟩, hS.F ht⟩) hS.2.2 dX1_took_26
set_option maxHeartbeats 4000000 in
set_option maxRecDepth 100000 in
/-- told of the reference: refused -/
theorem c_X1_told (l : Launch) (dC : Nat → ClassId) (dI : Nat → Nat → Nat) (h0 : Nat) (p0 p1 : Int32) (a3 a4 a10 a11 : Value) (sz : Nat) : Met l yX1_told wsX1_told ({ frames := 11, cells := 0, slots := 0, locals := 300 }) (va_Pc [.ref h0, .int p0, .int p1] (zx_pre (dC, dI) [(h0, zM 0 0 1 a3 a4 a10 a11)] [] sz)) (va_Qi (fun (r : Int32) (u : Unit) => r = 0) (fun (u : Unit) => zx_at (dC, dI) [(h0, zM 1 0 1 a3 a4 a10 a11)] [] (va_A [(h0, zM 0 0 1 a3 a4 a10 a11)] sz)) (va_A [(h0, zM 0 0 1 a3 a4 a10 a11)] sz)) 0 0 (va_A [(h0, zM 0 0 1 a3 a4 a10 a11)] sz) := by
  refine Met.ofW (cc := cX1_told) (maxL := 3) (ret := (some .int)) (by decide) rfl ?_
  intro p e s m args below meth c s₁ B hml hv
  obtain ⟨rfl, hsz, hP, hK, hD0, hZ⟩ := hv
  have hx := B.exec
  have hb := B.bytes
  have hr := B.returns
  have hts := atoms_spec (ws := wsX1_told) B.pre
  have hown : s.vm.findClass RX1 = some m.cls := findClass_of_methodNamed B.named
  have hlocks := B.notSynchronized
  subst hsz
  have hD := hD0.self (sz := s.heap.size)
  generalize hAe : va_A [(h0, zM 0 0 1 a3 a4 a10 a11)] s.heap.size = A at hD hZ ⊢
  have hA : ∀ q : Nat, s.heap.size ≤ q → A q := fun q h => by rw [← hAe]; exact Or.inr h
  have hS : va_S A s.heap s.heap [] := va_S.rf
  have hP : va_P (dC, dI) vwCl [(h0, zM 0 0 1 a3 a4 a10 a11)] s.heap := hP
  have hl := lv_entry ([.ref h0, .int p0, .int p1]) (n := 3) (Nat.le_of_ble_eq_true rfl)
  rw [lg_entry_eq]
  generalize (lg_sl ([.ref h0, .int p0, .int p1]) ++ List.replicate (3 - (lg_sl ([.ref h0, .int p0, .int p1])).length) Slot.unset).toArray = ls at hl ⊢
  have hl : lv_has ls 3 [(0, .ref h0), (1, .int p0), (2, .int p1)] := hl
  refine lv_aload_n hx hb dX1_told_0 rfl (lv_at hl 0 rfl) ?_
  refine lv_iconst (v := 0) hx hb dX1_told_1 (by decide) ?_
  refine va_put (D := (dC, dI)) (ci := 1) (v := .int 0) (ty := .int) (C := RX1) (T := TX1) (N := 12) hx hb hts (by decide +kernel) tyX1 tyX1_ok nmX1 hown hK hP hD hS 0 rfl rfl 0 (by decide) (hts (.fieldLink RX1 37 "LiarTentsModel" "thrown" "I") (by decide +kernel)) (fun _ h9 => h9) rfl (by decide +kernel) rfl rfl (Nat.le_of_ble_eq_true rfl) dX1_told_2 (fun H locs hP hD hS => ?_)
  have hP : va_P (dC, dI) vwCl [(h0, zM 0 0 1 a3 a4 a10 a11)] H := hP
  have hD : va_D A [(h0, zM 0 0 1 a3 a4 a10 a11)] := hD
  refine lv_aload_n hx hb dX1_told_5 rfl (lv_at hl 0 rfl) ?_
  refine lv_iload_n hx hb dX1_told_6 rfl (lv_at hl 1 rfl) ?_
  have hPc := hP.sub (ws' := [(h0, zM 0 0 1 a3 a4 a10 a11)]) [0] rfl
  have hDc := hD.sub (ws' := [(h0, zM 0 0 1 a3 a4 a10 a11)]) [0] (by decide) rfl
  have hKc := hK.sub (tys' := []) [] rfl
  have hFc := va_free (wc := [(h0, zM 0 0 1 a3 a4 a10 a11)]) hD hS hA [0] rfl
  refine va_calli (va_runV (As := [.int p0]) (rest := []) ⟨hx, hb, hml, hown, hts⟩ (c_X1_isGeneral l dC dI h0 p0 a3 a4 a10 a11 H.size) (cwV 1 hts gX1_told_X1_isGeneral rfl rfl rfl (by decide +kernel) ⟨Nat.le_of_ble_eq_true rfl, Nat.le_of_ble_eq_true rfl⟩) ⟨zx_blind, va_recv hKc hPc (ci := 1) (q0 := 0) rfl rfl, fun U hU hW => ⟨rfl, zx_go hPc hKc hDc hZ hS hFc hU hW⟩⟩ rfl rfl hl.1 rfl (lv_room (Nat.le_of_ble_eq_true rfl)) dX1_told_7 ⟨Nat.le_of_ble_eq_true rfl, Nat.le_of_ble_eq_true rfl⟩) hS (fun q _ h => hFc q h) hFc (fun r u t H1 locs ht hvm hw hB hz1 hk1 hS => ?_)
  obtain ⟨hP1, hK1, hD1⟩ := hB
  rw [ht] at hP1
  have hK1 := va_K.moved hvm.symm hK1
  try dsimp only at hw hP1 hD1 hK1
  obtain ⟨hP, hD⟩ := va_join (wr := []) (w1 := [(h0, zM 0 0 1 a3 a4 a10 a11)]) hP hD [0] [] rfl rfl (by decide) (by decide) hk1 hFc hP1 hD1
  generalize H1 = H at hP hS ⊢
  have hP : va_P (dC, dI) vwCl [(h0, zM 0 0 1 a3 a4 a10 a11)] H := hP
  have hD : va_D A [(h0, zM 0 0 1 a3 a4 a10 a11)] := hD
  obtain rfl := hw
  refine lv_if_eq (tgt := 31) hx hb dX1_told_10 (by decide) (fun _ => ?_) (fun c1 => absurd (by decide) c1)
  refine lv_aload_n hx hb dX1_told_31 rfl (lv_at hl 0 rfl) ?_
  refine lv_iconst (v := 1) hx hb dX1_told_32 (by decide) ?_
  have hPc := hP.sub (ws' := [(h0, zM 0 0 1 a3 a4 a10 a11)]) [0] rfl
  have hDc := hD.sub (ws' := [(h0, zM 0 0 1 a3 a4 a10 a11)]) [0] (by decide) rfl
  have hKc := hK.sub (tys' := []) [] rfl
  have hFc := va_free (wc := [(h0, zM 0 0 1 a3 a4 a10 a11)]) hD hS hA [0] rfl
  refine va_calli (va_runV (As := [.int 1]) (rest := []) ⟨hx, hb, hml, hown, hts⟩ (c_X1_no l dC dI h0 1 a3 a4 a10 a11 H.size) (cwV 1 hts gX1_told_X1_no rfl rfl rfl (by decide +kernel) ⟨Nat.le_of_ble_eq_true rfl, Nat.le_of_ble_eq_true rfl⟩) ⟨zx_blind, va_recv hKc hPc (ci := 1) (q0 := 0) rfl rfl, fun U hU hW => ⟨rfl, zx_go hPc hKc hDc hZ hS hFc hU hW⟩⟩ rfl rfl hl.1 rfl (lv_room (Nat.le_of_ble_eq_true rfl)) dX1_told_33 ⟨Nat.le_of_ble_eq_true rfl, Nat.le_of_ble_eq_true rfl⟩) hS (fun q _ h => hFc q h) hFc (fun r u t H1 locs ht hvm hw hB hz1 hk1 hS => ?_)
  obtain ⟨hP1, hK1, hD1⟩ := hB
  rw [ht] at hP1
  have hK1 := va_K.moved hvm.symm hK1
  try dsimp only at hw hP1 hD1 hK1
  obtain ⟨hP, hD⟩ := va_join (wr := []) (w1 := [(h0, zM 1 0 1 a3 a4 a10 a11)]) hP hD [0] [] rfl rfl (by decide) (by decide) hk1 hFc hP1 hD1
  generalize H1 = H at hP hS ⊢
  have hP : va_P (dC, dI) vwCl [(h0, zM 1 0 1 a3 a4 a10 a11)] H := hP
  have hD : va_D A [(h0, zM 1 0 1 a3 a4 a10 a11)] := hD
  obtain rfl := hw
  have hP9 := hP.sub (ws' := [(h0, zM 1 0 1 a3 a4 a10 a11)]) [0] rfl
  have hD9 := hD.sub (ws' := [(h0, zM 1 0 1 a3 a4 a10 a11)]) [0] (by decide) rfl
  have hK9 := hK.sub (tys' := []) [] rfl
  refine W.widen (k := 0) (n := 0) (by omega) (by omega) ?_
  exact W.iret (v := 0) hx hb hr (fun t ht hW => ⟨⟨0, (), rfl, rfl, by rw [ht]; exact hP9, va_K.moved hW.alike hK9, hD9⟩, hS.F ht⟩) hS.2.2 dX1_told_36
set_option maxHeartbeats 4000000 in
set_option maxRecDepth 100000 in
/-- hears of the reference: refused -/
theorem c_X1_hears (l : Launch) (dC : Nat → ClassId) (dI : Nat → Nat → Nat) (h0 : Nat) (p0 p1 p2 : Int32) (a3 a4 a10 a11 : Value) (sz : Nat) : Met l yX1_hears wsX1_hears ({ frames := 11, cells := 0, slots := 0, locals := 300 }) (va_Pc [.ref h0, .int p0, .int p1, .int p2] (zx_pre (dC, dI) [(h0, zM 0 0 1 a3 a4 a10 a11)] [] sz)) (va_Qi (fun (r : Int32) (u : Unit) => r = 0) (fun (u : Unit) => zx_at (dC, dI) [(h0, zM 1 0 1 a3 a4 a10 a11)] [] (va_A [(h0, zM 0 0 1 a3 a4 a10 a11)] sz)) (va_A [(h0, zM 0 0 1 a3 a4 a10 a11)] sz)) 0 0 (va_A [(h0, zM 0 0 1 a3 a4 a10 a11)] sz) := by
  refine Met.ofW (cc := cX1_hears) (maxL := 4) (ret := (some .int)) (by decide) rfl ?_
  intro p e s m args below meth c s₁ B hml hv
  obtain ⟨rfl, hsz, hP, hK, hD0, hZ⟩ := hv
  have hx := B.exec
  have hb := B.bytes
  have hr := B.returns
  have hts := atoms_spec (ws := wsX1_hears) B.pre
  have hown : s.vm.findClass RX1 = some m.cls := findClass_of_methodNamed B.named
  have hlocks := B.notSynchronized
  subst hsz
  have hD := hD0.self (sz := s.heap.size)
  generalize hAe : va_A [(h0, zM 0 0 1 a3 a4 a10 a11)] s.heap.size = A at hD hZ ⊢
  have hA : ∀ q : Nat, s.heap.size ≤ q → A q := fun q h => by rw [← hAe]; exact Or.inr h
  have hS : va_S A s.heap s.heap [] := va_S.rf
  have hP : va_P (dC, dI) vwCl [(h0, zM 0 0 1 a3 a4 a10 a11)] s.heap := hP
  have hl := lv_entry ([.ref h0, .int p0, .int p1, .int p2]) (n := 4) (Nat.le_of_ble_eq_true rfl)
  rw [lg_entry_eq]
  generalize (lg_sl ([.ref h0, .int p0, .int p1, .int p2]) ++ List.replicate (4 - (lg_sl ([.ref h0, .int p0, .int p1, .int p2])).length) Slot.unset).toArray = ls at hl ⊢
  have hl : lv_has ls 4 [(0, .ref h0), (1, .int p0), (2, .int p1), (3, .int p2)] := hl
  refine lv_aload_n hx hb dX1_hears_0 rfl (lv_at hl 0 rfl) ?_
  refine lv_iconst (v := 0) hx hb dX1_hears_1 (by decide) ?_
  refine va_put (D := (dC, dI)) (ci := 1) (v := .int 0) (ty := .int) (C := RX1) (T := TX1) (N := 12) hx hb hts (by decide +kernel) tyX1 tyX1_ok nmX1 hown hK hP hD hS 0 rfl rfl 0 (by decide) (hts (.fieldLink RX1 37 "LiarTentsModel" "thrown" "I") (by decide +kernel)) (fun _ h9 => h9) rfl (by decide +kernel) rfl rfl (Nat.le_of_ble_eq_true rfl) dX1_hears_2 (fun H locs hP hD hS => ?_)
  have hP : va_P (dC, dI) vwCl [(h0, zM 0 0 1 a3 a4 a10 a11)] H := hP
  have hD : va_D A [(h0, zM 0 0 1 a3 a4 a10 a11)] := hD
  refine lv_aload_n hx hb dX1_hears_5 rfl (lv_at hl 0 rfl) ?_
  refine lv_iload_n hx hb dX1_hears_6 rfl (lv_at hl 1 rfl) ?_
  have hPc := hP.sub (ws' := [(h0, zM 0 0 1 a3 a4 a10 a11)]) [0] rfl
  have hDc := hD.sub (ws' := [(h0, zM 0 0 1 a3 a4 a10 a11)]) [0] (by decide) rfl
  have hKc := hK.sub (tys' := []) [] rfl
  have hFc := va_free (wc := [(h0, zM 0 0 1 a3 a4 a10 a11)]) hD hS hA [0] rfl
  refine va_calli (va_runV (As := [.int p0]) (rest := []) ⟨hx, hb, hml, hown, hts⟩ (c_X1_isGeneral l dC dI h0 p0 a3 a4 a10 a11 H.size) (cwV 1 hts gX1_hears_X1_isGeneral rfl rfl rfl (by decide +kernel) ⟨Nat.le_of_ble_eq_true rfl, Nat.le_of_ble_eq_true rfl⟩) ⟨zx_blind, va_recv hKc hPc (ci := 1) (q0 := 0) rfl rfl, fun U hU hW => ⟨rfl, zx_go hPc hKc hDc hZ hS hFc hU hW⟩⟩ rfl rfl hl.1 rfl (lv_room (Nat.le_of_ble_eq_true rfl)) dX1_hears_7 ⟨Nat.le_of_ble_eq_true rfl, Nat.le_of_ble_eq_true rfl⟩) hS (fun q _ h => hFc q h) hFc (fun r u t H1 locs ht hvm hw hB hz1 hk1 hS => ?_)
  obtain ⟨hP1, hK1, hD1⟩ := hB
  rw [ht] at hP1
  have hK1 := va_K.moved hvm.symm hK1
  try dsimp only at hw hP1 hD1 hK1
  obtain ⟨hP, hD⟩ := va_join (wr := []) (w1 := [(h0, zM 0 0 1 a3 a4 a10 a11)]) hP hD [0] [] rfl rfl (by decide) (by decide) hk1 hFc hP1 hD1
  generalize H1 = H at hP hS ⊢
  have hP : va_P (dC, dI) vwCl [(h0, zM 0 0 1 a3 a4 a10 a11)] H := hP
  have hD : va_D A [(h0, zM 0 0 1 a3 a4 a10 a11)] := hD
  obtain rfl := hw
  refine lv_if_eq (tgt := 21) hx hb dX1_hears_10 (by decide) (fun _ => ?_) (fun c1 => absurd (by decide) c1)
  refine lv_aload_n hx hb dX1_hears_21 rfl (lv_at hl 0 rfl) ?_
  refine lv_iconst (v := 1) hx hb dX1_hears_22 (by decide) ?_
  have hPc := hP.sub (ws' := [(h0, zM 0 0 1 a3 a4 a10 a11)]) [0] rfl
  have hDc := hD.sub (ws' := [(h0, zM 0 0 1 a3 a4 a10 a11)]) [0] (by decide) rfl
  have hKc := hK.sub (tys' := []) [] rfl
  have hFc := va_free (wc := [(h0, zM 0 0 1 a3 a4 a10 a11)]) hD hS hA [0] rfl
  refine va_calli (va_runV (As := [.int 1]) (rest := []) ⟨hx, hb, hml, hown, hts⟩ (c_X1_no l dC dI h0 1 a3 a4 a10 a11 H.size) (cwV 1 hts gX1_hears_X1_no rfl rfl rfl (by decide +kernel) ⟨Nat.le_of_ble_eq_true rfl, Nat.le_of_ble_eq_true rfl⟩) ⟨zx_blind, va_recv hKc hPc (ci := 1) (q0 := 0) rfl rfl, fun U hU hW => ⟨rfl, zx_go hPc hKc hDc hZ hS hFc hU hW⟩⟩ rfl rfl hl.1 rfl (lv_room (Nat.le_of_ble_eq_true rfl)) dX1_hears_23 ⟨Nat.le_of_ble_eq_true rfl, Nat.le_of_ble_eq_true rfl⟩) hS (fun q _ h => hFc q h) hFc (fun r u t H1 locs ht hvm hw hB hz1 hk1 hS => ?_)
  obtain ⟨hP1, hK1, hD1⟩ := hB
  rw [ht] at hP1
  have hK1 := va_K.moved hvm.symm hK1
  try dsimp only at hw hP1 hD1 hK1
  obtain ⟨hP, hD⟩ := va_join (wr := []) (w1 := [(h0, zM 1 0 1 a3 a4 a10 a11)]) hP hD [0] [] rfl rfl (by decide) (by decide) hk1 hFc hP1 hD1
  generalize H1 = H at hP hS ⊢
  have hP : va_P (dC, dI) vwCl [(h0, zM 1 0 1 a3 a4 a10 a11)] H := hP
  have hD : va_D A [(h0, zM 1 0 1 a3 a4 a10 a11)] := hD
  obtain rfl := hw
  have hP9 := hP.sub (ws' := [(h0, zM 1 0 1 a3 a4 a10 a11)]) [0] rfl
  have hD9 := hD.sub (ws' := [(h0, zM 1 0 1 a3 a4 a10 a11)]) [0] (by decide) rfl
  have hK9 := hK.sub (tys' := []) [] rfl
  refine W.widen (k := 0) (n := 0) (by omega) (by omega) ?_
  exact W.iret (v := 0) hx hb hr (fun t ht hW => ⟨⟨0, (), rfl, rfl, by rw [ht]; exact hP9, va_K.moved hW.alike hK9, hD9⟩, hS.F ht⟩) hS.2.2 dX1_hears_26
set_option maxHeartbeats 4000000 in
set_option maxRecDepth 100000 in
/-- would of the reference: refused -/
theorem c_X1_would (l : Launch) (dC : Nat → ClassId) (dI : Nat → Nat → Nat) (h0 : Nat) (p0 p1 p2 : Int32) (a3 a4 a10 a11 : Value) (sz : Nat) : Met l yX1_would wsX1_would ({ frames := 11, cells := 0, slots := 0, locals := 300 }) (va_Pc [.ref h0, .int p0, .int p1, .int p2] (zx_pre (dC, dI) [(h0, zM 0 0 1 a3 a4 a10 a11)] [] sz)) (va_Qi (fun (r : Int32) (u : Unit) => r = 0) (fun (u : Unit) => zx_at (dC, dI) [(h0, zM 1 0 1 a3 a4 a10 a11)] [] (va_A [(h0, zM 0 0 1 a3 a4 a10 a11)] sz)) (va_A [(h0, zM 0 0 1 a3 a4 a10 a11)] sz)) 0 0 (va_A [(h0, zM 0 0 1 a3 a4 a10 a11)] sz) := by
  refine Met.ofW (cc := cX1_would) (maxL := 4) (ret := (some .int)) (by decide) rfl ?_
  intro p e s m args below meth c s₁ B hml hv
  obtain ⟨rfl, hsz, hP, hK, hD0, hZ⟩ := hv
  have hx := B.exec
  have hb := B.bytes
  have hr := B.returns
  have hts := atoms_spec (ws := wsX1_would) B.pre
  have hown : s.vm.findClass RX1 = some m.cls := findClass_of_methodNamed B.named
  have hlocks := B.notSynchronized
  subst hsz
  have hD := hD0.self (sz := s.heap.size)
  generalize hAe : va_A [(h0, zM 0 0 1 a3 a4 a10 a11)] s.heap.size = A at hD hZ ⊢
  have hA : ∀ q : Nat, s.heap.size ≤ q → A q := fun q h => by rw [← hAe]; exact Or.inr h
  have hS : va_S A s.heap s.heap [] := va_S.rf
  have hP : va_P (dC, dI) vwCl [(h0, zM 0 0 1 a3 a4 a10 a11)] s.heap := hP
  have hl := lv_entry ([.ref h0, .int p0, .int p1, .int p2]) (n := 4) (Nat.le_of_ble_eq_true rfl)
  rw [lg_entry_eq]
  generalize (lg_sl ([.ref h0, .int p0, .int p1, .int p2]) ++ List.replicate (4 - (lg_sl ([.ref h0, .int p0, .int p1, .int p2])).length) Slot.unset).toArray = ls at hl ⊢
  have hl : lv_has ls 4 [(0, .ref h0), (1, .int p0), (2, .int p1), (3, .int p2)] := hl
  refine lv_aload_n hx hb dX1_would_0 rfl (lv_at hl 0 rfl) ?_
  refine lv_iconst (v := 0) hx hb dX1_would_1 (by decide) ?_
  refine va_put (D := (dC, dI)) (ci := 1) (v := .int 0) (ty := .int) (C := RX1) (T := TX1) (N := 12) hx hb hts (by decide +kernel) tyX1 tyX1_ok nmX1 hown hK hP hD hS 0 rfl rfl 0 (by decide) (hts (.fieldLink RX1 37 "LiarTentsModel" "thrown" "I") (by decide +kernel)) (fun _ h9 => h9) rfl (by decide +kernel) rfl rfl (Nat.le_of_ble_eq_true rfl) dX1_would_2 (fun H locs hP hD hS => ?_)
  have hP : va_P (dC, dI) vwCl [(h0, zM 0 0 1 a3 a4 a10 a11)] H := hP
  have hD : va_D A [(h0, zM 0 0 1 a3 a4 a10 a11)] := hD
  refine lv_aload_n hx hb dX1_would_5 rfl (lv_at hl 0 rfl) ?_
  refine lv_iload_n hx hb dX1_would_6 rfl (lv_at hl 1 rfl) ?_
  have hPc := hP.sub (ws' := [(h0, zM 0 0 1 a3 a4 a10 a11)]) [0] rfl
  have hDc := hD.sub (ws' := [(h0, zM 0 0 1 a3 a4 a10 a11)]) [0] (by decide) rfl
  have hKc := hK.sub (tys' := []) [] rfl
  have hFc := va_free (wc := [(h0, zM 0 0 1 a3 a4 a10 a11)]) hD hS hA [0] rfl
  refine va_calli (va_runV (As := [.int p0]) (rest := []) ⟨hx, hb, hml, hown, hts⟩ (c_X1_isGeneral l dC dI h0 p0 a3 a4 a10 a11 H.size) (cwV 1 hts gX1_would_X1_isGeneral rfl rfl rfl (by decide +kernel) ⟨Nat.le_of_ble_eq_true rfl, Nat.le_of_ble_eq_true rfl⟩) ⟨zx_blind, va_recv hKc hPc (ci := 1) (q0 := 0) rfl rfl, fun U hU hW => ⟨rfl, zx_go hPc hKc hDc hZ hS hFc hU hW⟩⟩ rfl rfl hl.1 rfl (lv_room (Nat.le_of_ble_eq_true rfl)) dX1_would_7 ⟨Nat.le_of_ble_eq_true rfl, Nat.le_of_ble_eq_true rfl⟩) hS (fun q _ h => hFc q h) hFc (fun r u t H1 locs ht hvm hw hB hz1 hk1 hS => ?_)
  obtain ⟨hP1, hK1, hD1⟩ := hB
  rw [ht] at hP1
  have hK1 := va_K.moved hvm.symm hK1
  try dsimp only at hw hP1 hD1 hK1
  obtain ⟨hP, hD⟩ := va_join (wr := []) (w1 := [(h0, zM 0 0 1 a3 a4 a10 a11)]) hP hD [0] [] rfl rfl (by decide) (by decide) hk1 hFc hP1 hD1
  generalize H1 = H at hP hS ⊢
  have hP : va_P (dC, dI) vwCl [(h0, zM 0 0 1 a3 a4 a10 a11)] H := hP
  have hD : va_D A [(h0, zM 0 0 1 a3 a4 a10 a11)] := hD
  obtain rfl := hw
  refine lv_if_eq (tgt := 21) hx hb dX1_would_10 (by decide) (fun _ => ?_) (fun c1 => absurd (by decide) c1)
  refine lv_aload_n hx hb dX1_would_21 rfl (lv_at hl 0 rfl) ?_
  refine lv_iconst (v := 1) hx hb dX1_would_22 (by decide) ?_
  have hPc := hP.sub (ws' := [(h0, zM 0 0 1 a3 a4 a10 a11)]) [0] rfl
  have hDc := hD.sub (ws' := [(h0, zM 0 0 1 a3 a4 a10 a11)]) [0] (by decide) rfl
  have hKc := hK.sub (tys' := []) [] rfl
  have hFc := va_free (wc := [(h0, zM 0 0 1 a3 a4 a10 a11)]) hD hS hA [0] rfl
  refine va_calli (va_runV (As := [.int 1]) (rest := []) ⟨hx, hb, hml, hown, hts⟩ (c_X1_no l dC dI h0 1 a3 a4 a10 a11 H.size) (cwV 1 hts gX1_would_X1_no rfl rfl rfl (by decide +kernel) ⟨Nat.le_of_ble_eq_true rfl, Nat.le_of_ble_eq_true rfl⟩) ⟨zx_blind, va_recv hKc hPc (ci := 1) (q0 := 0) rfl rfl, fun U hU hW => ⟨rfl, zx_go hPc hKc hDc hZ hS hFc hU hW⟩⟩ rfl rfl hl.1 rfl (lv_room (Nat.le_of_ble_eq_true rfl)) dX1_would_23 ⟨Nat.le_of_ble_eq_true rfl, Nat.le_of_ble_eq_true rfl⟩) hS (fun q _ h => hFc q h) hFc (fun r u t H1 locs ht hvm hw hB hz1 hk1 hS => ?_)
  obtain ⟨hP1, hK1, hD1⟩ := hB
  rw [ht] at hP1
  have hK1 := va_K.moved hvm.symm hK1
  try dsimp only at hw hP1 hD1 hK1
  obtain ⟨hP, hD⟩ := va_join (wr := []) (w1 := [(h0, zM 1 0 1 a3 a4 a10 a11)]) hP hD [0] [] rfl rfl (by decide) (by decide) hk1 hFc hP1 hD1
  generalize H1 = H at hP hS ⊢
  have hP : va_P (dC, dI) vwCl [(h0, zM 1 0 1 a3 a4 a10 a11)] H := hP
  have hD : va_D A [(h0, zM 1 0 1 a3 a4 a10 a11)] := hD
  obtain rfl := hw
  have hP9 := hP.sub (ws' := [(h0, zM 1 0 1 a3 a4 a10 a11)]) [0] rfl
  have hD9 := hD.sub (ws' := [(h0, zM 1 0 1 a3 a4 a10 a11)]) [0] (by decide) rfl
  have hK9 := hK.sub (tys' := []) [] rfl
  refine W.widen (k := 0) (n := 0) (by omega) (by omega) ?_
  exact W.iret (v := 0) hx hb hr (fun t ht hW => ⟨⟨0, (), rfl, rfl, by rw [ht]; exact hP9, va_K.moved hW.alike hK9, hD9⟩, hS.F ht⟩) hS.2.2 dX1_would_26
set_option maxHeartbeats 4000000 in
set_option maxRecDepth 100000 in
/-- agrees of the reference: refused -/
theorem c_X1_agrees (l : Launch) (dC : Nat → ClassId) (dI : Nat → Nat → Nat) (h0 : Nat) (p0 p1 : Int32) (a3 a4 a10 a11 : Value) (sz : Nat) : Met l yX1_agrees wsX1_agrees ({ frames := 11, cells := 0, slots := 0, locals := 300 }) (va_Pc [.ref h0, .int p0, .int p1] (zx_pre (dC, dI) [(h0, zM 0 0 1 a3 a4 a10 a11)] [] sz)) (va_Qi (fun (r : Int32) (u : Unit) => r = 0) (fun (u : Unit) => zx_at (dC, dI) [(h0, zM 1 0 1 a3 a4 a10 a11)] [] (va_A [(h0, zM 0 0 1 a3 a4 a10 a11)] sz)) (va_A [(h0, zM 0 0 1 a3 a4 a10 a11)] sz)) 0 0 (va_A [(h0, zM 0 0 1 a3 a4 a10 a11)] sz) := by
  refine Met.ofW (cc := cX1_agrees) (maxL := 3) (ret := (some .boolean)) (by decide) rfl ?_
  intro p e s m args below meth c s₁ B hml hv
  obtain ⟨rfl, hsz, hP, hK, hD0, hZ⟩ := hv
  have hx := B.exec
  have hb := B.bytes
  have hr := B.returns
  have hts := atoms_spec (ws := wsX1_agrees) B.pre
  have hown : s.vm.findClass RX1 = some m.cls := findClass_of_methodNamed B.named
  have hlocks := B.notSynchronized
  subst hsz
  have hD := hD0.self (sz := s.heap.size)
  generalize hAe : va_A [(h0, zM 0 0 1 a3 a4 a10 a11)] s.heap.size = A at hD hZ ⊢
  have hA : ∀ q : Nat, s.heap.size ≤ q → A q := fun q h => by rw [← hAe]; exact Or.inr h
  have hS : va_S A s.heap s.heap [] := va_S.rf
  have hP : va_P (dC, dI) vwCl [(h0, zM 0 0 1 a3 a4 a10 a11)] s.heap := hP
  have hl := lv_entry ([.ref h0, .int p0, .int p1]) (n := 3) (Nat.le_of_ble_eq_true rfl)
  rw [lg_entry_eq]
  generalize (lg_sl ([.ref h0, .int p0, .int p1]) ++ List.replicate (3 - (lg_sl ([.ref h0, .int p0, .int p1])).length) Slot.unset).toArray = ls at hl ⊢
  have hl : lv_has ls 3 [(0, .ref h0), (1, .int p0), (2, .int p1)] := hl
  refine lv_aload_n hx hb dX1_agrees_0 rfl (lv_at hl 0 rfl) ?_
  refine lv_aload_n hx hb dX1_agrees_1 rfl (lv_at hl 0 rfl) ?_
  refine lv_iload_n hx hb dX1_agrees_2 rfl (lv_at hl 1 rfl) ?_
  have hPc := hP.sub (ws' := [(h0, zM 0 0 1 a3 a4 a10 a11)]) [0] rfl
  have hDc := hD.sub (ws' := [(h0, zM 0 0 1 a3 a4 a10 a11)]) [0] (by decide) rfl
  have hKc := hK.sub (tys' := []) [] rfl
  have hFc := va_free (wc := [(h0, zM 0 0 1 a3 a4 a10 a11)]) hD hS hA [0] rfl
  refine va_calli (va_runV (As := [.int p0]) (rest := [.ref h0]) ⟨hx, hb, hml, hown, hts⟩ (c_X1_isGeneral l dC dI h0 p0 a3 a4 a10 a11 s.heap.size) (cwV 1 hts gX1_agrees_X1_isGeneral rfl rfl rfl (by decide +kernel) ⟨Nat.le_of_ble_eq_true rfl, Nat.le_of_ble_eq_true rfl⟩) ⟨zx_blind, va_recv hKc hPc (ci := 1) (q0 := 0) rfl rfl, fun U hU hW => ⟨rfl, zx_go hPc hKc hDc hZ hS hFc hU hW⟩⟩ rfl rfl hl.1 rfl (lv_room (Nat.le_of_ble_eq_true rfl)) dX1_agrees_3 ⟨Nat.le_of_ble_eq_true rfl, Nat.le_of_ble_eq_true rfl⟩) hS (fun q _ h => hFc q h) hFc (fun r u t H1 locs ht hvm hw hB hz1 hk1 hS => ?_)
  obtain ⟨hP1, hK1, hD1⟩ := hB
  rw [ht] at hP1
  have hK1 := va_K.moved hvm.symm hK1
  try dsimp only at hw hP1 hD1 hK1
  obtain ⟨hP, hD⟩ := va_join (wr := []) (w1 := [(h0, zM 0 0 1 a3 a4 a10 a11)]) hP hD [0] [] rfl rfl (by decide) (by decide) hk1 hFc hP1 hD1
  generalize H1 = H at hP hS ⊢
  have hP : va_P (dC, dI) vwCl [(h0, zM 0 0 1 a3 a4 a10 a11)] H := hP
  have hD : va_D A [(h0, zM 0 0 1 a3 a4 a10 a11)] := hD
  obtain rfl := hw
  refine lv_if_ne (tgt := 13) hx hb dX1_agrees_6 (by decide) (fun c1 => absurd c1 (by decide)) (fun _ => ?_)
  refine lv_iconst (v := 1) hx hb dX1_agrees_9 (by decide) ?_
  refine lv_goto (tgt := 27) hx hb dX1_agrees_10 (by decide) ?_
  refine va_put (D := (dC, dI)) (ci := 1) (v := .int 1) (ty := .int) (C := RX1) (T := TX1) (N := 12) hx hb hts (by decide +kernel) tyX1 tyX1_ok nmX1 hown hK hP hD hS 0 rfl rfl 0 (by decide) (hts (.fieldLink RX1 37 "LiarTentsModel" "thrown" "I") (by decide +kernel)) (fun _ h9 => h9) rfl (by decide +kernel) rfl rfl (Nat.le_of_ble_eq_true rfl) dX1_agrees_27 (fun H locs hP hD hS => ?_)
  have hP : va_P (dC, dI) vwCl [(h0, zM 1 0 1 a3 a4 a10 a11)] H := hP
  have hD : va_D A [(h0, zM 1 0 1 a3 a4 a10 a11)] := hD
  refine lv_aload_n hx hb dX1_agrees_30 rfl (lv_at hl 0 rfl) ?_
  refine va_get (D := (dC, dI)) (ci := 1) (v := .int 1) (C := RX1) (T := TX1) (N := 12) hx hb hts (by decide +kernel) hown hK hP 0 rfl rfl 0 (by decide) (hts (.fieldLink RX1 37 "LiarTentsModel" "thrown" "I") (by decide +kernel)) (fun _ h9 => h9) rfl dX1_agrees_31 ?_
  refine lv_if_ne (tgt := 54) hx hb dX1_agrees_34 (by decide) (fun _ => ?_) (fun c2 => absurd c2 (by decide))
  refine lv_iconst (v := 0) hx hb dX1_agrees_54 (by decide) ?_
  have hP9 := hP.sub (ws' := [(h0, zM 1 0 1 a3 a4 a10 a11)]) [0] rfl
  have hD9 := hD.sub (ws' := [(h0, zM 1 0 1 a3 a4 a10 a11)]) [0] (by decide) rfl
  have hK9 := hK.sub (tys' := []) [] rfl
  refine W.widen (k := 0) (n := 0) (by omega) (by omega) ?_
  exact W.zret (v := 0) hx hb hr rfl (fun t ht hW => ⟨⟨0, (), rfl, rfl, by rw [ht]; exact hP9, va_K.moved hW.alike hK9, hD9⟩, hS.F ht⟩) hS.2.2 dX1_agrees_55
set_option maxHeartbeats 4000000 in
set_option maxRecDepth 100000 in
/-- found of the reference: refused -/
theorem c_X1_found (l : Launch) (dC : Nat → ClassId) (dI : Nat → Nat → Nat) (h0 : Nat) (p0 : Int32) (a3 a4 a10 a11 : Value) (sz : Nat) : Met l yX1_found wsX1_found ({ frames := 11, cells := 0, slots := 0, locals := 300 }) (va_Pc [.ref h0, .int p0] (zx_pre (dC, dI) [(h0, zM 0 0 1 a3 a4 a10 a11)] [] sz)) (va_Qi (fun (r : Int32) (u : Unit) => r = 0) (fun (u : Unit) => zx_at (dC, dI) [(h0, zM 1 0 1 a3 a4 a10 a11)] [] (va_A [(h0, zM 0 0 1 a3 a4 a10 a11)] sz)) (va_A [(h0, zM 0 0 1 a3 a4 a10 a11)] sz)) 0 0 (va_A [(h0, zM 0 0 1 a3 a4 a10 a11)] sz) := by
  refine Met.ofW (cc := cX1_found) (maxL := 4) (ret := (some .int)) (by decide) rfl ?_
  intro p e s m args below meth c s₁ B hml hv
  obtain ⟨rfl, hsz, hP, hK, hD0, hZ⟩ := hv
  have hx := B.exec
  have hb := B.bytes
  have hr := B.returns
  have hts := atoms_spec (ws := wsX1_found) B.pre
  have hown : s.vm.findClass RX1 = some m.cls := findClass_of_methodNamed B.named
  have hlocks := B.notSynchronized
  subst hsz
  have hD := hD0.self (sz := s.heap.size)
  generalize hAe : va_A [(h0, zM 0 0 1 a3 a4 a10 a11)] s.heap.size = A at hD hZ ⊢
  have hA : ∀ q : Nat, s.heap.size ≤ q → A q := fun q h => by rw [← hAe]; exact Or.inr h
  have hS : va_S A s.heap s.heap [] := va_S.rf
  have hP : va_P (dC, dI) vwCl [(h0, zM 0 0 1 a3 a4 a10 a11)] s.heap := hP
  have hl := lv_entry ([.ref h0, .int p0]) (n := 4) (Nat.le_of_ble_eq_true rfl)
  rw [lg_entry_eq]
  generalize (lg_sl ([.ref h0, .int p0]) ++ List.replicate (4 - (lg_sl ([.ref h0, .int p0])).length) Slot.unset).toArray = ls at hl ⊢
  have hl : lv_has ls 4 [(0, .ref h0), (1, .int p0)] := hl
  refine lv_aload_n hx hb dX1_found_0 rfl (lv_at hl 0 rfl) ?_
  refine lv_iconst (v := 0) hx hb dX1_found_1 (by decide) ?_
  refine va_put (D := (dC, dI)) (ci := 1) (v := .int 0) (ty := .int) (C := RX1) (T := TX1) (N := 12) hx hb hts (by decide +kernel) tyX1 tyX1_ok nmX1 hown hK hP hD hS 0 rfl rfl 0 (by decide) (hts (.fieldLink RX1 37 "LiarTentsModel" "thrown" "I") (by decide +kernel)) (fun _ h9 => h9) rfl (by decide +kernel) rfl rfl (Nat.le_of_ble_eq_true rfl) dX1_found_2 (fun H locs hP hD hS => ?_)
  have hP : va_P (dC, dI) vwCl [(h0, zM 0 0 1 a3 a4 a10 a11)] H := hP
  have hD : va_D A [(h0, zM 0 0 1 a3 a4 a10 a11)] := hD
  refine lv_aload_n hx hb dX1_found_5 rfl (lv_at hl 0 rfl) ?_
  refine lv_iload_n hx hb dX1_found_6 rfl (lv_at hl 1 rfl) ?_
  have hPc := hP.sub (ws' := [(h0, zM 0 0 1 a3 a4 a10 a11)]) [0] rfl
  have hDc := hD.sub (ws' := [(h0, zM 0 0 1 a3 a4 a10 a11)]) [0] (by decide) rfl
  have hKc := hK.sub (tys' := []) [] rfl
  have hFc := va_free (wc := [(h0, zM 0 0 1 a3 a4 a10 a11)]) hD hS hA [0] rfl
  refine va_calli (va_runV (As := [.int p0]) (rest := []) ⟨hx, hb, hml, hown, hts⟩ (c_X1_isGeneral l dC dI h0 p0 a3 a4 a10 a11 H.size) (cwV 1 hts gX1_found_X1_isGeneral rfl rfl rfl (by decide +kernel) ⟨Nat.le_of_ble_eq_true rfl, Nat.le_of_ble_eq_true rfl⟩) ⟨zx_blind, va_recv hKc hPc (ci := 1) (q0 := 0) rfl rfl, fun U hU hW => ⟨rfl, zx_go hPc hKc hDc hZ hS hFc hU hW⟩⟩ rfl rfl hl.1 rfl (lv_room (Nat.le_of_ble_eq_true rfl)) dX1_found_7 ⟨Nat.le_of_ble_eq_true rfl, Nat.le_of_ble_eq_true rfl⟩) hS (fun q _ h => hFc q h) hFc (fun r u t H1 locs ht hvm hw hB hz1 hk1 hS => ?_)
  obtain ⟨hP1, hK1, hD1⟩ := hB
  rw [ht] at hP1
  have hK1 := va_K.moved hvm.symm hK1
  try dsimp only at hw hP1 hD1 hK1
  obtain ⟨hP, hD⟩ := va_join (wr := []) (w1 := [(h0, zM 0 0 1 a3 a4 a10 a11)]) hP hD [0] [] rfl rfl (by decide) (by decide) hk1 hFc hP1 hD1
  generalize H1 = H at hP hS ⊢
  have hP : va_P (dC, dI) vwCl [(h0, zM 0 0 1 a3 a4 a10 a11)] H := hP
  have hD : va_D A [(h0, zM 0 0 1 a3 a4 a10 a11)] := hD
  obtain rfl := hw
  refine lv_if_ne (tgt := 19) hx hb dX1_found_10 (by decide) (fun c1 => absurd c1 (by decide)) (fun _ => ?_)
  refine lv_aload_n hx hb dX1_found_13 rfl (lv_at hl 0 rfl) ?_
  refine lv_iconst (v := 1) hx hb dX1_found_14 (by decide) ?_
  have hPc := hP.sub (ws' := [(h0, zM 0 0 1 a3 a4 a10 a11)]) [0] rfl
  have hDc := hD.sub (ws' := [(h0, zM 0 0 1 a3 a4 a10 a11)]) [0] (by decide) rfl
  have hKc := hK.sub (tys' := []) [] rfl
  have hFc := va_free (wc := [(h0, zM 0 0 1 a3 a4 a10 a11)]) hD hS hA [0] rfl
  refine va_calli (va_runV (As := [.int 1]) (rest := []) ⟨hx, hb, hml, hown, hts⟩ (c_X1_no l dC dI h0 1 a3 a4 a10 a11 H.size) (cwV 1 hts gX1_found_X1_no rfl rfl rfl (by decide +kernel) ⟨Nat.le_of_ble_eq_true rfl, Nat.le_of_ble_eq_true rfl⟩) ⟨zx_blind, va_recv hKc hPc (ci := 1) (q0 := 0) rfl rfl, fun U hU hW => ⟨rfl, zx_go hPc hKc hDc hZ hS hFc hU hW⟩⟩ rfl rfl hl.1 rfl (lv_room (Nat.le_of_ble_eq_true rfl)) dX1_found_15 ⟨Nat.le_of_ble_eq_true rfl, Nat.le_of_ble_eq_true rfl⟩) hS (fun q _ h => hFc q h) hFc (fun r u t H1 locs ht hvm hw hB hz1 hk1 hS => ?_)
  obtain ⟨hP1, hK1, hD1⟩ := hB
  rw [ht] at hP1
  have hK1 := va_K.moved hvm.symm hK1
  try dsimp only at hw hP1 hD1 hK1
  obtain ⟨hP, hD⟩ := va_join (wr := []) (w1 := [(h0, zM 1 0 1 a3 a4 a10 a11)]) hP hD [0] [] rfl rfl (by decide) (by decide) hk1 hFc hP1 hD1
  generalize H1 = H at hP hS ⊢
  have hP : va_P (dC, dI) vwCl [(h0, zM 1 0 1 a3 a4 a10 a11)] H := hP
  have hD : va_D A [(h0, zM 1 0 1 a3 a4 a10 a11)] := hD
  obtain rfl := hw
  have hP9 := hP.sub (ws' := [(h0, zM 1 0 1 a3 a4 a10 a11)]) [0] rfl
  have hD9 := hD.sub (ws' := [(h0, zM 1 0 1 a3 a4 a10 a11)]) [0] (by decide) rfl
  have hK9 := hK.sub (tys' := []) [] rfl
  refine W.widen (k := 0) (n := 0) (by omega) (by omega) ?_
  exact W.iret (v := 0) hx hb hr (fun t ht hW => ⟨⟨0, (), rfl, rfl, by rw [ht]; exact hP9, va_K.moved hW.alike hK9, hD9⟩, hS.F ht⟩) hS.2.2 dX1_found_18
