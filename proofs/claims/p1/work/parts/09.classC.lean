set_option maxHeartbeats 4000000 in
set_option maxRecDepth 100000 in
/-- come on a new camp -/
theorem c_X0_come (l : Launch) (dC : Nat → ClassId) (dI : Nat → Nat → Nat) (h0 : Nat) (v : Nat → Value) (sz : Nat) : Met l yX0_come wsX0_come ({ frames := 8, cells := 0, slots := 0, locals := 120 }) (va_Pc [.ref h0] (zx_pre (dC, dI) [(h0, zX 0 1 v)] [] sz)) (va_Qi (fun (r : Int32) (u : Unit) => r = 0) (fun (u : Unit) => zx_at (dC, dI) [(h0, zX 1 1 v)] [] (va_A [(h0, zX 0 1 v)] sz)) (va_A [(h0, zX 0 1 v)] sz)) 0 0 (va_A [(h0, zX 0 1 v)] sz) := by
  refine Met.ofW (cc := cX0_come) (maxL := 2) (ret := (some .int)) (by decide) rfl ?_
  intro p e s m args below meth c s₁ B hml hv
  obtain ⟨rfl, hsz, hP, hK, hD0, hZ⟩ := hv
  have hx := B.exec
  have hb := B.bytes
  have hr := B.returns
  have hts := atoms_spec (ws := wsX0_come) B.pre
  have hown : s.vm.findClass RX0 = some m.cls := findClass_of_methodNamed B.named
  have hlocks := B.notSynchronized
  subst hsz
  have hD := hD0.self (sz := s.heap.size)
  generalize hAe : va_A [(h0, zX 0 1 v)] s.heap.size = A at hD hZ ⊢
  have hA : ∀ q : Nat, s.heap.size ≤ q → A q := fun q h => by rw [← hAe]; exact Or.inr h
  have hS : va_S A s.heap s.heap [] := va_S.rf
  have hP : va_P (dC, dI) vwCl [(h0, zX 0 1 v)] s.heap := hP
  have hl := lv_entry ([.ref h0]) (n := 2) (Nat.le_of_ble_eq_true rfl)
  rw [lg_entry_eq]
  generalize (lg_sl ([.ref h0]) ++ List.replicate (2 - (lg_sl ([.ref h0])).length) Slot.unset).toArray = ls at hl ⊢
  have hl : lv_has ls 2 [(0, .ref h0)] := hl
  refine lv_aload_n hx hb dX0_come_0 rfl (lv_at hl 0 rfl) ?_
  refine va_get (D := (dC, dI)) (ci := 0) (v := .int 0) (C := RX0) (T := TX0) (N := 18) hx hb hts (by decide +kernel) hown hK hP 0 rfl rfl 0 (by decide) (hts (.fieldLink RX0 46 "LiarTents" "generals" "I") (by decide +kernel)) (fun _ h9 => h9) rfl dX0_come_1 ?_
  refine lv_bipush (v := 7) hx hb dX0_come_4 (by decide) ?_
  refine lv_icmp_lt (tgt := 19) hx hb dX0_come_6 (by decide) (fun _ => ?_) (fun c1 => absurd (by decide) c1)
  refine lv_aload_n hx hb dX0_come_19 rfl (lv_at hl 0 rfl) ?_
  refine va_get (D := (dC, dI)) (ci := 0) (v := .int 0) (C := RX0) (T := TX0) (N := 18) hx hb hts (by decide +kernel) hown hK hP 0 rfl rfl 0 (by decide) (hts (.fieldLink RX0 46 "LiarTents" "generals" "I") (by decide +kernel)) (fun _ h9 => h9) rfl dX0_come_20 ?_
  refine lv_istore_n (lv' := [(1, .int 0), (0, .ref h0)]) hx hb dX0_come_23 rfl hl (by decide) rfl (fun ls hl => ?_)
  refine lv_aload_n hx hb dX0_come_24 rfl (lv_at hl 1 rfl) ?_
  refine lv_iload_n hx hb dX0_come_25 rfl (lv_at hl 0 rfl) ?_
  refine lv_iconst (v := 1) hx hb dX0_come_26 (by decide) ?_
  refine lv_iadd hx hb dX0_come_27 ?_
  refine lv_topi (fun z2 ez2 => ?_)
  obtain rfl : z2 = 1 := ez2.trans (by decide)
  refine va_put (D := (dC, dI)) (ci := 0) (v := .int 1) (ty := .int) (C := RX0) (T := TX0) (N := 18) hx hb hts (by decide +kernel) tyX0 tyX0_ok nmX0 hown hK hP hD hS 0 rfl rfl 0 (by decide) (hts (.fieldLink RX0 46 "LiarTents" "generals" "I") (by decide +kernel)) (fun _ h9 => h9) rfl (by decide +kernel) rfl rfl (Nat.le_of_ble_eq_true rfl) dX0_come_28 (fun H locs hP hD hS => ?_)
  have hP : va_P (dC, dI) vwCl [(h0, zX 1 1 v)] H := hP
  have hD : va_D A [(h0, zX 1 1 v)] := hD
  refine lv_iload_n hx hb dX0_come_31 rfl (lv_at hl 0 rfl) ?_
  have hP9 := hP.sub (ws' := [(h0, zX 1 1 v)]) [0] rfl
  have hD9 := hD.sub (ws' := [(h0, zX 1 1 v)]) [0] (by decide) rfl
  have hK9 := hK.sub (tys' := []) [] rfl
  refine W.widen (k := 0) (n := 0) (by omega) (by omega) ?_
  exact W.iret (v := 0) hx hb hr (fun t ht hW => ⟨⟨0, (), rfl, rfl, by rw [ht]; exact hP9, va_K.moved hW.alike hK9, hD9⟩, hS.F ht⟩) hS.2.2 dX0_come_32
set_option maxHeartbeats 4000000 in
set_option maxRecDepth 100000 in
/-- liarsNow of a new camp -/
theorem c_X0_liarsNow (l : Launch) (dC : Nat → ClassId) (dI : Nat → Nat → Nat) (h0 : Nat) (v : Nat → Value) (sz : Nat) : Met l yX0_liarsNow wsX0_liarsNow ({ frames := 8, cells := 0, slots := 0, locals := 120 }) (va_Pc [.ref h0] (zx_pre (dC, dI) [(h0, zX 0 1 v)] [] sz)) (va_Qi (fun (r : Int32) (u : Unit) => r = 0) (fun (u : Unit) => zx_at (dC, dI) [(h0, zX 0 1 v)] [] (va_A [(h0, zX 0 1 v)] sz)) (va_A [(h0, zX 0 1 v)] sz)) 0 0 (va_A [(h0, zX 0 1 v)] sz) := by
  refine Met.ofW (cc := cX0_liarsNow) (maxL := 3) (ret := (some .int)) (by decide) rfl ?_
  intro p e s m args below meth c s₁ B hml hv
  obtain ⟨rfl, hsz, hP, hK, hD0, hZ⟩ := hv
  have hx := B.exec
  have hb := B.bytes
  have hr := B.returns
  have hts := atoms_spec (ws := wsX0_liarsNow) B.pre
  have hown : s.vm.findClass RX0 = some m.cls := findClass_of_methodNamed B.named
  have hlocks := B.notSynchronized
  subst hsz
  have hD := hD0.self (sz := s.heap.size)
  generalize hAe : va_A [(h0, zX 0 1 v)] s.heap.size = A at hD hZ ⊢
  have hA : ∀ q : Nat, s.heap.size ≤ q → A q := fun q h => by rw [← hAe]; exact Or.inr h
  have hS : va_S A s.heap s.heap [] := va_S.rf
  have hP : va_P (dC, dI) vwCl [(h0, zX 0 1 v)] s.heap := hP
  have hl := lv_entry ([.ref h0]) (n := 3) (Nat.le_of_ble_eq_true rfl)
  rw [lg_entry_eq]
  generalize (lg_sl ([.ref h0]) ++ List.replicate (3 - (lg_sl ([.ref h0])).length) Slot.unset).toArray = ls at hl ⊢
  have hl : lv_has ls 3 [(0, .ref h0)] := hl
  refine lv_iconst (v := 0) hx hb dX0_liarsNow_0 (by decide) ?_
  refine lv_istore_n (lv' := [(1, .int 0), (0, .ref h0)]) hx hb dX0_liarsNow_1 rfl hl (by decide) rfl (fun ls hl => ?_)
  refine lv_iconst (v := 0) hx hb dX0_liarsNow_2 (by decide) ?_
  refine lv_istore_n (lv' := [(2, .int 0), (1, .int 0), (0, .ref h0)]) hx hb dX0_liarsNow_3 rfl hl (by decide) rfl (fun ls hl => ?_)
  refine lv_iload_n hx hb dX0_liarsNow_4 rfl (lv_at hl 0 rfl) ?_
  refine lv_aload_n hx hb dX0_liarsNow_5 rfl (lv_at hl 2 rfl) ?_
  refine va_get (D := (dC, dI)) (ci := 0) (v := .int 0) (C := RX0) (T := TX0) (N := 18) hx hb hts (by decide +kernel) hown hK hP 0 rfl rfl 0 (by decide) (hts (.fieldLink RX0 46 "LiarTents" "generals" "I") (by decide +kernel)) (fun _ h9 => h9) rfl dX0_liarsNow_6 ?_
  refine lv_icmp_ge (tgt := 30) hx hb dX0_liarsNow_9 (by decide) (fun _ => ?_) (fun c1 => absurd (by decide) c1)
  refine lv_iload_n hx hb dX0_liarsNow_30 rfl (lv_at hl 1 rfl) ?_
  have hP9 := hP.sub (ws' := [(h0, zX 0 1 v)]) [0] rfl
  have hD9 := hD.sub (ws' := [(h0, zX 0 1 v)]) [0] (by decide) rfl
  have hK9 := hK.sub (tys' := []) [] rfl
  refine W.widen (k := 0) (n := 0) (by omega) (by omega) ?_
  exact W.iret (v := 0) hx hb hr (fun t ht hW => ⟨⟨0, (), rfl, rfl, by rw [ht]; exact hP9, va_K.moved hW.alike hK9, hD9⟩, hS.F ht⟩) hS.2.2 dX0_liarsNow_31
set_option maxHeartbeats 4000000 in
set_option maxRecDepth 100000 in
/-- counted of a new camp -/
theorem c_X0_counted (l : Launch) (dC : Nat → ClassId) (dI : Nat → Nat → Nat) (h0 : Nat) (v : Nat → Value) (p0 : Int32) (sz : Nat) : Met l yX0_counted wsX0_counted ({ frames := 9, cells := 0, slots := 0, locals := 180 }) (va_Pc [.ref h0, .int p0] (zx_pre (dC, dI) [(h0, zX 0 1 v)] [] sz)) (va_Qi (fun (r : Int32) (u : Unit) => r = zx_c p0) (fun (u : Unit) => zx_at (dC, dI) [(h0, zX 0 1 v)] [] (va_A [(h0, zX 0 1 v)] sz)) (va_A [(h0, zX 0 1 v)] sz)) 0 0 (va_A [(h0, zX 0 1 v)] sz) := by
  refine Met.ofW (cc := cX0_counted) (maxL := 2) (ret := (some .int)) (by decide) rfl ?_
  intro p e s m args below meth c s₁ B hml hv
  obtain ⟨rfl, hsz, hP, hK, hD0, hZ⟩ := hv
  have hx := B.exec
  have hb := B.bytes
  have hr := B.returns
  have hts := atoms_spec (ws := wsX0_counted) B.pre
  have hown : s.vm.findClass RX0 = some m.cls := findClass_of_methodNamed B.named
  have hlocks := B.notSynchronized
  subst hsz
  have hD := hD0.self (sz := s.heap.size)
  generalize hAe : va_A [(h0, zX 0 1 v)] s.heap.size = A at hD hZ ⊢
  have hA : ∀ q : Nat, s.heap.size ≤ q → A q := fun q h => by rw [← hAe]; exact Or.inr h
  have hS : va_S A s.heap s.heap [] := va_S.rf
  have hP : va_P (dC, dI) vwCl [(h0, zX 0 1 v)] s.heap := hP
  have hl := lv_entry ([.ref h0, .int p0]) (n := 2) (Nat.le_of_ble_eq_true rfl)
  rw [lg_entry_eq]
  generalize (lg_sl ([.ref h0, .int p0]) ++ List.replicate (2 - (lg_sl ([.ref h0, .int p0])).length) Slot.unset).toArray = ls at hl ⊢
  have hl : lv_has ls 2 [(0, .ref h0), (1, .int p0)] := hl
  refine lv_iload_n hx hb dX0_counted_0 rfl (lv_at hl 1 rfl) ?_
  by_cases e0 : p0 = 0
  · skip
    subst e0
    refine lv_tableIn (off := 31) (tgt := 32) hx hb dX0_counted_1 (by decide) (by decide) rfl (by decide) ?_
    refine lv_aload_n hx hb dX0_counted_32 rfl (lv_at hl 0 rfl) ?_
    refine va_get (D := (dC, dI)) (ci := 0) (v := .int 0) (C := RX0) (T := TX0) (N := 18) hx hb hts (by decide +kernel) hown hK hP 0 rfl rfl 0 (by decide) (hts (.fieldLink RX0 46 "LiarTents" "generals" "I") (by decide +kernel)) (fun _ h9 => h9) rfl dX0_counted_33 ?_
    have hP9 := hP.sub (ws' := [(h0, zX 0 1 v)]) [0] rfl
    have hD9 := hD.sub (ws' := [(h0, zX 0 1 v)]) [0] (by decide) rfl
    have hK9 := hK.sub (tys' := []) [] rfl
    refine W.widen (k := 0) (n := 0) (by omega) (by omega) ?_
    exact W.iret (v := 0) hx hb hr (fun t ht hW => ⟨⟨0, (), rfl, (by decide), by rw [ht]; exact hP9, va_K.moved hW.alike hK9, hD9⟩, hS.F ht⟩) hS.2.2 dX0_counted_36
  by_cases e1 : p0 = 1
  · skip
    subst e1
    refine lv_tableIn (off := 36) (tgt := 37) hx hb dX0_counted_1 (by decide) (by decide) rfl (by decide) ?_
    refine lv_aload_n hx hb dX0_counted_37 rfl (lv_at hl 0 rfl) ?_
    refine va_get (D := (dC, dI)) (ci := 0) (v := .int 1) (C := RX0) (T := TX0) (N := 18) hx hb hts (by decide +kernel) hown hK hP 0 rfl rfl 1 (by decide) (hts (.fieldLink RX0 7 "LiarTents" "rounds" "I") (by decide +kernel)) (fun _ h9 => h9) rfl dX0_counted_38 ?_
    have hP9 := hP.sub (ws' := [(h0, zX 0 1 v)]) [0] rfl
    have hD9 := hD.sub (ws' := [(h0, zX 0 1 v)]) [0] (by decide) rfl
    have hK9 := hK.sub (tys' := []) [] rfl
    refine W.widen (k := 0) (n := 0) (by omega) (by omega) ?_
    exact W.iret (v := 1) hx hb hr (fun t ht hW => ⟨⟨1, (), rfl, (by decide), by rw [ht]; exact hP9, va_K.moved hW.alike hK9, hD9⟩, hS.F ht⟩) hS.2.2 dX0_counted_41
  by_cases e2 : p0 = 2
  · skip
    subst e2
    refine lv_tableIn (off := 41) (tgt := 42) hx hb dX0_counted_1 (by decide) (by decide) rfl (by decide) ?_
    refine lv_aload_n hx hb dX0_counted_42 rfl (lv_at hl 0 rfl) ?_
    have hPc := hP.sub (ws' := [(h0, zX 0 1 v)]) [0] rfl
    have hDc := hD.sub (ws' := [(h0, zX 0 1 v)]) [0] (by decide) rfl
    have hKc := hK.sub (tys' := []) [] rfl
    have hFc := va_free (wc := [(h0, zX 0 1 v)]) hD hS hA [0] rfl
    refine va_calli (va_runV (As := []) (rest := []) ⟨hx, hb, hml, hown, hts⟩ (c_X0_liarsNow l dC dI h0 v s.heap.size) (cwV 0 hts gX0_counted_X0_liarsNow rfl rfl rfl (by decide +kernel) ⟨Nat.le_of_ble_eq_true rfl, Nat.le_of_ble_eq_true rfl⟩) ⟨zx_blind, va_recv hKc hPc (ci := 0) (q0 := 0) rfl rfl, fun U hU hW => ⟨rfl, zx_go hPc hKc hDc hZ hS hFc hU hW⟩⟩ rfl rfl hl.1 rfl (lv_room (Nat.le_of_ble_eq_true rfl)) dX0_counted_43 ⟨Nat.le_of_ble_eq_true rfl, Nat.le_of_ble_eq_true rfl⟩) hS (fun q _ h => hFc q h) hFc (fun r u t H1 locs ht hvm hw hB hz1 hk1 hS => ?_)
    obtain ⟨hP1, hK1, hD1⟩ := hB
    rw [ht] at hP1
    have hK1 := va_K.moved hvm.symm hK1
    try dsimp only at hw hP1 hD1 hK1
    obtain ⟨hP, hD⟩ := va_join (wr := []) (w1 := [(h0, zX 0 1 v)]) hP hD [0] [] rfl rfl (by decide) (by decide) hk1 hFc hP1 hD1
    generalize H1 = H at hP hS ⊢
    have hP : va_P (dC, dI) vwCl [(h0, zX 0 1 v)] H := hP
    have hD : va_D A [(h0, zX 0 1 v)] := hD
    obtain rfl := hw
    have hP9 := hP.sub (ws' := [(h0, zX 0 1 v)]) [0] rfl
    have hD9 := hD.sub (ws' := [(h0, zX 0 1 v)]) [0] (by decide) rfl
    have hK9 := hK.sub (tys' := []) [] rfl
    refine W.widen (k := 0) (n := 0) (by omega) (by omega) ?_
    exact W.iret (v := 0) hx hb hr (fun t ht hW => ⟨⟨0, (), rfl, (by decide), by rw [ht]; exact hP9, va_K.moved hW.alike hK9, hD9⟩, hS.F ht⟩) hS.2.2 dX0_counted_46
  by_cases e3 : p0 = 3
  · skip
    subst e3
    refine lv_tableIn (off := 46) (tgt := 47) hx hb dX0_counted_1 (by decide) (by decide) rfl (by decide) ?_
    refine lv_aload_n hx hb dX0_counted_47 rfl (lv_at hl 0 rfl) ?_
    refine va_get (D := (dC, dI)) (ci := 0) (v := .int 0) (C := RX0) (T := TX0) (N := 18) hx hb hts (by decide +kernel) hown hK hP 0 rfl rfl 2 (by decide) (hts (.fieldLink RX0 133 "LiarTents" "councils" "I") (by decide +kernel)) (fun _ h9 => h9) rfl dX0_counted_48 ?_
    have hP9 := hP.sub (ws' := [(h0, zX 0 1 v)]) [0] rfl
    have hD9 := hD.sub (ws' := [(h0, zX 0 1 v)]) [0] (by decide) rfl
    have hK9 := hK.sub (tys' := []) [] rfl
    refine W.widen (k := 0) (n := 0) (by omega) (by omega) ?_
    exact W.iret (v := 0) hx hb hr (fun t ht hW => ⟨⟨0, (), rfl, (by decide), by rw [ht]; exact hP9, va_K.moved hW.alike hK9, hD9⟩, hS.F ht⟩) hS.2.2 dX0_counted_51
  have b0 := lv_neT e0 (by decide : (0 : Int32).toInt = 0)
  have b1 := lv_neT e1 (by decide : (1 : Int32).toInt = 1)
  have b2 := lv_neT e2 (by decide : (2 : Int32).toInt = 2)
  have b3 := lv_neT e3 (by decide : (3 : Int32).toInt = 3)
  refine lv_tableOut (tgt := 52) hx hb dX0_counted_1 (by omega) (by decide) ?_
  refine lv_aload_n hx hb dX0_counted_52 rfl (lv_at hl 0 rfl) ?_
  refine va_get (D := (dC, dI)) (ci := 0) (v := .int 0) (C := RX0) (T := TX0) (N := 18) hx hb hts (by decide +kernel) hown hK hP 0 rfl rfl 2 (by decide) (hts (.fieldLink RX0 133 "LiarTents" "councils" "I") (by decide +kernel)) (fun _ h9 => h9) rfl dX0_counted_53 ?_
  refine lv_if_ne (tgt := 63) hx hb dX0_counted_56 (by decide) (fun c1 => absurd c1 (by decide)) (fun _ => ?_)
  refine lv_iconst (v := (-1)) hx hb dX0_counted_59 (by decide) ?_
  refine lv_goto (tgt := 68) hx hb dX0_counted_60 (by decide) ?_
  have hP9 := hP.sub (ws' := [(h0, zX 0 1 v)]) [0] rfl
  have hD9 := hD.sub (ws' := [(h0, zX 0 1 v)]) [0] (by decide) rfl
  have hK9 := hK.sub (tys' := []) [] rfl
  refine W.widen (k := 0) (n := 0) (by omega) (by omega) ?_
  exact W.iret (v := (-1)) hx hb hr (fun t ht hW => ⟨⟨(-1), (), rfl, (by simp [zx_c, e0, e1, e2, e3]), by rw [ht]; exact hP9, va_K.moved hW.alike hK9, hD9⟩, hS.F ht⟩) hS.2.2 dX0_counted_68
set_option maxHeartbeats 4000000 in
set_option maxRecDepth 100000 in
/-- count of a new camp -/
theorem c_X0_count (l : Launch) (hl9 : l.stackTraces = false) (dC : Nat → ClassId) (dI : Nat → Nat → Nat) (h0 : Nat) (v : Nat → Value) (p0 : Int32) (sz : Nat) : vx_Met l yX0_count wsX0_count ({ frames := 11, cells := 1, slots := 6, locals := 300 }) (va_Pc [.ref h0, .int p0] (zx_pre (dC, dI) [(h0, zX 0 1 v)] [] sz)) (va_Qi (fun (r : Int32) (u : Unit) => r = zx_c p0 ∧ ¬ p0 < 0 ∧ ¬ 8 < p0) (fun (u : Unit) => zx_at (dC, dI) [(h0, zX 0 1 v)] [] (va_A [(h0, zX 0 1 v)] sz)) (va_A [(h0, zX 0 1 v)] sz)) (vx_X (fun _ : Unit => p0 < 0 ∨ 8 < p0) (fun E _ _ => E = "java/lang/IndexOutOfBoundsException") (va_A [(h0, zX 0 1 v)] sz)) 1 6 (va_A [(h0, zX 0 1 v)] sz) := by
  refine vx_ofW (cc := cX0_count) (maxL := 2) (ret := (some .int)) (by decide) rfl ?_
  intro p e s m args below meth c s₁ B hml hEx hv
  obtain ⟨rfl, hsz, hP, hK, hD0, hZ⟩ := hv
  have hx := B.exec
  have hb := B.bytes
  have hr := B.returns
  have hts := atoms_spec (ws := wsX0_count) B.pre
  have hown : s.vm.findClass RX0 = some m.cls := findClass_of_methodNamed B.named
  have hlocks := B.notSynchronized
  subst hsz
  have hD := hD0.self (sz := s.heap.size)
  generalize hAe : va_A [(h0, zX 0 1 v)] s.heap.size = A at hD hZ ⊢
  have hA : ∀ q : Nat, s.heap.size ≤ q → A q := fun q h => by rw [← hAe]; exact Or.inr h
  have hS : va_S A s.heap s.heap [] := va_S.rf
  have hP : va_P (dC, dI) vwCl [(h0, zX 0 1 v)] s.heap := hP
  have hl := lv_entry ([.ref h0, .int p0]) (n := 2) (Nat.le_of_ble_eq_true rfl)
  rw [lg_entry_eq]
  generalize (lg_sl ([.ref h0, .int p0]) ++ List.replicate (2 - (lg_sl ([.ref h0, .int p0])).length) Slot.unset).toArray = ls at hl ⊢
  have hl : lv_has ls 2 [(0, .ref h0), (1, .int p0)] := hl
  refine lv_iload_n hx hb dX0_count_0 rfl (lv_at hl 1 rfl) ?_
  refine lv_if_lt (tgt := 10) hx hb dX0_count_1 (by decide) (fun c1 => ?_) (fun c1 => ?_)
  · skip
    obtain ⟨z1, z2, z3, z4, z5, ⟨a1, z6⟩, ⟨a2, z7⟩, ⟨a3, z8⟩, z9, z10, z11⟩ := id hZ
    exact vx_throwS (own := RX0) (cls := "java/lang/IndexOutOfBoundsException") (names := ["java/lang/RuntimeException", "java/lang/Exception"]) hx hb hl9 hown (by decide +kernel) (by decide +kernel) (hts (.classLink RX0 60 "java/lang/IndexOutOfBoundsException") (by decide +kernel)) (hts (.initialized "java/lang/IndexOutOfBoundsException") (by decide +kernel)) z8 (vx_hat (L := vx_atS RX0 64 "java/lang/IndexOutOfBoundsException" ["java/lang/RuntimeException", "java/lang/Exception"]) (B := [.castable "java/lang/IndexOutOfBoundsException" "java/lang/IndexOutOfBoundsException", .declares ⟨"java/lang/RuntimeException", "<init>", "(Ljava/lang/String;)V"⟩, .declares ⟨"java/lang/Exception", "<init>", "(Ljava/lang/String;)V"⟩, .declares ⟨"java/lang/Throwable", "<init>", "(Ljava/lang/String;)V"⟩]) (fun w hw => hts w ((by decide +kernel : ∀ w ∈ (vx_atS RX0 64 "java/lang/IndexOutOfBoundsException" ["java/lang/RuntimeException", "java/lang/Exception"]).filter goodWord, w ∈ wsX0_count) w hw)) (by decide +kernel) (vx_c (va_Nw.use rfl z1) (vx_c (va_Nw.use rfl z3) (vx_c (va_Nw.use rfl z4) (vx_c (va_Nw.use rfl z5) vx_n))))) (by decide +kernel) z9 z10 hS (hl.1.trans hml.symm) dX0_count_10 dX0_count_13 dX0_count_14 dX0_count_16 dX0_count_19 (fun x hx => (hEx x hx).elim) (Nat.le_of_ble_eq_true rfl) (Nat.le_of_ble_eq_true rfl) (Nat.le_of_ble_eq_true rfl) (Nat.le_of_ble_eq_true rfl) hlocks (fun t ha hsz hk => ⟨(), Or.inl c1, rfl, Nat.le_trans hS.1 hsz, fun q h1 h2 => (hk q (Nat.lt_of_lt_of_le h1 hS.1)).trans (hS.2.1 q h1 h2)⟩) hS.2.2 (Nat.le_of_ble_eq_true rfl) (Nat.le_of_ble_eq_true rfl)
  · skip
    refine lv_iload_n hx hb dX0_count_4 rfl (lv_at hl 1 rfl) ?_
    refine lv_bipush (v := 8) hx hb dX0_count_5 (by decide) ?_
    refine lv_icmp_le (tgt := 20) hx hb dX0_count_7 (by decide) (fun c2 => ?_) (fun c2 => ?_)
    · skip
      refine lv_aload_n hx hb dX0_count_20 rfl (lv_at hl 0 rfl) ?_
      refine lv_iload_n hx hb dX0_count_21 rfl (lv_at hl 1 rfl) ?_
      have hPc := hP.sub (ws' := [(h0, zX 0 1 v)]) [0] rfl
      have hDc := hD.sub (ws' := [(h0, zX 0 1 v)]) [0] (by decide) rfl
      have hKc := hK.sub (tys' := []) [] rfl
      have hFc := va_free (wc := [(h0, zX 0 1 v)]) hD hS hA [0] rfl
      refine va_calli (va_runV (As := [.int p0]) (rest := []) ⟨hx, hb, hml, hown, hts⟩ (c_X0_counted l dC dI h0 v p0 s.heap.size) (cwV 1 hts gX0_count_X0_counted rfl rfl rfl (by decide +kernel) ⟨Nat.le_of_ble_eq_true rfl, Nat.le_of_ble_eq_true rfl⟩) ⟨zx_blind, va_recv hKc hPc (ci := 0) (q0 := 0) rfl rfl, fun U hU hW => ⟨rfl, zx_go hPc hKc hDc hZ hS hFc hU hW⟩⟩ rfl rfl hl.1 rfl (lv_room (Nat.le_of_ble_eq_true rfl)) dX0_count_22 ⟨Nat.le_of_ble_eq_true rfl, Nat.le_of_ble_eq_true rfl⟩) hS (fun q _ h => hFc q h) hFc (fun r u t H1 locs ht hvm hw hB hz1 hk1 hS => ?_)
      obtain ⟨hP1, hK1, hD1⟩ := hB
      rw [ht] at hP1
      have hK1 := va_K.moved hvm.symm hK1
      try dsimp only at hw hP1 hD1 hK1
      obtain ⟨hP, hD⟩ := va_join (wr := []) (w1 := [(h0, zX 0 1 v)]) hP hD [0] [] rfl rfl (by decide) (by decide) hk1 hFc hP1 hD1
      generalize H1 = H at hP hS ⊢
      have hP : va_P (dC, dI) vwCl [(h0, zX 0 1 v)] H := hP
      have hD : va_D A [(h0, zX 0 1 v)] := hD
      refine vx_ret ?_
      have hP9 := hP.sub (ws' := [(h0, zX 0 1 v)]) [0] rfl
      have hD9 := hD.sub (ws' := [(h0, zX 0 1 v)]) [0] (by decide) rfl
      have hK9 := hK.sub (tys' := []) [] rfl
      refine W.widen (k := 1) (n := 6) (by omega) (by omega) ?_
      exact W.iret (v := r) hx hb hr (fun t ht hW => ⟨⟨r, (), rfl, ⟨hw, c1, zx_le c2⟩, by rw [ht]; exact hP9, va_K.moved hW.alike hK9, hD9⟩, hS.F ht⟩) hS.2.2 dX0_count_25
    · skip
      obtain ⟨z1, z2, z3, z4, z5, ⟨a1, z6⟩, ⟨a2, z7⟩, ⟨a3, z8⟩, z9, z10, z11⟩ := id hZ
      exact vx_throwS (own := RX0) (cls := "java/lang/IndexOutOfBoundsException") (names := ["java/lang/RuntimeException", "java/lang/Exception"]) hx hb hl9 hown (by decide +kernel) (by decide +kernel) (hts (.classLink RX0 60 "java/lang/IndexOutOfBoundsException") (by decide +kernel)) (hts (.initialized "java/lang/IndexOutOfBoundsException") (by decide +kernel)) z8 (vx_hat (L := vx_atS RX0 64 "java/lang/IndexOutOfBoundsException" ["java/lang/RuntimeException", "java/lang/Exception"]) (B := [.castable "java/lang/IndexOutOfBoundsException" "java/lang/IndexOutOfBoundsException", .declares ⟨"java/lang/RuntimeException", "<init>", "(Ljava/lang/String;)V"⟩, .declares ⟨"java/lang/Exception", "<init>", "(Ljava/lang/String;)V"⟩, .declares ⟨"java/lang/Throwable", "<init>", "(Ljava/lang/String;)V"⟩]) (fun w hw => hts w ((by decide +kernel : ∀ w ∈ (vx_atS RX0 64 "java/lang/IndexOutOfBoundsException" ["java/lang/RuntimeException", "java/lang/Exception"]).filter goodWord, w ∈ wsX0_count) w hw)) (by decide +kernel) (vx_c (va_Nw.use rfl z1) (vx_c (va_Nw.use rfl z3) (vx_c (va_Nw.use rfl z4) (vx_c (va_Nw.use rfl z5) vx_n))))) (by decide +kernel) z9 z10 hS (hl.1.trans hml.symm) dX0_count_10 dX0_count_13 dX0_count_14 dX0_count_16 dX0_count_19 (fun x hx => (hEx x hx).elim) (Nat.le_of_ble_eq_true rfl) (Nat.le_of_ble_eq_true rfl) (Nat.le_of_ble_eq_true rfl) (Nat.le_of_ble_eq_true rfl) hlocks (fun t ha hsz hk => ⟨(), Or.inr (zx_nle c2), rfl, Nat.le_trans hS.1 hsz, fun q h1 h2 => (hk q (Nat.lt_of_lt_of_le h1 hS.1)).trans (hS.2.1 q h1 h2)⟩) hS.2.2 (Nat.le_of_ble_eq_true rfl) (Nat.le_of_ble_eq_true rfl)
set_option maxHeartbeats 4000000 in
set_option maxRecDepth 100000 in
/-- setRounds of a new camp -/
theorem c_X0_setRounds (l : Launch) (hl9 : l.stackTraces = false) (dC : Nat → ClassId) (dI : Nat → Nat → Nat) (h0 : Nat) (v : Nat → Value) (p0 : Int32) (sz : Nat) : vx_Met l yX0_setRounds wsX0_setRounds ({ frames := 11, cells := 1, slots := 6, locals := 300 }) (va_Pc [.ref h0, .int p0] (zx_pre (dC, dI) [(h0, zX 0 1 v)] [] sz)) (va_Qi (fun (r : Int32) (u : Unit) => r = 1 ∧ ¬ p0 < 0 ∧ ¬ 3 < p0) (fun (u : Unit) => zx_at (dC, dI) [(h0, zX 0 p0 v)] [] (va_A [(h0, zX 0 1 v)] sz)) (va_A [(h0, zX 0 1 v)] sz)) (vx_X (fun _ : Unit => p0 < 0 ∨ 3 < p0) (fun E _ _ => E = "java/lang/IllegalArgumentException") (va_A [(h0, zX 0 1 v)] sz)) 1 6 (va_A [(h0, zX 0 1 v)] sz) := by
  refine vx_ofW (cc := cX0_setRounds) (maxL := 3) (ret := (some .int)) (by decide) rfl ?_
  intro p e s m args below meth c s₁ B hml hEx hv
  obtain ⟨rfl, hsz, hP, hK, hD0, hZ⟩ := hv
  have hx := B.exec
  have hb := B.bytes
  have hr := B.returns
  have hts := atoms_spec (ws := wsX0_setRounds) B.pre
  have hown : s.vm.findClass RX0 = some m.cls := findClass_of_methodNamed B.named
  have hlocks := B.notSynchronized
  subst hsz
  have hD := hD0.self (sz := s.heap.size)
  generalize hAe : va_A [(h0, zX 0 1 v)] s.heap.size = A at hD hZ ⊢
  have hA : ∀ q : Nat, s.heap.size ≤ q → A q := fun q h => by rw [← hAe]; exact Or.inr h
  have hS : va_S A s.heap s.heap [] := va_S.rf
  have hP : va_P (dC, dI) vwCl [(h0, zX 0 1 v)] s.heap := hP
  have hl := lv_entry ([.ref h0, .int p0]) (n := 3) (Nat.le_of_ble_eq_true rfl)
  rw [lg_entry_eq]
  generalize (lg_sl ([.ref h0, .int p0]) ++ List.replicate (3 - (lg_sl ([.ref h0, .int p0])).length) Slot.unset).toArray = ls at hl ⊢
  have hl : lv_has ls 3 [(0, .ref h0), (1, .int p0)] := hl
  refine lv_iload_n hx hb dX0_setRounds_0 rfl (lv_at hl 1 rfl) ?_
  have hPc := hP.sub (ws' := []) [] rfl
  have hDc := hD.sub (ws' := []) [] (by decide) rfl
  have hKc := hK.sub (tys' := []) [] rfl
  have hFc := va_free (wc := []) hD hS hA [] rfl
  refine vx_callv (vx_runS (As := [.int p0]) (rest := []) ⟨hx, hb, hml, hown, hts⟩ (c_X0_requireRounds l hl9 dC dI p0 s.heap.size) (va_cwS 1 hts gX0_setRounds_X0_requireRounds rfl rfl rfl (by decide +kernel) ⟨Nat.le_of_ble_eq_true rfl, Nat.le_of_ble_eq_true rfl⟩) ⟨zx_blind, fun U hU hW => ⟨rfl, zx_go hPc hKc hDc hZ hS hFc hU hW⟩⟩ rfl rfl hl.1 rfl (lv_room (Nat.le_of_ble_eq_true rfl)) dX0_setRounds_1 ⟨Nat.le_of_ble_eq_true rfl, Nat.le_of_ble_eq_true rfl⟩) hS (fun q _ h => hFc q h) hFc (fun q _ h => hFc q h) (fun E ce q9 u t H1 locs ht hvm hw hB hz1 hk1 hS hce hcv hcl => ?_) (fun u t H1 locs ht hvm hw hB hz1 hk1 hS => ?_)
  · skip
    obtain rfl := hB
    exact vx_out (fun x hx => (hEx x hx).elim) hlocks hce hcv hcl (fun t ht ha => ⟨(), hw, rfl, hS.F ht⟩) hS.2.2 (Nat.le_of_ble_eq_true rfl) (Nat.le_of_ble_eq_true rfl)
  · skip
    obtain ⟨hP1, hK1, hD1⟩ := hB
    rw [ht] at hP1
    have hK1 := va_K.moved hvm.symm hK1
    try dsimp only at hw hP1 hD1 hK1
    obtain ⟨hP, hD⟩ := va_join (wr := [(h0, zX 0 1 v)]) (w1 := []) hP hD [] [0] rfl rfl (by decide) (by decide) hk1 hFc hP1 hD1
    generalize H1 = H at hP hS ⊢
    have hP : va_P (dC, dI) vwCl [(h0, zX 0 1 v)] H := hP
    have hD : va_D A [(h0, zX 0 1 v)] := hD
    refine W.widen (k := 1) (n := 6) (by omega) (by omega) ?_
    refine lv_aload_n hx hb dX0_setRounds_4 rfl (lv_at hl 0 rfl) ?_
    refine va_get (D := (dC, dI)) (ci := 0) (v := .int 1) (C := RX0) (T := TX0) (N := 18) hx hb hts (by decide +kernel) hown hK hP 0 rfl rfl 1 (by decide) (hts (.fieldLink RX0 7 "LiarTents" "rounds" "I") (by decide +kernel)) (fun _ h9 => h9) rfl dX0_setRounds_5 ?_
    refine lv_istore_n (lv' := [(2, .int 1), (0, .ref h0), (1, .int p0)]) hx hb dX0_setRounds_8 rfl hl (by decide) rfl (fun ls hl => ?_)
    refine lv_aload_n hx hb dX0_setRounds_9 rfl (lv_at hl 1 rfl) ?_
    refine lv_iload_n hx hb dX0_setRounds_10 rfl (lv_at hl 2 rfl) ?_
    refine va_put (D := (dC, dI)) (ci := 0) (v := .int p0) (ty := .int) (C := RX0) (T := TX0) (N := 18) hx hb hts (by decide +kernel) tyX0 tyX0_ok nmX0 hown hK hP hD hS 0 rfl rfl 1 (by decide) (hts (.fieldLink RX0 7 "LiarTents" "rounds" "I") (by decide +kernel)) (fun _ h9 => h9) rfl (by decide +kernel) rfl rfl (Nat.le_of_ble_eq_true rfl) dX0_setRounds_11 (fun H locs hP hD hS => ?_)
    have hP : va_P (dC, dI) vwCl [(h0, zX 0 p0 v)] H := hP
    have hD : va_D A [(h0, zX 0 p0 v)] := hD
    refine lv_iload_n hx hb dX0_setRounds_14 rfl (lv_at hl 0 rfl) ?_
    refine vx_ret ?_
    have hP9 := hP.sub (ws' := [(h0, zX 0 p0 v)]) [0] rfl
    have hD9 := hD.sub (ws' := [(h0, zX 0 p0 v)]) [0] (by decide) rfl
    have hK9 := hK.sub (tys' := []) [] rfl
    refine W.widen (k := 1) (n := 6) (by omega) (by omega) ?_
    exact W.iret (v := 1) hx hb hr (fun t ht hW => ⟨⟨1, (), rfl, ⟨rfl, hw⟩, by rw [ht]; exact hP9, va_K.moved hW.alike hK9, hD9⟩, hS.F ht⟩) hS.2.2 dX0_setRounds_15
set_option maxHeartbeats 4000000 in
set_option maxRecDepth 100000 in
/-- messengersAmong nobody -/
theorem c_X0_messengersAmong (l : Launch) (dC : Nat → ClassId) (dI : Nat → Nat → Nat) (p1 : Int32) (sz : Nat) : Met l yX0_messengersAmong wsX0_messengersAmong ({ frames := 8, cells := 0, slots := 0, locals := 120 }) (va_Pc [.int 0, .int p1] (zx_pre (dC, dI) [] [] sz)) (va_Qi (fun (r : Int32) (u : Unit) => r = 0) (fun (u : Unit) => zx_at (dC, dI) [] [] (va_A [] sz)) (va_A [] sz)) 0 0 (va_A [] sz) := by
  refine Met.ofW (cc := cX0_messengersAmong) (maxL := 5) (ret := (some .int)) (by decide) rfl ?_
  intro p e s m args below meth c s₁ B hml hv
  obtain ⟨rfl, hsz, hP, hK, hD0, hZ⟩ := hv
  have hx := B.exec
  have hb := B.bytes
  have hr := B.returns
  have hts := atoms_spec (ws := wsX0_messengersAmong) B.pre
  have hown : s.vm.findClass RX0 = some m.cls := findClass_of_methodNamed B.named
  have hlocks := B.notSynchronized
  subst hsz
  have hD := hD0.self (sz := s.heap.size)
  generalize hAe : va_A [] s.heap.size = A at hD hZ ⊢
  have hA : ∀ q : Nat, s.heap.size ≤ q → A q := fun q h => by rw [← hAe]; exact Or.inr h
  have hS : va_S A s.heap s.heap [] := va_S.rf
  have hP : va_P (dC, dI) vwCl [] s.heap := hP
  have hl := lv_entry ([.int 0, .int p1]) (n := 5) (Nat.le_of_ble_eq_true rfl)
  rw [lg_entry_eq]
  generalize (lg_sl ([.int 0, .int p1]) ++ List.replicate (5 - (lg_sl ([.int 0, .int p1])).length) Slot.unset).toArray = ls at hl ⊢
  have hl : lv_has ls 5 [(0, .int 0), (1, .int p1)] := hl
  refine lv_iconst (v := 1) hx hb dX0_messengersAmong_0 (by decide) ?_
  refine lv_istore_n (lv' := [(2, .int 1), (0, .int 0), (1, .int p1)]) hx hb dX0_messengersAmong_1 rfl hl (by decide) rfl (fun ls hl => ?_)
  refine lv_iconst (v := 0) hx hb dX0_messengersAmong_2 (by decide) ?_
  refine lv_istore_n (lv' := [(3, .int 0), (2, .int 1), (0, .int 0), (1, .int p1)]) hx hb dX0_messengersAmong_3 rfl hl (by decide) rfl (fun ls hl => ?_)
  refine lv_iconst (v := 0) hx hb dX0_messengersAmong_4 (by decide) ?_
  refine lv_istore (lv' := [(4, .int 0), (3, .int 0), (2, .int 1), (0, .int 0), (1, .int p1)]) hx hb dX0_messengersAmong_5 hl (by decide) rfl (fun ls hl => ?_)
  refine lv_iload hx hb dX0_messengersAmong_7 (lv_at hl 0 rfl) ?_
  refine lv_iload_n hx hb dX0_messengersAmong_9 rfl (lv_at hl 4 rfl) ?_
  refine lv_icmp_gt (tgt := 40) hx hb dX0_messengersAmong_10 (by decide) (fun _ => ?_) (fun _ => ?_)
  · skip
    refine lv_iload_n hx hb dX0_messengersAmong_40 rfl (lv_at hl 1 rfl) ?_
    have hP9 := hP.sub (ws' := []) [] rfl
    have hD9 := hD.sub (ws' := []) [] (by decide) rfl
    have hK9 := hK.sub (tys' := []) [] rfl
    refine W.widen (k := 0) (n := 0) (by omega) (by omega) ?_
    exact W.iret (v := 0) hx hb hr (fun t ht hW => ⟨⟨0, (), rfl, rfl, by rw [ht]; exact hP9, va_K.moved hW.alike hK9, hD9⟩, hS.F ht⟩) hS.2.2 dX0_messengersAmong_41
  · skip
    refine lv_iload hx hb dX0_messengersAmong_13 (lv_at hl 0 rfl) ?_
    refine lv_iload_n hx hb dX0_messengersAmong_15 rfl (lv_at hl 3 rfl) ?_
    refine lv_iconst (v := 1) hx hb dX0_messengersAmong_16 (by decide) ?_
    refine lv_isub hx hb dX0_messengersAmong_17 ?_
    refine lv_topi (fun z1 ez1 => ?_)
    obtain rfl : z1 = (-1) := ez1.trans (by decide)
    refine lv_icmp_ge (tgt := 40) hx hb dX0_messengersAmong_18 (by decide) (fun _ => ?_) (fun c2 => absurd (by decide) c2)
    refine lv_iload_n hx hb dX0_messengersAmong_40 rfl (lv_at hl 1 rfl) ?_
    have hP9 := hP.sub (ws' := []) [] rfl
    have hD9 := hD.sub (ws' := []) [] (by decide) rfl
    have hK9 := hK.sub (tys' := []) [] rfl
    refine W.widen (k := 0) (n := 0) (by omega) (by omega) ?_
    exact W.iret (v := 0) hx hb hr (fun t ht hW => ⟨⟨0, (), rfl, rfl, by rw [ht]; exact hP9, va_K.moved hW.alike hK9, hD9⟩, hS.F ht⟩) hS.2.2 dX0_messengersAmong_41
set_option maxHeartbeats 4000000 in
set_option maxRecDepth 100000 in
/-- messengers of a new camp -/
theorem c_X0_messengers (l : Launch) (hl9 : l.stackTraces = false) (dC : Nat → ClassId) (dI : Nat → Nat → Nat) (h0 : Nat) (v : Nat → Value) (p0 : Int32) (sz : Nat) : vx_Met l yX0_messengers wsX0_messengers ({ frames := 11, cells := 1, slots := 6, locals := 300 }) (va_Pc [.ref h0, .int p0] (zx_pre (dC, dI) [(h0, zX 0 1 v)] [] sz)) (va_Qi (fun (r : Int32) (u : Unit) => r = 0 ∧ ¬ p0 < 0 ∧ ¬ 3 < p0) (fun (u : Unit) => zx_at (dC, dI) [(h0, zX 0 1 v)] [] (va_A [(h0, zX 0 1 v)] sz)) (va_A [(h0, zX 0 1 v)] sz)) (vx_X (fun _ : Unit => p0 < 0 ∨ 3 < p0) (fun E _ _ => E = "java/lang/IllegalArgumentException") (va_A [(h0, zX 0 1 v)] sz)) 1 6 (va_A [(h0, zX 0 1 v)] sz) := by
  refine vx_ofW (cc := cX0_messengers) (maxL := 2) (ret := (some .int)) (by decide) rfl ?_
  intro p e s m args below meth c s₁ B hml hEx hv
  obtain ⟨rfl, hsz, hP, hK, hD0, hZ⟩ := hv
  have hx := B.exec
  have hb := B.bytes
  have hr := B.returns
  have hts := atoms_spec (ws := wsX0_messengers) B.pre
  have hown : s.vm.findClass RX0 = some m.cls := findClass_of_methodNamed B.named
  have hlocks := B.notSynchronized
  subst hsz
  have hD := hD0.self (sz := s.heap.size)
  generalize hAe : va_A [(h0, zX 0 1 v)] s.heap.size = A at hD hZ ⊢
  have hA : ∀ q : Nat, s.heap.size ≤ q → A q := fun q h => by rw [← hAe]; exact Or.inr h
  have hS : va_S A s.heap s.heap [] := va_S.rf
  have hP : va_P (dC, dI) vwCl [(h0, zX 0 1 v)] s.heap := hP
  have hl := lv_entry ([.ref h0, .int p0]) (n := 2) (Nat.le_of_ble_eq_true rfl)
  rw [lg_entry_eq]
  generalize (lg_sl ([.ref h0, .int p0]) ++ List.replicate (2 - (lg_sl ([.ref h0, .int p0])).length) Slot.unset).toArray = ls at hl ⊢
  have hl : lv_has ls 2 [(0, .ref h0), (1, .int p0)] := hl
  refine lv_iload_n hx hb dX0_messengers_0 rfl (lv_at hl 1 rfl) ?_
  have hPc := hP.sub (ws' := []) [] rfl
  have hDc := hD.sub (ws' := []) [] (by decide) rfl
  have hKc := hK.sub (tys' := []) [] rfl
  have hFc := va_free (wc := []) hD hS hA [] rfl
  refine vx_callv (vx_runS (As := [.int p0]) (rest := []) ⟨hx, hb, hml, hown, hts⟩ (c_X0_requireRounds l hl9 dC dI p0 s.heap.size) (va_cwS 1 hts gX0_messengers_X0_requireRounds rfl rfl rfl (by decide +kernel) ⟨Nat.le_of_ble_eq_true rfl, Nat.le_of_ble_eq_true rfl⟩) ⟨zx_blind, fun U hU hW => ⟨rfl, zx_go hPc hKc hDc hZ hS hFc hU hW⟩⟩ rfl rfl hl.1 rfl (lv_room (Nat.le_of_ble_eq_true rfl)) dX0_messengers_1 ⟨Nat.le_of_ble_eq_true rfl, Nat.le_of_ble_eq_true rfl⟩) hS (fun q _ h => hFc q h) hFc (fun q _ h => hFc q h) (fun E ce q9 u t H1 locs ht hvm hw hB hz1 hk1 hS hce hcv hcl => ?_) (fun u t H1 locs ht hvm hw hB hz1 hk1 hS => ?_)
  · skip
    obtain rfl := hB
    exact vx_out (fun x hx => (hEx x hx).elim) hlocks hce hcv hcl (fun t ht ha => ⟨(), hw, rfl, hS.F ht⟩) hS.2.2 (Nat.le_of_ble_eq_true rfl) (Nat.le_of_ble_eq_true rfl)
  · skip
    obtain ⟨hP1, hK1, hD1⟩ := hB
    rw [ht] at hP1
    have hK1 := va_K.moved hvm.symm hK1
    try dsimp only at hw hP1 hD1 hK1
    obtain ⟨hP, hD⟩ := va_join (wr := [(h0, zX 0 1 v)]) (w1 := []) hP hD [] [0] rfl rfl (by decide) (by decide) hk1 hFc hP1 hD1
    generalize H1 = H at hP hS ⊢
    have hP : va_P (dC, dI) vwCl [(h0, zX 0 1 v)] H := hP
    have hD : va_D A [(h0, zX 0 1 v)] := hD
    refine W.widen (k := 1) (n := 6) (by omega) (by omega) ?_
    have hc := hw
    refine lv_aload_n hx hb dX0_messengers_4 rfl (lv_at hl 0 rfl) ?_
    refine va_get (D := (dC, dI)) (ci := 0) (v := .int 0) (C := RX0) (T := TX0) (N := 18) hx hb hts (by decide +kernel) hown hK hP 0 rfl rfl 0 (by decide) (hts (.fieldLink RX0 46 "LiarTents" "generals" "I") (by decide +kernel)) (fun _ h9 => h9) rfl dX0_messengers_5 ?_
    refine lv_iload_n hx hb dX0_messengers_8 rfl (lv_at hl 1 rfl) ?_
    have hPc := hP.sub (ws' := []) [] rfl
    have hDc := hD.sub (ws' := []) [] (by decide) rfl
    have hKc := hK.sub (tys' := []) [] rfl
    have hFc := va_free (wc := []) hD hS hA [] rfl
    refine va_calli (va_runS (As := [.int 0, .int p0]) (rest := []) ⟨hx, hb, hml, hown, hts⟩ (c_X0_messengersAmong l dC dI p0 H.size) (va_cwS 2 hts gX0_messengers_X0_messengersAmong rfl rfl rfl (by decide +kernel) ⟨Nat.le_of_ble_eq_true rfl, Nat.le_of_ble_eq_true rfl⟩) ⟨zx_blind, fun U hU hW => ⟨rfl, zx_go hPc hKc hDc hZ hS hFc hU hW⟩⟩ rfl rfl hl.1 rfl (lv_room (Nat.le_of_ble_eq_true rfl)) dX0_messengers_9 ⟨Nat.le_of_ble_eq_true rfl, Nat.le_of_ble_eq_true rfl⟩) hS (fun q _ h => hFc q h) hFc (fun r u t H1 locs ht hvm hw hB hz1 hk1 hS => ?_)
    obtain ⟨hP1, hK1, hD1⟩ := hB
    rw [ht] at hP1
    have hK1 := va_K.moved hvm.symm hK1
    try dsimp only at hw hP1 hD1 hK1
    obtain ⟨hP, hD⟩ := va_join (wr := [(h0, zX 0 1 v)]) (w1 := []) hP hD [] [0] rfl rfl (by decide) (by decide) hk1 hFc hP1 hD1
    generalize H1 = H at hP hS ⊢
    have hP : va_P (dC, dI) vwCl [(h0, zX 0 1 v)] H := hP
    have hD : va_D A [(h0, zX 0 1 v)] := hD
    obtain rfl := hw
    refine vx_ret ?_
    have hP9 := hP.sub (ws' := [(h0, zX 0 1 v)]) [0] rfl
    have hD9 := hD.sub (ws' := [(h0, zX 0 1 v)]) [0] (by decide) rfl
    have hK9 := hK.sub (tys' := []) [] rfl
    refine W.widen (k := 1) (n := 6) (by omega) (by omega) ?_
    exact W.iret (v := 0) hx hb hr (fun t ht hW => ⟨⟨0, (), rfl, ⟨rfl, hc⟩, by rw [ht]; exact hP9, va_K.moved hW.alike hK9, hD9⟩, hS.F ht⟩) hS.2.2 dX0_messengers_12
set_option maxHeartbeats 4000000 in
set_option maxRecDepth 100000 in
/-- alwaysAgree in a new camp -/
theorem c_X0_alwaysAgree (l : Launch) (dC : Nat → ClassId) (dI : Nat → Nat → Nat) (h0 : Nat) (v : Nat → Value) (sz : Nat) : Met l yX0_alwaysAgree wsX0_alwaysAgree ({ frames := 8, cells := 0, slots := 0, locals := 120 }) (va_Pc [.ref h0, .int 0] (zx_pre (dC, dI) [(h0, zX 0 1 v)] [] sz)) (va_Qi (fun (r : Int32) (u : Unit) => r = 1) (fun (u : Unit) => zx_at (dC, dI) [(h0, zX 0 1 v)] [] (va_A [(h0, zX 0 1 v)] sz)) (va_A [(h0, zX 0 1 v)] sz)) 0 0 (va_A [(h0, zX 0 1 v)] sz) := by
  refine Met.ofW (cc := cX0_alwaysAgree) (maxL := 4) (ret := (some .boolean)) (by decide) rfl ?_
  intro p e s m args below meth c s₁ B hml hv
  obtain ⟨rfl, hsz, hP, hK, hD0, hZ⟩ := hv
  have hx := B.exec
  have hb := B.bytes
  have hr := B.returns
  have hts := atoms_spec (ws := wsX0_alwaysAgree) B.pre
  have hown : s.vm.findClass RX0 = some m.cls := findClass_of_methodNamed B.named
  have hlocks := B.notSynchronized
  subst hsz
  have hD := hD0.self (sz := s.heap.size)
  generalize hAe : va_A [(h0, zX 0 1 v)] s.heap.size = A at hD hZ ⊢
  have hA : ∀ q : Nat, s.heap.size ≤ q → A q := fun q h => by rw [← hAe]; exact Or.inr h
  have hS : va_S A s.heap s.heap [] := va_S.rf
  have hP : va_P (dC, dI) vwCl [(h0, zX 0 1 v)] s.heap := hP
  have hl := lv_entry ([.ref h0, .int 0]) (n := 4) (Nat.le_of_ble_eq_true rfl)
  rw [lg_entry_eq]
  generalize (lg_sl ([.ref h0, .int 0]) ++ List.replicate (4 - (lg_sl ([.ref h0, .int 0])).length) Slot.unset).toArray = ls at hl ⊢
  have hl : lv_has ls 4 [(0, .ref h0), (1, .int 0)] := hl
  refine lv_iconst (v := 0) hx hb dX0_alwaysAgree_0 (by decide) ?_
  refine lv_istore_n (lv' := [(2, .int 0), (0, .ref h0), (1, .int 0)]) hx hb dX0_alwaysAgree_1 rfl hl (by decide) rfl (fun ls hl => ?_)
  refine lv_iload_n hx hb dX0_alwaysAgree_2 rfl (lv_at hl 0 rfl) ?_
  refine lv_aload_n hx hb dX0_alwaysAgree_3 rfl (lv_at hl 1 rfl) ?_
  refine va_get (D := (dC, dI)) (ci := 0) (v := .int 0) (C := RX0) (T := TX0) (N := 18) hx hb hts (by decide +kernel) hown hK hP 0 rfl rfl 0 (by decide) (hts (.fieldLink RX0 46 "LiarTents" "generals" "I") (by decide +kernel)) (fun _ h9 => h9) rfl dX0_alwaysAgree_4 ?_
  refine lv_icmp_ge (tgt := 41) hx hb dX0_alwaysAgree_7 (by decide) (fun _ => ?_) (fun c1 => absurd (by decide) c1)
  refine lv_iconst (v := 1) hx hb dX0_alwaysAgree_41 (by decide) ?_
  have hP9 := hP.sub (ws' := [(h0, zX 0 1 v)]) [0] rfl
  have hD9 := hD.sub (ws' := [(h0, zX 0 1 v)]) [0] (by decide) rfl
  have hK9 := hK.sub (tys' := []) [] rfl
  refine W.widen (k := 0) (n := 0) (by omega) (by omega) ?_
  exact W.zret (v := 1) hx hb hr rfl (fun t ht hW => ⟨⟨1, (), rfl, rfl, by rw [ht]; exact hP9, va_K.moved hW.alike hK9, hD9⟩, hS.F ht⟩) hS.2.2 dX0_alwaysAgree_42
set_option maxHeartbeats 4000000 in
set_option maxRecDepth 100000 in
/-- needs of a new camp -/
theorem c_X0_needs (l : Launch) (dC : Nat → ClassId) (dI : Nat → Nat → Nat) (h0 : Nat) (v : Nat → Value) (sz : Nat) : Met l yX0_needs wsX0_needs ({ frames := 9, cells := 0, slots := 0, locals := 180 }) (va_Pc [.ref h0] (zx_pre (dC, dI) [(h0, zX 0 1 v)] [] sz)) (va_Qi (fun (r : Int32) (u : Unit) => r = 0) (fun (u : Unit) => zx_at (dC, dI) [(h0, zX 0 1 v)] [] (va_A [(h0, zX 0 1 v)] sz)) (va_A [(h0, zX 0 1 v)] sz)) 0 0 (va_A [(h0, zX 0 1 v)] sz) := by
  refine Met.ofW (cc := cX0_needs) (maxL := 2) (ret := (some .int)) (by decide) rfl ?_
  intro p e s m args below meth c s₁ B hml hv
  obtain ⟨rfl, hsz, hP, hK, hD0, hZ⟩ := hv
  have hx := B.exec
  have hb := B.bytes
  have hr := B.returns
  have hts := atoms_spec (ws := wsX0_needs) B.pre
  have hown : s.vm.findClass RX0 = some m.cls := findClass_of_methodNamed B.named
  have hlocks := B.notSynchronized
  subst hsz
  have hD := hD0.self (sz := s.heap.size)
  generalize hAe : va_A [(h0, zX 0 1 v)] s.heap.size = A at hD hZ ⊢
  have hA : ∀ q : Nat, s.heap.size ≤ q → A q := fun q h => by rw [← hAe]; exact Or.inr h
  have hS : va_S A s.heap s.heap [] := va_S.rf
  have hP : va_P (dC, dI) vwCl [(h0, zX 0 1 v)] s.heap := hP
  have hl := lv_entry ([.ref h0]) (n := 2) (Nat.le_of_ble_eq_true rfl)
  rw [lg_entry_eq]
  generalize (lg_sl ([.ref h0]) ++ List.replicate (2 - (lg_sl ([.ref h0])).length) Slot.unset).toArray = ls at hl ⊢
  have hl : lv_has ls 2 [(0, .ref h0)] := hl
  refine lv_iconst (v := 0) hx hb dX0_needs_0 (by decide) ?_
  refine lv_istore_n (lv' := [(1, .int 0), (0, .ref h0)]) hx hb dX0_needs_1 rfl hl (by decide) rfl (fun ls hl => ?_)
  refine lv_iload_n hx hb dX0_needs_2 rfl (lv_at hl 0 rfl) ?_
  refine lv_iconst (v := 3) hx hb dX0_needs_3 (by decide) ?_
  refine lv_icmp_gt (tgt := 23) hx hb dX0_needs_4 (by decide) (fun c1 => absurd c1 (by decide)) (fun _ => ?_)
  refine lv_aload_n hx hb dX0_needs_7 rfl (lv_at hl 1 rfl) ?_
  refine lv_iload_n hx hb dX0_needs_8 rfl (lv_at hl 0 rfl) ?_
  have hPc := hP.sub (ws' := [(h0, zX 0 1 v)]) [0] rfl
  have hDc := hD.sub (ws' := [(h0, zX 0 1 v)]) [0] (by decide) rfl
  have hKc := hK.sub (tys' := []) [] rfl
  have hFc := va_free (wc := [(h0, zX 0 1 v)]) hD hS hA [0] rfl
  refine va_calli (va_runV (As := [.int 0]) (rest := []) ⟨hx, hb, hml, hown, hts⟩ (c_X0_alwaysAgree l dC dI h0 v s.heap.size) (cwV 1 hts gX0_needs_X0_alwaysAgree rfl rfl rfl (by decide +kernel) ⟨Nat.le_of_ble_eq_true rfl, Nat.le_of_ble_eq_true rfl⟩) ⟨zx_blind, va_recv hKc hPc (ci := 0) (q0 := 0) rfl rfl, fun U hU hW => ⟨rfl, zx_go hPc hKc hDc hZ hS hFc hU hW⟩⟩ rfl rfl hl.1 rfl (lv_room (Nat.le_of_ble_eq_true rfl)) dX0_needs_9 ⟨Nat.le_of_ble_eq_true rfl, Nat.le_of_ble_eq_true rfl⟩) hS (fun q _ h => hFc q h) hFc (fun r u t H1 locs ht hvm hw hB hz1 hk1 hS => ?_)
  obtain ⟨hP1, hK1, hD1⟩ := hB
  rw [ht] at hP1
  have hK1 := va_K.moved hvm.symm hK1
  try dsimp only at hw hP1 hD1 hK1
  obtain ⟨hP, hD⟩ := va_join (wr := []) (w1 := [(h0, zX 0 1 v)]) hP hD [0] [] rfl rfl (by decide) (by decide) hk1 hFc hP1 hD1
  generalize H1 = H at hP hS ⊢
  have hP : va_P (dC, dI) vwCl [(h0, zX 0 1 v)] H := hP
  have hD : va_D A [(h0, zX 0 1 v)] := hD
  obtain rfl := hw
  refine lv_if_eq (tgt := 17) hx hb dX0_needs_12 (by decide) (fun c2 => absurd c2 (by decide)) (fun _ => ?_)
  refine lv_iload_n hx hb dX0_needs_15 rfl (lv_at hl 0 rfl) ?_
  have hP9 := hP.sub (ws' := [(h0, zX 0 1 v)]) [0] rfl
  have hD9 := hD.sub (ws' := [(h0, zX 0 1 v)]) [0] (by decide) rfl
  have hK9 := hK.sub (tys' := []) [] rfl
  refine W.widen (k := 0) (n := 0) (by omega) (by omega) ?_
  exact W.iret (v := 0) hx hb hr (fun t ht hW => ⟨⟨0, (), rfl, rfl, by rw [ht]; exact hP9, va_K.moved hW.alike hK9, hD9⟩, hS.F ht⟩) hS.2.2 dX0_needs_16
set_option maxHeartbeats 4000000 in
set_option maxRecDepth 100000 in
/-- mean of a new camp -/
theorem c_X0_mean (l : Launch) (dC : Nat → ClassId) (dI : Nat → Nat → Nat) (h0 : Nat) (v : Nat → Value) (sz : Nat) : Met l yX0_mean wsX0_mean ({ frames := 8, cells := 0, slots := 0, locals := 120 }) (va_Pc [.ref h0] (zx_pre (dC, dI) [(h0, zX 0 1 v)] [] sz)) (va_Qd (fun (r : UInt64) (u : Unit) => r = FP.dconst0) (fun (u : Unit) => zx_at (dC, dI) [(h0, zX 0 1 v)] [] (va_A [(h0, zX 0 1 v)] sz)) (va_A [(h0, zX 0 1 v)] sz)) 0 0 (va_A [(h0, zX 0 1 v)] sz) := by
  refine Met.ofW (cc := cX0_mean) (maxL := 1) (ret := (some .double)) (by decide) rfl ?_
  intro p e s m args below meth c s₁ B hml hv
  obtain ⟨rfl, hsz, hP, hK, hD0, hZ⟩ := hv
  have hx := B.exec
  have hb := B.bytes
  have hr := B.returns
  have hts := atoms_spec (ws := wsX0_mean) B.pre
  have hown : s.vm.findClass RX0 = some m.cls := findClass_of_methodNamed B.named
  have hlocks := B.notSynchronized
  subst hsz
  have hD := hD0.self (sz := s.heap.size)
  generalize hAe : va_A [(h0, zX 0 1 v)] s.heap.size = A at hD hZ ⊢
  have hA : ∀ q : Nat, s.heap.size ≤ q → A q := fun q h => by rw [← hAe]; exact Or.inr h
  have hS : va_S A s.heap s.heap [] := va_S.rf
  have hP : va_P (dC, dI) vwCl [(h0, zX 0 1 v)] s.heap := hP
  have hl := lv_entry ([.ref h0]) (n := 1) (Nat.le_of_ble_eq_true rfl)
  rw [lg_entry_eq]
  generalize (lg_sl ([.ref h0]) ++ List.replicate (1 - (lg_sl ([.ref h0])).length) Slot.unset).toArray = ls at hl ⊢
  have hl : lv_has ls 1 [(0, .ref h0)] := hl
  refine lv_aload_n hx hb dX0_mean_0 rfl (lv_at hl 0 rfl) ?_
  refine va_get (D := (dC, dI)) (ci := 0) (v := .int 0) (C := RX0) (T := TX0) (N := 18) hx hb hts (by decide +kernel) hown hK hP 0 rfl rfl 2 (by decide) (hts (.fieldLink RX0 133 "LiarTents" "councils" "I") (by decide +kernel)) (fun _ h9 => h9) rfl dX0_mean_1 ?_
  refine lv_if_ne (tgt := 11) hx hb dX0_mean_4 (by decide) (fun c1 => absurd c1 (by decide)) (fun _ => ?_)
  refine lv_dconst0 hx hb dX0_mean_7 ?_
  refine lv_goto (tgt := 22) hx hb dX0_mean_8 (by decide) ?_
  have hP9 := hP.sub (ws' := [(h0, zX 0 1 v)]) [0] rfl
  have hD9 := hD.sub (ws' := [(h0, zX 0 1 v)]) [0] (by decide) rfl
  have hK9 := hK.sub (tys' := []) [] rfl
  refine W.widen (k := 0) (n := 0) (by omega) (by omega) ?_
  exact W.dret (v := FP.dconst0) hx hb hr (fun t ht hW => ⟨⟨FP.dconst0, (), rfl, rfl, by rw [ht]; exact hP9, va_K.moved hW.alike hK9, hD9⟩, hS.F ht⟩) hS.2.2 dX0_mean_22
set_option maxHeartbeats 4000000 in
set_option maxRecDepth 100000 in
/-- mixed -/
theorem c_X0_mixed (l : Launch) (dC : Nat → ClassId) (dI : Nat → Nat → Nat) (p0 p1 : Int64) (sz : Nat) : Met l yX0_mixed wsX0_mixed ({ frames := 8, cells := 0, slots := 0, locals := 120 }) (va_Pc [.long p0, .long p1] (zx_pre (dC, dI) [] [] sz)) (va_Ql (fun (r : Int64) (u : Unit) => r = p0 * 31 + p1) (fun (u : Unit) => zx_at (dC, dI) [] [] (va_A [] sz)) (va_A [] sz)) 0 0 (va_A [] sz) := by
  refine Met.ofW (cc := cX0_mixed) (maxL := 4) (ret := (some .long)) (by decide) rfl ?_
  intro p e s m args below meth c s₁ B hml hv
  obtain ⟨rfl, hsz, hP, hK, hD0, hZ⟩ := hv
  have hx := B.exec
  have hb := B.bytes
  have hr := B.returns
  have hts := atoms_spec (ws := wsX0_mixed) B.pre
  have hown : s.vm.findClass RX0 = some m.cls := findClass_of_methodNamed B.named
  have hlocks := B.notSynchronized
  subst hsz
  have hD := hD0.self (sz := s.heap.size)
  generalize hAe : va_A [] s.heap.size = A at hD hZ ⊢
  have hA : ∀ q : Nat, s.heap.size ≤ q → A q := fun q h => by rw [← hAe]; exact Or.inr h
  have hS : va_S A s.heap s.heap [] := va_S.rf
  have hP : va_P (dC, dI) vwCl [] s.heap := hP
  have hl := lv_entry ([.long p0, .long p1]) (n := 4) (Nat.le_of_ble_eq_true rfl)
  rw [lg_entry_eq]
  generalize (lg_sl ([.long p0, .long p1]) ++ List.replicate (4 - (lg_sl ([.long p0, .long p1])).length) Slot.unset).toArray = ls at hl ⊢
  have hl : lv_has ls 4 [(0, .long p0), (2, .long p1)] := hl
  refine lv_lload_n hx hb dX0_mixed_0 rfl (lv_at hl 0 rfl) ?_
  refine lv_ldc2 (v := 31) hx hb hown (hts (.constantLong RX0 197 (31)) (by decide +kernel)) dX0_mixed_1 ?_
  refine lv_lmul hx hb dX0_mixed_4 ?_
  refine lv_lload_n hx hb dX0_mixed_5 rfl (lv_at hl 1 rfl) ?_
  refine lv_ladd hx hb dX0_mixed_6 ?_
  have hP9 := hP.sub (ws' := []) [] rfl
  have hD9 := hD.sub (ws' := []) [] (by decide) rfl
  have hK9 := hK.sub (tys' := []) [] rfl
  refine W.widen (k := 0) (n := 0) (by omega) (by omega) ?_
  exact W.lret (v := ((p0 * 31) + p1)) hx hb hr (fun t ht hW => ⟨⟨((p0 * 31) + p1), (), rfl, rfl, by rw [ht]; exact hP9, va_K.moved hW.alike hK9, hD9⟩, hS.F ht⟩) hS.2.2 dX0_mixed_7
