set_option maxHeartbeats 4000000 in
set_option maxRecDepth 100000 in
/-- setRounds of the reference -/
theorem c_X1_setRounds (l : Launch) (dC : Nat → ClassId) (dI : Nat → Nat → Nat) (h0 : Nat) (p0 : Int32) (a3 a4 a10 a11 : Value) (sz : Nat) : Met l yX1_setRounds wsX1_setRounds ({ frames := 11, cells := 0, slots := 0, locals := 300 }) (va_Pc [.ref h0, .int p0] (zx_pre (dC, dI) [(h0, zM 0 0 1 a3 a4 a10 a11)] [] sz)) (va_Qi (fun (r : Int32) (u : Int32 × Int32) => (u.1 = 1 ∧ u.2 = 1 ∧ r = 0 ∧ (p0 < 0 ∨ 3 < p0)) ∨ (u.1 = 0 ∧ r = 1 ∧ ¬ p0 < 0 ∧ ¬ 3 < p0)) (fun (u : Int32 × Int32) => zx_at (dC, dI) [(h0, zM u.1 0 u.2 a3 a4 a10 a11)] [] (va_A [(h0, zM 0 0 1 a3 a4 a10 a11)] sz)) (va_A [(h0, zM 0 0 1 a3 a4 a10 a11)] sz)) 0 0 (va_A [(h0, zM 0 0 1 a3 a4 a10 a11)] sz) := by
  refine Met.ofW (cc := cX1_setRounds) (maxL := 3) (ret := (some .int)) (by decide) rfl ?_
  intro p e s m args below meth c s₁ B hml hv
  obtain ⟨rfl, hsz, hP, hK, hD0, hZ⟩ := hv
  have hx := B.exec
  have hb := B.bytes
  have hr := B.returns
  have hts := atoms_spec (ws := wsX1_setRounds) B.pre
  have hown : s.vm.findClass RX1 = some m.cls := findClass_of_methodNamed B.named
  have hlocks := B.notSynchronized
  subst hsz
  have hD := hD0.self (sz := s.heap.size)
  generalize hAe : va_A [(h0, zM 0 0 1 a3 a4 a10 a11)] s.heap.size = A at hD hZ ⊢
  have hA : ∀ q : Nat, s.heap.size ≤ q → A q := fun q h => by rw [← hAe]; exact Or.inr h
  have hS : va_S A s.heap s.heap [] := va_S.rf
  have hP : va_P (dC, dI) vwCl [(h0, zM 0 0 1 a3 a4 a10 a11)] s.heap := hP
  have hl := lv_entry ([.ref h0, .int p0]) (n := 3) (Nat.le_of_ble_eq_true rfl)
  rw [lg_entry_eq]
  generalize (lg_sl ([.ref h0, .int p0]) ++ List.replicate (3 - (lg_sl ([.ref h0, .int p0])).length) Slot.unset).toArray = ls at hl ⊢
  have hl : lv_has ls 3 [(0, .ref h0), (1, .int p0)] := hl
  refine lv_aload_n hx hb dX1_setRounds_0 rfl (lv_at hl 0 rfl) ?_
  refine lv_iconst (v := 0) hx hb dX1_setRounds_1 (by decide) ?_
  refine va_put (D := (dC, dI)) (ci := 1) (v := .int 0) (ty := .int) (C := RX1) (T := TX1) (N := 12) hx hb hts (by decide +kernel) tyX1 tyX1_ok nmX1 hown hK hP hD hS 0 rfl rfl 0 (by decide) (hts (.fieldLink RX1 37 "LiarTentsModel" "thrown" "I") (by decide +kernel)) (fun _ h9 => h9) rfl (by decide +kernel) rfl rfl (Nat.le_of_ble_eq_true rfl) dX1_setRounds_2 (fun H locs hP hD hS => ?_)
  have hP : va_P (dC, dI) vwCl [(h0, zM 0 0 1 a3 a4 a10 a11)] H := hP
  have hD : va_D A [(h0, zM 0 0 1 a3 a4 a10 a11)] := hD
  refine lv_iload_n hx hb dX1_setRounds_5 rfl (lv_at hl 1 rfl) ?_
  refine lv_iconst (v := 0) hx hb dX1_setRounds_6 (by decide) ?_
  refine lv_iconst (v := 3) hx hb dX1_setRounds_7 (by decide) ?_
  have hPc := hP.sub (ws' := []) [] rfl
  have hDc := hD.sub (ws' := []) [] (by decide) rfl
  have hKc := hK.sub (tys' := []) [] rfl
  have hFc := va_free (wc := []) hD hS hA [] rfl
  refine va_calli (va_runS (As := [.int p0, .int 0, .int 3]) (rest := []) ⟨hx, hb, hml, hown, hts⟩ (c_X1_isIn l dC dI p0 0 3 H.size) (va_cwS 3 hts gX1_setRounds_X1_isIn rfl rfl rfl (by decide +kernel) ⟨Nat.le_of_ble_eq_true rfl, Nat.le_of_ble_eq_true rfl⟩) ⟨zx_blind, fun U hU hW => ⟨rfl, zx_go hPc hKc hDc hZ hS hFc hU hW⟩⟩ rfl rfl hl.1 rfl (lv_room (Nat.le_of_ble_eq_true rfl)) dX1_setRounds_8 ⟨Nat.le_of_ble_eq_true rfl, Nat.le_of_ble_eq_true rfl⟩) hS (fun q _ h => hFc q h) hFc (fun r u t H1 locs ht hvm hw hB hz1 hk1 hS => ?_)
  obtain ⟨hP1, hK1, hD1⟩ := hB
  rw [ht] at hP1
  have hK1 := va_K.moved hvm.symm hK1
  try dsimp only at hw hP1 hD1 hK1
  obtain ⟨hP, hD⟩ := va_join (wr := [(h0, zM 0 0 1 a3 a4 a10 a11)]) (w1 := []) hP hD [] [0] rfl rfl (by decide) (by decide) hk1 hFc hP1 hD1
  generalize H1 = H at hP hS ⊢
  have hP : va_P (dC, dI) vwCl [(h0, zM 0 0 1 a3 a4 a10 a11)] H := hP
  have hD : va_D A [(h0, zM 0 0 1 a3 a4 a10 a11)] := hD
  rcases hw with ⟨rfl, g1, g2⟩ | ⟨rfl, g⟩
  · skip
    refine lv_if_ne (tgt := 20) hx hb dX1_setRounds_11 (by decide) (fun _ => ?_) (fun c1 => absurd c1 (by decide))
    refine lv_aload_n hx hb dX1_setRounds_20 rfl (lv_at hl 0 rfl) ?_
    refine va_get (D := (dC, dI)) (ci := 1) (v := .int 1) (C := RX1) (T := TX1) (N := 12) hx hb hts (by decide +kernel) hown hK hP 0 rfl rfl 2 (by decide) (hts (.fieldLink RX1 7 "LiarTentsModel" "rounds" "I") (by decide +kernel)) (fun _ h9 => h9) rfl dX1_setRounds_21 ?_
    refine lv_istore_n (lv' := [(2, .int 1), (0, .ref h0), (1, .int p0)]) hx hb dX1_setRounds_24 rfl hl (by decide) rfl (fun ls hl => ?_)
    refine lv_aload_n hx hb dX1_setRounds_25 rfl (lv_at hl 1 rfl) ?_
    refine lv_iload_n hx hb dX1_setRounds_26 rfl (lv_at hl 2 rfl) ?_
    refine va_put (D := (dC, dI)) (ci := 1) (v := .int p0) (ty := .int) (C := RX1) (T := TX1) (N := 12) hx hb hts (by decide +kernel) tyX1 tyX1_ok nmX1 hown hK hP hD hS 0 rfl rfl 2 (by decide) (hts (.fieldLink RX1 7 "LiarTentsModel" "rounds" "I") (by decide +kernel)) (fun _ h9 => h9) rfl (by decide +kernel) rfl rfl (Nat.le_of_ble_eq_true rfl) dX1_setRounds_27 (fun H locs hP hD hS => ?_)
    have hP : va_P (dC, dI) vwCl [(h0, zM 0 0 p0 a3 a4 a10 a11)] H := hP
    have hD : va_D A [(h0, zM 0 0 p0 a3 a4 a10 a11)] := hD
    refine lv_iload_n hx hb dX1_setRounds_30 rfl (lv_at hl 0 rfl) ?_
    have hP9 := hP.sub (ws' := [(h0, zM 0 0 p0 a3 a4 a10 a11)]) [0] rfl
    have hD9 := hD.sub (ws' := [(h0, zM 0 0 p0 a3 a4 a10 a11)]) [0] (by decide) rfl
    have hK9 := hK.sub (tys' := []) [] rfl
    refine W.widen (k := 0) (n := 0) (by omega) (by omega) ?_
    exact W.iret (v := 1) hx hb hr (fun t ht hW => ⟨⟨1, (0, p0), rfl, Or.inr ⟨rfl, rfl, g1, g2⟩, by rw [ht]; exact hP9, va_K.moved hW.alike hK9, hD9⟩, hS.F ht⟩) hS.2.2 dX1_setRounds_31
  · skip
    refine lv_if_ne (tgt := 20) hx hb dX1_setRounds_11 (by decide) (fun c2 => absurd c2 (by decide)) (fun _ => ?_)
    refine lv_aload_n hx hb dX1_setRounds_14 rfl (lv_at hl 0 rfl) ?_
    refine lv_iconst (v := 1) hx hb dX1_setRounds_15 (by decide) ?_
    have hPc := hP.sub (ws' := [(h0, zM 0 0 1 a3 a4 a10 a11)]) [0] rfl
    have hDc := hD.sub (ws' := [(h0, zM 0 0 1 a3 a4 a10 a11)]) [0] (by decide) rfl
    have hKc := hK.sub (tys' := []) [] rfl
    have hFc := va_free (wc := [(h0, zM 0 0 1 a3 a4 a10 a11)]) hD hS hA [0] rfl
    refine va_calli (va_runV (As := [.int 1]) (rest := []) ⟨hx, hb, hml, hown, hts⟩ (c_X1_no l dC dI h0 1 a3 a4 a10 a11 H.size) (cwV 1 hts gX1_setRounds_X1_no rfl rfl rfl (by decide +kernel) ⟨Nat.le_of_ble_eq_true rfl, Nat.le_of_ble_eq_true rfl⟩) ⟨zx_blind, va_recv hKc hPc (ci := 1) (q0 := 0) rfl rfl, fun U hU hW => ⟨rfl, zx_go hPc hKc hDc hZ hS hFc hU hW⟩⟩ rfl rfl hl.1 rfl (lv_room (Nat.le_of_ble_eq_true rfl)) dX1_setRounds_16 ⟨Nat.le_of_ble_eq_true rfl, Nat.le_of_ble_eq_true rfl⟩) hS (fun q _ h => hFc q h) hFc (fun r u t H1 locs ht hvm hw hB hz1 hk1 hS => ?_)
    obtain ⟨hP1, hK1, hD1⟩ := hB
    rw [ht] at hP1
    have hK1 := va_K.moved hvm.symm hK1
    try dsimp only at hw hP1 hD1 hK1
    obtain ⟨hP, hD⟩ := va_join (wr := []) (w1 := [(h0, zM 1 0 1 a3 a4 a10 a11)]) hP hD [0] [] rfl rfl (by decide) (by decide) hk1 hFc hP1 hD1
    generalize H1 = H at hP hS ⊢
    have hP : va_P (dC, dI) vwCl [(h0, zM 1 0 1 a3 a4 a10 a11)] H := hP
    have hD : va_D A [(h0, zM 1 0 1 a3 a4 a10 a11)] := hD
    obtain rfl := hw
    have hP9 := hP.sub (ws' := [(h0, zM 1 0 1 a3 a4 a10 a11)]) [0] rfl
    have hD9 := hD.sub (ws' := [(h0, zM 1 0 1 a3 a4 a10 a11)]) [0] (by decide) rfl
    have hK9 := hK.sub (tys' := []) [] rfl
    refine W.widen (k := 0) (n := 0) (by omega) (by omega) ?_
    exact W.iret (v := 0) hx hb hr (fun t ht hW => ⟨⟨0, (1, 1), rfl, Or.inl ⟨rfl, rfl, rfl, g⟩, by rw [ht]; exact hP9, va_K.moved hW.alike hK9, hD9⟩, hS.F ht⟩) hS.2.2 dX1_setRounds_19
set_option maxHeartbeats 4000000 in
set_option maxRecDepth 100000 in
/-- messengers of the reference -/
theorem c_X1_messengers (l : Launch) (dC : Nat → ClassId) (dI : Nat → Nat → Nat) (h0 : Nat) (p0 : Int32) (a3 a4 a10 a11 : Value) (sz : Nat) : Met l yX1_messengers wsX1_messengers ({ frames := 11, cells := 0, slots := 0, locals := 300 }) (va_Pc [.ref h0, .int p0] (zx_pre (dC, dI) [(h0, zM 0 0 1 a3 a4 a10 a11)] [] sz)) (va_Qi (fun (r : Int32) (u : Int32) => (u = 1 ∧ r = 0 ∧ (p0 < 0 ∨ 3 < p0)) ∨ (u = 0 ∧ r = 0 ∧ ¬ p0 < 0 ∧ ¬ 3 < p0)) (fun (u : Int32) => zx_at (dC, dI) [(h0, zM u 0 1 a3 a4 a10 a11)] [] (va_A [(h0, zM 0 0 1 a3 a4 a10 a11)] sz)) (va_A [(h0, zM 0 0 1 a3 a4 a10 a11)] sz)) 0 0 (va_A [(h0, zM 0 0 1 a3 a4 a10 a11)] sz) := by
  refine Met.ofW (cc := cX1_messengers) (maxL := 2) (ret := (some .int)) (by decide) rfl ?_
  intro p e s m args below meth c s₁ B hml hv
  obtain ⟨rfl, hsz, hP, hK, hD0, hZ⟩ := hv
  have hx := B.exec
  have hb := B.bytes
  have hr := B.returns
  have hts := atoms_spec (ws := wsX1_messengers) B.pre
  have hown : s.vm.findClass RX1 = some m.cls := findClass_of_methodNamed B.named
  have hlocks := B.notSynchronized
  subst hsz
  have hD := hD0.self (sz := s.heap.size)
  generalize hAe : va_A [(h0, zM 0 0 1 a3 a4 a10 a11)] s.heap.size = A at hD hZ ⊢
  have hA : ∀ q : Nat, s.heap.size ≤ q → A q := fun q h => by rw [← hAe]; exact Or.inr h
  have hS : va_S A s.heap s.heap [] := va_S.rf
  have hP : va_P (dC, dI) vwCl [(h0, zM 0 0 1 a3 a4 a10 a11)] s.heap := hP
  have hl := lv_entry ([.ref h0, .int p0]) (n := 2) (Nat.le_of_ble_eq_true rfl)
  rw [lg_entry_eq]
  generalize (lg_sl ([.ref h0, .int p0]) ++ List.replicate (2 - (lg_sl ([.ref h0, .int p0])).length) Slot.unset).toArray = ls at hl ⊢
  have hl : lv_has ls 2 [(0, .ref h0), (1, .int p0)] := hl
  refine lv_aload_n hx hb dX1_messengers_0 rfl (lv_at hl 0 rfl) ?_
  refine lv_iconst (v := 0) hx hb dX1_messengers_1 (by decide) ?_
  refine va_put (D := (dC, dI)) (ci := 1) (v := .int 0) (ty := .int) (C := RX1) (T := TX1) (N := 12) hx hb hts (by decide +kernel) tyX1 tyX1_ok nmX1 hown hK hP hD hS 0 rfl rfl 0 (by decide) (hts (.fieldLink RX1 37 "LiarTentsModel" "thrown" "I") (by decide +kernel)) (fun _ h9 => h9) rfl (by decide +kernel) rfl rfl (Nat.le_of_ble_eq_true rfl) dX1_messengers_2 (fun H locs hP hD hS => ?_)
  have hP : va_P (dC, dI) vwCl [(h0, zM 0 0 1 a3 a4 a10 a11)] H := hP
  have hD : va_D A [(h0, zM 0 0 1 a3 a4 a10 a11)] := hD
  refine lv_iload_n hx hb dX1_messengers_5 rfl (lv_at hl 1 rfl) ?_
  refine lv_iconst (v := 0) hx hb dX1_messengers_6 (by decide) ?_
  refine lv_iconst (v := 3) hx hb dX1_messengers_7 (by decide) ?_
  have hPc := hP.sub (ws' := []) [] rfl
  have hDc := hD.sub (ws' := []) [] (by decide) rfl
  have hKc := hK.sub (tys' := []) [] rfl
  have hFc := va_free (wc := []) hD hS hA [] rfl
  refine va_calli (va_runS (As := [.int p0, .int 0, .int 3]) (rest := []) ⟨hx, hb, hml, hown, hts⟩ (c_X1_isIn l dC dI p0 0 3 H.size) (va_cwS 3 hts gX1_messengers_X1_isIn rfl rfl rfl (by decide +kernel) ⟨Nat.le_of_ble_eq_true rfl, Nat.le_of_ble_eq_true rfl⟩) ⟨zx_blind, fun U hU hW => ⟨rfl, zx_go hPc hKc hDc hZ hS hFc hU hW⟩⟩ rfl rfl hl.1 rfl (lv_room (Nat.le_of_ble_eq_true rfl)) dX1_messengers_8 ⟨Nat.le_of_ble_eq_true rfl, Nat.le_of_ble_eq_true rfl⟩) hS (fun q _ h => hFc q h) hFc (fun r u t H1 locs ht hvm hw hB hz1 hk1 hS => ?_)
  obtain ⟨hP1, hK1, hD1⟩ := hB
  rw [ht] at hP1
  have hK1 := va_K.moved hvm.symm hK1
  try dsimp only at hw hP1 hD1 hK1
  obtain ⟨hP, hD⟩ := va_join (wr := [(h0, zM 0 0 1 a3 a4 a10 a11)]) (w1 := []) hP hD [] [0] rfl rfl (by decide) (by decide) hk1 hFc hP1 hD1
  generalize H1 = H at hP hS ⊢
  have hP : va_P (dC, dI) vwCl [(h0, zM 0 0 1 a3 a4 a10 a11)] H := hP
  have hD : va_D A [(h0, zM 0 0 1 a3 a4 a10 a11)] := hD
  rcases hw with ⟨rfl, g1, g2⟩ | ⟨rfl, g⟩
  · skip
    refine lv_if_eq (tgt := 25) hx hb dX1_messengers_11 (by decide) (fun c1 => absurd c1 (by decide)) (fun _ => ?_)
    refine lv_aload_n hx hb dX1_messengers_14 rfl (lv_at hl 0 rfl) ?_
    refine va_get (D := (dC, dI)) (ci := 1) (v := .int 0) (C := RX1) (T := TX1) (N := 12) hx hb hts (by decide +kernel) hown hK hP 0 rfl rfl 1 (by decide) (hts (.fieldLink RX1 40 "LiarTentsModel" "generals" "I") (by decide +kernel)) (fun _ h9 => h9) rfl dX1_messengers_15 ?_
    refine lv_iload_n hx hb dX1_messengers_18 rfl (lv_at hl 1 rfl) ?_
    have hPc := hP.sub (ws' := []) [] rfl
    have hDc := hD.sub (ws' := []) [] (by decide) rfl
    have hKc := hK.sub (tys' := []) [] rfl
    have hFc := va_free (wc := []) hD hS hA [] rfl
    refine va_calli (va_runS (As := [.int 0, .int p0]) (rest := []) ⟨hx, hb, hml, hown, hts⟩ (c_X1_runners l dC dI p0 H.size) (va_cwS 2 hts gX1_messengers_X1_runners rfl rfl rfl (by decide +kernel) ⟨Nat.le_of_ble_eq_true rfl, Nat.le_of_ble_eq_true rfl⟩) ⟨zx_blind, fun U hU hW => ⟨rfl, zx_go hPc hKc hDc hZ hS hFc hU hW⟩⟩ rfl rfl hl.1 rfl (lv_room (Nat.le_of_ble_eq_true rfl)) dX1_messengers_19 ⟨Nat.le_of_ble_eq_true rfl, Nat.le_of_ble_eq_true rfl⟩) hS (fun q _ h => hFc q h) hFc (fun r u t H1 locs ht hvm hw hB hz1 hk1 hS => ?_)
    obtain ⟨hP1, hK1, hD1⟩ := hB
    rw [ht] at hP1
    have hK1 := va_K.moved hvm.symm hK1
    try dsimp only at hw hP1 hD1 hK1
    obtain ⟨hP, hD⟩ := va_join (wr := [(h0, zM 0 0 1 a3 a4 a10 a11)]) (w1 := []) hP hD [] [0] rfl rfl (by decide) (by decide) hk1 hFc hP1 hD1
    generalize H1 = H at hP hS ⊢
    have hP : va_P (dC, dI) vwCl [(h0, zM 0 0 1 a3 a4 a10 a11)] H := hP
    have hD : va_D A [(h0, zM 0 0 1 a3 a4 a10 a11)] := hD
    obtain rfl := hw
    refine lv_goto (tgt := 30) hx hb dX1_messengers_22 (by decide) ?_
    have hP9 := hP.sub (ws' := [(h0, zM 0 0 1 a3 a4 a10 a11)]) [0] rfl
    have hD9 := hD.sub (ws' := [(h0, zM 0 0 1 a3 a4 a10 a11)]) [0] (by decide) rfl
    have hK9 := hK.sub (tys' := []) [] rfl
    refine W.widen (k := 0) (n := 0) (by omega) (by omega) ?_
    exact W.iret (v := 0) hx hb hr (fun t ht hW => ⟨⟨0, 0, rfl, Or.inr ⟨rfl, rfl, g1, g2⟩, by rw [ht]; exact hP9, va_K.moved hW.alike hK9, hD9⟩, hS.F ht⟩) hS.2.2 dX1_messengers_30
  · skip
    refine lv_if_eq (tgt := 25) hx hb dX1_messengers_11 (by decide) (fun _ => ?_) (fun c2 => absurd (by decide) c2)
    refine lv_aload_n hx hb dX1_messengers_25 rfl (lv_at hl 0 rfl) ?_
    refine lv_iconst (v := 1) hx hb dX1_messengers_26 (by decide) ?_
    have hPc := hP.sub (ws' := [(h0, zM 0 0 1 a3 a4 a10 a11)]) [0] rfl
    have hDc := hD.sub (ws' := [(h0, zM 0 0 1 a3 a4 a10 a11)]) [0] (by decide) rfl
    have hKc := hK.sub (tys' := []) [] rfl
    have hFc := va_free (wc := [(h0, zM 0 0 1 a3 a4 a10 a11)]) hD hS hA [0] rfl
    refine va_calli (va_runV (As := [.int 1]) (rest := []) ⟨hx, hb, hml, hown, hts⟩ (c_X1_no l dC dI h0 1 a3 a4 a10 a11 H.size) (cwV 1 hts gX1_messengers_X1_no rfl rfl rfl (by decide +kernel) ⟨Nat.le_of_ble_eq_true rfl, Nat.le_of_ble_eq_true rfl⟩) ⟨zx_blind, va_recv hKc hPc (ci := 1) (q0 := 0) rfl rfl, fun U hU hW => ⟨rfl, zx_go hPc hKc hDc hZ hS hFc hU hW⟩⟩ rfl rfl hl.1 rfl (lv_room (Nat.le_of_ble_eq_true rfl)) dX1_messengers_27 ⟨Nat.le_of_ble_eq_true rfl, Nat.le_of_ble_eq_true rfl⟩) hS (fun q _ h => hFc q h) hFc (fun r u t H1 locs ht hvm hw hB hz1 hk1 hS => ?_)
    obtain ⟨hP1, hK1, hD1⟩ := hB
    rw [ht] at hP1
    have hK1 := va_K.moved hvm.symm hK1
    try dsimp only at hw hP1 hD1 hK1
    obtain ⟨hP, hD⟩ := va_join (wr := []) (w1 := [(h0, zM 1 0 1 a3 a4 a10 a11)]) hP hD [0] [] rfl rfl (by decide) (by decide) hk1 hFc hP1 hD1
    generalize H1 = H at hP hS ⊢
    have hP : va_P (dC, dI) vwCl [(h0, zM 1 0 1 a3 a4 a10 a11)] H := hP
    have hD : va_D A [(h0, zM 1 0 1 a3 a4 a10 a11)] := hD
    obtain rfl := hw
    have hP9 := hP.sub (ws' := [(h0, zM 1 0 1 a3 a4 a10 a11)]) [0] rfl
    have hD9 := hD.sub (ws' := [(h0, zM 1 0 1 a3 a4 a10 a11)]) [0] (by decide) rfl
    have hK9 := hK.sub (tys' := []) [] rfl
    refine W.widen (k := 0) (n := 0) (by omega) (by omega) ?_
    exact W.iret (v := 0) hx hb hr (fun t ht hW => ⟨⟨0, 1, rfl, Or.inl ⟨rfl, rfl, g⟩, by rw [ht]; exact hP9, va_K.moved hW.alike hK9, hD9⟩, hS.F ht⟩) hS.2.2 dX1_messengers_30
set_option maxHeartbeats 4000000 in
set_option maxRecDepth 100000 in
/-- doesFor nobody -/
theorem c_X1_doesFor (l : Launch) (dC : Nat → ClassId) (dI : Nat → Nat → Nat) (h0 : Nat) (a3 a4 a10 a11 : Value) (sz : Nat) : Met l yX1_doesFor wsX1_doesFor ({ frames := 9, cells := 0, slots := 0, locals := 180 }) (va_Pc [.ref h0, .int 0] (zx_pre (dC, dI) [(h0, zM 0 0 1 a3 a4 a10 a11)] [] sz)) (va_Qi (fun (r : Int32) (u : Unit) => r = 1) (fun (u : Unit) => zx_at (dC, dI) [(h0, zM 0 0 1 a3 a4 a10 a11)] [] (va_A [(h0, zM 0 0 1 a3 a4 a10 a11)] sz)) (va_A [(h0, zM 0 0 1 a3 a4 a10 a11)] sz)) 0 0 (va_A [(h0, zM 0 0 1 a3 a4 a10 a11)] sz) := by
  refine Met.ofW (cc := cX1_doesFor) (maxL := 3) (ret := (some .boolean)) (by decide) rfl ?_
  intro p e s m args below meth c s₁ B hml hv
  obtain ⟨rfl, hsz, hP, hK, hD0, hZ⟩ := hv
  have hx := B.exec
  have hb := B.bytes
  have hr := B.returns
  have hts := atoms_spec (ws := wsX1_doesFor) B.pre
  have hown : s.vm.findClass RX1 = some m.cls := findClass_of_methodNamed B.named
  have hlocks := B.notSynchronized
  subst hsz
  have hD := hD0.self (sz := s.heap.size)
  generalize hAe : va_A [(h0, zM 0 0 1 a3 a4 a10 a11)] s.heap.size = A at hD hZ ⊢
  have hA : ∀ q : Nat, s.heap.size ≤ q → A q := fun q h => by rw [← hAe]; exact Or.inr h
  have hS : va_S A s.heap s.heap [] := va_S.rf
  have hP : va_P (dC, dI) vwCl [(h0, zM 0 0 1 a3 a4 a10 a11)] s.heap := hP
  have hl := lv_entry ([.ref h0, .int 0]) (n := 3) (Nat.le_of_ble_eq_true rfl)
  rw [lg_entry_eq]
  generalize (lg_sl ([.ref h0, .int 0]) ++ List.replicate (3 - (lg_sl ([.ref h0, .int 0])).length) Slot.unset).toArray = ls at hl ⊢
  have hl : lv_has ls 3 [(0, .ref h0), (1, .int 0)] := hl
  refine lv_iconst (v := 0) hx hb dX1_doesFor_0 (by decide) ?_
  refine lv_istore_n (lv' := [(2, .int 0), (0, .ref h0), (1, .int 0)]) hx hb dX1_doesFor_1 rfl hl (by decide) rfl (fun ls hl => ?_)
  refine lv_iload_n hx hb dX1_doesFor_2 rfl (lv_at hl 0 rfl) ?_
  refine lv_aload_n hx hb dX1_doesFor_3 rfl (lv_at hl 1 rfl) ?_
  refine va_get (D := (dC, dI)) (ci := 1) (v := .int 0) (C := RX1) (T := TX1) (N := 12) hx hb hts (by decide +kernel) hown hK hP 0 rfl rfl 1 (by decide) (hts (.fieldLink RX1 40 "LiarTentsModel" "generals" "I") (by decide +kernel)) (fun _ h9 => h9) rfl dX1_doesFor_4 ?_
  refine lv_icmp_ge (tgt := 38) hx hb dX1_doesFor_7 (by decide) (fun _ => ?_) (fun c1 => absurd (by decide) c1)
  refine lv_iconst (v := 1) hx hb dX1_doesFor_38 (by decide) ?_
  have hP9 := hP.sub (ws' := [(h0, zM 0 0 1 a3 a4 a10 a11)]) [0] rfl
  have hD9 := hD.sub (ws' := [(h0, zM 0 0 1 a3 a4 a10 a11)]) [0] (by decide) rfl
  have hK9 := hK.sub (tys' := []) [] rfl
  refine W.widen (k := 0) (n := 0) (by omega) (by omega) ?_
  exact W.zret (v := 1) hx hb hr rfl (fun t ht hW => ⟨⟨1, (), rfl, rfl, by rw [ht]; exact hP9, va_K.moved hW.alike hK9, hD9⟩, hS.F ht⟩) hS.2.2 dX1_doesFor_39
set_option maxHeartbeats 4000000 in
set_option maxRecDepth 100000 in
/-- needs of the reference -/
theorem c_X1_needs (l : Launch) (dC : Nat → ClassId) (dI : Nat → Nat → Nat) (h0 : Nat) (a3 a4 a10 a11 : Value) (sz : Nat) : Met l yX1_needs wsX1_needs ({ frames := 10, cells := 0, slots := 0, locals := 240 }) (va_Pc [.ref h0] (zx_pre (dC, dI) [(h0, zM 0 0 1 a3 a4 a10 a11)] [] sz)) (va_Qi (fun (r : Int32) (u : Unit) => r = 0) (fun (u : Unit) => zx_at (dC, dI) [(h0, zM 0 0 1 a3 a4 a10 a11)] [] (va_A [(h0, zM 0 0 1 a3 a4 a10 a11)] sz)) (va_A [(h0, zM 0 0 1 a3 a4 a10 a11)] sz)) 0 0 (va_A [(h0, zM 0 0 1 a3 a4 a10 a11)] sz) := by
  refine Met.ofW (cc := cX1_needs) (maxL := 2) (ret := (some .int)) (by decide) rfl ?_
  intro p e s m args below meth c s₁ B hml hv
  obtain ⟨rfl, hsz, hP, hK, hD0, hZ⟩ := hv
  have hx := B.exec
  have hb := B.bytes
  have hr := B.returns
  have hts := atoms_spec (ws := wsX1_needs) B.pre
  have hown : s.vm.findClass RX1 = some m.cls := findClass_of_methodNamed B.named
  have hlocks := B.notSynchronized
  subst hsz
  have hD := hD0.self (sz := s.heap.size)
  generalize hAe : va_A [(h0, zM 0 0 1 a3 a4 a10 a11)] s.heap.size = A at hD hZ ⊢
  have hA : ∀ q : Nat, s.heap.size ≤ q → A q := fun q h => by rw [← hAe]; exact Or.inr h
  have hS : va_S A s.heap s.heap [] := va_S.rf
  have hP : va_P (dC, dI) vwCl [(h0, zM 0 0 1 a3 a4 a10 a11)] s.heap := hP
  have hl := lv_entry ([.ref h0]) (n := 2) (Nat.le_of_ble_eq_true rfl)
  rw [lg_entry_eq]
  generalize (lg_sl ([.ref h0]) ++ List.replicate (2 - (lg_sl ([.ref h0])).length) Slot.unset).toArray = ls at hl ⊢
  have hl : lv_has ls 2 [(0, .ref h0)] := hl
  refine lv_aload_n hx hb dX1_needs_0 rfl (lv_at hl 0 rfl) ?_
  refine lv_iconst (v := 0) hx hb dX1_needs_1 (by decide) ?_
  refine va_put (D := (dC, dI)) (ci := 1) (v := .int 0) (ty := .int) (C := RX1) (T := TX1) (N := 12) hx hb hts (by decide +kernel) tyX1 tyX1_ok nmX1 hown hK hP hD hS 0 rfl rfl 0 (by decide) (hts (.fieldLink RX1 37 "LiarTentsModel" "thrown" "I") (by decide +kernel)) (fun _ h9 => h9) rfl (by decide +kernel) rfl rfl (Nat.le_of_ble_eq_true rfl) dX1_needs_2 (fun H locs hP hD hS => ?_)
  have hP : va_P (dC, dI) vwCl [(h0, zM 0 0 1 a3 a4 a10 a11)] H := hP
  have hD : va_D A [(h0, zM 0 0 1 a3 a4 a10 a11)] := hD
  refine lv_iconst (v := 0) hx hb dX1_needs_5 (by decide) ?_
  refine lv_istore_n (lv' := [(1, .int 0), (0, .ref h0)]) hx hb dX1_needs_6 rfl hl (by decide) rfl (fun ls hl => ?_)
  refine lv_iload_n hx hb dX1_needs_7 rfl (lv_at hl 0 rfl) ?_
  refine lv_iconst (v := 3) hx hb dX1_needs_8 (by decide) ?_
  refine lv_icmp_gt (tgt := 28) hx hb dX1_needs_9 (by decide) (fun c1 => absurd c1 (by decide)) (fun _ => ?_)
  refine lv_aload_n hx hb dX1_needs_12 rfl (lv_at hl 1 rfl) ?_
  refine lv_iload_n hx hb dX1_needs_13 rfl (lv_at hl 0 rfl) ?_
  have hPc := hP.sub (ws' := [(h0, zM 0 0 1 a3 a4 a10 a11)]) [0] rfl
  have hDc := hD.sub (ws' := [(h0, zM 0 0 1 a3 a4 a10 a11)]) [0] (by decide) rfl
  have hKc := hK.sub (tys' := []) [] rfl
  have hFc := va_free (wc := [(h0, zM 0 0 1 a3 a4 a10 a11)]) hD hS hA [0] rfl
  refine va_calli (va_runV (As := [.int 0]) (rest := []) ⟨hx, hb, hml, hown, hts⟩ (c_X1_doesFor l dC dI h0 a3 a4 a10 a11 H.size) (cwV 1 hts gX1_needs_X1_doesFor rfl rfl rfl (by decide +kernel) ⟨Nat.le_of_ble_eq_true rfl, Nat.le_of_ble_eq_true rfl⟩) ⟨zx_blind, va_recv hKc hPc (ci := 1) (q0 := 0) rfl rfl, fun U hU hW => ⟨rfl, zx_go hPc hKc hDc hZ hS hFc hU hW⟩⟩ rfl rfl hl.1 rfl (lv_room (Nat.le_of_ble_eq_true rfl)) dX1_needs_14 ⟨Nat.le_of_ble_eq_true rfl, Nat.le_of_ble_eq_true rfl⟩) hS (fun q _ h => hFc q h) hFc (fun r u t H1 locs ht hvm hw hB hz1 hk1 hS => ?_)
  obtain ⟨hP1, hK1, hD1⟩ := hB
  rw [ht] at hP1
  have hK1 := va_K.moved hvm.symm hK1
  try dsimp only at hw hP1 hD1 hK1
  obtain ⟨hP, hD⟩ := va_join (wr := []) (w1 := [(h0, zM 0 0 1 a3 a4 a10 a11)]) hP hD [0] [] rfl rfl (by decide) (by decide) hk1 hFc hP1 hD1
  generalize H1 = H at hP hS ⊢
  have hP : va_P (dC, dI) vwCl [(h0, zM 0 0 1 a3 a4 a10 a11)] H := hP
  have hD : va_D A [(h0, zM 0 0 1 a3 a4 a10 a11)] := hD
  obtain rfl := hw
  refine lv_if_eq (tgt := 22) hx hb dX1_needs_17 (by decide) (fun c2 => absurd c2 (by decide)) (fun _ => ?_)
  refine lv_iload_n hx hb dX1_needs_20 rfl (lv_at hl 0 rfl) ?_
  have hP9 := hP.sub (ws' := [(h0, zM 0 0 1 a3 a4 a10 a11)]) [0] rfl
  have hD9 := hD.sub (ws' := [(h0, zM 0 0 1 a3 a4 a10 a11)]) [0] (by decide) rfl
  have hK9 := hK.sub (tys' := []) [] rfl
  refine W.widen (k := 0) (n := 0) (by omega) (by omega) ?_
  exact W.iret (v := 0) hx hb hr (fun t ht hW => ⟨⟨0, (), rfl, rfl, by rw [ht]; exact hP9, va_K.moved hW.alike hK9, hD9⟩, hS.F ht⟩) hS.2.2 dX1_needs_21
set_option maxHeartbeats 4000000 in
set_option maxRecDepth 100000 in
/-- loyalThatDo without a council -/
theorem c_X1_loyalThatDo (l : Launch) (dC : Nat → ClassId) (dI : Nat → Nat → Nat) (h0 : Nat) (p0 : Int32) (a3 a4 a10 a11 : Value) (sz : Nat) : Met l yX1_loyalThatDo wsX1_loyalThatDo ({ frames := 9, cells := 0, slots := 0, locals := 180 }) (va_Pc [.ref h0, .int p0] (zx_pre (dC, dI) [(h0, zM 0 0 1 a3 a4 a10 a11)] [] sz)) (va_Qi (fun (r : Int32) (u : Unit) => r = -1) (fun (u : Unit) => zx_at (dC, dI) [(h0, zM 0 0 1 a3 a4 a10 a11)] [] (va_A [(h0, zM 0 0 1 a3 a4 a10 a11)] sz)) (va_A [(h0, zM 0 0 1 a3 a4 a10 a11)] sz)) 0 0 (va_A [(h0, zM 0 0 1 a3 a4 a10 a11)] sz) := by
  refine Met.ofW (cc := cX1_loyalThatDo) (maxL := 4) (ret := (some .int)) (by decide) rfl ?_
  intro p e s m args below meth c s₁ B hml hv
  obtain ⟨rfl, hsz, hP, hK, hD0, hZ⟩ := hv
  have hx := B.exec
  have hb := B.bytes
  have hr := B.returns
  have hts := atoms_spec (ws := wsX1_loyalThatDo) B.pre
  have hown : s.vm.findClass RX1 = some m.cls := findClass_of_methodNamed B.named
  have hlocks := B.notSynchronized
  subst hsz
  have hD := hD0.self (sz := s.heap.size)
  generalize hAe : va_A [(h0, zM 0 0 1 a3 a4 a10 a11)] s.heap.size = A at hD hZ ⊢
  have hA : ∀ q : Nat, s.heap.size ≤ q → A q := fun q h => by rw [← hAe]; exact Or.inr h
  have hS : va_S A s.heap s.heap [] := va_S.rf
  have hP : va_P (dC, dI) vwCl [(h0, zM 0 0 1 a3 a4 a10 a11)] s.heap := hP
  have hl := lv_entry ([.ref h0, .int p0]) (n := 4) (Nat.le_of_ble_eq_true rfl)
  rw [lg_entry_eq]
  generalize (lg_sl ([.ref h0, .int p0]) ++ List.replicate (4 - (lg_sl ([.ref h0, .int p0])).length) Slot.unset).toArray = ls at hl ⊢
  have hl : lv_has ls 4 [(0, .ref h0), (1, .int p0)] := hl
  refine lv_iconst (v := 0) hx hb dX1_loyalThatDo_0 (by decide) ?_
  refine lv_istore_n (lv' := [(2, .int 0), (0, .ref h0), (1, .int p0)]) hx hb dX1_loyalThatDo_1 rfl hl (by decide) rfl (fun ls hl => ?_)
  refine lv_iconst (v := 0) hx hb dX1_loyalThatDo_2 (by decide) ?_
  refine lv_istore_n (lv' := [(3, .int 0), (2, .int 0), (0, .ref h0), (1, .int p0)]) hx hb dX1_loyalThatDo_3 rfl hl (by decide) rfl (fun ls hl => ?_)
  refine lv_iload_n hx hb dX1_loyalThatDo_4 rfl (lv_at hl 0 rfl) ?_
  refine lv_aload_n hx hb dX1_loyalThatDo_5 rfl (lv_at hl 2 rfl) ?_
  refine va_get (D := (dC, dI)) (ci := 1) (v := .int 0) (C := RX1) (T := TX1) (N := 12) hx hb hts (by decide +kernel) hown hK hP 0 rfl rfl 6 (by decide) (hts (.fieldLink RX1 84 "LiarTentsModel" "there" "I") (by decide +kernel)) (fun _ h9 => h9) rfl dX1_loyalThatDo_6 ?_
  refine lv_icmp_ge (tgt := 45) hx hb dX1_loyalThatDo_9 (by decide) (fun _ => ?_) (fun c1 => absurd (by decide) c1)
  refine lv_aload_n hx hb dX1_loyalThatDo_45 rfl (lv_at hl 2 rfl) ?_
  refine va_get (D := (dC, dI)) (ci := 1) (v := .int 0) (C := RX1) (T := TX1) (N := 12) hx hb hts (by decide +kernel) hown hK hP 0 rfl rfl 5 (by decide) (hts (.fieldLink RX1 87 "LiarTentsModel" "councils" "I") (by decide +kernel)) (fun _ h9 => h9) rfl dX1_loyalThatDo_46 ?_
  refine lv_if_ne (tgt := 56) hx hb dX1_loyalThatDo_49 (by decide) (fun c2 => absurd c2 (by decide)) (fun _ => ?_)
  refine lv_iconst (v := (-1)) hx hb dX1_loyalThatDo_52 (by decide) ?_
  refine lv_goto (tgt := 57) hx hb dX1_loyalThatDo_53 (by decide) ?_
  have hP9 := hP.sub (ws' := [(h0, zM 0 0 1 a3 a4 a10 a11)]) [0] rfl
  have hD9 := hD.sub (ws' := [(h0, zM 0 0 1 a3 a4 a10 a11)]) [0] (by decide) rfl
  have hK9 := hK.sub (tys' := []) [] rfl
  refine W.widen (k := 0) (n := 0) (by omega) (by omega) ?_
  exact W.iret (v := (-1)) hx hb hr (fun t ht hW => ⟨⟨(-1), (), rfl, rfl, by rw [ht]; exact hP9, va_K.moved hW.alike hK9, hD9⟩, hS.F ht⟩) hS.2.2 dX1_loyalThatDo_57
