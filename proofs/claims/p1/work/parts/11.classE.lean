set_option maxHeartbeats 4000000 in
set_option maxRecDepth 100000 in
/-- LiarTents(): the fields, the rows anywhere -/
theorem c_X0_init (l : Launch) (dC : Nat → ClassId) (dI : Nat → Nat → Nat) (h0 : Nat)  (sz : Nat) : Met l yX0_init wsX0_init ({ frames := 9, cells := 36, slots := 243, locals := 180 }) (va_Pc [.ref h0] (zx_pre (dC, dI) [(h0, .inr (0, [.int 0, .int 0, .int 0, .int 0, .null, .null, .null, .null, .int 0, .int 0, .int 0, .int 0, .null, .null, .null, .null, .null, .null]))] [] sz)) (va_Qv (fun (u : Nat → Value) => True) (fun (u : Nat → Value) => zx_at (dC, dI) [(h0, .inr (0, [.int 0, .int 1, .int 0, .int 0, u 4, u 5, u 6, u 7, .int 0, .int 0, .int 0, .int 0, u 12, u 13, u 14, u 15, u 16, u 17]))] [] (va_A [(h0, .inr (0, [.int 0, .int 0, .int 0, .int 0, .null, .null, .null, .null, .int 0, .int 0, .int 0, .int 0, .null, .null, .null, .null, .null, .null]))] sz)) (va_A [(h0, .inr (0, [.int 0, .int 0, .int 0, .int 0, .null, .null, .null, .null, .int 0, .int 0, .int 0, .int 0, .null, .null, .null, .null, .null, .null]))] sz)) 36 243 (va_A [(h0, .inr (0, [.int 0, .int 0, .int 0, .int 0, .null, .null, .null, .null, .int 0, .int 0, .int 0, .int 0, .null, .null, .null, .null, .null, .null]))] sz) := by
  refine Met.ofW (cc := cX0_init) (maxL := 1) (ret := none) (by decide) rfl ?_
  intro p e s m args below meth c s₁ B hml hv
  obtain ⟨rfl, hsz, hP, hK, hD0, hZ⟩ := hv
  have hx := B.exec
  have hb := B.bytes
  have hr := B.returns
  have hts := atoms_spec (ws := wsX0_init) B.pre
  have hown : s.vm.findClass RX0 = some m.cls := findClass_of_methodNamed B.named
  have hlocks := B.notSynchronized
  have hin : meth.name = "<init>" := (name_of_methodNamed B.named B.method).1
  subst hsz
  have hD := hD0.self (sz := s.heap.size)
  generalize hAe : va_A [(h0, .inr (0, [.int 0, .int 0, .int 0, .int 0, .null, .null, .null, .null, .int 0, .int 0, .int 0, .int 0, .null, .null, .null, .null, .null, .null]))] s.heap.size = A at hD hZ ⊢
  have hA : ∀ q : Nat, s.heap.size ≤ q → A q := fun q h => by rw [← hAe]; exact Or.inr h
  have hS : va_S A s.heap s.heap [] := va_S.rf
  have hP : va_P (dC, dI) vwCl [(h0, .inr (0, [.int 0, .int 0, .int 0, .int 0, .null, .null, .null, .null, .int 0, .int 0, .int 0, .int 0, .null, .null, .null, .null, .null, .null]))] s.heap := hP
  have hl := lv_entry ([.ref h0]) (n := 1) (Nat.le_of_ble_eq_true rfl)
  rw [lg_entry_eq]
  generalize (lg_sl ([.ref h0]) ++ List.replicate (1 - (lg_sl ([.ref h0])).length) Slot.unset).toArray = ls at hl ⊢
  have hl : lv_has ls 1 [(0, .ref h0)] := hl
  refine lv_aload_n hx hb dX0_init_0 rfl (lv_at hl 0 rfl) ?_
  refine W.objInit hx hb hown (hts (.methodLink RX0 1 objectInit) (by decide +kernel)) (hts (.instanceMethod objectInit) (by decide +kernel)) (hts _ (List.mem_cons_of_mem _ (List.mem_append_left _ (List.mem_of_getElem? (i := 2) rfl)))) rfl (by rw [hml]; exact hl.1) rfl dX0_init_1 (Nat.le_of_ble_eq_true rfl) (Nat.le_of_ble_eq_true rfl) ?_
  refine W.eq (g2 := F0 m 4 ls []) rfl ?_
  refine lv_aload_n hx hb dX0_init_4 rfl (lv_at hl 0 rfl) ?_
  refine lv_iconst (v := 1) hx hb dX0_init_5 (by decide) ?_
  refine va_put (D := (dC, dI)) (ci := 0) (v := .int 1) (ty := .int) (C := RX0) (T := TX0) (N := 18) hx hb hts (by decide +kernel) tyX0 tyX0_ok nmX0 hown hK hP hD hS 0 rfl rfl 1 (by decide) (hts (.fieldLink RX0 7 "LiarTents" "rounds" "I") (by decide +kernel)) (fun _ h9 => h9) rfl (by decide +kernel) rfl rfl (Nat.le_of_ble_eq_true rfl) dX0_init_6 (fun H locs hP hD hS => ?_)
  have hP : va_P (dC, dI) vwCl [(h0, .inr (0, [.int 0, .int 1, .int 0, .int 0, .null, .null, .null, .null, .int 0, .int 0, .int 0, .int 0, .null, .null, .null, .null, .null, .null]))] H := hP
  have hD : va_D A [(h0, .inr (0, [.int 0, .int 1, .int 0, .int 0, .null, .null, .null, .null, .int 0, .int 0, .int 0, .int 0, .null, .null, .null, .null, .null, .null]))] := hD
  refine lv_aload_n hx hb dX0_init_9 rfl (lv_at hl 0 rfl) ?_
  refine lv_bipush (v := 7) hx hb dX0_init_10 (by decide) ?_
  refine va_newa (atype := .int) (a0 := (7, .inl (fun _ => 0))) (N' := 7) hx hb (hts (.arrayClass .int) (by decide +kernel)) rfl hK hP hD hS hA (fun _ => rfl) (by decide) (by decide) (Nat.le_of_ble_eq_true rfl) (Nat.le_of_ble_eq_true rfl) (Nat.le_of_ble_eq_true rfl) dX0_init_12 (fun q1 cA2 H hK hP hD hS => ?_)
  have hP : va_P (dC, dI) vwCl [(h0, .inr (0, [.int 0, .int 1, .int 0, .int 0, .null, .null, .null, .null, .int 0, .int 0, .int 0, .int 0, .null, .null, .null, .null, .null, .null])), (q1, .inl (cA2, 7, .inl (fun _ => 0)))] H := hP
  have hD : va_D A [(h0, .inr (0, [.int 0, .int 1, .int 0, .int 0, .null, .null, .null, .null, .int 0, .int 0, .int 0, .int 0, .null, .null, .null, .null, .null, .null])), (q1, .inl (cA2, 7, .inl (fun _ => 0)))] := hD
  have hK : va_K (dC, dI) vwCl [(cA2, .int)] s := hK
  refine W.widen (k := 1) (n := 7) (by omega) (by omega) ?_
  refine va_putF (D := (dC, dI)) (ci := 0) (v := .ref q1) (ty := .array .int) (C := RX0) (T := TX0) (N := 18) hx hb hts (by decide +kernel) tyX0 tyX0_ok nmX0 hown hK hP hD hS 0 rfl rfl 4 (by decide) (hts (.fieldLink RX0 13 "LiarTents" "kinds" "[I") (by decide +kernel)) (fun _ h9 => h9) rfl hin rfl (by decide +kernel) rfl rfl (Nat.le_of_ble_eq_true rfl) dX0_init_14 (fun H locs hP hD hS => ?_)
  have hP : va_P (dC, dI) vwCl [(h0, .inr (0, [.int 0, .int 1, .int 0, .int 0, .ref q1, .null, .null, .null, .int 0, .int 0, .int 0, .int 0, .null, .null, .null, .null, .null, .null])), (q1, .inl (cA2, 7, .inl (fun _ => 0)))] H := hP
  have hD : va_D A [(h0, .inr (0, [.int 0, .int 1, .int 0, .int 0, .ref q1, .null, .null, .null, .int 0, .int 0, .int 0, .int 0, .null, .null, .null, .null, .null, .null])), (q1, .inl (cA2, 7, .inl (fun _ => 0)))] := hD
  have hP := hP.sub (ws' := [(h0, .inr (0, [.int 0, .int 1, .int 0, .int 0, .ref q1, .null, .null, .null, .int 0, .int 0, .int 0, .int 0, .null, .null, .null, .null, .null, .null]))]) [0] rfl
  have hD := hD.sub (ws' := [(h0, .inr (0, [.int 0, .int 1, .int 0, .int 0, .ref q1, .null, .null, .null, .int 0, .int 0, .int 0, .int 0, .null, .null, .null, .null, .null, .null]))]) [0] (by decide) rfl
  have hK := hK.sub (tys' := [(cA2, .int)]) [0] rfl
  refine lv_aload_n hx hb dX0_init_17 rfl (lv_at hl 0 rfl) ?_
  refine lv_bipush (v := 7) hx hb dX0_init_18 (by decide) ?_
  refine va_newa (atype := .int) (a0 := (7, .inl (fun _ => 0))) (N' := 7) hx hb (hts (.arrayClass .int) (by decide +kernel)) rfl hK hP hD hS hA (fun _ => rfl) (by decide) (by decide) (Nat.le_of_ble_eq_true rfl) (Nat.le_of_ble_eq_true rfl) (Nat.le_of_ble_eq_true rfl) dX0_init_20 (fun q3 cA4 H hK hP hD hS => ?_)
  have hP : va_P (dC, dI) vwCl [(h0, .inr (0, [.int 0, .int 1, .int 0, .int 0, .ref q1, .null, .null, .null, .int 0, .int 0, .int 0, .int 0, .null, .null, .null, .null, .null, .null])), (q3, .inl (cA4, 7, .inl (fun _ => 0)))] H := hP
  have hD : va_D A [(h0, .inr (0, [.int 0, .int 1, .int 0, .int 0, .ref q1, .null, .null, .null, .int 0, .int 0, .int 0, .int 0, .null, .null, .null, .null, .null, .null])), (q3, .inl (cA4, 7, .inl (fun _ => 0)))] := hD
  have hK : va_K (dC, dI) vwCl [(cA2, .int), (cA4, .int)] s := hK
  refine W.widen (k := 2) (n := 14) (by omega) (by omega) ?_
  refine va_putF (D := (dC, dI)) (ci := 0) (v := .ref q3) (ty := .array .int) (C := RX0) (T := TX0) (N := 18) hx hb hts (by decide +kernel) tyX0 tyX0_ok nmX0 hown hK hP hD hS 0 rfl rfl 5 (by decide) (hts (.fieldLink RX0 17 "LiarTents" "attacked" "[I") (by decide +kernel)) (fun _ h9 => h9) rfl hin rfl (by decide +kernel) rfl rfl (Nat.le_of_ble_eq_true rfl) dX0_init_22 (fun H locs hP hD hS => ?_)
  have hP : va_P (dC, dI) vwCl [(h0, .inr (0, [.int 0, .int 1, .int 0, .int 0, .ref q1, .ref q3, .null, .null, .int 0, .int 0, .int 0, .int 0, .null, .null, .null, .null, .null, .null])), (q3, .inl (cA4, 7, .inl (fun _ => 0)))] H := hP
  have hD : va_D A [(h0, .inr (0, [.int 0, .int 1, .int 0, .int 0, .ref q1, .ref q3, .null, .null, .int 0, .int 0, .int 0, .int 0, .null, .null, .null, .null, .null, .null])), (q3, .inl (cA4, 7, .inl (fun _ => 0)))] := hD
  have hP := hP.sub (ws' := [(h0, .inr (0, [.int 0, .int 1, .int 0, .int 0, .ref q1, .ref q3, .null, .null, .int 0, .int 0, .int 0, .int 0, .null, .null, .null, .null, .null, .null]))]) [0] rfl
  have hD := hD.sub (ws' := [(h0, .inr (0, [.int 0, .int 1, .int 0, .int 0, .ref q1, .ref q3, .null, .null, .int 0, .int 0, .int 0, .int 0, .null, .null, .null, .null, .null, .null]))]) [0] (by decide) rfl
  have hK := hK.sub (tys' := [(cA2, .int)]) [0] rfl
  refine lv_aload_n hx hb dX0_init_25 rfl (lv_at hl 0 rfl) ?_
  refine lv_bipush (v := 7) hx hb dX0_init_26 (by decide) ?_
  refine va_newa (atype := .int) (a0 := (7, .inl (fun _ => 0))) (N' := 7) hx hb (hts (.arrayClass .int) (by decide +kernel)) rfl hK hP hD hS hA (fun _ => rfl) (by decide) (by decide) (Nat.le_of_ble_eq_true rfl) (Nat.le_of_ble_eq_true rfl) (Nat.le_of_ble_eq_true rfl) dX0_init_28 (fun q5 cA6 H hK hP hD hS => ?_)
  have hP : va_P (dC, dI) vwCl [(h0, .inr (0, [.int 0, .int 1, .int 0, .int 0, .ref q1, .ref q3, .null, .null, .int 0, .int 0, .int 0, .int 0, .null, .null, .null, .null, .null, .null])), (q5, .inl (cA6, 7, .inl (fun _ => 0)))] H := hP
  have hD : va_D A [(h0, .inr (0, [.int 0, .int 1, .int 0, .int 0, .ref q1, .ref q3, .null, .null, .int 0, .int 0, .int 0, .int 0, .null, .null, .null, .null, .null, .null])), (q5, .inl (cA6, 7, .inl (fun _ => 0)))] := hD
  have hK : va_K (dC, dI) vwCl [(cA2, .int), (cA6, .int)] s := hK
  refine W.widen (k := 3) (n := 21) (by omega) (by omega) ?_
  refine va_putF (D := (dC, dI)) (ci := 0) (v := .ref q5) (ty := .array .int) (C := RX0) (T := TX0) (N := 18) hx hb hts (by decide +kernel) tyX0 tyX0_ok nmX0 hown hK hP hD hS 0 rfl rfl 6 (by decide) (hts (.fieldLink RX0 20 "LiarTents" "commanded" "[I") (by decide +kernel)) (fun _ h9 => h9) rfl hin rfl (by decide +kernel) rfl rfl (Nat.le_of_ble_eq_true rfl) dX0_init_30 (fun H locs hP hD hS => ?_)
  have hP : va_P (dC, dI) vwCl [(h0, .inr (0, [.int 0, .int 1, .int 0, .int 0, .ref q1, .ref q3, .ref q5, .null, .int 0, .int 0, .int 0, .int 0, .null, .null, .null, .null, .null, .null])), (q5, .inl (cA6, 7, .inl (fun _ => 0)))] H := hP
  have hD : va_D A [(h0, .inr (0, [.int 0, .int 1, .int 0, .int 0, .ref q1, .ref q3, .ref q5, .null, .int 0, .int 0, .int 0, .int 0, .null, .null, .null, .null, .null, .null])), (q5, .inl (cA6, 7, .inl (fun _ => 0)))] := hD
  have hP := hP.sub (ws' := [(h0, .inr (0, [.int 0, .int 1, .int 0, .int 0, .ref q1, .ref q3, .ref q5, .null, .int 0, .int 0, .int 0, .int 0, .null, .null, .null, .null, .null, .null]))]) [0] rfl
  have hD := hD.sub (ws' := [(h0, .inr (0, [.int 0, .int 1, .int 0, .int 0, .ref q1, .ref q3, .ref q5, .null, .int 0, .int 0, .int 0, .int 0, .null, .null, .null, .null, .null, .null]))]) [0] (by decide) rfl
  have hK := hK.sub (tys' := [(cA2, .int)]) [0] rfl
  refine lv_aload_n hx hb dX0_init_33 rfl (lv_at hl 0 rfl) ?_
  refine lv_bipush (v := 7) hx hb dX0_init_34 (by decide) ?_
  refine va_newa (atype := .int) (a0 := (7, .inl (fun _ => 0))) (N' := 7) hx hb (hts (.arrayClass .int) (by decide +kernel)) rfl hK hP hD hS hA (fun _ => rfl) (by decide) (by decide) (Nat.le_of_ble_eq_true rfl) (Nat.le_of_ble_eq_true rfl) (Nat.le_of_ble_eq_true rfl) dX0_init_36 (fun q7 cA8 H hK hP hD hS => ?_)
  have hP : va_P (dC, dI) vwCl [(h0, .inr (0, [.int 0, .int 1, .int 0, .int 0, .ref q1, .ref q3, .ref q5, .null, .int 0, .int 0, .int 0, .int 0, .null, .null, .null, .null, .null, .null])), (q7, .inl (cA8, 7, .inl (fun _ => 0)))] H := hP
  have hD : va_D A [(h0, .inr (0, [.int 0, .int 1, .int 0, .int 0, .ref q1, .ref q3, .ref q5, .null, .int 0, .int 0, .int 0, .int 0, .null, .null, .null, .null, .null, .null])), (q7, .inl (cA8, 7, .inl (fun _ => 0)))] := hD
  have hK : va_K (dC, dI) vwCl [(cA2, .int), (cA8, .int)] s := hK
  refine W.widen (k := 4) (n := 28) (by omega) (by omega) ?_
  refine va_putF (D := (dC, dI)) (ci := 0) (v := .ref q7) (ty := .array .int) (C := RX0) (T := TX0) (N := 18) hx hb hts (by decide +kernel) tyX0 tyX0_ok nmX0 hown hK hP hD hS 0 rfl rfl 7 (by decide) (hts (.fieldLink RX0 23 "LiarTents" "differed" "[I") (by decide +kernel)) (fun _ h9 => h9) rfl hin rfl (by decide +kernel) rfl rfl (Nat.le_of_ble_eq_true rfl) dX0_init_38 (fun H locs hP hD hS => ?_)
  have hP : va_P (dC, dI) vwCl [(h0, .inr (0, [.int 0, .int 1, .int 0, .int 0, .ref q1, .ref q3, .ref q5, .ref q7, .int 0, .int 0, .int 0, .int 0, .null, .null, .null, .null, .null, .null])), (q7, .inl (cA8, 7, .inl (fun _ => 0)))] H := hP
  have hD : va_D A [(h0, .inr (0, [.int 0, .int 1, .int 0, .int 0, .ref q1, .ref q3, .ref q5, .ref q7, .int 0, .int 0, .int 0, .int 0, .null, .null, .null, .null, .null, .null])), (q7, .inl (cA8, 7, .inl (fun _ => 0)))] := hD
  have hP := hP.sub (ws' := [(h0, .inr (0, [.int 0, .int 1, .int 0, .int 0, .ref q1, .ref q3, .ref q5, .ref q7, .int 0, .int 0, .int 0, .int 0, .null, .null, .null, .null, .null, .null]))]) [0] rfl
  have hD := hD.sub (ws' := [(h0, .inr (0, [.int 0, .int 1, .int 0, .int 0, .ref q1, .ref q3, .ref q5, .ref q7, .int 0, .int 0, .int 0, .int 0, .null, .null, .null, .null, .null, .null]))]) [0] (by decide) rfl
  have hK := hK.sub (tys' := [(cA2, .int)]) [0] rfl
  refine lv_aload_n hx hb dX0_init_41 rfl (lv_at hl 0 rfl) ?_
  refine lv_bipush (v := 7) hx hb dX0_init_42 (by decide) ?_
  refine va_newa (atype := .int) (a0 := (7, .inl (fun _ => 0))) (N' := 7) hx hb (hts (.arrayClass .int) (by decide +kernel)) rfl hK hP hD hS hA (fun _ => rfl) (by decide) (by decide) (Nat.le_of_ble_eq_true rfl) (Nat.le_of_ble_eq_true rfl) (Nat.le_of_ble_eq_true rfl) dX0_init_44 (fun q9 cA10 H hK hP hD hS => ?_)
  have hP : va_P (dC, dI) vwCl [(h0, .inr (0, [.int 0, .int 1, .int 0, .int 0, .ref q1, .ref q3, .ref q5, .ref q7, .int 0, .int 0, .int 0, .int 0, .null, .null, .null, .null, .null, .null])), (q9, .inl (cA10, 7, .inl (fun _ => 0)))] H := hP
  have hD : va_D A [(h0, .inr (0, [.int 0, .int 1, .int 0, .int 0, .ref q1, .ref q3, .ref q5, .ref q7, .int 0, .int 0, .int 0, .int 0, .null, .null, .null, .null, .null, .null])), (q9, .inl (cA10, 7, .inl (fun _ => 0)))] := hD
  have hK : va_K (dC, dI) vwCl [(cA2, .int), (cA10, .int)] s := hK
  refine W.widen (k := 5) (n := 35) (by omega) (by omega) ?_
  refine va_putF (D := (dC, dI)) (ci := 0) (v := .ref q9) (ty := .array .int) (C := RX0) (T := TX0) (N := 18) hx hb hts (by decide +kernel) tyX0 tyX0_ok nmX0 hown hK hP hD hS 0 rfl rfl 12 (by decide) (hts (.fieldLink RX0 26 "LiarTents" "latestDone" "[I") (by decide +kernel)) (fun _ h9 => h9) rfl hin rfl (by decide +kernel) rfl rfl (Nat.le_of_ble_eq_true rfl) dX0_init_46 (fun H locs hP hD hS => ?_)
  have hP : va_P (dC, dI) vwCl [(h0, .inr (0, [.int 0, .int 1, .int 0, .int 0, .ref q1, .ref q3, .ref q5, .ref q7, .int 0, .int 0, .int 0, .int 0, .ref q9, .null, .null, .null, .null, .null])), (q9, .inl (cA10, 7, .inl (fun _ => 0)))] H := hP
  have hD : va_D A [(h0, .inr (0, [.int 0, .int 1, .int 0, .int 0, .ref q1, .ref q3, .ref q5, .ref q7, .int 0, .int 0, .int 0, .int 0, .ref q9, .null, .null, .null, .null, .null])), (q9, .inl (cA10, 7, .inl (fun _ => 0)))] := hD
  have hP := hP.sub (ws' := [(h0, .inr (0, [.int 0, .int 1, .int 0, .int 0, .ref q1, .ref q3, .ref q5, .ref q7, .int 0, .int 0, .int 0, .int 0, .ref q9, .null, .null, .null, .null, .null]))]) [0] rfl
  have hD := hD.sub (ws' := [(h0, .inr (0, [.int 0, .int 1, .int 0, .int 0, .ref q1, .ref q3, .ref q5, .ref q7, .int 0, .int 0, .int 0, .int 0, .ref q9, .null, .null, .null, .null, .null]))]) [0] (by decide) rfl
  have hK := hK.sub (tys' := [(cA2, .int)]) [0] rfl
  refine lv_aload_n hx hb dX0_init_49 rfl (lv_at hl 0 rfl) ?_
  refine lv_bipush (v := 7) hx hb dX0_init_50 (by decide) ?_
  refine lv_bipush (v := 7) hx hb dX0_init_52 (by decide) ?_
  have hP : va_P (dC, dI) vwCl ([(h0, .inr (0, [.int 0, .int 1, .int 0, .int 0, .ref q1, .ref q3, .ref q5, .ref q7, .int 0, .int 0, .int 0, .int 0, .ref q9, .null, .null, .null, .null, .null]))] ++ va_pl [] (fun _ => .inr (0, []))) H := hP
  have hD : va_D A ([(h0, .inr (0, [.int 0, .int 1, .int 0, .int 0, .ref q1, .ref q3, .ref q5, .ref q7, .int 0, .int 0, .int 0, .int 0, .ref q9, .null, .null, .null, .null, .null]))] ++ va_pl [] (fun _ => .inr (0, []))) := hD
  obtain ⟨z1, z2, z3, z4, z5, z6, z7, z8, z9, z10, z11⟩ := id hZ
  refine va_mna (X := [(h0, .inr (0, [.int 0, .int 1, .int 0, .int 0, .ref q1, .ref q3, .ref q5, .ref q7, .int 0, .int 0, .int 0, .int 0, .ref q9, .null, .null, .null, .null, .null]))]) (L := []) (f := fun _ => .inr (0, [])) (ty := .int) (N' := 7) (K' := 7) (z := (7, .inl (fun _ => 0))) hx hb hown (zx_cl (show ("[" ++ (FieldType.array .int).toString) = "[[I" by decide +kernel) (hts (.classLink RX0 29 "[[I") (by decide +kernel))) z11 (hts (.arrayClass .int) (by decide +kernel)) (hK.2 0 _ rfl).2 hK hP hD hS hA (by decide) (by decide) (by decide) (by decide) (by decide) (by decide) (by decide) rfl rfl (Nat.le_of_ble_eq_true rfl) (Nat.le_of_ble_eq_true rfl) (fun _ => arrV_new _ _ _) dX0_init_54 (fun q11 r12 cO13 H hr1 hr2 hK hP hD hS => ?_)
  rw [← vr_rows (L := []) (fun a _ h => absurd h List.not_mem_nil)] at hP hD
  have hP := hP.sub (ws' := [(h0, .inr (0, [.int 0, .int 1, .int 0, .int 0, .ref q1, .ref q3, .ref q5, .ref q7, .int 0, .int 0, .int 0, .int 0, .ref q9, .null, .null, .null, .null, .null])), (q11, .inl (cO13, 7, .inr (.inr (.inr (.inr (fun i => if i < 7 then some (r12 i) else none))))))]) [0, 1] rfl
  have hD := hD.sub (ws' := [(h0, .inr (0, [.int 0, .int 1, .int 0, .int 0, .ref q1, .ref q3, .ref q5, .ref q7, .int 0, .int 0, .int 0, .int 0, .ref q9, .null, .null, .null, .null, .null])), (q11, .inl (cO13, 7, .inr (.inr (.inr (.inr (fun i => if i < 7 then some (r12 i) else none))))))]) [0, 1] (by decide) rfl
  have hK : va_K (dC, dI) vwCl [(cA2, .int), (cO13, .array .int)] s := hK
  refine W.widen (k := 13) (n := 91) (by omega) (by omega) ?_
  refine va_putF (D := (dC, dI)) (ci := 0) (v := .ref q11) (ty := .array (.array .int)) (C := RX0) (T := TX0) (N := 18) hx hb hts (by decide +kernel) tyX0 tyX0_ok nmX0 hown hK hP hD hS 0 rfl rfl 13 (by decide) (hts (.fieldLink RX0 31 "LiarTents" "latestTook" "[[I") (by decide +kernel)) (fun _ h9 => h9) rfl hin rfl (by decide +kernel) rfl rfl (Nat.le_of_ble_eq_true rfl) dX0_init_58 (fun H locs hP hD hS => ?_)
  have hP : va_P (dC, dI) vwCl [(h0, .inr (0, [.int 0, .int 1, .int 0, .int 0, .ref q1, .ref q3, .ref q5, .ref q7, .int 0, .int 0, .int 0, .int 0, .ref q9, .ref q11, .null, .null, .null, .null])), (q11, .inl (cO13, 7, .inr (.inr (.inr (.inr (fun i => if i < 7 then some (r12 i) else none))))))] H := hP
  have hD : va_D A [(h0, .inr (0, [.int 0, .int 1, .int 0, .int 0, .ref q1, .ref q3, .ref q5, .ref q7, .int 0, .int 0, .int 0, .int 0, .ref q9, .ref q11, .null, .null, .null, .null])), (q11, .inl (cO13, 7, .inr (.inr (.inr (.inr (fun i => if i < 7 then some (r12 i) else none))))))] := hD
  have hP := hP.sub (ws' := [(h0, .inr (0, [.int 0, .int 1, .int 0, .int 0, .ref q1, .ref q3, .ref q5, .ref q7, .int 0, .int 0, .int 0, .int 0, .ref q9, .ref q11, .null, .null, .null, .null]))]) [0] rfl
  have hD := hD.sub (ws' := [(h0, .inr (0, [.int 0, .int 1, .int 0, .int 0, .ref q1, .ref q3, .ref q5, .ref q7, .int 0, .int 0, .int 0, .int 0, .ref q9, .ref q11, .null, .null, .null, .null]))]) [0] (by decide) rfl
  have hK := hK.sub (tys' := [(cA2, .int)]) [0] rfl
  refine lv_aload_n hx hb dX0_init_61 rfl (lv_at hl 0 rfl) ?_
  refine lv_iconst (v := 4) hx hb dX0_init_62 (by decide) ?_
  refine lv_bipush (v := 7) hx hb dX0_init_63 (by decide) ?_
  have hP : va_P (dC, dI) vwCl ([(h0, .inr (0, [.int 0, .int 1, .int 0, .int 0, .ref q1, .ref q3, .ref q5, .ref q7, .int 0, .int 0, .int 0, .int 0, .ref q9, .ref q11, .null, .null, .null, .null]))] ++ va_pl [] (fun _ => .inr (0, []))) H := hP
  have hD : va_D A ([(h0, .inr (0, [.int 0, .int 1, .int 0, .int 0, .ref q1, .ref q3, .ref q5, .ref q7, .int 0, .int 0, .int 0, .int 0, .ref q9, .ref q11, .null, .null, .null, .null]))] ++ va_pl [] (fun _ => .inr (0, []))) := hD
  obtain ⟨z1, z2, z3, z4, z5, z6, z7, z8, z9, z10, z11⟩ := id hZ
  refine va_mna (X := [(h0, .inr (0, [.int 0, .int 1, .int 0, .int 0, .ref q1, .ref q3, .ref q5, .ref q7, .int 0, .int 0, .int 0, .int 0, .ref q9, .ref q11, .null, .null, .null, .null]))]) (L := []) (f := fun _ => .inr (0, [])) (ty := .int) (N' := 4) (K' := 7) (z := (7, .inl (fun _ => 0))) hx hb hown (zx_cl (show ("[" ++ (FieldType.array .int).toString) = "[[I" by decide +kernel) (hts (.classLink RX0 29 "[[I") (by decide +kernel))) z11 (hts (.arrayClass .int) (by decide +kernel)) (hK.2 0 _ rfl).2 hK hP hD hS hA (by decide) (by decide) (by decide) (by decide) (by decide) (by decide) (by decide) rfl rfl (Nat.le_of_ble_eq_true rfl) (Nat.le_of_ble_eq_true rfl) (fun _ => arrV_new _ _ _) dX0_init_65 (fun q14 r15 cO16 H hr1 hr2 hK hP hD hS => ?_)
  rw [← vr_rows (L := []) (fun a _ h => absurd h List.not_mem_nil)] at hP hD
  have hP := hP.sub (ws' := [(h0, .inr (0, [.int 0, .int 1, .int 0, .int 0, .ref q1, .ref q3, .ref q5, .ref q7, .int 0, .int 0, .int 0, .int 0, .ref q9, .ref q11, .null, .null, .null, .null])), (q14, .inl (cO16, 4, .inr (.inr (.inr (.inr (fun i => if i < 4 then some (r15 i) else none))))))]) [0, 1] rfl
  have hD := hD.sub (ws' := [(h0, .inr (0, [.int 0, .int 1, .int 0, .int 0, .ref q1, .ref q3, .ref q5, .ref q7, .int 0, .int 0, .int 0, .int 0, .ref q9, .ref q11, .null, .null, .null, .null])), (q14, .inl (cO16, 4, .inr (.inr (.inr (.inr (fun i => if i < 4 then some (r15 i) else none))))))]) [0, 1] (by decide) rfl
  have hK : va_K (dC, dI) vwCl [(cA2, .int), (cO16, .array .int)] s := hK
  refine W.widen (k := 18) (n := 123) (by omega) (by omega) ?_
  refine va_putF (D := (dC, dI)) (ci := 0) (v := .ref q14) (ty := .array (.array .int)) (C := RX0) (T := TX0) (N := 18) hx hb hts (by decide +kernel) tyX0 tyX0_ok nmX0 hown hK hP hD hS 0 rfl rfl 14 (by decide) (hts (.fieldLink RX0 34 "LiarTents" "heard" "[[I") (by decide +kernel)) (fun _ h9 => h9) rfl hin rfl (by decide +kernel) rfl rfl (Nat.le_of_ble_eq_true rfl) dX0_init_69 (fun H locs hP hD hS => ?_)
  have hP : va_P (dC, dI) vwCl [(h0, .inr (0, [.int 0, .int 1, .int 0, .int 0, .ref q1, .ref q3, .ref q5, .ref q7, .int 0, .int 0, .int 0, .int 0, .ref q9, .ref q11, .ref q14, .null, .null, .null])), (q14, .inl (cO16, 4, .inr (.inr (.inr (.inr (fun i => if i < 4 then some (r15 i) else none))))))] H := hP
  have hD : va_D A [(h0, .inr (0, [.int 0, .int 1, .int 0, .int 0, .ref q1, .ref q3, .ref q5, .ref q7, .int 0, .int 0, .int 0, .int 0, .ref q9, .ref q11, .ref q14, .null, .null, .null])), (q14, .inl (cO16, 4, .inr (.inr (.inr (.inr (fun i => if i < 4 then some (r15 i) else none))))))] := hD
  have hP := hP.sub (ws' := [(h0, .inr (0, [.int 0, .int 1, .int 0, .int 0, .ref q1, .ref q3, .ref q5, .ref q7, .int 0, .int 0, .int 0, .int 0, .ref q9, .ref q11, .ref q14, .null, .null, .null]))]) [0] rfl
  have hD := hD.sub (ws' := [(h0, .inr (0, [.int 0, .int 1, .int 0, .int 0, .ref q1, .ref q3, .ref q5, .ref q7, .int 0, .int 0, .int 0, .int 0, .ref q9, .ref q11, .ref q14, .null, .null, .null]))]) [0] (by decide) rfl
  have hK := hK.sub (tys' := [(cA2, .int)]) [0] rfl
  refine lv_aload_n hx hb dX0_init_72 rfl (lv_at hl 0 rfl) ?_
  refine lv_iconst (v := 4) hx hb dX0_init_73 (by decide) ?_
  refine lv_bipush (v := 7) hx hb dX0_init_74 (by decide) ?_
  have hP : va_P (dC, dI) vwCl ([(h0, .inr (0, [.int 0, .int 1, .int 0, .int 0, .ref q1, .ref q3, .ref q5, .ref q7, .int 0, .int 0, .int 0, .int 0, .ref q9, .ref q11, .ref q14, .null, .null, .null]))] ++ va_pl [] (fun _ => .inr (0, []))) H := hP
  have hD : va_D A ([(h0, .inr (0, [.int 0, .int 1, .int 0, .int 0, .ref q1, .ref q3, .ref q5, .ref q7, .int 0, .int 0, .int 0, .int 0, .ref q9, .ref q11, .ref q14, .null, .null, .null]))] ++ va_pl [] (fun _ => .inr (0, []))) := hD
  obtain ⟨z1, z2, z3, z4, z5, z6, z7, z8, z9, z10, z11⟩ := id hZ
  refine va_mna (X := [(h0, .inr (0, [.int 0, .int 1, .int 0, .int 0, .ref q1, .ref q3, .ref q5, .ref q7, .int 0, .int 0, .int 0, .int 0, .ref q9, .ref q11, .ref q14, .null, .null, .null]))]) (L := []) (f := fun _ => .inr (0, [])) (ty := .int) (N' := 4) (K' := 7) (z := (7, .inl (fun _ => 0))) hx hb hown (zx_cl (show ("[" ++ (FieldType.array .int).toString) = "[[I" by decide +kernel) (hts (.classLink RX0 29 "[[I") (by decide +kernel))) z11 (hts (.arrayClass .int) (by decide +kernel)) (hK.2 0 _ rfl).2 hK hP hD hS hA (by decide) (by decide) (by decide) (by decide) (by decide) (by decide) (by decide) rfl rfl (Nat.le_of_ble_eq_true rfl) (Nat.le_of_ble_eq_true rfl) (fun _ => arrV_new _ _ _) dX0_init_76 (fun q17 r18 cO19 H hr1 hr2 hK hP hD hS => ?_)
  rw [← vr_rows (L := []) (fun a _ h => absurd h List.not_mem_nil)] at hP hD
  have hP := hP.sub (ws' := [(h0, .inr (0, [.int 0, .int 1, .int 0, .int 0, .ref q1, .ref q3, .ref q5, .ref q7, .int 0, .int 0, .int 0, .int 0, .ref q9, .ref q11, .ref q14, .null, .null, .null])), (q17, .inl (cO19, 4, .inr (.inr (.inr (.inr (fun i => if i < 4 then some (r18 i) else none))))))]) [0, 1] rfl
  have hD := hD.sub (ws' := [(h0, .inr (0, [.int 0, .int 1, .int 0, .int 0, .ref q1, .ref q3, .ref q5, .ref q7, .int 0, .int 0, .int 0, .int 0, .ref q9, .ref q11, .ref q14, .null, .null, .null])), (q17, .inl (cO19, 4, .inr (.inr (.inr (.inr (fun i => if i < 4 then some (r18 i) else none))))))]) [0, 1] (by decide) rfl
  have hK : va_K (dC, dI) vwCl [(cA2, .int), (cO19, .array .int)] s := hK
  refine W.widen (k := 23) (n := 155) (by omega) (by omega) ?_
  refine va_putF (D := (dC, dI)) (ci := 0) (v := .ref q17) (ty := .array (.array .int)) (C := RX0) (T := TX0) (N := 18) hx hb hts (by decide +kernel) tyX0 tyX0_ok nmX0 hown hK hP hD hS 0 rfl rfl 15 (by decide) (hts (.fieldLink RX0 37 "LiarTents" "balance" "[[I") (by decide +kernel)) (fun _ h9 => h9) rfl hin rfl (by decide +kernel) rfl rfl (Nat.le_of_ble_eq_true rfl) dX0_init_80 (fun H locs hP hD hS => ?_)
  have hP : va_P (dC, dI) vwCl [(h0, .inr (0, [.int 0, .int 1, .int 0, .int 0, .ref q1, .ref q3, .ref q5, .ref q7, .int 0, .int 0, .int 0, .int 0, .ref q9, .ref q11, .ref q14, .ref q17, .null, .null])), (q17, .inl (cO19, 4, .inr (.inr (.inr (.inr (fun i => if i < 4 then some (r18 i) else none))))))] H := hP
  have hD : va_D A [(h0, .inr (0, [.int 0, .int 1, .int 0, .int 0, .ref q1, .ref q3, .ref q5, .ref q7, .int 0, .int 0, .int 0, .int 0, .ref q9, .ref q11, .ref q14, .ref q17, .null, .null])), (q17, .inl (cO19, 4, .inr (.inr (.inr (.inr (fun i => if i < 4 then some (r18 i) else none))))))] := hD
  have hP := hP.sub (ws' := [(h0, .inr (0, [.int 0, .int 1, .int 0, .int 0, .ref q1, .ref q3, .ref q5, .ref q7, .int 0, .int 0, .int 0, .int 0, .ref q9, .ref q11, .ref q14, .ref q17, .null, .null]))]) [0] rfl
  have hD := hD.sub (ws' := [(h0, .inr (0, [.int 0, .int 1, .int 0, .int 0, .ref q1, .ref q3, .ref q5, .ref q7, .int 0, .int 0, .int 0, .int 0, .ref q9, .ref q11, .ref q14, .ref q17, .null, .null]))]) [0] (by decide) rfl
  have hK := hK.sub (tys' := [(cA2, .int)]) [0] rfl
  refine lv_aload_n hx hb dX0_init_83 rfl (lv_at hl 0 rfl) ?_
  refine lv_iconst (v := 4) hx hb dX0_init_84 (by decide) ?_
  refine lv_bipush (v := 7) hx hb dX0_init_85 (by decide) ?_
  have hP : va_P (dC, dI) vwCl ([(h0, .inr (0, [.int 0, .int 1, .int 0, .int 0, .ref q1, .ref q3, .ref q5, .ref q7, .int 0, .int 0, .int 0, .int 0, .ref q9, .ref q11, .ref q14, .ref q17, .null, .null]))] ++ va_pl [] (fun _ => .inr (0, []))) H := hP
  have hD : va_D A ([(h0, .inr (0, [.int 0, .int 1, .int 0, .int 0, .ref q1, .ref q3, .ref q5, .ref q7, .int 0, .int 0, .int 0, .int 0, .ref q9, .ref q11, .ref q14, .ref q17, .null, .null]))] ++ va_pl [] (fun _ => .inr (0, []))) := hD
  obtain ⟨z1, z2, z3, z4, z5, z6, z7, z8, z9, z10, z11⟩ := id hZ
  refine va_mna (X := [(h0, .inr (0, [.int 0, .int 1, .int 0, .int 0, .ref q1, .ref q3, .ref q5, .ref q7, .int 0, .int 0, .int 0, .int 0, .ref q9, .ref q11, .ref q14, .ref q17, .null, .null]))]) (L := []) (f := fun _ => .inr (0, [])) (ty := .int) (N' := 4) (K' := 7) (z := (7, .inl (fun _ => 0))) hx hb hown (zx_cl (show ("[" ++ (FieldType.array .int).toString) = "[[I" by decide +kernel) (hts (.classLink RX0 29 "[[I") (by decide +kernel))) z11 (hts (.arrayClass .int) (by decide +kernel)) (hK.2 0 _ rfl).2 hK hP hD hS hA (by decide) (by decide) (by decide) (by decide) (by decide) (by decide) (by decide) rfl rfl (Nat.le_of_ble_eq_true rfl) (Nat.le_of_ble_eq_true rfl) (fun _ => arrV_new _ _ _) dX0_init_87 (fun q20 r21 cO22 H hr1 hr2 hK hP hD hS => ?_)
  rw [← vr_rows (L := []) (fun a _ h => absurd h List.not_mem_nil)] at hP hD
  have hP := hP.sub (ws' := [(h0, .inr (0, [.int 0, .int 1, .int 0, .int 0, .ref q1, .ref q3, .ref q5, .ref q7, .int 0, .int 0, .int 0, .int 0, .ref q9, .ref q11, .ref q14, .ref q17, .null, .null])), (q20, .inl (cO22, 4, .inr (.inr (.inr (.inr (fun i => if i < 4 then some (r21 i) else none))))))]) [0, 1] rfl
  have hD := hD.sub (ws' := [(h0, .inr (0, [.int 0, .int 1, .int 0, .int 0, .ref q1, .ref q3, .ref q5, .ref q7, .int 0, .int 0, .int 0, .int 0, .ref q9, .ref q11, .ref q14, .ref q17, .null, .null])), (q20, .inl (cO22, 4, .inr (.inr (.inr (.inr (fun i => if i < 4 then some (r21 i) else none))))))]) [0, 1] (by decide) rfl
  have hK : va_K (dC, dI) vwCl [(cA2, .int), (cO22, .array .int)] s := hK
  refine W.widen (k := 28) (n := 187) (by omega) (by omega) ?_
  refine va_putF (D := (dC, dI)) (ci := 0) (v := .ref q20) (ty := .array (.array .int)) (C := RX0) (T := TX0) (N := 18) hx hb hts (by decide +kernel) tyX0 tyX0_ok nmX0 hown hK hP hD hS 0 rfl rfl 16 (by decide) (hts (.fieldLink RX0 40 "LiarTents" "taken" "[[I") (by decide +kernel)) (fun _ h9 => h9) rfl hin rfl (by decide +kernel) rfl rfl (Nat.le_of_ble_eq_true rfl) dX0_init_91 (fun H locs hP hD hS => ?_)
  have hP : va_P (dC, dI) vwCl [(h0, .inr (0, [.int 0, .int 1, .int 0, .int 0, .ref q1, .ref q3, .ref q5, .ref q7, .int 0, .int 0, .int 0, .int 0, .ref q9, .ref q11, .ref q14, .ref q17, .ref q20, .null])), (q20, .inl (cO22, 4, .inr (.inr (.inr (.inr (fun i => if i < 4 then some (r21 i) else none))))))] H := hP
  have hD : va_D A [(h0, .inr (0, [.int 0, .int 1, .int 0, .int 0, .ref q1, .ref q3, .ref q5, .ref q7, .int 0, .int 0, .int 0, .int 0, .ref q9, .ref q11, .ref q14, .ref q17, .ref q20, .null])), (q20, .inl (cO22, 4, .inr (.inr (.inr (.inr (fun i => if i < 4 then some (r21 i) else none))))))] := hD
  have hP := hP.sub (ws' := [(h0, .inr (0, [.int 0, .int 1, .int 0, .int 0, .ref q1, .ref q3, .ref q5, .ref q7, .int 0, .int 0, .int 0, .int 0, .ref q9, .ref q11, .ref q14, .ref q17, .ref q20, .null]))]) [0] rfl
  have hD := hD.sub (ws' := [(h0, .inr (0, [.int 0, .int 1, .int 0, .int 0, .ref q1, .ref q3, .ref q5, .ref q7, .int 0, .int 0, .int 0, .int 0, .ref q9, .ref q11, .ref q14, .ref q17, .ref q20, .null]))]) [0] (by decide) rfl
  have hK := hK.sub (tys' := [(cA2, .int)]) [0] rfl
  refine lv_aload_n hx hb dX0_init_94 rfl (lv_at hl 0 rfl) ?_
  refine lv_bipush (v := 7) hx hb dX0_init_95 (by decide) ?_
  refine lv_bipush (v := 7) hx hb dX0_init_97 (by decide) ?_
  have hP : va_P (dC, dI) vwCl ([(h0, .inr (0, [.int 0, .int 1, .int 0, .int 0, .ref q1, .ref q3, .ref q5, .ref q7, .int 0, .int 0, .int 0, .int 0, .ref q9, .ref q11, .ref q14, .ref q17, .ref q20, .null]))] ++ va_pl [] (fun _ => .inr (0, []))) H := hP
  have hD : va_D A ([(h0, .inr (0, [.int 0, .int 1, .int 0, .int 0, .ref q1, .ref q3, .ref q5, .ref q7, .int 0, .int 0, .int 0, .int 0, .ref q9, .ref q11, .ref q14, .ref q17, .ref q20, .null]))] ++ va_pl [] (fun _ => .inr (0, []))) := hD
  obtain ⟨z1, z2, z3, z4, z5, z6, z7, z8, z9, z10, z11⟩ := id hZ
  refine va_mna (X := [(h0, .inr (0, [.int 0, .int 1, .int 0, .int 0, .ref q1, .ref q3, .ref q5, .ref q7, .int 0, .int 0, .int 0, .int 0, .ref q9, .ref q11, .ref q14, .ref q17, .ref q20, .null]))]) (L := []) (f := fun _ => .inr (0, [])) (ty := .int) (N' := 7) (K' := 7) (z := (7, .inl (fun _ => 0))) hx hb hown (zx_cl (show ("[" ++ (FieldType.array .int).toString) = "[[I" by decide +kernel) (hts (.classLink RX0 29 "[[I") (by decide +kernel))) z11 (hts (.arrayClass .int) (by decide +kernel)) (hK.2 0 _ rfl).2 hK hP hD hS hA (by decide) (by decide) (by decide) (by decide) (by decide) (by decide) (by decide) rfl rfl (Nat.le_of_ble_eq_true rfl) (Nat.le_of_ble_eq_true rfl) (fun _ => arrV_new _ _ _) dX0_init_99 (fun q23 r24 cO25 H hr1 hr2 hK hP hD hS => ?_)
  rw [← vr_rows (L := []) (fun a _ h => absurd h List.not_mem_nil)] at hP hD
  have hP := hP.sub (ws' := [(h0, .inr (0, [.int 0, .int 1, .int 0, .int 0, .ref q1, .ref q3, .ref q5, .ref q7, .int 0, .int 0, .int 0, .int 0, .ref q9, .ref q11, .ref q14, .ref q17, .ref q20, .null])), (q23, .inl (cO25, 7, .inr (.inr (.inr (.inr (fun i => if i < 7 then some (r24 i) else none))))))]) [0, 1] rfl
  have hD := hD.sub (ws' := [(h0, .inr (0, [.int 0, .int 1, .int 0, .int 0, .ref q1, .ref q3, .ref q5, .ref q7, .int 0, .int 0, .int 0, .int 0, .ref q9, .ref q11, .ref q14, .ref q17, .ref q20, .null])), (q23, .inl (cO25, 7, .inr (.inr (.inr (.inr (fun i => if i < 7 then some (r24 i) else none))))))]) [0, 1] (by decide) rfl
  have hK : va_K (dC, dI) vwCl [(cA2, .int), (cO25, .array .int)] s := hK
  refine W.widen (k := 36) (n := 243) (by omega) (by omega) ?_
  refine va_putF (D := (dC, dI)) (ci := 0) (v := .ref q23) (ty := .array (.array .int)) (C := RX0) (T := TX0) (N := 18) hx hb hts (by decide +kernel) tyX0 tyX0_ok nmX0 hown hK hP hD hS 0 rfl rfl 17 (by decide) (hts (.fieldLink RX0 43 "LiarTents" "tookOf" "[[I") (by decide +kernel)) (fun _ h9 => h9) rfl hin rfl (by decide +kernel) rfl rfl (Nat.le_of_ble_eq_true rfl) dX0_init_103 (fun H locs hP hD hS => ?_)
  have hP : va_P (dC, dI) vwCl [(h0, .inr (0, [.int 0, .int 1, .int 0, .int 0, .ref q1, .ref q3, .ref q5, .ref q7, .int 0, .int 0, .int 0, .int 0, .ref q9, .ref q11, .ref q14, .ref q17, .ref q20, .ref q23])), (q23, .inl (cO25, 7, .inr (.inr (.inr (.inr (fun i => if i < 7 then some (r24 i) else none))))))] H := hP
  have hD : va_D A [(h0, .inr (0, [.int 0, .int 1, .int 0, .int 0, .ref q1, .ref q3, .ref q5, .ref q7, .int 0, .int 0, .int 0, .int 0, .ref q9, .ref q11, .ref q14, .ref q17, .ref q20, .ref q23])), (q23, .inl (cO25, 7, .inr (.inr (.inr (.inr (fun i => if i < 7 then some (r24 i) else none))))))] := hD
  have hP := hP.sub (ws' := [(h0, .inr (0, [.int 0, .int 1, .int 0, .int 0, .ref q1, .ref q3, .ref q5, .ref q7, .int 0, .int 0, .int 0, .int 0, .ref q9, .ref q11, .ref q14, .ref q17, .ref q20, .ref q23]))]) [0] rfl
  have hD := hD.sub (ws' := [(h0, .inr (0, [.int 0, .int 1, .int 0, .int 0, .ref q1, .ref q3, .ref q5, .ref q7, .int 0, .int 0, .int 0, .int 0, .ref q9, .ref q11, .ref q14, .ref q17, .ref q20, .ref q23]))]) [0] (by decide) rfl
  have hK := hK.sub (tys' := [(cA2, .int)]) [0] rfl
  obtain ⟨uu, huu⟩ : ∃ uu : Nat → Value, uu = (fun k => if k = 4 then .ref q1 else (if k = 5 then .ref q3 else (if k = 6 then .ref q5 else (if k = 7 then .ref q7 else (if k = 12 then .ref q9 else (if k = 13 then .ref q11 else (if k = 14 then .ref q14 else (if k = 15 then .ref q17 else (if k = 16 then .ref q20 else (if k = 17 then .ref q23 else (.null))))))))))) := ⟨_, rfl⟩
  have g4 : uu 4 = .ref q1 := by rw [huu]; rfl
  have g5 : uu 5 = .ref q3 := by rw [huu]; rfl
  have g6 : uu 6 = .ref q5 := by rw [huu]; rfl
  have g7 : uu 7 = .ref q7 := by rw [huu]; rfl
  have g12 : uu 12 = .ref q9 := by rw [huu]; rfl
  have g13 : uu 13 = .ref q11 := by rw [huu]; rfl
  have g14 : uu 14 = .ref q14 := by rw [huu]; rfl
  have g15 : uu 15 = .ref q17 := by rw [huu]; rfl
  have g16 : uu 16 = .ref q20 := by rw [huu]; rfl
  have g17 : uu 17 = .ref q23 := by rw [huu]; rfl
  have hP : va_P (dC, dI) vwCl [(h0, .inr (0, [.int 0, .int 1, .int 0, .int 0, uu 4, uu 5, uu 6, uu 7, .int 0, .int 0, .int 0, .int 0, uu 12, uu 13, uu 14, uu 15, uu 16, uu 17]))] H := by rw [g4, g5, g6, g7, g12, g13, g14, g15, g16, g17]; exact hP
  have hD : va_D A [(h0, .inr (0, [.int 0, .int 1, .int 0, .int 0, uu 4, uu 5, uu 6, uu 7, .int 0, .int 0, .int 0, .int 0, uu 12, uu 13, uu 14, uu 15, uu 16, uu 17]))] := by rw [g4, g5, g6, g7, g12, g13, g14, g15, g16, g17]; exact hD
  have hP9 := hP.sub (ws' := [(h0, .inr (0, [.int 0, .int 1, .int 0, .int 0, uu 4, uu 5, uu 6, uu 7, .int 0, .int 0, .int 0, .int 0, uu 12, uu 13, uu 14, uu 15, uu 16, uu 17]))]) [0] rfl
  have hD9 := hD.sub (ws' := [(h0, .inr (0, [.int 0, .int 1, .int 0, .int 0, uu 4, uu 5, uu 6, uu 7, .int 0, .int 0, .int 0, .int 0, uu 12, uu 13, uu 14, uu 15, uu 16, uu 17]))]) [0] (by decide) rfl
  have hK9 := hK.sub (tys' := []) [] rfl
  refine W.widen (k := 36) (n := 243) (by omega) (by omega) ?_
  exact W.vret hx hb hr (fun t ht hW => ⟨⟨uu, rfl, trivial, by rw [ht]; exact hP9, va_K.moved hW.alike hK9, hD9⟩, hS.F ht⟩) hS.2.2 dX0_init_106
