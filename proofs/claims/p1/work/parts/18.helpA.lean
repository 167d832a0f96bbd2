set_option maxHeartbeats 4000000 in
set_option maxRecDepth 100000 in
/-- the law asks come of a new camp -/
theorem c_L_come (l : Launch) (dC : Nat → ClassId) (dI : Nat → Nat → Nat) (h0 o0 : Nat) (cJ : ClassId) (f : Nat → Int64) (v : Nat → Value) (sz : Nat) : Met l yL_come wsL_come ({ frames := 13, cells := 0, slots := 0, locals := 420 }) (va_Pc [.ref h0, .ref o0] (zx_pre (dC, dI) [(h0, zX 0 1 v), (o0, .inl (cJ, 1, .inr (.inl f)))] [(cJ, .long)] sz)) (va_Qi (fun (r : Int32) (u : Nat → Int64) => r = 0 ∧ u 0 = 0) (fun (u : Nat → Int64) => zx_at (dC, dI) [(o0, .inl (cJ, 1, .inr (.inl u)))] [(cJ, .long)] (va_A [(h0, zX 0 1 v), (o0, .inl (cJ, 1, .inr (.inl f)))] sz)) (va_A [(h0, zX 0 1 v), (o0, .inl (cJ, 1, .inr (.inl f)))] sz)) 0 0 (va_A [(h0, zX 0 1 v), (o0, .inl (cJ, 1, .inr (.inl f)))] sz) := by
  refine va_MetW (cc := cL_come) (maxL := 3) (ret := (some .int)) (by decide) rfl ?_
  intro p e s m args below meth c s₁ B hml hv
  obtain ⟨rfl, hsz, hP, hK, hD0, hZ⟩ := hv
  have hx := B.exec
  have hb := B.bytes
  have hr := B.returns
  have hts := atoms_spec (ws := wsL_come) B.pre
  have hown : s.vm.findClass RL = some m.cls := findClass_of_methodNamed B.named
  have hlocks := B.notSynchronized
  have hTab := vx_table (x := yL_come) B (hts _ List.mem_cons_self)
  subst hsz
  have hD := hD0.self (sz := s.heap.size)
  generalize hAe : va_A [(h0, zX 0 1 v), (o0, .inl (cJ, 1, .inr (.inl f)))] s.heap.size = A at hD hZ ⊢
  have hA : ∀ q : Nat, s.heap.size ≤ q → A q := fun q h => by rw [← hAe]; exact Or.inr h
  have hS : va_S A s.heap s.heap [] := va_S.rf
  have hP : va_P (dC, dI) vwCl [(h0, zX 0 1 v), (o0, .inl (cJ, 1, .inr (.inl f)))] s.heap := hP
  have hl := lv_entry ([.ref h0, .ref o0]) (n := 3) (Nat.le_of_ble_eq_true rfl)
  rw [lg_entry_eq]
  generalize (lg_sl ([.ref h0, .ref o0]) ++ List.replicate (3 - (lg_sl ([.ref h0, .ref o0])).length) Slot.unset).toArray = ls at hl ⊢
  have hl : lv_has ls 3 [(0, .ref h0), (1, .ref o0)] := hl
  refine lv_aload_n hx hb dL_come_0 rfl (lv_at hl 1 rfl) ?_
  refine lv_iconst (v := 0) hx hb dL_come_1 (by decide) ?_
  refine lv_aload_n hx hb dL_come_2 rfl (lv_at hl 0 rfl) ?_
  have hPc := hP.sub (ws' := [(h0, zX 0 1 v)]) [0] rfl
  have hDc := hD.sub (ws' := [(h0, zX 0 1 v)]) [0] (by decide) rfl
  have hKc := hK.sub (tys' := []) [] rfl
  have hFc := va_free (wc := [(h0, zX 0 1 v)]) hD hS hA [0] rfl
  refine va_calli (va_runV (As := []) (rest := [.int 0, .ref o0]) ⟨hx, hb, hml, hown, hts⟩ (c_X0_come l dC dI h0 v s.heap.size) (cwV 0 hts gL_come_X0_come rfl rfl rfl (by decide +kernel) ⟨Nat.le_of_ble_eq_true rfl, Nat.le_of_ble_eq_true rfl⟩) ⟨zx_blind, va_recv hKc hPc (ci := 0) (q0 := 0) rfl rfl, fun U hU hW => ⟨rfl, zx_go hPc hKc hDc hZ hS hFc hU hW⟩⟩ rfl rfl hl.1 rfl (lv_room (Nat.le_of_ble_eq_true rfl)) dL_come_3 ⟨Nat.le_of_ble_eq_true rfl, Nat.le_of_ble_eq_true rfl⟩) hS (fun q _ h => hFc q h) hFc (fun r u t H1 locs ht hvm hw hB hz1 hk1 hS => ?_)
  obtain ⟨hP1, hK1, hD1⟩ := hB
  rw [ht] at hP1
  have hK1 := va_K.moved hvm.symm hK1
  try dsimp only at hw hP1 hD1 hK1
  obtain ⟨hP, hD⟩ := va_join (wr := [(o0, .inl (cJ, 1, .inr (.inl f)))]) (w1 := [(h0, zX 1 1 v)]) hP hD [0] [1] rfl rfl (by decide) (by decide) hk1 hFc hP1 hD1
  generalize H1 = H at hP hS ⊢
  have hP : va_P (dC, dI) vwCl [(o0, .inl (cJ, 1, .inr (.inl f))), (h0, zX 1 1 v)] H := hP
  have hD : va_D A [(o0, .inl (cJ, 1, .inr (.inl f))), (h0, zX 1 1 v)] := hD
  obtain rfl := hw
  refine lv_i2l (v := 0) hx hb dL_come_6 (by decide) ?_
  refine va_last hx hb hK hP hD hS 0 0 rfl rfl (zx_in rfl) dL_come_7 (fun H locs hP hD hS => ?_)
  obtain ⟨g9, hg9⟩ : ∃ g9 : Nat → Int64, g9 = vp_updL f (0 : Int32).toNatClampNeg (0) := ⟨_, rfl⟩
  have hg0 : g9 0 = 0 := by rw [hg9]; exact pk_uLs
  have hP : va_P (dC, dI) vwCl [(o0, .inl (cJ, 1, .inr (.inl (vp_updL f (0 : Int32).toNatClampNeg (0))))), (h0, zX 1 1 v)] H := hP
  have hD : va_D A [(o0, .inl (cJ, 1, .inr (.inl (vp_updL f (0 : Int32).toNatClampNeg (0))))), (h0, zX 1 1 v)] := hD
  rw [← hg9] at hP hD
  refine lv_goto (tgt := 14) hx hb dL_come_8 (by decide) ?_
  refine lv_iconst (v := 0) hx hb dL_come_14 (by decide) ?_
  have hP9 := hP.sub (ws' := [(o0, .inl (cJ, 1, .inr (.inl g9)))]) [0] rfl
  have hD9 := hD.sub (ws' := [(o0, .inl (cJ, 1, .inr (.inl g9)))]) [0] (by decide) rfl
  have hK9 := hK.sub (tys' := [(cJ, .long)]) [0] rfl
  refine W.widen (k := 0) (n := 0) (by omega) (by omega) ?_
  exact W.iret (v := 0) hx hb hr (fun t ht hW => ⟨⟨0, g9, rfl, ⟨rfl, hg0⟩, by rw [ht]; exact hP9, va_K.moved hW.alike hK9, hD9⟩, hS.F ht⟩) hS.2.2 dL_come_15
set_option maxHeartbeats 4000000 in
set_option maxRecDepth 100000 in
/-- the law asks setKind of a new camp -/
theorem c_L_setKind (l : Launch) (hl9 : l.stackTraces = false) (dC : Nat → ClassId) (dI : Nat → Nat → Nat) (h0 o0 : Nat) (cJ : ClassId) (f : Nat → Int64) (v : Nat → Value) (p0 p1 : Int32) (sz : Nat) : Met l yL_setKind wsL_setKind ({ frames := 13, cells := 1, slots := 6, locals := 420 }) (va_Pc [.ref h0, .int p0, .int p1, .ref o0] (zx_pre (dC, dI) [(h0, zX 0 1 v), (o0, .inl (cJ, 1, .inr (.inl f)))] [(cJ, .long)] sz)) (va_Qi (fun (r : Int32) (u : Unit) => r = 1) (fun (u : Unit) => zx_at (dC, dI) [] [] (va_A [(h0, zX 0 1 v), (o0, .inl (cJ, 1, .inr (.inl f)))] sz)) (va_A [(h0, zX 0 1 v), (o0, .inl (cJ, 1, .inr (.inl f)))] sz)) 1 6 (va_A [(h0, zX 0 1 v), (o0, .inl (cJ, 1, .inr (.inl f)))] sz) := by
  refine va_MetW (cc := cL_setKind) (maxL := 5) (ret := (some .int)) (by decide) rfl ?_
  intro p e s m args below meth c s₁ B hml hv
  obtain ⟨rfl, hsz, hP, hK, hD0, hZ⟩ := hv
  have hx := B.exec
  have hb := B.bytes
  have hr := B.returns
  have hts := atoms_spec (ws := wsL_setKind) B.pre
  have hown : s.vm.findClass RL = some m.cls := findClass_of_methodNamed B.named
  have hlocks := B.notSynchronized
  have hTab := vx_table (x := yL_setKind) B (hts _ List.mem_cons_self)
  subst hsz
  have hD := hD0.self (sz := s.heap.size)
  generalize hAe : va_A [(h0, zX 0 1 v), (o0, .inl (cJ, 1, .inr (.inl f)))] s.heap.size = A at hD hZ ⊢
  have hA : ∀ q : Nat, s.heap.size ≤ q → A q := fun q h => by rw [← hAe]; exact Or.inr h
  have hS : va_S A s.heap s.heap [] := va_S.rf
  have hP : va_P (dC, dI) vwCl [(h0, zX 0 1 v), (o0, .inl (cJ, 1, .inr (.inl f)))] s.heap := hP
  have hl := lv_entry ([.ref h0, .int p0, .int p1, .ref o0]) (n := 5) (Nat.le_of_ble_eq_true rfl)
  rw [lg_entry_eq]
  generalize (lg_sl ([.ref h0, .int p0, .int p1, .ref o0]) ++ List.replicate (5 - (lg_sl ([.ref h0, .int p0, .int p1, .ref o0])).length) Slot.unset).toArray = ls at hl ⊢
  have hl : lv_has ls 5 [(0, .ref h0), (1, .int p0), (2, .int p1), (3, .ref o0)] := hl
  refine lv_aload_n hx hb dL_setKind_0 rfl (lv_at hl 3 rfl) ?_
  refine lv_iconst (v := 0) hx hb dL_setKind_1 (by decide) ?_
  refine lv_aload_n hx hb dL_setKind_2 rfl (lv_at hl 0 rfl) ?_
  refine lv_iload_n hx hb dL_setKind_3 rfl (lv_at hl 1 rfl) ?_
  refine lv_iload_n hx hb dL_setKind_4 rfl (lv_at hl 2 rfl) ?_
  have hPc := hP.sub (ws' := [(h0, zX 0 1 v)]) [0] rfl
  have hDc := hD.sub (ws' := [(h0, zX 0 1 v)]) [0] (by decide) rfl
  have hKc := hK.sub (tys' := []) [] rfl
  have hFc := va_free (wc := [(h0, zX 0 1 v)]) hD hS hA [0] rfl
  refine vx_calli (vx_runV (As := [.int p0, .int p1]) (rest := [.int 0, .ref o0]) ⟨hx, hb, hml, hown, hts⟩ (c_X0_setKind l hl9 dC dI h0 v p0 p1 s.heap.size) (cwV 2 hts gL_setKind_X0_setKind rfl rfl rfl (by decide +kernel) ⟨Nat.le_of_ble_eq_true rfl, Nat.le_of_ble_eq_true rfl⟩) ⟨zx_blind, va_recv hKc hPc (ci := 0) (q0 := 0) rfl rfl, fun U hU hW => ⟨rfl, zx_go hPc hKc hDc hZ hS hFc hU hW⟩⟩ rfl rfl hl.1 rfl (lv_room (Nat.le_of_ble_eq_true rfl)) dL_setKind_5 ⟨Nat.le_of_ble_eq_true rfl, Nat.le_of_ble_eq_true rfl⟩) hS (fun q _ h => hFc q h) hFc (fun q _ h => hFc q h) (fun E ce q9 u t H1 locs ht hvm hw hB hz1 hk1 hS hce hcv hcl => ?_) (fun r u t H1 locs ht hvm hw hB hz1 hk1 hS => ?_)
  · skip
    obtain rfl := hB
    obtain ⟨z1, z2, -⟩ := id hZ
    obtain ⟨hP, hD⟩ := va_join (wr := [(o0, .inl (cJ, 1, .inr (.inl f)))]) (w1 := []) hP hD [0] [1] rfl rfl (by decide) (by decide) hk1 hFc zx_nilP zx_nilD
    refine vx_catch (own := RL) (name := "java/lang/IndexOutOfBoundsException") (E := "java/lang/IndexOutOfBoundsException") hown [] ⟨0, 10, 13, 19⟩ [] (by rw [hTab]; rfl) (fun z hz => nomatch hz) (by decide) (by decide) (hts (.classLink RL 19 "java/lang/IndexOutOfBoundsException") (by decide +kernel)) (va_Nw.use rfl z1) hce hcv hcl ?_
    refine W.eq (g2 := F0 m 13 ls [.ref q9]) rfl ?_
    generalize H1 = H at hP hS ⊢
    have hP : va_P (dC, dI) vwCl [(o0, .inl (cJ, 1, .inr (.inl f)))] H := hP
    have hD : va_D A [(o0, .inl (cJ, 1, .inr (.inl f)))] := hD
    refine W.widen (k := 1) (n := 6) (by omega) (by omega) ?_
    refine lv_astore (lv' := [(4, .ref q9), (0, .ref h0), (1, .int p0), (2, .int p1), (3, .ref o0)]) hx hb dL_setKind_13 hl (by decide) rfl (fun ls hl => ?_)
    refine lv_iconst (v := 1) hx hb dL_setKind_15 (by decide) ?_
    have hP9 := hP.sub (ws' := []) [] rfl
    have hD9 := hD.sub (ws' := []) [] (by decide) rfl
    have hK9 := hK.sub (tys' := []) [] rfl
    refine W.widen (k := 1) (n := 6) (by omega) (by omega) ?_
    exact W.iret (v := 1) hx hb hr (fun t ht hW => ⟨⟨1, (), rfl, rfl, by rw [ht]; exact hP9, va_K.moved hW.alike hK9, hD9⟩, hS.F ht⟩) hS.2.2 dL_setKind_16
  · skip
    exact hw.elim
set_option maxHeartbeats 4000000 in
set_option maxRecDepth 100000 in
/-- the law asks setRounds of a new camp -/
theorem c_L_setRounds (l : Launch) (hl9 : l.stackTraces = false) (dC : Nat → ClassId) (dI : Nat → Nat → Nat) (h0 o0 : Nat) (cJ : ClassId) (f : Nat → Int64) (v : Nat → Value) (p0 : Int32) (sz : Nat) : Met l yL_setRounds wsL_setRounds ({ frames := 13, cells := 1, slots := 6, locals := 420 }) (va_Pc [.ref h0, .int p0, .ref o0] (zx_pre (dC, dI) [(h0, zX 0 1 v), (o0, .inl (cJ, 1, .inr (.inl f)))] [(cJ, .long)] sz)) (va_Qi (fun (r : Int32) (u : Nat → Int64) => (r = 1 ∧ (p0 < 0 ∨ 3 < p0)) ∨ (r = 0 ∧ u 0 = 1 ∧ ¬ p0 < 0 ∧ ¬ 3 < p0)) (fun (u : Nat → Int64) => zx_at (dC, dI) [(o0, .inl (cJ, 1, .inr (.inl u)))] [(cJ, .long)] (va_A [(h0, zX 0 1 v), (o0, .inl (cJ, 1, .inr (.inl f)))] sz)) (va_A [(h0, zX 0 1 v), (o0, .inl (cJ, 1, .inr (.inl f)))] sz)) 1 6 (va_A [(h0, zX 0 1 v), (o0, .inl (cJ, 1, .inr (.inl f)))] sz) := by
  refine va_MetW (cc := cL_setRounds) (maxL := 4) (ret := (some .int)) (by decide) rfl ?_
  intro p e s m args below meth c s₁ B hml hv
  obtain ⟨rfl, hsz, hP, hK, hD0, hZ⟩ := hv
  have hx := B.exec
  have hb := B.bytes
  have hr := B.returns
  have hts := atoms_spec (ws := wsL_setRounds) B.pre
  have hown : s.vm.findClass RL = some m.cls := findClass_of_methodNamed B.named
  have hlocks := B.notSynchronized
  have hTab := vx_table (x := yL_setRounds) B (hts _ List.mem_cons_self)
  subst hsz
  have hD := hD0.self (sz := s.heap.size)
  generalize hAe : va_A [(h0, zX 0 1 v), (o0, .inl (cJ, 1, .inr (.inl f)))] s.heap.size = A at hD hZ ⊢
  have hA : ∀ q : Nat, s.heap.size ≤ q → A q := fun q h => by rw [← hAe]; exact Or.inr h
  have hS : va_S A s.heap s.heap [] := va_S.rf
  have hP : va_P (dC, dI) vwCl [(h0, zX 0 1 v), (o0, .inl (cJ, 1, .inr (.inl f)))] s.heap := hP
  have hl := lv_entry ([.ref h0, .int p0, .ref o0]) (n := 4) (Nat.le_of_ble_eq_true rfl)
  rw [lg_entry_eq]
  generalize (lg_sl ([.ref h0, .int p0, .ref o0]) ++ List.replicate (4 - (lg_sl ([.ref h0, .int p0, .ref o0])).length) Slot.unset).toArray = ls at hl ⊢
  have hl : lv_has ls 4 [(0, .ref h0), (1, .int p0), (2, .ref o0)] := hl
  refine lv_aload_n hx hb dL_setRounds_0 rfl (lv_at hl 2 rfl) ?_
  refine lv_iconst (v := 0) hx hb dL_setRounds_1 (by decide) ?_
  refine lv_aload_n hx hb dL_setRounds_2 rfl (lv_at hl 0 rfl) ?_
  refine lv_iload_n hx hb dL_setRounds_3 rfl (lv_at hl 1 rfl) ?_
  have hPc := hP.sub (ws' := [(h0, zX 0 1 v)]) [0] rfl
  have hDc := hD.sub (ws' := [(h0, zX 0 1 v)]) [0] (by decide) rfl
  have hKc := hK.sub (tys' := []) [] rfl
  have hFc := va_free (wc := [(h0, zX 0 1 v)]) hD hS hA [0] rfl
  refine vx_calli (vx_runV (As := [.int p0]) (rest := [.int 0, .ref o0]) ⟨hx, hb, hml, hown, hts⟩ (c_X0_setRounds l hl9 dC dI h0 v p0 s.heap.size) (cwV 1 hts gL_setRounds_X0_setRounds rfl rfl rfl (by decide +kernel) ⟨Nat.le_of_ble_eq_true rfl, Nat.le_of_ble_eq_true rfl⟩) ⟨zx_blind, va_recv hKc hPc (ci := 0) (q0 := 0) rfl rfl, fun U hU hW => ⟨rfl, zx_go hPc hKc hDc hZ hS hFc hU hW⟩⟩ rfl rfl hl.1 rfl (lv_room (Nat.le_of_ble_eq_true rfl)) dL_setRounds_4 ⟨Nat.le_of_ble_eq_true rfl, Nat.le_of_ble_eq_true rfl⟩) hS (fun q _ h => hFc q h) hFc (fun q _ h => hFc q h) (fun E ce q9 u t H1 locs ht hvm hw hB hz1 hk1 hS hce hcv hcl => ?_) (fun r u t H1 locs ht hvm hw hB hz1 hk1 hS => ?_)
  · skip
    obtain rfl := hB
    obtain ⟨z1, z2, -⟩ := id hZ
    obtain ⟨hP, hD⟩ := va_join (wr := [(o0, .inl (cJ, 1, .inr (.inl f)))]) (w1 := []) hP hD [0] [1] rfl rfl (by decide) (by decide) hk1 hFc zx_nilP zx_nilD
    refine vx_catch (own := RL) (name := "java/lang/IllegalArgumentException") (E := "java/lang/IllegalArgumentException") hown [] ⟨0, 9, 12, 25⟩ [] (by rw [hTab]; rfl) (fun z hz => nomatch hz) (by decide) (by decide) (hts (.classLink RL 25 "java/lang/IllegalArgumentException") (by decide +kernel)) (va_Nw.use rfl z2) hce hcv hcl ?_
    refine W.eq (g2 := F0 m 12 ls [.ref q9]) rfl ?_
    generalize H1 = H at hP hS ⊢
    have hP : va_P (dC, dI) vwCl [(o0, .inl (cJ, 1, .inr (.inl f)))] H := hP
    have hD : va_D A [(o0, .inl (cJ, 1, .inr (.inl f)))] := hD
    refine W.widen (k := 1) (n := 6) (by omega) (by omega) ?_
    refine lv_astore_n (lv' := [(3, .ref q9), (0, .ref h0), (1, .int p0), (2, .ref o0)]) hx hb dL_setRounds_12 rfl hl (by decide) rfl (fun ls hl => ?_)
    refine lv_iconst (v := 1) hx hb dL_setRounds_13 (by decide) ?_
    have hP9 := hP.sub (ws' := [(o0, .inl (cJ, 1, .inr (.inl f)))]) [0] rfl
    have hD9 := hD.sub (ws' := [(o0, .inl (cJ, 1, .inr (.inl f)))]) [0] (by decide) rfl
    have hK9 := hK.sub (tys' := [(cJ, .long)]) [0] rfl
    refine W.widen (k := 1) (n := 6) (by omega) (by omega) ?_
    exact W.iret (v := 1) hx hb hr (fun t ht hW => ⟨⟨1, f, rfl, Or.inl ⟨rfl, hw⟩, by rw [ht]; exact hP9, va_K.moved hW.alike hK9, hD9⟩, hS.F ht⟩) hS.2.2 dL_setRounds_14
  · skip
    obtain ⟨hP1, hK1, hD1⟩ := hB
    rw [ht] at hP1
    have hK1 := va_K.moved hvm.symm hK1
    try dsimp only at hw hP1 hD1 hK1
    obtain ⟨hP, hD⟩ := va_join (wr := [(o0, .inl (cJ, 1, .inr (.inl f)))]) (w1 := [(h0, zX 0 p0 v)]) hP hD [0] [1] rfl rfl (by decide) (by decide) hk1 hFc hP1 hD1
    generalize H1 = H at hP hS ⊢
    have hP : va_P (dC, dI) vwCl [(o0, .inl (cJ, 1, .inr (.inl f))), (h0, zX 0 p0 v)] H := hP
    have hD : va_D A [(o0, .inl (cJ, 1, .inr (.inl f))), (h0, zX 0 p0 v)] := hD
    refine W.widen (k := 1) (n := 6) (by omega) (by omega) ?_
    obtain ⟨hw, hc⟩ := hw
    subst hw
    refine lv_i2l (v := 1) hx hb dL_setRounds_7 (by decide) ?_
    refine va_last hx hb hK hP hD hS 0 0 rfl rfl (zx_in rfl) dL_setRounds_8 (fun H locs hP hD hS => ?_)
    obtain ⟨g9, hg9⟩ : ∃ g9 : Nat → Int64, g9 = vp_updL f (0 : Int32).toNatClampNeg (1) := ⟨_, rfl⟩
    have hg0 : g9 0 = 1 := by rw [hg9]; exact pk_uLs
    have hP : va_P (dC, dI) vwCl [(o0, .inl (cJ, 1, .inr (.inl (vp_updL f (0 : Int32).toNatClampNeg (1))))), (h0, zX 0 p0 v)] H := hP
    have hD : va_D A [(o0, .inl (cJ, 1, .inr (.inl (vp_updL f (0 : Int32).toNatClampNeg (1))))), (h0, zX 0 p0 v)] := hD
    rw [← hg9] at hP hD
    refine lv_goto (tgt := 15) hx hb dL_setRounds_9 (by decide) ?_
    refine lv_iconst (v := 0) hx hb dL_setRounds_15 (by decide) ?_
    have hP9 := hP.sub (ws' := [(o0, .inl (cJ, 1, .inr (.inl g9)))]) [0] rfl
    have hD9 := hD.sub (ws' := [(o0, .inl (cJ, 1, .inr (.inl g9)))]) [0] (by decide) rfl
    have hK9 := hK.sub (tys' := [(cJ, .long)]) [0] rfl
    refine W.widen (k := 1) (n := 6) (by omega) (by omega) ?_
    exact W.iret (v := 0) hx hb hr (fun t ht hW => ⟨⟨0, g9, rfl, Or.inr ⟨rfl, hg0, hc⟩, by rw [ht]; exact hP9, va_K.moved hW.alike hK9, hD9⟩, hS.F ht⟩) hS.2.2 dL_setRounds_16
set_option maxHeartbeats 4000000 in
set_option maxRecDepth 100000 in
/-- the law asks hold of a new camp -/
theorem c_L_hold (l : Launch) (hl9 : l.stackTraces = false) (dC : Nat → ClassId) (dI : Nat → Nat → Nat) (h0 o0 : Nat) (cJ : ClassId) (f : Nat → Int64) (v : Nat → Value) (p0 p1 : Int32) (sz : Nat) : Met l yL_hold wsL_hold ({ frames := 13, cells := 1, slots := 6, locals := 420 }) (va_Pc [.ref h0, .int p0, .int p1, .ref o0] (zx_pre (dC, dI) [(h0, zX 0 1 v), (o0, .inl (cJ, 1, .inr (.inl f)))] [(cJ, .long)] sz)) (va_Qi (fun (r : Int32) (u : Unit) => r = 1) (fun (u : Unit) => zx_at (dC, dI) [] [] (va_A [(h0, zX 0 1 v), (o0, .inl (cJ, 1, .inr (.inl f)))] sz)) (va_A [(h0, zX 0 1 v), (o0, .inl (cJ, 1, .inr (.inl f)))] sz)) 1 6 (va_A [(h0, zX 0 1 v), (o0, .inl (cJ, 1, .inr (.inl f)))] sz) := by
  refine va_MetW (cc := cL_hold) (maxL := 5) (ret := (some .int)) (by decide) rfl ?_
  intro p e s m args below meth c s₁ B hml hv
  obtain ⟨rfl, hsz, hP, hK, hD0, hZ⟩ := hv
  have hx := B.exec
  have hb := B.bytes
  have hr := B.returns
  have hts := atoms_spec (ws := wsL_hold) B.pre
  have hown : s.vm.findClass RL = some m.cls := findClass_of_methodNamed B.named
  have hlocks := B.notSynchronized
  have hTab := vx_table (x := yL_hold) B (hts _ List.mem_cons_self)
  subst hsz
  have hD := hD0.self (sz := s.heap.size)
  generalize hAe : va_A [(h0, zX 0 1 v), (o0, .inl (cJ, 1, .inr (.inl f)))] s.heap.size = A at hD hZ ⊢
  have hA : ∀ q : Nat, s.heap.size ≤ q → A q := fun q h => by rw [← hAe]; exact Or.inr h
  have hS : va_S A s.heap s.heap [] := va_S.rf
  have hP : va_P (dC, dI) vwCl [(h0, zX 0 1 v), (o0, .inl (cJ, 1, .inr (.inl f)))] s.heap := hP
  have hl := lv_entry ([.ref h0, .int p0, .int p1, .ref o0]) (n := 5) (Nat.le_of_ble_eq_true rfl)
  rw [lg_entry_eq]
  generalize (lg_sl ([.ref h0, .int p0, .int p1, .ref o0]) ++ List.replicate (5 - (lg_sl ([.ref h0, .int p0, .int p1, .ref o0])).length) Slot.unset).toArray = ls at hl ⊢
  have hl : lv_has ls 5 [(0, .ref h0), (1, .int p0), (2, .int p1), (3, .ref o0)] := hl
  refine lv_aload_n hx hb dL_hold_0 rfl (lv_at hl 3 rfl) ?_
  refine lv_iconst (v := 0) hx hb dL_hold_1 (by decide) ?_
  refine lv_aload_n hx hb dL_hold_2 rfl (lv_at hl 0 rfl) ?_
  refine lv_iload_n hx hb dL_hold_3 rfl (lv_at hl 1 rfl) ?_
  refine lv_iload_n hx hb dL_hold_4 rfl (lv_at hl 2 rfl) ?_
  have hPc := hP.sub (ws' := [(h0, zX 0 1 v)]) [0] rfl
  have hDc := hD.sub (ws' := [(h0, zX 0 1 v)]) [0] (by decide) rfl
  have hKc := hK.sub (tys' := []) [] rfl
  have hFc := va_free (wc := [(h0, zX 0 1 v)]) hD hS hA [0] rfl
  refine vx_calli (vx_runV (As := [.int p0, .int p1]) (rest := [.int 0, .ref o0]) ⟨hx, hb, hml, hown, hts⟩ (c_X0_hold l hl9 dC dI h0 v p0 p1 s.heap.size) (cwV 2 hts gL_hold_X0_hold rfl rfl rfl (by decide +kernel) ⟨Nat.le_of_ble_eq_true rfl, Nat.le_of_ble_eq_true rfl⟩) ⟨zx_blind, va_recv hKc hPc (ci := 0) (q0 := 0) rfl rfl, fun U hU hW => ⟨rfl, zx_go hPc hKc hDc hZ hS hFc hU hW⟩⟩ rfl rfl hl.1 rfl (lv_room (Nat.le_of_ble_eq_true rfl)) dL_hold_5 ⟨Nat.le_of_ble_eq_true rfl, Nat.le_of_ble_eq_true rfl⟩) hS (fun q _ h => hFc q h) hFc (fun q _ h => hFc q h) (fun E ce q9 u t H1 locs ht hvm hw hB hz1 hk1 hS hce hcv hcl => ?_) (fun r u t H1 locs ht hvm hw hB hz1 hk1 hS => ?_)
  · skip
    obtain rfl := hB
    obtain ⟨z1, z2, -⟩ := id hZ
    obtain ⟨hP, hD⟩ := va_join (wr := [(o0, .inl (cJ, 1, .inr (.inl f)))]) (w1 := []) hP hD [0] [1] rfl rfl (by decide) (by decide) hk1 hFc zx_nilP zx_nilD
    refine vx_catch (own := RL) (name := "java/lang/IndexOutOfBoundsException") (E := "java/lang/IndexOutOfBoundsException") hown [] ⟨0, 10, 13, 19⟩ [⟨0, 10, 17, 25⟩] (by rw [hTab]; rfl) (fun z hz => nomatch hz) (by decide) (by decide) (hts (.classLink RL 19 "java/lang/IndexOutOfBoundsException") (by decide +kernel)) (va_Nw.use rfl z1) hce hcv hcl ?_
    refine W.eq (g2 := F0 m 13 ls [.ref q9]) rfl ?_
    generalize H1 = H at hP hS ⊢
    have hP : va_P (dC, dI) vwCl [(o0, .inl (cJ, 1, .inr (.inl f)))] H := hP
    have hD : va_D A [(o0, .inl (cJ, 1, .inr (.inl f)))] := hD
    refine W.widen (k := 1) (n := 6) (by omega) (by omega) ?_
    refine lv_astore (lv' := [(4, .ref q9), (0, .ref h0), (1, .int p0), (2, .int p1), (3, .ref o0)]) hx hb dL_hold_13 hl (by decide) rfl (fun ls hl => ?_)
    refine lv_iconst (v := 1) hx hb dL_hold_15 (by decide) ?_
    have hP9 := hP.sub (ws' := []) [] rfl
    have hD9 := hD.sub (ws' := []) [] (by decide) rfl
    have hK9 := hK.sub (tys' := []) [] rfl
    refine W.widen (k := 1) (n := 6) (by omega) (by omega) ?_
    exact W.iret (v := 1) hx hb hr (fun t ht hW => ⟨⟨1, (), rfl, rfl, by rw [ht]; exact hP9, va_K.moved hW.alike hK9, hD9⟩, hS.F ht⟩) hS.2.2 dL_hold_16
  · skip
    exact hw.elim
set_option maxHeartbeats 4000000 in
set_option maxRecDepth 100000 in
/-- the law asks does of a new camp -/
theorem c_L_does (l : Launch) (hl9 : l.stackTraces = false) (dC : Nat → ClassId) (dI : Nat → Nat → Nat) (h0 o0 : Nat) (cJ : ClassId) (f : Nat → Int64) (v : Nat → Value) (p0 : Int32) (sz : Nat) : Met l yL_does wsL_does ({ frames := 13, cells := 1, slots := 6, locals := 420 }) (va_Pc [.ref h0, .int p0, .ref o0] (zx_pre (dC, dI) [(h0, zX 0 1 v), (o0, .inl (cJ, 1, .inr (.inl f)))] [(cJ, .long)] sz)) (va_Qi (fun (r : Int32) (u : Unit) => r = 1) (fun (u : Unit) => zx_at (dC, dI) [] [] (va_A [(h0, zX 0 1 v), (o0, .inl (cJ, 1, .inr (.inl f)))] sz)) (va_A [(h0, zX 0 1 v), (o0, .inl (cJ, 1, .inr (.inl f)))] sz)) 1 6 (va_A [(h0, zX 0 1 v), (o0, .inl (cJ, 1, .inr (.inl f)))] sz) := by
  refine va_MetW (cc := cL_does) (maxL := 4) (ret := (some .int)) (by decide) rfl ?_
  intro p e s m args below meth c s₁ B hml hv
  obtain ⟨rfl, hsz, hP, hK, hD0, hZ⟩ := hv
  have hx := B.exec
  have hb := B.bytes
  have hr := B.returns
  have hts := atoms_spec (ws := wsL_does) B.pre
  have hown : s.vm.findClass RL = some m.cls := findClass_of_methodNamed B.named
  have hlocks := B.notSynchronized
  have hTab := vx_table (x := yL_does) B (hts _ List.mem_cons_self)
  subst hsz
  have hD := hD0.self (sz := s.heap.size)
  generalize hAe : va_A [(h0, zX 0 1 v), (o0, .inl (cJ, 1, .inr (.inl f)))] s.heap.size = A at hD hZ ⊢
  have hA : ∀ q : Nat, s.heap.size ≤ q → A q := fun q h => by rw [← hAe]; exact Or.inr h
  have hS : va_S A s.heap s.heap [] := va_S.rf
  have hP : va_P (dC, dI) vwCl [(h0, zX 0 1 v), (o0, .inl (cJ, 1, .inr (.inl f)))] s.heap := hP
  have hl := lv_entry ([.ref h0, .int p0, .ref o0]) (n := 4) (Nat.le_of_ble_eq_true rfl)
  rw [lg_entry_eq]
  generalize (lg_sl ([.ref h0, .int p0, .ref o0]) ++ List.replicate (4 - (lg_sl ([.ref h0, .int p0, .ref o0])).length) Slot.unset).toArray = ls at hl ⊢
  have hl : lv_has ls 4 [(0, .ref h0), (1, .int p0), (2, .ref o0)] := hl
  refine lv_aload_n hx hb dL_does_0 rfl (lv_at hl 2 rfl) ?_
  refine lv_iconst (v := 0) hx hb dL_does_1 (by decide) ?_
  refine lv_aload_n hx hb dL_does_2 rfl (lv_at hl 0 rfl) ?_
  refine lv_iload_n hx hb dL_does_3 rfl (lv_at hl 1 rfl) ?_
  have hPc := hP.sub (ws' := [(h0, zX 0 1 v)]) [0] rfl
  have hDc := hD.sub (ws' := [(h0, zX 0 1 v)]) [0] (by decide) rfl
  have hKc := hK.sub (tys' := []) [] rfl
  have hFc := va_free (wc := [(h0, zX 0 1 v)]) hD hS hA [0] rfl
  refine vx_calli (vx_runV (As := [.int p0]) (rest := [.int 0, .ref o0]) ⟨hx, hb, hml, hown, hts⟩ (c_X0_does l hl9 dC dI h0 v p0 s.heap.size) (cwV 1 hts gL_does_X0_does rfl rfl rfl (by decide +kernel) ⟨Nat.le_of_ble_eq_true rfl, Nat.le_of_ble_eq_true rfl⟩) ⟨zx_blind, va_recv hKc hPc (ci := 0) (q0 := 0) rfl rfl, fun U hU hW => ⟨rfl, zx_go hPc hKc hDc hZ hS hFc hU hW⟩⟩ rfl rfl hl.1 rfl (lv_room (Nat.le_of_ble_eq_true rfl)) dL_does_4 ⟨Nat.le_of_ble_eq_true rfl, Nat.le_of_ble_eq_true rfl⟩) hS (fun q _ h => hFc q h) hFc (fun q _ h => hFc q h) (fun E ce q9 u t H1 locs ht hvm hw hB hz1 hk1 hS hce hcv hcl => ?_) (fun r u t H1 locs ht hvm hw hB hz1 hk1 hS => ?_)
  · skip
    obtain rfl := hB
    obtain ⟨z1, z2, -⟩ := id hZ
    obtain ⟨hP, hD⟩ := va_join (wr := [(o0, .inl (cJ, 1, .inr (.inl f)))]) (w1 := []) hP hD [0] [1] rfl rfl (by decide) (by decide) hk1 hFc zx_nilP zx_nilD
    refine vx_catch (own := RL) (name := "java/lang/IndexOutOfBoundsException") (E := "java/lang/IndexOutOfBoundsException") hown [] ⟨0, 9, 12, 19⟩ [⟨0, 9, 15, 13⟩] (by rw [hTab]; rfl) (fun z hz => nomatch hz) (by decide) (by decide) (hts (.classLink RL 19 "java/lang/IndexOutOfBoundsException") (by decide +kernel)) (va_Nw.use rfl z1) hce hcv hcl ?_
    refine W.eq (g2 := F0 m 12 ls [.ref q9]) rfl ?_
    generalize H1 = H at hP hS ⊢
    have hP : va_P (dC, dI) vwCl [(o0, .inl (cJ, 1, .inr (.inl f)))] H := hP
    have hD : va_D A [(o0, .inl (cJ, 1, .inr (.inl f)))] := hD
    refine W.widen (k := 1) (n := 6) (by omega) (by omega) ?_
    refine lv_astore_n (lv' := [(3, .ref q9), (0, .ref h0), (1, .int p0), (2, .ref o0)]) hx hb dL_does_12 rfl hl (by decide) rfl (fun ls hl => ?_)
    refine lv_iconst (v := 1) hx hb dL_does_13 (by decide) ?_
    have hP9 := hP.sub (ws' := []) [] rfl
    have hD9 := hD.sub (ws' := []) [] (by decide) rfl
    have hK9 := hK.sub (tys' := []) [] rfl
    refine W.widen (k := 1) (n := 6) (by omega) (by omega) ?_
    exact W.iret (v := 1) hx hb hr (fun t ht hW => ⟨⟨1, (), rfl, rfl, by rw [ht]; exact hP9, va_K.moved hW.alike hK9, hD9⟩, hS.F ht⟩) hS.2.2 dL_does_14
  · skip
    exact hw.elim
set_option maxHeartbeats 4000000 in
set_option maxRecDepth 100000 in
/-- the law asks took of a new camp -/
theorem c_L_took (l : Launch) (hl9 : l.stackTraces = false) (dC : Nat → ClassId) (dI : Nat → Nat → Nat) (h0 o0 : Nat) (cJ : ClassId) (f : Nat → Int64) (v : Nat → Value) (p0 p1 : Int32) (sz : Nat) : Met l yL_took wsL_took ({ frames := 13, cells := 1, slots := 6, locals := 420 }) (va_Pc [.ref h0, .int p0, .int p1, .ref o0] (zx_pre (dC, dI) [(h0, zX 0 1 v), (o0, .inl (cJ, 1, .inr (.inl f)))] [(cJ, .long)] sz)) (va_Qi (fun (r : Int32) (u : Unit) => r = 1) (fun (u : Unit) => zx_at (dC, dI) [] [] (va_A [(h0, zX 0 1 v), (o0, .inl (cJ, 1, .inr (.inl f)))] sz)) (va_A [(h0, zX 0 1 v), (o0, .inl (cJ, 1, .inr (.inl f)))] sz)) 1 6 (va_A [(h0, zX 0 1 v), (o0, .inl (cJ, 1, .inr (.inl f)))] sz) := by
  refine va_MetW (cc := cL_took) (maxL := 5) (ret := (some .int)) (by decide) rfl ?_
  intro p e s m args below meth c s₁ B hml hv
  obtain ⟨rfl, hsz, hP, hK, hD0, hZ⟩ := hv
  have hx := B.exec
  have hb := B.bytes
  have hr := B.returns
  have hts := atoms_spec (ws := wsL_took) B.pre
  have hown : s.vm.findClass RL = some m.cls := findClass_of_methodNamed B.named
  have hlocks := B.notSynchronized
  have hTab := vx_table (x := yL_took) B (hts _ List.mem_cons_self)
  subst hsz
  have hD := hD0.self (sz := s.heap.size)
  generalize hAe : va_A [(h0, zX 0 1 v), (o0, .inl (cJ, 1, .inr (.inl f)))] s.heap.size = A at hD hZ ⊢
  have hA : ∀ q : Nat, s.heap.size ≤ q → A q := fun q h => by rw [← hAe]; exact Or.inr h
  have hS : va_S A s.heap s.heap [] := va_S.rf
  have hP : va_P (dC, dI) vwCl [(h0, zX 0 1 v), (o0, .inl (cJ, 1, .inr (.inl f)))] s.heap := hP
  have hl := lv_entry ([.ref h0, .int p0, .int p1, .ref o0]) (n := 5) (Nat.le_of_ble_eq_true rfl)
  rw [lg_entry_eq]
  generalize (lg_sl ([.ref h0, .int p0, .int p1, .ref o0]) ++ List.replicate (5 - (lg_sl ([.ref h0, .int p0, .int p1, .ref o0])).length) Slot.unset).toArray = ls at hl ⊢
  have hl : lv_has ls 5 [(0, .ref h0), (1, .int p0), (2, .int p1), (3, .ref o0)] := hl
  refine lv_aload_n hx hb dL_took_0 rfl (lv_at hl 3 rfl) ?_
  refine lv_iconst (v := 0) hx hb dL_took_1 (by decide) ?_
  refine lv_aload_n hx hb dL_took_2 rfl (lv_at hl 0 rfl) ?_
  refine lv_iload_n hx hb dL_took_3 rfl (lv_at hl 1 rfl) ?_
  refine lv_iload_n hx hb dL_took_4 rfl (lv_at hl 2 rfl) ?_
  have hPc := hP.sub (ws' := [(h0, zX 0 1 v)]) [0] rfl
  have hDc := hD.sub (ws' := [(h0, zX 0 1 v)]) [0] (by decide) rfl
  have hKc := hK.sub (tys' := []) [] rfl
  have hFc := va_free (wc := [(h0, zX 0 1 v)]) hD hS hA [0] rfl
  refine vx_calli (vx_runV (As := [.int p0, .int p1]) (rest := [.int 0, .ref o0]) ⟨hx, hb, hml, hown, hts⟩ (c_X0_took l hl9 dC dI h0 v p0 p1 s.heap.size) (cwV 2 hts gL_took_X0_took rfl rfl rfl (by decide +kernel) ⟨Nat.le_of_ble_eq_true rfl, Nat.le_of_ble_eq_true rfl⟩) ⟨zx_blind, va_recv hKc hPc (ci := 0) (q0 := 0) rfl rfl, fun U hU hW => ⟨rfl, zx_go hPc hKc hDc hZ hS hFc hU hW⟩⟩ rfl rfl hl.1 rfl (lv_room (Nat.le_of_ble_eq_true rfl)) dL_took_5 ⟨Nat.le_of_ble_eq_true rfl, Nat.le_of_ble_eq_true rfl⟩) hS (fun q _ h => hFc q h) hFc (fun q _ h => hFc q h) (fun E ce q9 u t H1 locs ht hvm hw hB hz1 hk1 hS hce hcv hcl => ?_) (fun r u t H1 locs ht hvm hw hB hz1 hk1 hS => ?_)
  · skip
    obtain rfl := hB
    obtain ⟨z1, z2, -⟩ := id hZ
    obtain ⟨hP, hD⟩ := va_join (wr := [(o0, .inl (cJ, 1, .inr (.inl f)))]) (w1 := []) hP hD [0] [1] rfl rfl (by decide) (by decide) hk1 hFc zx_nilP zx_nilD
    refine vx_catch (own := RL) (name := "java/lang/IndexOutOfBoundsException") (E := "java/lang/IndexOutOfBoundsException") hown [] ⟨0, 10, 13, 19⟩ [⟨0, 10, 17, 13⟩] (by rw [hTab]; rfl) (fun z hz => nomatch hz) (by decide) (by decide) (hts (.classLink RL 19 "java/lang/IndexOutOfBoundsException") (by decide +kernel)) (va_Nw.use rfl z1) hce hcv hcl ?_
    refine W.eq (g2 := F0 m 13 ls [.ref q9]) rfl ?_
    generalize H1 = H at hP hS ⊢
    have hP : va_P (dC, dI) vwCl [(o0, .inl (cJ, 1, .inr (.inl f)))] H := hP
    have hD : va_D A [(o0, .inl (cJ, 1, .inr (.inl f)))] := hD
    refine W.widen (k := 1) (n := 6) (by omega) (by omega) ?_
    refine lv_astore (lv' := [(4, .ref q9), (0, .ref h0), (1, .int p0), (2, .int p1), (3, .ref o0)]) hx hb dL_took_13 hl (by decide) rfl (fun ls hl => ?_)
    refine lv_iconst (v := 1) hx hb dL_took_15 (by decide) ?_
    have hP9 := hP.sub (ws' := []) [] rfl
    have hD9 := hD.sub (ws' := []) [] (by decide) rfl
    have hK9 := hK.sub (tys' := []) [] rfl
    refine W.widen (k := 1) (n := 6) (by omega) (by omega) ?_
    exact W.iret (v := 1) hx hb hr (fun t ht hW => ⟨⟨1, (), rfl, rfl, by rw [ht]; exact hP9, va_K.moved hW.alike hK9, hD9⟩, hS.F ht⟩) hS.2.2 dL_took_16
  · skip
    exact hw.elim
set_option maxHeartbeats 4000000 in
set_option maxRecDepth 100000 in
/-- the law asks count of a new camp -/
theorem c_L_count (l : Launch) (hl9 : l.stackTraces = false) (dC : Nat → ClassId) (dI : Nat → Nat → Nat) (h0 o0 : Nat) (cJ : ClassId) (f : Nat → Int64) (v : Nat → Value) (p0 : Int32) (sz : Nat) : Met l yL_count wsL_count ({ frames := 13, cells := 1, slots := 6, locals := 420 }) (va_Pc [.ref h0, .int p0, .ref o0] (zx_pre (dC, dI) [(h0, zX 0 1 v), (o0, .inl (cJ, 1, .inr (.inl f)))] [(cJ, .long)] sz)) (va_Qi (fun (r : Int32) (u : Nat → Int64) => (r = 1 ∧ (p0 < 0 ∨ 8 < p0)) ∨ (r = 0 ∧ u 0 = (zx_c p0).toInt64 ∧ ¬ p0 < 0 ∧ ¬ 8 < p0)) (fun (u : Nat → Int64) => zx_at (dC, dI) [(o0, .inl (cJ, 1, .inr (.inl u)))] [(cJ, .long)] (va_A [(h0, zX 0 1 v), (o0, .inl (cJ, 1, .inr (.inl f)))] sz)) (va_A [(h0, zX 0 1 v), (o0, .inl (cJ, 1, .inr (.inl f)))] sz)) 1 6 (va_A [(h0, zX 0 1 v), (o0, .inl (cJ, 1, .inr (.inl f)))] sz) := by
  refine va_MetW (cc := cL_count) (maxL := 4) (ret := (some .int)) (by decide) rfl ?_
  intro p e s m args below meth c s₁ B hml hv
  obtain ⟨rfl, hsz, hP, hK, hD0, hZ⟩ := hv
  have hx := B.exec
  have hb := B.bytes
  have hr := B.returns
  have hts := atoms_spec (ws := wsL_count) B.pre
  have hown : s.vm.findClass RL = some m.cls := findClass_of_methodNamed B.named
  have hlocks := B.notSynchronized
  have hTab := vx_table (x := yL_count) B (hts _ List.mem_cons_self)
  subst hsz
  have hD := hD0.self (sz := s.heap.size)
  generalize hAe : va_A [(h0, zX 0 1 v), (o0, .inl (cJ, 1, .inr (.inl f)))] s.heap.size = A at hD hZ ⊢
  have hA : ∀ q : Nat, s.heap.size ≤ q → A q := fun q h => by rw [← hAe]; exact Or.inr h
  have hS : va_S A s.heap s.heap [] := va_S.rf
  have hP : va_P (dC, dI) vwCl [(h0, zX 0 1 v), (o0, .inl (cJ, 1, .inr (.inl f)))] s.heap := hP
  have hl := lv_entry ([.ref h0, .int p0, .ref o0]) (n := 4) (Nat.le_of_ble_eq_true rfl)
  rw [lg_entry_eq]
  generalize (lg_sl ([.ref h0, .int p0, .ref o0]) ++ List.replicate (4 - (lg_sl ([.ref h0, .int p0, .ref o0])).length) Slot.unset).toArray = ls at hl ⊢
  have hl : lv_has ls 4 [(0, .ref h0), (1, .int p0), (2, .ref o0)] := hl
  refine lv_aload_n hx hb dL_count_0 rfl (lv_at hl 2 rfl) ?_
  refine lv_iconst (v := 0) hx hb dL_count_1 (by decide) ?_
  refine lv_aload_n hx hb dL_count_2 rfl (lv_at hl 0 rfl) ?_
  refine lv_iload_n hx hb dL_count_3 rfl (lv_at hl 1 rfl) ?_
  have hPc := hP.sub (ws' := [(h0, zX 0 1 v)]) [0] rfl
  have hDc := hD.sub (ws' := [(h0, zX 0 1 v)]) [0] (by decide) rfl
  have hKc := hK.sub (tys' := []) [] rfl
  have hFc := va_free (wc := [(h0, zX 0 1 v)]) hD hS hA [0] rfl
  refine vx_calli (vx_runV (As := [.int p0]) (rest := [.int 0, .ref o0]) ⟨hx, hb, hml, hown, hts⟩ (c_X0_count l hl9 dC dI h0 v p0 s.heap.size) (cwV 1 hts gL_count_X0_count rfl rfl rfl (by decide +kernel) ⟨Nat.le_of_ble_eq_true rfl, Nat.le_of_ble_eq_true rfl⟩) ⟨zx_blind, va_recv hKc hPc (ci := 0) (q0 := 0) rfl rfl, fun U hU hW => ⟨rfl, zx_go hPc hKc hDc hZ hS hFc hU hW⟩⟩ rfl rfl hl.1 rfl (lv_room (Nat.le_of_ble_eq_true rfl)) dL_count_4 ⟨Nat.le_of_ble_eq_true rfl, Nat.le_of_ble_eq_true rfl⟩) hS (fun q _ h => hFc q h) hFc (fun q _ h => hFc q h) (fun E ce q9 u t H1 locs ht hvm hw hB hz1 hk1 hS hce hcv hcl => ?_) (fun r u t H1 locs ht hvm hw hB hz1 hk1 hS => ?_)
  · skip
    obtain rfl := hB
    obtain ⟨z1, z2, -⟩ := id hZ
    obtain ⟨hP, hD⟩ := va_join (wr := [(o0, .inl (cJ, 1, .inr (.inl f)))]) (w1 := []) hP hD [0] [1] rfl rfl (by decide) (by decide) hk1 hFc zx_nilP zx_nilD
    refine vx_catch (own := RL) (name := "java/lang/IndexOutOfBoundsException") (E := "java/lang/IndexOutOfBoundsException") hown [] ⟨0, 9, 12, 19⟩ [] (by rw [hTab]; rfl) (fun z hz => nomatch hz) (by decide) (by decide) (hts (.classLink RL 19 "java/lang/IndexOutOfBoundsException") (by decide +kernel)) (va_Nw.use rfl z1) hce hcv hcl ?_
    refine W.eq (g2 := F0 m 12 ls [.ref q9]) rfl ?_
    generalize H1 = H at hP hS ⊢
    have hP : va_P (dC, dI) vwCl [(o0, .inl (cJ, 1, .inr (.inl f)))] H := hP
    have hD : va_D A [(o0, .inl (cJ, 1, .inr (.inl f)))] := hD
    refine W.widen (k := 1) (n := 6) (by omega) (by omega) ?_
    refine lv_astore_n (lv' := [(3, .ref q9), (0, .ref h0), (1, .int p0), (2, .ref o0)]) hx hb dL_count_12 rfl hl (by decide) rfl (fun ls hl => ?_)
    refine lv_iconst (v := 1) hx hb dL_count_13 (by decide) ?_
    have hP9 := hP.sub (ws' := [(o0, .inl (cJ, 1, .inr (.inl f)))]) [0] rfl
    have hD9 := hD.sub (ws' := [(o0, .inl (cJ, 1, .inr (.inl f)))]) [0] (by decide) rfl
    have hK9 := hK.sub (tys' := [(cJ, .long)]) [0] rfl
    refine W.widen (k := 1) (n := 6) (by omega) (by omega) ?_
    exact W.iret (v := 1) hx hb hr (fun t ht hW => ⟨⟨1, f, rfl, Or.inl ⟨rfl, hw⟩, by rw [ht]; exact hP9, va_K.moved hW.alike hK9, hD9⟩, hS.F ht⟩) hS.2.2 dL_count_14
  · skip
    obtain ⟨hP1, hK1, hD1⟩ := hB
    rw [ht] at hP1
    have hK1 := va_K.moved hvm.symm hK1
    try dsimp only at hw hP1 hD1 hK1
    obtain ⟨hP, hD⟩ := va_join (wr := [(o0, .inl (cJ, 1, .inr (.inl f)))]) (w1 := [(h0, zX 0 1 v)]) hP hD [0] [1] rfl rfl (by decide) (by decide) hk1 hFc hP1 hD1
    generalize H1 = H at hP hS ⊢
    have hP : va_P (dC, dI) vwCl [(o0, .inl (cJ, 1, .inr (.inl f))), (h0, zX 0 1 v)] H := hP
    have hD : va_D A [(o0, .inl (cJ, 1, .inr (.inl f))), (h0, zX 0 1 v)] := hD
    refine W.widen (k := 1) (n := 6) (by omega) (by omega) ?_
    obtain ⟨hw, hc⟩ := hw
    subst hw
    refine lv_i2l hx hb dL_count_7 rfl ?_
    refine va_last hx hb hK hP hD hS 0 0 rfl rfl (zx_in rfl) dL_count_8 (fun H locs hP hD hS => ?_)
    obtain ⟨g9, hg9⟩ : ∃ g9 : Nat → Int64, g9 = vp_updL f (0 : Int32).toNatClampNeg ((zx_c p0).toInt64) := ⟨_, rfl⟩
    have hg0 : g9 0 = (zx_c p0).toInt64 := by rw [hg9]; exact pk_uLs
    have hP : va_P (dC, dI) vwCl [(o0, .inl (cJ, 1, .inr (.inl (vp_updL f (0 : Int32).toNatClampNeg ((zx_c p0).toInt64))))), (h0, zX 0 1 v)] H := hP
    have hD : va_D A [(o0, .inl (cJ, 1, .inr (.inl (vp_updL f (0 : Int32).toNatClampNeg ((zx_c p0).toInt64))))), (h0, zX 0 1 v)] := hD
    rw [← hg9] at hP hD
    refine lv_goto (tgt := 15) hx hb dL_count_9 (by decide) ?_
    refine lv_iconst (v := 0) hx hb dL_count_15 (by decide) ?_
    have hP9 := hP.sub (ws' := [(o0, .inl (cJ, 1, .inr (.inl g9)))]) [0] rfl
    have hD9 := hD.sub (ws' := [(o0, .inl (cJ, 1, .inr (.inl g9)))]) [0] (by decide) rfl
    have hK9 := hK.sub (tys' := [(cJ, .long)]) [0] rfl
    refine W.widen (k := 1) (n := 6) (by omega) (by omega) ?_
    exact W.iret (v := 0) hx hb hr (fun t ht hW => ⟨⟨0, g9, rfl, Or.inr ⟨rfl, hg0, hc⟩, by rw [ht]; exact hP9, va_K.moved hW.alike hK9, hD9⟩, hS.F ht⟩) hS.2.2 dL_count_16
