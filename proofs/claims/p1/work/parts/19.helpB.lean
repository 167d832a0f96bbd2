set_option maxHeartbeats 4000000 in
set_option maxRecDepth 100000 in
/-- the law asks told of a new camp -/
theorem c_L_told (l : Launch) (hl9 : l.stackTraces = false) (dC : Nat → ClassId) (dI : Nat → Nat → Nat) (h0 o0 : Nat) (cJ : ClassId) (f : Nat → Int64) (v : Nat → Value) (p0 p1 : Int32) (sz : Nat) : Met l yL_told wsL_told ({ frames := 13, cells := 1, slots := 6, locals := 420 }) (va_Pc [.ref h0, .int p0, .int p1, .ref o0] (zx_pre (dC, dI) [(h0, zX 0 1 v), (o0, .inl (cJ, 1, .inr (.inl f)))] [(cJ, .long)] sz)) (va_Qi (fun (r : Int32) (u : Unit) => r = 1) (fun (u : Unit) => zx_at (dC, dI) [] [] (va_A [(h0, zX 0 1 v), (o0, .inl (cJ, 1, .inr (.inl f)))] sz)) (va_A [(h0, zX 0 1 v), (o0, .inl (cJ, 1, .inr (.inl f)))] sz)) 1 6 (va_A [(h0, zX 0 1 v), (o0, .inl (cJ, 1, .inr (.inl f)))] sz) := by
  refine va_MetW (cc := cL_told) (maxL := 5) (ret := (some .int)) (by decide) rfl ?_
  intro p e s m args below meth c s₁ B hml hv
  obtain ⟨rfl, hsz, hP, hK, hD0, hZ⟩ := hv
  have hx := B.exec
  have hb := B.bytes
  have hr := B.returns
  have hts := atoms_spec (ws := wsL_told) B.pre
  have hown : s.vm.findClass RL = some m.cls := findClass_of_methodNamed B.named
  have hlocks := B.notSynchronized
  have hTab := vx_table (x := yL_told) B (hts _ List.mem_cons_self)
  subst hsz
  have hD := hD0.self (sz := s.heap.size)
  generalize hAe : va_A [(h0, zX 0 1 v), (o0, .inl (cJ, 1, .inr (.inl f)))] s.heap.size = A at hD hZ ⊢
  have hA : ∀ q : Nat, s.heap.size ≤ q → A q := fun q h => by rw [← hAe]; exact Or.inr h
  have hS : va_S A s.heap s.heap [] := va_S.rf
  have hP : va_P (dC, dI) vwCl [(h0, zX 0 1 v), (o0, .inl (cJ, 1, .inr (.inl f)))] s.heap := hP
  have hl := lv_entry ([.ref h0, .int p0, .int p1, .ref o0]) (n := 5) (Nat.le_of_ble_eq_true rfl)
  rw [lg_entry_eq]
  generalize (lg_sl ([.ref h0, .int p0, .int p1, .ref o0]) ++ List.replicate (5 - (lg_sl ([.ref h0, .int p0, .int p1, .ref o0])).length) Slot.unset).toArray = ls at hl ⊢
  have hl : lv_has ls 5 [(0, .ref h0), (1, .int p0), (2, .int p1), (3, .ref o0)] := hl
  refine lv_aload_n hx hb dL_told_0 rfl (lv_at hl 3 rfl) ?_
  refine lv_iconst (v := 0) hx hb dL_told_1 (by decide) ?_
  refine lv_aload_n hx hb dL_told_2 rfl (lv_at hl 0 rfl) ?_
  refine lv_iload_n hx hb dL_told_3 rfl (lv_at hl 1 rfl) ?_
  refine lv_iload_n hx hb dL_told_4 rfl (lv_at hl 2 rfl) ?_
  have hPc := hP.sub (ws' := [(h0, zX 0 1 v)]) [0] rfl
  have hDc := hD.sub (ws' := [(h0, zX 0 1 v)]) [0] (by decide) rfl
  have hKc := hK.sub (tys' := []) [] rfl
  have hFc := va_free (wc := [(h0, zX 0 1 v)]) hD hS hA [0] rfl
  refine vx_calli (vx_runV (As := [.int p0, .int p1]) (rest := [.int 0, .ref o0]) ⟨hx, hb, hml, hown, hts⟩ (c_X0_told l hl9 dC dI h0 v p0 p1 s.heap.size) (cwV 2 hts gL_told_X0_told rfl rfl rfl (by decide +kernel) ⟨Nat.le_of_ble_eq_true rfl, Nat.le_of_ble_eq_true rfl⟩) ⟨zx_blind, va_recv hKc hPc (ci := 0) (q0 := 0) rfl rfl, fun U hU hW => ⟨rfl, zx_go hPc hKc hDc hZ hS hFc hU hW⟩⟩ rfl rfl hl.1 rfl (lv_room (Nat.le_of_ble_eq_true rfl)) dL_told_5 ⟨Nat.le_of_ble_eq_true rfl, Nat.le_of_ble_eq_true rfl⟩) hS (fun q _ h => hFc q h) hFc (fun q _ h => hFc q h) (fun E ce q9 u t H1 locs ht hvm hw hB hz1 hk1 hS hce hcv hcl => ?_) (fun r u t H1 locs ht hvm hw hB hz1 hk1 hS => ?_)
  · skip
    obtain rfl := hB
    obtain ⟨z1, z2, -⟩ := id hZ
    obtain ⟨hP, hD⟩ := va_join (wr := [(o0, .inl (cJ, 1, .inr (.inl f)))]) (w1 := []) hP hD [0] [1] rfl rfl (by decide) (by decide) hk1 hFc zx_nilP zx_nilD
    refine vx_catch (own := RL) (name := "java/lang/IndexOutOfBoundsException") (E := "java/lang/IndexOutOfBoundsException") hown [] ⟨0, 10, 13, 19⟩ [] (by rw [hTab]; rfl) (fun z hz => nomatch hz) (by decide) (by decide) (hts (.classLink RL 19 "java/lang/IndexOutOfBoundsException") (by decide +kernel)) (va_Nw.use rfl z1) hce hcv hcl ?_
    refine W.eq (g2 := F0 m 13 ls [.ref q9]) rfl ?_
    generalize H1 = H at hP hS ⊢
    have hP : va_P (dC, dI) vwCl [(o0, .inl (cJ, 1, .inr (.inl f)))] H := hP
    have hD : va_D A [(o0, .inl (cJ, 1, .inr (.inl f)))] := hD
    refine W.widen (k := 1) (n := 6) (by omega) (by omega) ?_
    refine lv_astore (lv' := [(4, .ref q9), (0, .ref h0), (1, .int p0), (2, .int p1), (3, .ref o0)]) hx hb dL_told_13 hl (by decide) rfl (fun ls hl => ?_)
    refine lv_iconst (v := 1) hx hb dL_told_15 (by decide) ?_
    have hP9 := hP.sub (ws' := []) [] rfl
    have hD9 := hD.sub (ws' := []) [] (by decide) rfl
    have hK9 := hK.sub (tys' := []) [] rfl
    refine W.widen (k := 1) (n := 6) (by omega) (by omega) ?_
    exact W.iret (v := 1) hx hb hr (fun t ht hW => ⟨⟨1, (), rfl, rfl, by rw [ht]; exact hP9, va_K.moved hW.alike hK9, hD9⟩, hS.F ht⟩) hS.2.2 dL_told_16
  · skip
    exact hw.elim
set_option maxHeartbeats 4000000 in
set_option maxRecDepth 100000 in
/-- the law asks hears of a new camp -/
theorem c_L_hears (l : Launch) (hl9 : l.stackTraces = false) (dC : Nat → ClassId) (dI : Nat → Nat → Nat) (h0 o0 : Nat) (cJ : ClassId) (f : Nat → Int64) (v : Nat → Value) (p0 p1 p2 : Int32) (sz : Nat) : Met l yL_hears wsL_hears ({ frames := 13, cells := 1, slots := 6, locals := 420 }) (va_Pc [.ref h0, .int p0, .int p1, .int p2, .ref o0] (zx_pre (dC, dI) [(h0, zX 0 1 v), (o0, .inl (cJ, 1, .inr (.inl f)))] [(cJ, .long)] sz)) (va_Qi (fun (r : Int32) (u : Unit) => r = 1) (fun (u : Unit) => zx_at (dC, dI) [] [] (va_A [(h0, zX 0 1 v), (o0, .inl (cJ, 1, .inr (.inl f)))] sz)) (va_A [(h0, zX 0 1 v), (o0, .inl (cJ, 1, .inr (.inl f)))] sz)) 1 6 (va_A [(h0, zX 0 1 v), (o0, .inl (cJ, 1, .inr (.inl f)))] sz) := by
  refine va_MetW (cc := cL_hears) (maxL := 6) (ret := (some .int)) (by decide) rfl ?_
  intro p e s m args below meth c s₁ B hml hv
  obtain ⟨rfl, hsz, hP, hK, hD0, hZ⟩ := hv
  have hx := B.exec
  have hb := B.bytes
  have hr := B.returns
  have hts := atoms_spec (ws := wsL_hears) B.pre
  have hown : s.vm.findClass RL = some m.cls := findClass_of_methodNamed B.named
  have hlocks := B.notSynchronized
  have hTab := vx_table (x := yL_hears) B (hts _ List.mem_cons_self)
  subst hsz
  have hD := hD0.self (sz := s.heap.size)
  generalize hAe : va_A [(h0, zX 0 1 v), (o0, .inl (cJ, 1, .inr (.inl f)))] s.heap.size = A at hD hZ ⊢
  have hA : ∀ q : Nat, s.heap.size ≤ q → A q := fun q h => by rw [← hAe]; exact Or.inr h
  have hS : va_S A s.heap s.heap [] := va_S.rf
  have hP : va_P (dC, dI) vwCl [(h0, zX 0 1 v), (o0, .inl (cJ, 1, .inr (.inl f)))] s.heap := hP
  have hl := lv_entry ([.ref h0, .int p0, .int p1, .int p2, .ref o0]) (n := 6) (Nat.le_of_ble_eq_true rfl)
  rw [lg_entry_eq]
  generalize (lg_sl ([.ref h0, .int p0, .int p1, .int p2, .ref o0]) ++ List.replicate (6 - (lg_sl ([.ref h0, .int p0, .int p1, .int p2, .ref o0])).length) Slot.unset).toArray = ls at hl ⊢
  have hl : lv_has ls 6 [(0, .ref h0), (1, .int p0), (2, .int p1), (3, .int p2), (4, .ref o0)] := hl
  refine lv_aload hx hb dL_hears_0 (lv_at hl 4 rfl) ?_
  refine lv_iconst (v := 0) hx hb dL_hears_2 (by decide) ?_
  refine lv_aload_n hx hb dL_hears_3 rfl (lv_at hl 0 rfl) ?_
  refine lv_iload_n hx hb dL_hears_4 rfl (lv_at hl 1 rfl) ?_
  refine lv_iload_n hx hb dL_hears_5 rfl (lv_at hl 2 rfl) ?_
  refine lv_iload_n hx hb dL_hears_6 rfl (lv_at hl 3 rfl) ?_
  have hPc := hP.sub (ws' := [(h0, zX 0 1 v)]) [0] rfl
  have hDc := hD.sub (ws' := [(h0, zX 0 1 v)]) [0] (by decide) rfl
  have hKc := hK.sub (tys' := []) [] rfl
  have hFc := va_free (wc := [(h0, zX 0 1 v)]) hD hS hA [0] rfl
  refine vx_calli (vx_runV (As := [.int p0, .int p1, .int p2]) (rest := [.int 0, .ref o0]) ⟨hx, hb, hml, hown, hts⟩ (c_X0_hears l hl9 dC dI h0 v p0 p1 p2 s.heap.size) (cwV 3 hts gL_hears_X0_hears rfl rfl rfl (by decide +kernel) ⟨Nat.le_of_ble_eq_true rfl, Nat.le_of_ble_eq_true rfl⟩) ⟨zx_blind, va_recv hKc hPc (ci := 0) (q0 := 0) rfl rfl, fun U hU hW => ⟨rfl, zx_go hPc hKc hDc hZ hS hFc hU hW⟩⟩ rfl rfl hl.1 rfl (lv_room (Nat.le_of_ble_eq_true rfl)) dL_hears_7 ⟨Nat.le_of_ble_eq_true rfl, Nat.le_of_ble_eq_true rfl⟩) hS (fun q _ h => hFc q h) hFc (fun q _ h => hFc q h) (fun E ce q9 u t H1 locs ht hvm hw hB hz1 hk1 hS hce hcv hcl => ?_) (fun r u t H1 locs ht hvm hw hB hz1 hk1 hS => ?_)
  · skip
    obtain rfl := hB
    obtain ⟨z1, z2, -⟩ := id hZ
    obtain ⟨hP, hD⟩ := va_join (wr := [(o0, .inl (cJ, 1, .inr (.inl f)))]) (w1 := []) hP hD [0] [1] rfl rfl (by decide) (by decide) hk1 hFc zx_nilP zx_nilD
    refine vx_catch (own := RL) (name := "java/lang/IndexOutOfBoundsException") (E := "java/lang/IndexOutOfBoundsException") hown [] ⟨0, 12, 15, 19⟩ [⟨0, 12, 19, 25⟩] (by rw [hTab]; rfl) (fun z hz => nomatch hz) (by decide) (by decide) (hts (.classLink RL 19 "java/lang/IndexOutOfBoundsException") (by decide +kernel)) (va_Nw.use rfl z1) hce hcv hcl ?_
    refine W.eq (g2 := F0 m 15 ls [.ref q9]) rfl ?_
    generalize H1 = H at hP hS ⊢
    have hP : va_P (dC, dI) vwCl [(o0, .inl (cJ, 1, .inr (.inl f)))] H := hP
    have hD : va_D A [(o0, .inl (cJ, 1, .inr (.inl f)))] := hD
    refine W.widen (k := 1) (n := 6) (by omega) (by omega) ?_
    refine lv_astore (lv' := [(5, .ref q9), (0, .ref h0), (1, .int p0), (2, .int p1), (3, .int p2), (4, .ref o0)]) hx hb dL_hears_15 hl (by decide) rfl (fun ls hl => ?_)
    refine lv_iconst (v := 1) hx hb dL_hears_17 (by decide) ?_
    have hP9 := hP.sub (ws' := []) [] rfl
    have hD9 := hD.sub (ws' := []) [] (by decide) rfl
    have hK9 := hK.sub (tys' := []) [] rfl
    refine W.widen (k := 1) (n := 6) (by omega) (by omega) ?_
    exact W.iret (v := 1) hx hb hr (fun t ht hW => ⟨⟨1, (), rfl, rfl, by rw [ht]; exact hP9, va_K.moved hW.alike hK9, hD9⟩, hS.F ht⟩) hS.2.2 dL_hears_18
  · skip
    exact hw.elim
set_option maxHeartbeats 4000000 in
set_option maxRecDepth 100000 in
/-- the law asks would of a new camp -/
theorem c_L_would (l : Launch) (hl9 : l.stackTraces = false) (dC : Nat → ClassId) (dI : Nat → Nat → Nat) (h0 o0 : Nat) (cJ : ClassId) (f : Nat → Int64) (v : Nat → Value) (p0 p1 p2 : Int32) (sz : Nat) : Met l yL_would wsL_would ({ frames := 13, cells := 1, slots := 6, locals := 420 }) (va_Pc [.ref h0, .int p0, .int p1, .int p2, .ref o0] (zx_pre (dC, dI) [(h0, zX 0 1 v), (o0, .inl (cJ, 1, .inr (.inl f)))] [(cJ, .long)] sz)) (va_Qi (fun (r : Int32) (u : Unit) => r = 1) (fun (u : Unit) => zx_at (dC, dI) [] [] (va_A [(h0, zX 0 1 v), (o0, .inl (cJ, 1, .inr (.inl f)))] sz)) (va_A [(h0, zX 0 1 v), (o0, .inl (cJ, 1, .inr (.inl f)))] sz)) 1 6 (va_A [(h0, zX 0 1 v), (o0, .inl (cJ, 1, .inr (.inl f)))] sz) := by
  refine va_MetW (cc := cL_would) (maxL := 6) (ret := (some .int)) (by decide) rfl ?_
  intro p e s m args below meth c s₁ B hml hv
  obtain ⟨rfl, hsz, hP, hK, hD0, hZ⟩ := hv
  have hx := B.exec
  have hb := B.bytes
  have hr := B.returns
  have hts := atoms_spec (ws := wsL_would) B.pre
  have hown : s.vm.findClass RL = some m.cls := findClass_of_methodNamed B.named
  have hlocks := B.notSynchronized
  have hTab := vx_table (x := yL_would) B (hts _ List.mem_cons_self)
  subst hsz
  have hD := hD0.self (sz := s.heap.size)
  generalize hAe : va_A [(h0, zX 0 1 v), (o0, .inl (cJ, 1, .inr (.inl f)))] s.heap.size = A at hD hZ ⊢
  have hA : ∀ q : Nat, s.heap.size ≤ q → A q := fun q h => by rw [← hAe]; exact Or.inr h
  have hS : va_S A s.heap s.heap [] := va_S.rf
  have hP : va_P (dC, dI) vwCl [(h0, zX 0 1 v), (o0, .inl (cJ, 1, .inr (.inl f)))] s.heap := hP
  have hl := lv_entry ([.ref h0, .int p0, .int p1, .int p2, .ref o0]) (n := 6) (Nat.le_of_ble_eq_true rfl)
  rw [lg_entry_eq]
  generalize (lg_sl ([.ref h0, .int p0, .int p1, .int p2, .ref o0]) ++ List.replicate (6 - (lg_sl ([.ref h0, .int p0, .int p1, .int p2, .ref o0])).length) Slot.unset).toArray = ls at hl ⊢
  have hl : lv_has ls 6 [(0, .ref h0), (1, .int p0), (2, .int p1), (3, .int p2), (4, .ref o0)] := hl
  refine lv_aload hx hb dL_would_0 (lv_at hl 4 rfl) ?_
  refine lv_iconst (v := 0) hx hb dL_would_2 (by decide) ?_
  refine lv_aload_n hx hb dL_would_3 rfl (lv_at hl 0 rfl) ?_
  refine lv_iload_n hx hb dL_would_4 rfl (lv_at hl 1 rfl) ?_
  refine lv_iload_n hx hb dL_would_5 rfl (lv_at hl 2 rfl) ?_
  refine lv_iload_n hx hb dL_would_6 rfl (lv_at hl 3 rfl) ?_
  have hPc := hP.sub (ws' := [(h0, zX 0 1 v)]) [0] rfl
  have hDc := hD.sub (ws' := [(h0, zX 0 1 v)]) [0] (by decide) rfl
  have hKc := hK.sub (tys' := []) [] rfl
  have hFc := va_free (wc := [(h0, zX 0 1 v)]) hD hS hA [0] rfl
  refine vx_calli (vx_runV (As := [.int p0, .int p1, .int p2]) (rest := [.int 0, .ref o0]) ⟨hx, hb, hml, hown, hts⟩ (c_X0_would l hl9 dC dI h0 v p0 p1 p2 s.heap.size) (cwV 3 hts gL_would_X0_would rfl rfl rfl (by decide +kernel) ⟨Nat.le_of_ble_eq_true rfl, Nat.le_of_ble_eq_true rfl⟩) ⟨zx_blind, va_recv hKc hPc (ci := 0) (q0 := 0) rfl rfl, fun U hU hW => ⟨rfl, zx_go hPc hKc hDc hZ hS hFc hU hW⟩⟩ rfl rfl hl.1 rfl (lv_room (Nat.le_of_ble_eq_true rfl)) dL_would_7 ⟨Nat.le_of_ble_eq_true rfl, Nat.le_of_ble_eq_true rfl⟩) hS (fun q _ h => hFc q h) hFc (fun q _ h => hFc q h) (fun E ce q9 u t H1 locs ht hvm hw hB hz1 hk1 hS hce hcv hcl => ?_) (fun r u t H1 locs ht hvm hw hB hz1 hk1 hS => ?_)
  · skip
    obtain rfl := hB
    obtain ⟨z1, z2, -⟩ := id hZ
    obtain ⟨hP, hD⟩ := va_join (wr := [(o0, .inl (cJ, 1, .inr (.inl f)))]) (w1 := []) hP hD [0] [1] rfl rfl (by decide) (by decide) hk1 hFc zx_nilP zx_nilD
    refine vx_catch (own := RL) (name := "java/lang/IndexOutOfBoundsException") (E := "java/lang/IndexOutOfBoundsException") hown [] ⟨0, 12, 15, 19⟩ [⟨0, 12, 19, 25⟩] (by rw [hTab]; rfl) (fun z hz => nomatch hz) (by decide) (by decide) (hts (.classLink RL 19 "java/lang/IndexOutOfBoundsException") (by decide +kernel)) (va_Nw.use rfl z1) hce hcv hcl ?_
    refine W.eq (g2 := F0 m 15 ls [.ref q9]) rfl ?_
    generalize H1 = H at hP hS ⊢
    have hP : va_P (dC, dI) vwCl [(o0, .inl (cJ, 1, .inr (.inl f)))] H := hP
    have hD : va_D A [(o0, .inl (cJ, 1, .inr (.inl f)))] := hD
    refine W.widen (k := 1) (n := 6) (by omega) (by omega) ?_
    refine lv_astore (lv' := [(5, .ref q9), (0, .ref h0), (1, .int p0), (2, .int p1), (3, .int p2), (4, .ref o0)]) hx hb dL_would_15 hl (by decide) rfl (fun ls hl => ?_)
    refine lv_iconst (v := 1) hx hb dL_would_17 (by decide) ?_
    have hP9 := hP.sub (ws' := []) [] rfl
    have hD9 := hD.sub (ws' := []) [] (by decide) rfl
    have hK9 := hK.sub (tys' := []) [] rfl
    refine W.widen (k := 1) (n := 6) (by omega) (by omega) ?_
    exact W.iret (v := 1) hx hb hr (fun t ht hW => ⟨⟨1, (), rfl, rfl, by rw [ht]; exact hP9, va_K.moved hW.alike hK9, hD9⟩, hS.F ht⟩) hS.2.2 dL_would_18
  · skip
    exact hw.elim
set_option maxHeartbeats 4000000 in
set_option maxRecDepth 100000 in
/-- the law asks agrees of a new camp -/
theorem c_L_agrees (l : Launch) (hl9 : l.stackTraces = false) (dC : Nat → ClassId) (dI : Nat → Nat → Nat) (h0 o0 : Nat) (cJ : ClassId) (f : Nat → Int64) (v : Nat → Value) (p0 p1 : Int32) (sz : Nat) : Met l yL_agrees wsL_agrees ({ frames := 13, cells := 1, slots := 6, locals := 420 }) (va_Pc [.ref h0, .int p0, .int p1, .ref o0] (zx_pre (dC, dI) [(h0, zX 0 1 v), (o0, .inl (cJ, 1, .inr (.inl f)))] [(cJ, .long)] sz)) (va_Qi (fun (r : Int32) (u : Unit) => r = 1) (fun (u : Unit) => zx_at (dC, dI) [] [] (va_A [(h0, zX 0 1 v), (o0, .inl (cJ, 1, .inr (.inl f)))] sz)) (va_A [(h0, zX 0 1 v), (o0, .inl (cJ, 1, .inr (.inl f)))] sz)) 1 6 (va_A [(h0, zX 0 1 v), (o0, .inl (cJ, 1, .inr (.inl f)))] sz) := by
  refine va_MetW (cc := cL_agrees) (maxL := 5) (ret := (some .int)) (by decide) rfl ?_
  intro p e s m args below meth c s₁ B hml hv
  obtain ⟨rfl, hsz, hP, hK, hD0, hZ⟩ := hv
  have hx := B.exec
  have hb := B.bytes
  have hr := B.returns
  have hts := atoms_spec (ws := wsL_agrees) B.pre
  have hown : s.vm.findClass RL = some m.cls := findClass_of_methodNamed B.named
  have hlocks := B.notSynchronized
  have hTab := vx_table (x := yL_agrees) B (hts _ List.mem_cons_self)
  subst hsz
  have hD := hD0.self (sz := s.heap.size)
  generalize hAe : va_A [(h0, zX 0 1 v), (o0, .inl (cJ, 1, .inr (.inl f)))] s.heap.size = A at hD hZ ⊢
  have hA : ∀ q : Nat, s.heap.size ≤ q → A q := fun q h => by rw [← hAe]; exact Or.inr h
  have hS : va_S A s.heap s.heap [] := va_S.rf
  have hP : va_P (dC, dI) vwCl [(h0, zX 0 1 v), (o0, .inl (cJ, 1, .inr (.inl f)))] s.heap := hP
  have hl := lv_entry ([.ref h0, .int p0, .int p1, .ref o0]) (n := 5) (Nat.le_of_ble_eq_true rfl)
  rw [lg_entry_eq]
  generalize (lg_sl ([.ref h0, .int p0, .int p1, .ref o0]) ++ List.replicate (5 - (lg_sl ([.ref h0, .int p0, .int p1, .ref o0])).length) Slot.unset).toArray = ls at hl ⊢
  have hl : lv_has ls 5 [(0, .ref h0), (1, .int p0), (2, .int p1), (3, .ref o0)] := hl
  refine lv_aload_n hx hb dL_agrees_0 rfl (lv_at hl 3 rfl) ?_
  refine lv_iconst (v := 0) hx hb dL_agrees_1 (by decide) ?_
  refine lv_aload_n hx hb dL_agrees_2 rfl (lv_at hl 0 rfl) ?_
  refine lv_iload_n hx hb dL_agrees_3 rfl (lv_at hl 1 rfl) ?_
  refine lv_iload_n hx hb dL_agrees_4 rfl (lv_at hl 2 rfl) ?_
  have hPc := hP.sub (ws' := [(h0, zX 0 1 v)]) [0] rfl
  have hDc := hD.sub (ws' := [(h0, zX 0 1 v)]) [0] (by decide) rfl
  have hKc := hK.sub (tys' := []) [] rfl
  have hFc := va_free (wc := [(h0, zX 0 1 v)]) hD hS hA [0] rfl
  refine vx_calli (vx_runV (As := [.int p0, .int p1]) (rest := [.int 0, .ref o0]) ⟨hx, hb, hml, hown, hts⟩ (c_X0_agrees l hl9 dC dI h0 v p0 p1 s.heap.size) (cwV 2 hts gL_agrees_X0_agrees rfl rfl rfl (by decide +kernel) ⟨Nat.le_of_ble_eq_true rfl, Nat.le_of_ble_eq_true rfl⟩) ⟨zx_blind, va_recv hKc hPc (ci := 0) (q0 := 0) rfl rfl, fun U hU hW => ⟨rfl, zx_go hPc hKc hDc hZ hS hFc hU hW⟩⟩ rfl rfl hl.1 rfl (lv_room (Nat.le_of_ble_eq_true rfl)) dL_agrees_5 ⟨Nat.le_of_ble_eq_true rfl, Nat.le_of_ble_eq_true rfl⟩) hS (fun q _ h => hFc q h) hFc (fun q _ h => hFc q h) (fun E ce q9 u t H1 locs ht hvm hw hB hz1 hk1 hS hce hcv hcl => ?_) (fun r u t H1 locs ht hvm hw hB hz1 hk1 hS => ?_)
  · skip
    obtain rfl := hB
    obtain ⟨z1, z2, -⟩ := id hZ
    obtain ⟨hP, hD⟩ := va_join (wr := [(o0, .inl (cJ, 1, .inr (.inl f)))]) (w1 := []) hP hD [0] [1] rfl rfl (by decide) (by decide) hk1 hFc zx_nilP zx_nilD
    refine vx_catch (own := RL) (name := "java/lang/IndexOutOfBoundsException") (E := "java/lang/IndexOutOfBoundsException") hown [] ⟨0, 17, 20, 19⟩ [⟨0, 17, 24, 25⟩] (by rw [hTab]; rfl) (fun z hz => nomatch hz) (by decide) (by decide) (hts (.classLink RL 19 "java/lang/IndexOutOfBoundsException") (by decide +kernel)) (va_Nw.use rfl z1) hce hcv hcl ?_
    refine W.eq (g2 := F0 m 20 ls [.ref q9]) rfl ?_
    generalize H1 = H at hP hS ⊢
    have hP : va_P (dC, dI) vwCl [(o0, .inl (cJ, 1, .inr (.inl f)))] H := hP
    have hD : va_D A [(o0, .inl (cJ, 1, .inr (.inl f)))] := hD
    refine W.widen (k := 1) (n := 6) (by omega) (by omega) ?_
    refine lv_astore (lv' := [(4, .ref q9), (0, .ref h0), (1, .int p0), (2, .int p1), (3, .ref o0)]) hx hb dL_agrees_20 hl (by decide) rfl (fun ls hl => ?_)
    refine lv_iconst (v := 1) hx hb dL_agrees_22 (by decide) ?_
    have hP9 := hP.sub (ws' := []) [] rfl
    have hD9 := hD.sub (ws' := []) [] (by decide) rfl
    have hK9 := hK.sub (tys' := []) [] rfl
    refine W.widen (k := 1) (n := 6) (by omega) (by omega) ?_
    exact W.iret (v := 1) hx hb hr (fun t ht hW => ⟨⟨1, (), rfl, rfl, by rw [ht]; exact hP9, va_K.moved hW.alike hK9, hD9⟩, hS.F ht⟩) hS.2.2 dL_agrees_23
  · skip
    exact hw.elim
set_option maxHeartbeats 4000000 in
set_option maxRecDepth 100000 in
/-- the law asks messengers of a new camp -/
theorem c_L_messengers (l : Launch) (hl9 : l.stackTraces = false) (dC : Nat → ClassId) (dI : Nat → Nat → Nat) (h0 o0 : Nat) (cJ : ClassId) (f : Nat → Int64) (v : Nat → Value) (p0 : Int32) (sz : Nat) : Met l yL_messengers wsL_messengers ({ frames := 13, cells := 1, slots := 6, locals := 420 }) (va_Pc [.ref h0, .int p0, .ref o0] (zx_pre (dC, dI) [(h0, zX 0 1 v), (o0, .inl (cJ, 1, .inr (.inl f)))] [(cJ, .long)] sz)) (va_Qi (fun (r : Int32) (u : Nat → Int64) => (r = 1 ∧ (p0 < 0 ∨ 3 < p0)) ∨ (r = 0 ∧ u 0 = 0 ∧ ¬ p0 < 0 ∧ ¬ 3 < p0)) (fun (u : Nat → Int64) => zx_at (dC, dI) [(o0, .inl (cJ, 1, .inr (.inl u)))] [(cJ, .long)] (va_A [(h0, zX 0 1 v), (o0, .inl (cJ, 1, .inr (.inl f)))] sz)) (va_A [(h0, zX 0 1 v), (o0, .inl (cJ, 1, .inr (.inl f)))] sz)) 1 6 (va_A [(h0, zX 0 1 v), (o0, .inl (cJ, 1, .inr (.inl f)))] sz) := by
  refine va_MetW (cc := cL_messengers) (maxL := 4) (ret := (some .int)) (by decide) rfl ?_
  intro p e s m args below meth c s₁ B hml hv
  obtain ⟨rfl, hsz, hP, hK, hD0, hZ⟩ := hv
  have hx := B.exec
  have hb := B.bytes
  have hr := B.returns
  have hts := atoms_spec (ws := wsL_messengers) B.pre
  have hown : s.vm.findClass RL = some m.cls := findClass_of_methodNamed B.named
  have hlocks := B.notSynchronized
  have hTab := vx_table (x := yL_messengers) B (hts _ List.mem_cons_self)
  subst hsz
  have hD := hD0.self (sz := s.heap.size)
  generalize hAe : va_A [(h0, zX 0 1 v), (o0, .inl (cJ, 1, .inr (.inl f)))] s.heap.size = A at hD hZ ⊢
  have hA : ∀ q : Nat, s.heap.size ≤ q → A q := fun q h => by rw [← hAe]; exact Or.inr h
  have hS : va_S A s.heap s.heap [] := va_S.rf
  have hP : va_P (dC, dI) vwCl [(h0, zX 0 1 v), (o0, .inl (cJ, 1, .inr (.inl f)))] s.heap := hP
  have hl := lv_entry ([.ref h0, .int p0, .ref o0]) (n := 4) (Nat.le_of_ble_eq_true rfl)
  rw [lg_entry_eq]
  generalize (lg_sl ([.ref h0, .int p0, .ref o0]) ++ List.replicate (4 - (lg_sl ([.ref h0, .int p0, .ref o0])).length) Slot.unset).toArray = ls at hl ⊢
  have hl : lv_has ls 4 [(0, .ref h0), (1, .int p0), (2, .ref o0)] := hl
  refine lv_aload_n hx hb dL_messengers_0 rfl (lv_at hl 2 rfl) ?_
  refine lv_iconst (v := 0) hx hb dL_messengers_1 (by decide) ?_
  refine lv_aload_n hx hb dL_messengers_2 rfl (lv_at hl 0 rfl) ?_
  refine lv_iload_n hx hb dL_messengers_3 rfl (lv_at hl 1 rfl) ?_
  have hPc := hP.sub (ws' := [(h0, zX 0 1 v)]) [0] rfl
  have hDc := hD.sub (ws' := [(h0, zX 0 1 v)]) [0] (by decide) rfl
  have hKc := hK.sub (tys' := []) [] rfl
  have hFc := va_free (wc := [(h0, zX 0 1 v)]) hD hS hA [0] rfl
  refine vx_calli (vx_runV (As := [.int p0]) (rest := [.int 0, .ref o0]) ⟨hx, hb, hml, hown, hts⟩ (c_X0_messengers l hl9 dC dI h0 v p0 s.heap.size) (cwV 1 hts gL_messengers_X0_messengers rfl rfl rfl (by decide +kernel) ⟨Nat.le_of_ble_eq_true rfl, Nat.le_of_ble_eq_true rfl⟩) ⟨zx_blind, va_recv hKc hPc (ci := 0) (q0 := 0) rfl rfl, fun U hU hW => ⟨rfl, zx_go hPc hKc hDc hZ hS hFc hU hW⟩⟩ rfl rfl hl.1 rfl (lv_room (Nat.le_of_ble_eq_true rfl)) dL_messengers_4 ⟨Nat.le_of_ble_eq_true rfl, Nat.le_of_ble_eq_true rfl⟩) hS (fun q _ h => hFc q h) hFc (fun q _ h => hFc q h) (fun E ce q9 u t H1 locs ht hvm hw hB hz1 hk1 hS hce hcv hcl => ?_) (fun r u t H1 locs ht hvm hw hB hz1 hk1 hS => ?_)
  · skip
    obtain rfl := hB
    obtain ⟨z1, z2, -⟩ := id hZ
    obtain ⟨hP, hD⟩ := va_join (wr := [(o0, .inl (cJ, 1, .inr (.inl f)))]) (w1 := []) hP hD [0] [1] rfl rfl (by decide) (by decide) hk1 hFc zx_nilP zx_nilD
    refine vx_catch (own := RL) (name := "java/lang/IllegalArgumentException") (E := "java/lang/IllegalArgumentException") hown [] ⟨0, 9, 12, 25⟩ [] (by rw [hTab]; rfl) (fun z hz => nomatch hz) (by decide) (by decide) (hts (.classLink RL 25 "java/lang/IllegalArgumentException") (by decide +kernel)) (va_Nw.use rfl z2) hce hcv hcl ?_
    refine W.eq (g2 := F0 m 12 ls [.ref q9]) rfl ?_
    generalize H1 = H at hP hS ⊢
    have hP : va_P (dC, dI) vwCl [(o0, .inl (cJ, 1, .inr (.inl f)))] H := hP
    have hD : va_D A [(o0, .inl (cJ, 1, .inr (.inl f)))] := hD
    refine W.widen (k := 1) (n := 6) (by omega) (by omega) ?_
    refine lv_astore_n (lv' := [(3, .ref q9), (0, .ref h0), (1, .int p0), (2, .ref o0)]) hx hb dL_messengers_12 rfl hl (by decide) rfl (fun ls hl => ?_)
    refine lv_iconst (v := 1) hx hb dL_messengers_13 (by decide) ?_
    have hP9 := hP.sub (ws' := [(o0, .inl (cJ, 1, .inr (.inl f)))]) [0] rfl
    have hD9 := hD.sub (ws' := [(o0, .inl (cJ, 1, .inr (.inl f)))]) [0] (by decide) rfl
    have hK9 := hK.sub (tys' := [(cJ, .long)]) [0] rfl
    refine W.widen (k := 1) (n := 6) (by omega) (by omega) ?_
    exact W.iret (v := 1) hx hb hr (fun t ht hW => ⟨⟨1, f, rfl, Or.inl ⟨rfl, hw⟩, by rw [ht]; exact hP9, va_K.moved hW.alike hK9, hD9⟩, hS.F ht⟩) hS.2.2 dL_messengers_14
  · skip
    obtain ⟨hP1, hK1, hD1⟩ := hB
    rw [ht] at hP1
    have hK1 := va_K.moved hvm.symm hK1
    try dsimp only at hw hP1 hD1 hK1
    obtain ⟨hP, hD⟩ := va_join (wr := [(o0, .inl (cJ, 1, .inr (.inl f)))]) (w1 := [(h0, zX 0 1 v)]) hP hD [0] [1] rfl rfl (by decide) (by decide) hk1 hFc hP1 hD1
    generalize H1 = H at hP hS ⊢
    have hP : va_P (dC, dI) vwCl [(o0, .inl (cJ, 1, .inr (.inl f))), (h0, zX 0 1 v)] H := hP
    have hD : va_D A [(o0, .inl (cJ, 1, .inr (.inl f))), (h0, zX 0 1 v)] := hD
    refine W.widen (k := 1) (n := 6) (by omega) (by omega) ?_
    obtain ⟨hw, hc⟩ := hw
    subst hw
    refine lv_i2l (v := 0) hx hb dL_messengers_7 (by decide) ?_
    refine va_last hx hb hK hP hD hS 0 0 rfl rfl (zx_in rfl) dL_messengers_8 (fun H locs hP hD hS => ?_)
    obtain ⟨g9, hg9⟩ : ∃ g9 : Nat → Int64, g9 = vp_updL f (0 : Int32).toNatClampNeg (0) := ⟨_, rfl⟩
    have hg0 : g9 0 = 0 := by rw [hg9]; exact pk_uLs
    have hP : va_P (dC, dI) vwCl [(o0, .inl (cJ, 1, .inr (.inl (vp_updL f (0 : Int32).toNatClampNeg (0))))), (h0, zX 0 1 v)] H := hP
    have hD : va_D A [(o0, .inl (cJ, 1, .inr (.inl (vp_updL f (0 : Int32).toNatClampNeg (0))))), (h0, zX 0 1 v)] := hD
    rw [← hg9] at hP hD
    refine lv_goto (tgt := 15) hx hb dL_messengers_9 (by decide) ?_
    refine lv_iconst (v := 0) hx hb dL_messengers_15 (by decide) ?_
    have hP9 := hP.sub (ws' := [(o0, .inl (cJ, 1, .inr (.inl g9)))]) [0] rfl
    have hD9 := hD.sub (ws' := [(o0, .inl (cJ, 1, .inr (.inl g9)))]) [0] (by decide) rfl
    have hK9 := hK.sub (tys' := [(cJ, .long)]) [0] rfl
    refine W.widen (k := 1) (n := 6) (by omega) (by omega) ?_
    exact W.iret (v := 0) hx hb hr (fun t ht hW => ⟨⟨0, g9, rfl, Or.inr ⟨rfl, hg0, hc⟩, by rw [ht]; exact hP9, va_K.moved hW.alike hK9, hD9⟩, hS.F ht⟩) hS.2.2 dL_messengers_16
set_option maxHeartbeats 4000000 in
set_option maxRecDepth 100000 in
/-- the law asks found of a new camp -/
theorem c_L_found (l : Launch) (hl9 : l.stackTraces = false) (dC : Nat → ClassId) (dI : Nat → Nat → Nat) (h0 o0 : Nat) (cJ : ClassId) (f : Nat → Int64) (v : Nat → Value) (p0 : Int32) (sz : Nat) : Met l yL_found wsL_found ({ frames := 13, cells := 1, slots := 6, locals := 420 }) (va_Pc [.ref h0, .int p0, .ref o0] (zx_pre (dC, dI) [(h0, zX 0 1 v), (o0, .inl (cJ, 1, .inr (.inl f)))] [(cJ, .long)] sz)) (va_Qi (fun (r : Int32) (u : Unit) => r = 1) (fun (u : Unit) => zx_at (dC, dI) [] [] (va_A [(h0, zX 0 1 v), (o0, .inl (cJ, 1, .inr (.inl f)))] sz)) (va_A [(h0, zX 0 1 v), (o0, .inl (cJ, 1, .inr (.inl f)))] sz)) 1 6 (va_A [(h0, zX 0 1 v), (o0, .inl (cJ, 1, .inr (.inl f)))] sz) := by
  refine va_MetW (cc := cL_found) (maxL := 4) (ret := (some .int)) (by decide) rfl ?_
  intro p e s m args below meth c s₁ B hml hv
  obtain ⟨rfl, hsz, hP, hK, hD0, hZ⟩ := hv
  have hx := B.exec
  have hb := B.bytes
  have hr := B.returns
  have hts := atoms_spec (ws := wsL_found) B.pre
  have hown : s.vm.findClass RL = some m.cls := findClass_of_methodNamed B.named
  have hlocks := B.notSynchronized
  have hTab := vx_table (x := yL_found) B (hts _ List.mem_cons_self)
  subst hsz
  have hD := hD0.self (sz := s.heap.size)
  generalize hAe : va_A [(h0, zX 0 1 v), (o0, .inl (cJ, 1, .inr (.inl f)))] s.heap.size = A at hD hZ ⊢
  have hA : ∀ q : Nat, s.heap.size ≤ q → A q := fun q h => by rw [← hAe]; exact Or.inr h
  have hS : va_S A s.heap s.heap [] := va_S.rf
  have hP : va_P (dC, dI) vwCl [(h0, zX 0 1 v), (o0, .inl (cJ, 1, .inr (.inl f)))] s.heap := hP
  have hl := lv_entry ([.ref h0, .int p0, .ref o0]) (n := 4) (Nat.le_of_ble_eq_true rfl)
  rw [lg_entry_eq]
  generalize (lg_sl ([.ref h0, .int p0, .ref o0]) ++ List.replicate (4 - (lg_sl ([.ref h0, .int p0, .ref o0])).length) Slot.unset).toArray = ls at hl ⊢
  have hl : lv_has ls 4 [(0, .ref h0), (1, .int p0), (2, .ref o0)] := hl
  refine lv_aload_n hx hb dL_found_0 rfl (lv_at hl 2 rfl) ?_
  refine lv_iconst (v := 0) hx hb dL_found_1 (by decide) ?_
  refine lv_aload_n hx hb dL_found_2 rfl (lv_at hl 0 rfl) ?_
  refine lv_iload_n hx hb dL_found_3 rfl (lv_at hl 1 rfl) ?_
  have hPc := hP.sub (ws' := [(h0, zX 0 1 v)]) [0] rfl
  have hDc := hD.sub (ws' := [(h0, zX 0 1 v)]) [0] (by decide) rfl
  have hKc := hK.sub (tys' := []) [] rfl
  have hFc := va_free (wc := [(h0, zX 0 1 v)]) hD hS hA [0] rfl
  refine vx_calli (vx_runV (As := [.int p0]) (rest := [.int 0, .ref o0]) ⟨hx, hb, hml, hown, hts⟩ (c_X0_found l hl9 dC dI h0 v p0 s.heap.size) (cwV 1 hts gL_found_X0_found rfl rfl rfl (by decide +kernel) ⟨Nat.le_of_ble_eq_true rfl, Nat.le_of_ble_eq_true rfl⟩) ⟨zx_blind, va_recv hKc hPc (ci := 0) (q0 := 0) rfl rfl, fun U hU hW => ⟨rfl, zx_go hPc hKc hDc hZ hS hFc hU hW⟩⟩ rfl rfl hl.1 rfl (lv_room (Nat.le_of_ble_eq_true rfl)) dL_found_4 ⟨Nat.le_of_ble_eq_true rfl, Nat.le_of_ble_eq_true rfl⟩) hS (fun q _ h => hFc q h) hFc (fun q _ h => hFc q h) (fun E ce q9 u t H1 locs ht hvm hw hB hz1 hk1 hS hce hcv hcl => ?_) (fun r u t H1 locs ht hvm hw hB hz1 hk1 hS => ?_)
  · skip
    obtain rfl := hB
    obtain ⟨z1, z2, -⟩ := id hZ
    obtain ⟨hP, hD⟩ := va_join (wr := [(o0, .inl (cJ, 1, .inr (.inl f)))]) (w1 := []) hP hD [0] [1] rfl rfl (by decide) (by decide) hk1 hFc zx_nilP zx_nilD
    refine vx_catch (own := RL) (name := "java/lang/IndexOutOfBoundsException") (E := "java/lang/IndexOutOfBoundsException") hown [] ⟨0, 9, 12, 19⟩ [] (by rw [hTab]; rfl) (fun z hz => nomatch hz) (by decide) (by decide) (hts (.classLink RL 19 "java/lang/IndexOutOfBoundsException") (by decide +kernel)) (va_Nw.use rfl z1) hce hcv hcl ?_
    refine W.eq (g2 := F0 m 12 ls [.ref q9]) rfl ?_
    generalize H1 = H at hP hS ⊢
    have hP : va_P (dC, dI) vwCl [(o0, .inl (cJ, 1, .inr (.inl f)))] H := hP
    have hD : va_D A [(o0, .inl (cJ, 1, .inr (.inl f)))] := hD
    refine W.widen (k := 1) (n := 6) (by omega) (by omega) ?_
    refine lv_astore_n (lv' := [(3, .ref q9), (0, .ref h0), (1, .int p0), (2, .ref o0)]) hx hb dL_found_12 rfl hl (by decide) rfl (fun ls hl => ?_)
    refine lv_iconst (v := 1) hx hb dL_found_13 (by decide) ?_
    have hP9 := hP.sub (ws' := []) [] rfl
    have hD9 := hD.sub (ws' := []) [] (by decide) rfl
    have hK9 := hK.sub (tys' := []) [] rfl
    refine W.widen (k := 1) (n := 6) (by omega) (by omega) ?_
    exact W.iret (v := 1) hx hb hr (fun t ht hW => ⟨⟨1, (), rfl, rfl, by rw [ht]; exact hP9, va_K.moved hW.alike hK9, hD9⟩, hS.F ht⟩) hS.2.2 dL_found_14
  · skip
    exact hw.elim
