theorem zx_str {args : Array Value} {s : State} {own tx : String} {k : Nat} (h1 : (Cond.stringRef own k tx).before args s = true) (h2 : (Cond.exactly (.string own k) "java/lang/String").before args s = true) : ∃ a : Nat, vk_R own k tx a s := by
  obtain ⟨a, c, cell, kk, q1, -⟩ := Cond.exactly_spec h2
  exact ⟨a, vk_R.of h1 q1⟩
set_option maxHeartbeats 4000000 in
set_option maxRecDepth 100000 in
/-- what the Statement gives of the start, in the words of 06.base -/
theorem zx_start {args : Array Value} {s : State} (hts : ∀ w ∈ lw_tbl, w.before args s = true) (hgv : (Jvm.Cond.and given_1 narrow_1).before args s = true) : zx_Z (fun q : Nat => s.heap.size ≤ q) s s.heap := by
  have hs := flat_of_before _ hgv
  have hA : ∀ a : Nat, a < s.heap.size → ¬ (fun q : Nat => s.heap.size ≤ q) a := fun a h => Nat.not_le.mpr h
  refine ⟨va_Nw.of rfl (hts _ ?_), va_Nw.of rfl (hts _ ?_), va_Nw.of rfl (hts _ ?_), va_Nw.of rfl (hts _ ?_), va_Nw.of rfl (hts _ ?_), zx_str (hts (.stringRef "LiarTents" 151 "no such general") ?_) (hs (.exactly (.string "LiarTents" 151) "java/lang/String") ?_), zx_str (hts (.stringRef "LiarTents" 159 "no such rounds") ?_) (hs (.exactly (.string "LiarTents" 159) "java/lang/String") ?_), zx_str (hts (.stringRef "LiarTents" 94 "no such count") ?_) (hs (.exactly (.string "LiarTents" 94) "java/lang/String") ?_), vx_Zqof (hts _ ?_) (hts _ ?_) (hs _ ?_) hA, vx_Zqof (hts _ ?_) (hts _ ?_) (hs _ ?_) hA, va_AOA.of (hts _ ?_)⟩
  all_goals decide +kernel
set_option maxHeartbeats 8000000 in
set_option maxRecDepth 100000 in
/-- THE LAW, from its entry -/
theorem whole_start {p : Program} {e : Env} {s : State} {m : MethodId} {below : List Frame} {meth : Method} {c : Code} (l : Launch) (hflags : l.flags = flags0) {b L : Nat} {xs : Nat → Int32} (hL : L ≤ 4) (C0 : lw_At p s m meth c b L xs) : W p l e room_1 s m #[Value.ref b] below meth c s.heap [] 0 0 (lw_Z below #[Value.ref b] s) (entryFrame m ([Value.ref b] : List Value).toArray 9) := by
  have C1 := C0
  obtain ⟨hx, hb, hr, hml, hown0, hts0, hX, hbl, hlocks, hgv⟩ := C0
  have hl9 : l.stackTraces = false := by
    unfold Launch.stackTraces
    rw [hflags]
    decide +kernel
  have hZ := zx_start hts0 hgv
  have hown : s.vm.findClass RL = some m.cls := hown0
  have hts : ∀ w ∈ wsL_law, w.before #[Value.ref b] s = true := fun w h => hts0 w (wsL_law_in w h)
  have hA : ∀ q : Nat, s.heap.size ≤ q → (fun q : Nat => s.heap.size ≤ q) q := fun _ h => h
  have hbA : ¬ (fun q : Nat => s.heap.size ≤ q) b := Nat.not_le.mpr hbl
  obtain ⟨c0, iS0, hKn0⟩ := u_known (C := RX0) (T := TX0) (N := 18) (n := 18) hts inlX0 (hts (.instantiable RX0 18) (by decide +kernel))
  obtain ⟨c1, iS1, hKn1⟩ := u_known (C := RX1) (T := TX1) (N := 12) (n := 12) hts inlX1 (hts (.instantiable RX1 12) (by decide +kernel))
  obtain ⟨dC, dI, hKc⟩ : ∃ (dC : Nat → ClassId) (dI : Nat → Nat → Nat), ∀ (k : Nat) (q : vw_C), vwCl[k]? = some q → u_Kn s q.1 q.2.1 q.2.2 (dC k) (dI k) := by
    refine ⟨fun k => if k = 0 then c0 else c1, fun k => if k = 0 then iS0 else iS1, ?_⟩
    intro k q hq
    match k, hq with
    | 0, hq => cases hq; exact hKn0
    | 1, hq => cases hq; exact hKn1
    | k + 2, hq => simp [vwCl] at hq
  have hS : va_S (fun q : Nat => s.heap.size ≤ q) s.heap s.heap [] := va_S.rf
  have hK : va_K (dC, dI) vwCl [] s := ⟨hKc, fun k q h => by simp at h⟩
  have hP : va_P (dC, dI) vwCl [] s.heap := zx_nilP
  have hD : va_D (fun q : Nat => s.heap.size ≤ q) [] := zx_nilD
  have hl := lv_entry ([.ref b]) (n := 9) (Nat.le_of_ble_eq_true rfl)
  rw [lg_entry_eq]
  generalize (lg_sl ([.ref b]) ++ List.replicate (9 - (lg_sl ([.ref b])).length) Slot.unset).toArray = ls at hl ⊢
  have hl : lv_has ls 9 [(0, .ref b)] := hl
  refine va_new (ci := 0) (fs := [.int 0, .int 0, .int 0, .int 0, .null, .null, .null, .null, .int 0, .int 0, .int 0, .int 0, .null, .null, .null, .null, .null, .null]) (C := RX0) (T := TX0) (N := 18) hx hb hts inlX0 tyX0 tyX0_ok hown (hts (.classLink RL 8 RX0) (by decide +kernel)) (hts (.instantiable RX0 18) (by decide +kernel)) (hts (.initialized RX0) (by decide +kernel)) hK hP hD hS hA rfl (fun j hj => by rcases (show j = 0 ∨ j = 1 ∨ j = 2 ∨ j = 3 ∨ j = 4 ∨ j = 5 ∨ j = 6 ∨ j = 7 ∨ j = 8 ∨ j = 9 ∨ j = 10 ∨ j = 11 ∨ j = 12 ∨ j = 13 ∨ j = 14 ∨ j = 15 ∨ j = 16 ∨ j = 17 by omega) with rfl | rfl | rfl | rfl | rfl | rfl | rfl | rfl | rfl | rfl | rfl | rfl | rfl | rfl | rfl | rfl | rfl | rfl <;> rfl) (Nat.le_of_ble_eq_true rfl) (Nat.le_of_ble_eq_true rfl) dL_law_0 (fun h0 H hP hD hS => ?_)
  have hP : va_P (dC, dI) vwCl [(h0, .inr (0, [.int 0, .int 0, .int 0, .int 0, .null, .null, .null, .null, .int 0, .int 0, .int 0, .int 0, .null, .null, .null, .null, .null, .null]))] H := hP
  have hD : va_D (fun q : Nat => s.heap.size ≤ q) [(h0, .inr (0, [.int 0, .int 0, .int 0, .int 0, .null, .null, .null, .null, .int 0, .int 0, .int 0, .int 0, .null, .null, .null, .null, .null, .null]))] := hD
  refine W.widen (k := 1) (n := 18) (by omega) (by omega) ?_
  refine lv_dup hx hb dL_law_3 rfl ?_
  have hPc := hP.sub (ws' := [(h0, .inr (0, [.int 0, .int 0, .int 0, .int 0, .null, .null, .null, .null, .int 0, .int 0, .int 0, .int 0, .null, .null, .null, .null, .null, .null]))]) [0] rfl
  have hDc := hD.sub (ws' := [(h0, .inr (0, [.int 0, .int 0, .int 0, .int 0, .null, .null, .null, .null, .int 0, .int 0, .int 0, .int 0, .null, .null, .null, .null, .null, .null]))]) [0] (by decide) rfl
  have hKc := hK.sub (tys' := []) [] rfl
  have hFc := va_free (wc := [(h0, .inr (0, [.int 0, .int 0, .int 0, .int 0, .null, .null, .null, .null, .int 0, .int 0, .int 0, .int 0, .null, .null, .null, .null, .null, .null]))]) hD hS hA [0] rfl
  refine va_callv (va_runI (As := []) (rest := [.ref h0]) ⟨hx, hb, hml, hown, hts⟩ (c_X0_init l dC dI h0 H.size) (cwI 0 hts gL_law_X0_init rfl rfl rfl (hts (.initialized RX0) (by decide +kernel)) (hts (.methodLink RL 59 yX0_init) (by decide +kernel)) (hts (.instanceMethod yX0_init) (by decide +kernel)) rfl (by decide +kernel) ⟨Nat.le_of_ble_eq_true rfl, Nat.le_of_ble_eq_true rfl⟩) ⟨zx_blind, fun U hU hW => ⟨rfl, zx_go hPc hKc hDc hZ hS hFc hU hW⟩⟩ rfl rfl hl.1 rfl (lv_room (Nat.le_of_ble_eq_true rfl)) dL_law_4 ⟨Nat.le_of_ble_eq_true rfl, Nat.le_of_ble_eq_true rfl⟩) hS (fun q _ h => hFc q h) hFc (fun v t H1 locs ht hvm hw hB hz1 hk1 hS => ?_)
  obtain ⟨hP1, hK1, hD1⟩ := hB
  rw [ht] at hP1
  have hK1 := va_K.moved hvm.symm hK1
  try dsimp only at hw hP1 hD1 hK1
  obtain ⟨hP, hD⟩ := va_join (wr := []) (w1 := [(h0, zX 0 1 v)]) hP hD [0] [] rfl rfl (by decide) (by decide) hk1 hFc hP1 hD1
  generalize H1 = H at hP hS ⊢
  have hP : va_P (dC, dI) vwCl [(h0, zX 0 1 v)] H := hP
  have hD : va_D (fun q : Nat => s.heap.size ≤ q) [(h0, zX 0 1 v)] := hD
  refine W.widen (k := 37) (n := 261) (by omega) (by omega) ?_
  refine lv_astore_n (lv' := [(1, .ref h0), (0, .ref b)]) hx hb dL_law_7 rfl hl (by decide) rfl (fun ls hl => ?_)
  refine va_new (ci := 1) (fs := [.int 0, .int 0, .int 0, .null, .null, .int 0, .int 0, .int 0, .int 0, .int 0, .null, .null]) (C := RX1) (T := TX1) (N := 12) hx hb hts inlX1 tyX1 tyX1_ok hown (hts (.classLink RL 60 RX1) (by decide +kernel)) (hts (.instantiable RX1 12) (by decide +kernel)) (hts (.initialized RX1) (by decide +kernel)) hK hP hD hS hA rfl (fun j hj => by rcases (show j = 0 ∨ j = 1 ∨ j = 2 ∨ j = 3 ∨ j = 4 ∨ j = 5 ∨ j = 6 ∨ j = 7 ∨ j = 8 ∨ j = 9 ∨ j = 10 ∨ j = 11 by omega) with rfl | rfl | rfl | rfl | rfl | rfl | rfl | rfl | rfl | rfl | rfl | rfl <;> rfl) (Nat.le_of_ble_eq_true rfl) (Nat.le_of_ble_eq_true rfl) dL_law_8 (fun m0 H hP hD hS => ?_)
  have hP : va_P (dC, dI) vwCl [(h0, zX 0 1 v), (m0, .inr (1, [.int 0, .int 0, .int 0, .null, .null, .int 0, .int 0, .int 0, .int 0, .int 0, .null, .null]))] H := hP
  have hD : va_D (fun q : Nat => s.heap.size ≤ q) [(h0, zX 0 1 v), (m0, .inr (1, [.int 0, .int 0, .int 0, .null, .null, .int 0, .int 0, .int 0, .int 0, .int 0, .null, .null]))] := hD
  refine W.widen (k := 38) (n := 273) (by omega) (by omega) ?_
  refine lv_dup hx hb dL_law_11 rfl ?_
  have hPc := hP.sub (ws' := [(m0, .inr (1, [.int 0, .int 0, .int 0, .null, .null, .int 0, .int 0, .int 0, .int 0, .int 0, .null, .null]))]) [1] rfl
  have hDc := hD.sub (ws' := [(m0, .inr (1, [.int 0, .int 0, .int 0, .null, .null, .int 0, .int 0, .int 0, .int 0, .int 0, .null, .null]))]) [1] (by decide) rfl
  have hKc := hK.sub (tys' := []) [] rfl
  have hFc := va_free (wc := [(m0, .inr (1, [.int 0, .int 0, .int 0, .null, .null, .int 0, .int 0, .int 0, .int 0, .int 0, .null, .null]))]) hD hS hA [1] rfl
  refine va_callv (va_runI (As := []) (rest := [.ref m0]) ⟨hx, hb, hml, hown, hts⟩ (c_X1_init l dC dI m0 H.size) (cwI 0 hts gL_law_X1_init rfl rfl rfl (hts (.initialized RX1) (by decide +kernel)) (hts (.methodLink RL 62 yX1_init) (by decide +kernel)) (hts (.instanceMethod yX1_init) (by decide +kernel)) rfl (by decide +kernel) ⟨Nat.le_of_ble_eq_true rfl, Nat.le_of_ble_eq_true rfl⟩) ⟨zx_blind, fun U hU hW => ⟨rfl, zx_go hPc hKc hDc hZ hS hFc hU hW⟩⟩ rfl rfl hl.1 rfl (lv_room (Nat.le_of_ble_eq_true rfl)) dL_law_12 ⟨Nat.le_of_ble_eq_true rfl, Nat.le_of_ble_eq_true rfl⟩) hS (fun q _ h => hFc q h) hFc (fun u t H1 locs ht hvm hw hB hz1 hk1 hS => ?_)
  obtain ⟨k0, q0, rr, cI, cO, d0, e0⟩ := u
  obtain ⟨hP1, hK1, hD1⟩ := hB
  rw [ht] at hP1
  have hK1 := va_K.moved hvm.symm hK1
  try dsimp only at hw hP1 hD1 hK1
  obtain ⟨hP, hD⟩ := va_join (wr := [(h0, zX 0 1 v)]) (w1 := [(m0, zM 0 0 1 (.ref k0) (.ref q0) (.ref d0) (.ref e0)), (k0, .inl (cI, 7, .inl (fun _ => 0))), (q0, .inl (cO, 7, .inr (.inr (.inr (.inr (fun i => if i < 7 then some (rr i) else none)))))), (rr 0, .inl (cI, 3, .inl (fun _ => 0))), (rr 1, .inl (cI, 3, .inl (fun _ => 0))), (rr 2, .inl (cI, 3, .inl (fun _ => 0))), (rr 3, .inl (cI, 3, .inl (fun _ => 0))), (rr 4, .inl (cI, 3, .inl (fun _ => 0))), (rr 5, .inl (cI, 3, .inl (fun _ => 0))), (rr 6, .inl (cI, 3, .inl (fun _ => 0)))]) hP hD [1] [0] rfl rfl (by decide) (by decide) hk1 hFc hP1 hD1
  have hK := hK.app hK1
  have hK : va_K (dC, dI) vwCl [(cI, .int), (cO, .array .int)] s := hK
  generalize H1 = H at hP hS ⊢
  have hP : va_P (dC, dI) vwCl [(h0, zX 0 1 v), (m0, zM 0 0 1 (.ref k0) (.ref q0) (.ref d0) (.ref e0)), (k0, .inl (cI, 7, .inl (fun _ => 0))), (q0, .inl (cO, 7, .inr (.inr (.inr (.inr (fun i => if i < 7 then some (rr i) else none)))))), (rr 0, .inl (cI, 3, .inl (fun _ => 0))), (rr 1, .inl (cI, 3, .inl (fun _ => 0))), (rr 2, .inl (cI, 3, .inl (fun _ => 0))), (rr 3, .inl (cI, 3, .inl (fun _ => 0))), (rr 4, .inl (cI, 3, .inl (fun _ => 0))), (rr 5, .inl (cI, 3, .inl (fun _ => 0))), (rr 6, .inl (cI, 3, .inl (fun _ => 0)))] H := hP
  have hD : va_D (fun q : Nat => s.heap.size ≤ q) [(h0, zX 0 1 v), (m0, zM 0 0 1 (.ref k0) (.ref q0) (.ref d0) (.ref e0)), (k0, .inl (cI, 7, .inl (fun _ => 0))), (q0, .inl (cO, 7, .inr (.inr (.inr (.inr (fun i => if i < 7 then some (rr i) else none)))))), (rr 0, .inl (cI, 3, .inl (fun _ => 0))), (rr 1, .inl (cI, 3, .inl (fun _ => 0))), (rr 2, .inl (cI, 3, .inl (fun _ => 0))), (rr 3, .inl (cI, 3, .inl (fun _ => 0))), (rr 4, .inl (cI, 3, .inl (fun _ => 0))), (rr 5, .inl (cI, 3, .inl (fun _ => 0))), (rr 6, .inl (cI, 3, .inl (fun _ => 0)))] := hD
  refine W.widen (k := 56) (n := 371) (by omega) (by omega) ?_
  refine lv_astore_n (lv' := [(2, .ref m0), (1, .ref h0), (0, .ref b)]) hx hb dL_law_15 rfl hl (by decide) rfl (fun ls hl => ?_)
  refine lv_iconst (v := 1) hx hb dL_law_16 (by decide) ?_
  refine va_newa (atype := .long) (a0 := (1, .inr (.inl (fun _ => 0)))) (N' := 1) hx hb (hts (.arrayClass .long) (by decide +kernel)) rfl hK hP hD hS hA (fun _ => rfl) (by decide) (by decide) (Nat.le_of_ble_eq_true rfl) (Nat.le_of_ble_eq_true rfl) (Nat.le_of_ble_eq_true rfl) dL_law_17 (fun q1 cA2 H hK hP hD hS => ?_)
  have hP : va_P (dC, dI) vwCl [(h0, zX 0 1 v), (m0, zM 0 0 1 (.ref k0) (.ref q0) (.ref d0) (.ref e0)), (k0, .inl (cI, 7, .inl (fun _ => 0))), (q0, .inl (cO, 7, .inr (.inr (.inr (.inr (fun i => if i < 7 then some (rr i) else none)))))), (rr 0, .inl (cI, 3, .inl (fun _ => 0))), (rr 1, .inl (cI, 3, .inl (fun _ => 0))), (rr 2, .inl (cI, 3, .inl (fun _ => 0))), (rr 3, .inl (cI, 3, .inl (fun _ => 0))), (rr 4, .inl (cI, 3, .inl (fun _ => 0))), (rr 5, .inl (cI, 3, .inl (fun _ => 0))), (rr 6, .inl (cI, 3, .inl (fun _ => 0))), (q1, .inl (cA2, 1, .inr (.inl (fun _ => 0))))] H := hP
  have hD : va_D (fun q : Nat => s.heap.size ≤ q) [(h0, zX 0 1 v), (m0, zM 0 0 1 (.ref k0) (.ref q0) (.ref d0) (.ref e0)), (k0, .inl (cI, 7, .inl (fun _ => 0))), (q0, .inl (cO, 7, .inr (.inr (.inr (.inr (fun i => if i < 7 then some (rr i) else none)))))), (rr 0, .inl (cI, 3, .inl (fun _ => 0))), (rr 1, .inl (cI, 3, .inl (fun _ => 0))), (rr 2, .inl (cI, 3, .inl (fun _ => 0))), (rr 3, .inl (cI, 3, .inl (fun _ => 0))), (rr 4, .inl (cI, 3, .inl (fun _ => 0))), (rr 5, .inl (cI, 3, .inl (fun _ => 0))), (rr 6, .inl (cI, 3, .inl (fun _ => 0))), (q1, .inl (cA2, 1, .inr (.inl (fun _ => 0))))] := hD
  have hK : va_K (dC, dI) vwCl [(cI, .int), (cO, .array .int), (cA2, .long)] s := hK
  refine W.widen (k := 57) (n := 372) (by omega) (by omega) ?_
  refine lv_astore_n (lv' := [(3, .ref q1), (2, .ref m0), (1, .ref h0), (0, .ref b)]) hx hb dL_law_19 rfl hl (by decide) rfl (fun ls hl => ?_)
  refine lv_iconst (v := 0) hx hb dL_law_20 (by decide) ?_
  refine lv_istore (lv' := [(4, .int 0), (3, .ref q1), (2, .ref m0), (1, .ref h0), (0, .ref b)]) hx hb dL_law_21 hl (by decide) rfl (fun ls hl => ?_)
  by_cases hL4 : L = 4
  · subst hL4
    refine lv_iload hx hb dL_law_23 (lv_at hl 0 rfl) ?_
    refine lv_aload_n hx hb dL_law_25 rfl (lv_at hl 4 rfl) ?_
    refine va_slen hx hb hX hbl hbA hS dL_law_26 ?_
    refine lv_topi (fun z3 ez3 => ?_)
    obtain rfl : z3 = 4 := ez3.trans (by decide)
    refine lv_iconst (v := 4) hx hb dL_law_27 (by decide) ?_
    refine lv_isub hx hb dL_law_28 ?_
    refine lv_topi (fun z4 ez4 => ?_)
    obtain rfl : z4 = 0 := ez4.trans (by decide)
    refine lv_icmp_gt (tgt := 1021) hx hb dL_law_29 (by decide) (fun c5 => absurd c5 (by decide)) (fun _ => ?_)
    refine lv_aload_n hx hb dL_law_32 rfl (lv_at hl 4 rfl) ?_
    refine lv_iload hx hb dL_law_33 (lv_at hl 0 rfl) ?_
    refine va_sld hx hb hX hbl hbA hS (zx_in rfl) dL_law_35 ?_
    refine lv_bipush (v := 15) hx hb dL_law_36 (by decide) ?_
    refine lv_iand hx hb dL_law_38 ?_
    obtain ⟨j, hj, ej⟩ := pk_andE (xs (Int32.toNatClampNeg 0)) (m := 15) 4 (by decide)
    rw [ej]
    have hj : j < 16 := hj
    rcases (show j = 0 ∨ j = 1 ∨ j = 2 ∨ j = 3 ∨ j = 4 ∨ j = 5 ∨ j = 6 ∨ j = 7 ∨ j = 8 ∨ j = 9 ∨ j = 10 ∨ j = 11 ∨ j = 12 ∨ j = 13 ∨ j = 14 ∨ j = 15 by omega) with rfl | rfl | rfl | rfl | rfl | rfl | rfl | rfl | rfl | rfl | rfl | rfl | rfl | rfl | rfl | rfl
    · refine lv_tableIn (off := 77) (tgt := 116) hx hb dL_law_39 (by decide) (by decide) (by decide) (by decide) ?_
      exact law_case_0 hl9 C1 hZ hK hP hD hS (lv_sub hl [4, 3, 2, 1, 0] rfl)
    · refine lv_tableIn (off := 121) (tgt := 160) hx hb dL_law_39 (by decide) (by decide) (by decide) (by decide) ?_
      exact law_case_1 hl9 C1 hZ hK hP hD hS (lv_sub hl [4, 3, 2, 1, 0] rfl)
    · refine lv_tableIn (off := 189) (tgt := 228) hx hb dL_law_39 (by decide) (by decide) (by decide) (by decide) ?_
      exact law_case_2 hl9 C1 hZ hK hP hD hS (lv_sub hl [4, 3, 2, 1, 0] rfl)
    · refine lv_tableIn (off := 245) (tgt := 284) hx hb dL_law_39 (by decide) (by decide) (by decide) (by decide) ?_
      exact law_case_3 hl9 C1 hZ hK hP hD hS (lv_sub hl [4, 3, 2, 1, 0] rfl)
    · refine lv_tableIn (off := 313) (tgt := 352) hx hb dL_law_39 (by decide) (by decide) (by decide) (by decide) ?_
      exact law_case_4 hl9 C1 hZ hK hP hD hS (lv_sub hl [4, 3, 2, 1, 0] rfl)
    · refine lv_tableIn (off := 369) (tgt := 408) hx hb dL_law_39 (by decide) (by decide) (by decide) (by decide) ?_
      exact law_case_5 hl9 C1 hZ hK hP hD hS (lv_sub hl [4, 3, 2, 1, 0] rfl)
    · refine lv_tableIn (off := 437) (tgt := 476) hx hb dL_law_39 (by decide) (by decide) (by decide) (by decide) ?_
      exact law_case_6 hl9 C1 hZ hK hP hD hS (lv_sub hl [4, 3, 2, 1, 0] rfl)
    · refine lv_tableIn (off := 493) (tgt := 532) hx hb dL_law_39 (by decide) (by decide) (by decide) (by decide) ?_
      exact law_case_7 hl9 C1 hZ hK hP hD hS (lv_sub hl [4, 3, 2, 1, 0] rfl)
    · refine lv_tableIn (off := 561) (tgt := 600) hx hb dL_law_39 (by decide) (by decide) (by decide) (by decide) ?_
      exact law_case_8 hl9 C1 hZ hK hP hD hS (lv_sub hl [4, 3, 2, 1, 0] rfl)
    · refine lv_tableIn (off := 641) (tgt := 680) hx hb dL_law_39 (by decide) (by decide) (by decide) (by decide) ?_
      exact law_case_9 hl9 C1 hZ hK hP hD hS (lv_sub hl [4, 3, 2, 1, 0] rfl)
    · refine lv_tableIn (off := 721) (tgt := 760) hx hb dL_law_39 (by decide) (by decide) (by decide) (by decide) ?_
      exact law_case_10 hl9 C1 hZ hK hP hD hS (lv_sub hl [4, 3, 2, 1, 0] rfl)
    · refine lv_tableIn (off := 796) (tgt := 835) hx hb dL_law_39 (by decide) (by decide) (by decide) (by decide) ?_
      exact law_case_11 hl9 C1 hZ hK hP hD hS (lv_sub hl [4, 3, 2, 1, 0] rfl)
    · refine lv_tableIn (off := 852) (tgt := 891) hx hb dL_law_39 (by decide) (by decide) (by decide) (by decide) ?_
      exact law_case_12 hl9 C1 hZ hK hP hD hS (lv_sub hl [4, 3, 2, 1, 0] rfl)
    · refine lv_tableIn (off := 865) (tgt := 904) hx hb dL_law_39 (by decide) (by decide) (by decide) (by decide) ?_
      exact law_case_13 hl9 C1 hZ hK hP hD hS (lv_sub hl [4, 3, 2, 1, 0] rfl)
    · refine lv_tableIn (off := 921) (tgt := 960) hx hb dL_law_39 (by decide) (by decide) (by decide) (by decide) ?_
      exact law_case_14 hl9 C1 hZ hK hP hD hS (lv_sub hl [4, 3, 2, 1, 0] rfl)
    · refine lv_tableIn (off := 962) (tgt := 1001) hx hb dL_law_39 (by decide) (by decide) (by decide) (by decide) ?_
      exact law_case_15 hl9 C1 hZ hK hP hD hS (lv_sub hl [4, 3, 2, 1, 0] rfl)
  · refine law_out C1 hS ?_ (lv_sub hl [4, 0] rfl) (Nat.le_of_ble_eq_true rfl) (Nat.le_of_ble_eq_true rfl)
    rcases (show L = 0 ∨ L = 1 ∨ L = 2 ∨ L = 3 by omega) with rfl | rfl | rfl | rfl <;> decide
