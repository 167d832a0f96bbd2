theorem zx_row9 {p0 : Int32} (hp : vp_in p0 9) : ((upd (upd (upd (upd (upd (upd (upd (upd (upd (fun _ => 0) (0 : Int32).toNatClampNeg (0)) (1 : Int32).toNatClampNeg (1)) (2 : Int32).toNatClampNeg (0)) (3 : Int32).toNatClampNeg (0)) (4 : Int32).toNatClampNeg ((-1))) (5 : Int32).toNatClampNeg ((-1))) (6 : Int32).toNatClampNeg ((-1))) (7 : Int32).toNatClampNeg ((-1))) (8 : Int32).toNatClampNeg ((-1))) : Nat → Int32) p0.toNatClampNeg = zx_c p0 := by
  obtain ⟨j, hj, rfl⟩ := vp_in_of hp (by decide)
  clear hp
  revert j
  decide +kernel
set_option maxHeartbeats 4000000 in
set_option maxRecDepth 100000 in
/-- counted of the reference -/
theorem c_X1_counted (l : Launch) (dC : Nat → ClassId) (dI : Nat → Nat → Nat) (h0 k0 : Nat) (cI : ClassId) (p0 : Int32) (hp : vp_in p0 9) (a4 a10 a11 : Value) (sz : Nat) : Met l yX1_counted wsX1_counted ({ frames := 10, cells := 1, slots := 9, locals := 240 }) (va_Pc [.ref h0, .int p0] (zx_pre (dC, dI) [(h0, zM 0 0 1 (.ref k0) a4 a10 a11), (k0, .inl (cI, 7, .inl (fun _ => 0)))] [(cI, .int)] sz)) (va_Qi (fun (r : Int32) (u : Unit) => r = zx_c p0) (fun (u : Unit) => zx_at (dC, dI) [(h0, zM 0 0 1 (.ref k0) a4 a10 a11), (k0, .inl (cI, 7, .inl (fun _ => 0)))] [(cI, .int)] (va_A [(h0, zM 0 0 1 (.ref k0) a4 a10 a11), (k0, .inl (cI, 7, .inl (fun _ => 0)))] sz)) (va_A [(h0, zM 0 0 1 (.ref k0) a4 a10 a11), (k0, .inl (cI, 7, .inl (fun _ => 0)))] sz)) 1 9 (va_A [(h0, zM 0 0 1 (.ref k0) a4 a10 a11), (k0, .inl (cI, 7, .inl (fun _ => 0)))] sz) := by
  refine Met.ofW (cc := cX1_counted) (maxL := 7) (ret := (some .int)) (by decide) rfl ?_
  intro p e s m args below meth c s₁ B hml hv
  obtain ⟨rfl, hsz, hP, hK, hD0, hZ⟩ := hv
  have hx := B.exec
  have hb := B.bytes
  have hr := B.returns
  have hts := atoms_spec (ws := wsX1_counted) B.pre
  have hown : s.vm.findClass RX1 = some m.cls := findClass_of_methodNamed B.named
  have hlocks := B.notSynchronized
  subst hsz
  have hD := hD0.self (sz := s.heap.size)
  generalize hAe : va_A [(h0, zM 0 0 1 (.ref k0) a4 a10 a11), (k0, .inl (cI, 7, .inl (fun _ => 0)))] s.heap.size = A at hD hZ ⊢
  have hA : ∀ q : Nat, s.heap.size ≤ q → A q := fun q h => by rw [← hAe]; exact Or.inr h
  have hS : va_S A s.heap s.heap [] := va_S.rf
  have hP : va_P (dC, dI) vwCl [(h0, zM 0 0 1 (.ref k0) a4 a10 a11), (k0, .inl (cI, 7, .inl (fun _ => 0)))] s.heap := hP
  have hl := lv_entry ([.ref h0, .int p0]) (n := 7) (Nat.le_of_ble_eq_true rfl)
  rw [lg_entry_eq]
  generalize (lg_sl ([.ref h0, .int p0]) ++ List.replicate (7 - (lg_sl ([.ref h0, .int p0])).length) Slot.unset).toArray = ls at hl ⊢
  have hl : lv_has ls 7 [(0, .ref h0), (1, .int p0)] := hl
  refine lv_iconst (v := 0) hx hb dX1_counted_0 (by decide) ?_
  refine lv_istore_n (lv' := [(2, .int 0), (0, .ref h0), (1, .int p0)]) hx hb dX1_counted_1 rfl hl (by decide) rfl (fun ls hl => ?_)
  refine lv_aload_n hx hb dX1_counted_2 rfl (lv_at hl 1 rfl) ?_
  refine va_get (D := (dC, dI)) (ci := 1) (v := .ref k0) (C := RX1) (T := TX1) (N := 12) hx hb hts (by decide +kernel) hown hK hP 0 rfl rfl 3 (by decide) (hts (.fieldLink RX1 13 "LiarTentsModel" "kind" "[I") (by decide +kernel)) (fun _ h9 => h9) rfl dX1_counted_3 ?_
  refine lv_astore_n (lv' := [(3, .ref k0), (2, .int 0), (0, .ref h0), (1, .int p0)]) hx hb dX1_counted_6 rfl hl (by decide) rfl (fun ls hl => ?_)
  refine lv_aload_n hx hb dX1_counted_7 rfl (lv_at hl 0 rfl) ?_
  refine va_alen (v := 7) hx hb hK hP 1 0 rfl rfl rfl dX1_counted_8 ?_
  refine lv_istore (lv' := [(4, .int 7), (3, .ref k0), (2, .int 0), (0, .ref h0), (1, .int p0)]) hx hb dX1_counted_9 hl (by decide) rfl (fun ls hl => ?_)
  refine lv_iconst (v := 0) hx hb dX1_counted_11 (by decide) ?_
  refine lv_istore (lv' := [(5, .int 0), (4, .int 7), (3, .ref k0), (2, .int 0), (0, .ref h0), (1, .int p0)]) hx hb dX1_counted_12 hl (by decide) rfl (fun ls hl => ?_)
  refine lv_iload hx hb dX1_counted_14 (lv_at hl 0 rfl) ?_
  refine lv_iload hx hb dX1_counted_16 (lv_at hl 1 rfl) ?_
  refine lv_icmp_ge (tgt := 46) hx hb dX1_counted_18 (by decide) (fun c1 => absurd c1 (by decide)) (fun _ => ?_)
  refine lv_aload_n hx hb dX1_counted_21 rfl (lv_at hl 2 rfl) ?_
  refine lv_iload hx hb dX1_counted_22 (lv_at hl 0 rfl) ?_
  refine va_iald hx hb hK hP 1 0 rfl rfl (zx_in rfl) dX1_counted_24 ?_
  refine lv_topi (fun z2 ez2 => ?_)
  obtain rfl : z2 = 0 := ez2.trans rfl
  refine lv_istore (lv' := [(6, .int 0), (5, .int 0), (4, .int 7), (3, .ref k0), (2, .int 0), (0, .ref h0), (1, .int p0)]) hx hb dX1_counted_25 hl (by decide) rfl (fun ls hl => ?_)
  refine lv_iload_n hx hb dX1_counted_27 rfl (lv_at hl 4 rfl) ?_
  refine lv_iload hx hb dX1_counted_28 (lv_at hl 0 rfl) ?_
  refine lv_if_ne (tgt := 37) hx hb dX1_counted_30 (by decide) (fun c3 => absurd c3 (by decide)) (fun _ => ?_)
  refine lv_iconst (v := 0) hx hb dX1_counted_33 (by decide) ?_
  refine lv_goto (tgt := 38) hx hb dX1_counted_34 (by decide) ?_
  refine lv_iadd hx hb dX1_counted_38 ?_
  refine lv_topi (fun z4 ez4 => ?_)
  obtain rfl : z4 = 0 := ez4.trans (by decide)
  refine lv_istore_n (lv' := [(2, .int 0), (6, .int 0), (5, .int 0), (4, .int 7), (3, .ref k0), (0, .ref h0), (1, .int p0)]) hx hb dX1_counted_39 rfl hl (by decide) rfl (fun ls hl => ?_)
  refine lv_iinc (v := 1) (lv' := [(5, .int 1), (2, .int 0), (6, .int 0), (4, .int 7), (3, .ref k0), (0, .ref h0), (1, .int p0)]) hx hb dX1_counted_40 hl (k := 2) rfl (by decide) (by decide) rfl (fun ls hl => ?_)
  refine lv_goto (tgt := 14) hx hb dX1_counted_43 (by decide) ?_
  refine lv_iload hx hb dX1_counted_14 (lv_at hl 0 rfl) ?_
  refine lv_iload hx hb dX1_counted_16 (lv_at hl 3 rfl) ?_
  refine lv_icmp_ge (tgt := 46) hx hb dX1_counted_18 (by decide) (fun c5 => absurd c5 (by decide)) (fun _ => ?_)
  refine lv_aload_n hx hb dX1_counted_21 rfl (lv_at hl 4 rfl) ?_
  refine lv_iload hx hb dX1_counted_22 (lv_at hl 0 rfl) ?_
  refine va_iald hx hb hK hP 1 0 rfl rfl (zx_in rfl) dX1_counted_24 ?_
  refine lv_topi (fun z6 ez6 => ?_)
  obtain rfl : z6 = 0 := ez6.trans rfl
  refine lv_istore (lv' := [(6, .int 0), (5, .int 1), (2, .int 0), (4, .int 7), (3, .ref k0), (0, .ref h0), (1, .int p0)]) hx hb dX1_counted_25 hl (by decide) rfl (fun ls hl => ?_)
  refine lv_iload_n hx hb dX1_counted_27 rfl (lv_at hl 2 rfl) ?_
  refine lv_iload hx hb dX1_counted_28 (lv_at hl 0 rfl) ?_
  refine lv_if_ne (tgt := 37) hx hb dX1_counted_30 (by decide) (fun c7 => absurd c7 (by decide)) (fun _ => ?_)
  refine lv_iconst (v := 0) hx hb dX1_counted_33 (by decide) ?_
  refine lv_goto (tgt := 38) hx hb dX1_counted_34 (by decide) ?_
  refine lv_iadd hx hb dX1_counted_38 ?_
  refine lv_topi (fun z8 ez8 => ?_)
  obtain rfl : z8 = 0 := ez8.trans (by decide)
  refine lv_istore_n (lv' := [(2, .int 0), (6, .int 0), (5, .int 1), (4, .int 7), (3, .ref k0), (0, .ref h0), (1, .int p0)]) hx hb dX1_counted_39 rfl hl (by decide) rfl (fun ls hl => ?_)
  refine lv_iinc (v := 2) (lv' := [(5, .int 2), (2, .int 0), (6, .int 0), (4, .int 7), (3, .ref k0), (0, .ref h0), (1, .int p0)]) hx hb dX1_counted_40 hl (k := 2) rfl (by decide) (by decide) rfl (fun ls hl => ?_)
  refine lv_goto (tgt := 14) hx hb dX1_counted_43 (by decide) ?_
  refine lv_iload hx hb dX1_counted_14 (lv_at hl 0 rfl) ?_
  refine lv_iload hx hb dX1_counted_16 (lv_at hl 3 rfl) ?_
  refine lv_icmp_ge (tgt := 46) hx hb dX1_counted_18 (by decide) (fun c9 => absurd c9 (by decide)) (fun _ => ?_)
  refine lv_aload_n hx hb dX1_counted_21 rfl (lv_at hl 4 rfl) ?_
  refine lv_iload hx hb dX1_counted_22 (lv_at hl 0 rfl) ?_
  refine va_iald hx hb hK hP 1 0 rfl rfl (zx_in rfl) dX1_counted_24 ?_
  refine lv_topi (fun z10 ez10 => ?_)
  obtain rfl : z10 = 0 := ez10.trans rfl
  refine lv_istore (lv' := [(6, .int 0), (5, .int 2), (2, .int 0), (4, .int 7), (3, .ref k0), (0, .ref h0), (1, .int p0)]) hx hb dX1_counted_25 hl (by decide) rfl (fun ls hl => ?_)
  refine lv_iload_n hx hb dX1_counted_27 rfl (lv_at hl 2 rfl) ?_
  refine lv_iload hx hb dX1_counted_28 (lv_at hl 0 rfl) ?_
  refine lv_if_ne (tgt := 37) hx hb dX1_counted_30 (by decide) (fun c11 => absurd c11 (by decide)) (fun _ => ?_)
  refine lv_iconst (v := 0) hx hb dX1_counted_33 (by decide) ?_
  refine lv_goto (tgt := 38) hx hb dX1_counted_34 (by decide) ?_
  refine lv_iadd hx hb dX1_counted_38 ?_
  refine lv_topi (fun z12 ez12 => ?_)
  obtain rfl : z12 = 0 := ez12.trans (by decide)
  refine lv_istore_n (lv' := [(2, .int 0), (6, .int 0), (5, .int 2), (4, .int 7), (3, .ref k0), (0, .ref h0), (1, .int p0)]) hx hb dX1_counted_39 rfl hl (by decide) rfl (fun ls hl => ?_)
  refine lv_iinc (v := 3) (lv' := [(5, .int 3), (2, .int 0), (6, .int 0), (4, .int 7), (3, .ref k0), (0, .ref h0), (1, .int p0)]) hx hb dX1_counted_40 hl (k := 2) rfl (by decide) (by decide) rfl (fun ls hl => ?_)
  refine lv_goto (tgt := 14) hx hb dX1_counted_43 (by decide) ?_
  refine lv_iload hx hb dX1_counted_14 (lv_at hl 0 rfl) ?_
  refine lv_iload hx hb dX1_counted_16 (lv_at hl 3 rfl) ?_
  refine lv_icmp_ge (tgt := 46) hx hb dX1_counted_18 (by decide) (fun c13 => absurd c13 (by decide)) (fun _ => ?_)
  refine lv_aload_n hx hb dX1_counted_21 rfl (lv_at hl 4 rfl) ?_
  refine lv_iload hx hb dX1_counted_22 (lv_at hl 0 rfl) ?_
  refine va_iald hx hb hK hP 1 0 rfl rfl (zx_in rfl) dX1_counted_24 ?_
  refine lv_topi (fun z14 ez14 => ?_)
  obtain rfl : z14 = 0 := ez14.trans rfl
  refine lv_istore (lv' := [(6, .int 0), (5, .int 3), (2, .int 0), (4, .int 7), (3, .ref k0), (0, .ref h0), (1, .int p0)]) hx hb dX1_counted_25 hl (by decide) rfl (fun ls hl => ?_)
  refine lv_iload_n hx hb dX1_counted_27 rfl (lv_at hl 2 rfl) ?_
  refine lv_iload hx hb dX1_counted_28 (lv_at hl 0 rfl) ?_
  refine lv_if_ne (tgt := 37) hx hb dX1_counted_30 (by decide) (fun c15 => absurd c15 (by decide)) (fun _ => ?_)
  refine lv_iconst (v := 0) hx hb dX1_counted_33 (by decide) ?_
  refine lv_goto (tgt := 38) hx hb dX1_counted_34 (by decide) ?_
  refine lv_iadd hx hb dX1_counted_38 ?_
  refine lv_topi (fun z16 ez16 => ?_)
  obtain rfl : z16 = 0 := ez16.trans (by decide)
  refine lv_istore_n (lv' := [(2, .int 0), (6, .int 0), (5, .int 3), (4, .int 7), (3, .ref k0), (0, .ref h0), (1, .int p0)]) hx hb dX1_counted_39 rfl hl (by decide) rfl (fun ls hl => ?_)
  refine lv_iinc (v := 4) (lv' := [(5, .int 4), (2, .int 0), (6, .int 0), (4, .int 7), (3, .ref k0), (0, .ref h0), (1, .int p0)]) hx hb dX1_counted_40 hl (k := 2) rfl (by decide) (by decide) rfl (fun ls hl => ?_)
  refine lv_goto (tgt := 14) hx hb dX1_counted_43 (by decide) ?_
  refine lv_iload hx hb dX1_counted_14 (lv_at hl 0 rfl) ?_
  refine lv_iload hx hb dX1_counted_16 (lv_at hl 3 rfl) ?_
  refine lv_icmp_ge (tgt := 46) hx hb dX1_counted_18 (by decide) (fun c17 => absurd c17 (by decide)) (fun _ => ?_)
  refine lv_aload_n hx hb dX1_counted_21 rfl (lv_at hl 4 rfl) ?_
  refine lv_iload hx hb dX1_counted_22 (lv_at hl 0 rfl) ?_
  refine va_iald hx hb hK hP 1 0 rfl rfl (zx_in rfl) dX1_counted_24 ?_
  refine lv_topi (fun z18 ez18 => ?_)
  obtain rfl : z18 = 0 := ez18.trans rfl
  refine lv_istore (lv' := [(6, .int 0), (5, .int 4), (2, .int 0), (4, .int 7), (3, .ref k0), (0, .ref h0), (1, .int p0)]) hx hb dX1_counted_25 hl (by decide) rfl (fun ls hl => ?_)
  refine lv_iload_n hx hb dX1_counted_27 rfl (lv_at hl 2 rfl) ?_
  refine lv_iload hx hb dX1_counted_28 (lv_at hl 0 rfl) ?_
  refine lv_if_ne (tgt := 37) hx hb dX1_counted_30 (by decide) (fun c19 => absurd c19 (by decide)) (fun _ => ?_)
  refine lv_iconst (v := 0) hx hb dX1_counted_33 (by decide) ?_
  refine lv_goto (tgt := 38) hx hb dX1_counted_34 (by decide) ?_
  refine lv_iadd hx hb dX1_counted_38 ?_
  refine lv_topi (fun z20 ez20 => ?_)
  obtain rfl : z20 = 0 := ez20.trans (by decide)
  refine lv_istore_n (lv' := [(2, .int 0), (6, .int 0), (5, .int 4), (4, .int 7), (3, .ref k0), (0, .ref h0), (1, .int p0)]) hx hb dX1_counted_39 rfl hl (by decide) rfl (fun ls hl => ?_)
  refine lv_iinc (v := 5) (lv' := [(5, .int 5), (2, .int 0), (6, .int 0), (4, .int 7), (3, .ref k0), (0, .ref h0), (1, .int p0)]) hx hb dX1_counted_40 hl (k := 2) rfl (by decide) (by decide) rfl (fun ls hl => ?_)
  refine lv_goto (tgt := 14) hx hb dX1_counted_43 (by decide) ?_
  refine lv_iload hx hb dX1_counted_14 (lv_at hl 0 rfl) ?_
  refine lv_iload hx hb dX1_counted_16 (lv_at hl 3 rfl) ?_
  refine lv_icmp_ge (tgt := 46) hx hb dX1_counted_18 (by decide) (fun c21 => absurd c21 (by decide)) (fun _ => ?_)
  refine lv_aload_n hx hb dX1_counted_21 rfl (lv_at hl 4 rfl) ?_
  refine lv_iload hx hb dX1_counted_22 (lv_at hl 0 rfl) ?_
  refine va_iald hx hb hK hP 1 0 rfl rfl (zx_in rfl) dX1_counted_24 ?_
  refine lv_topi (fun z22 ez22 => ?_)
  obtain rfl : z22 = 0 := ez22.trans rfl
  refine lv_istore (lv' := [(6, .int 0), (5, .int 5), (2, .int 0), (4, .int 7), (3, .ref k0), (0, .ref h0), (1, .int p0)]) hx hb dX1_counted_25 hl (by decide) rfl (fun ls hl => ?_)
  refine lv_iload_n hx hb dX1_counted_27 rfl (lv_at hl 2 rfl) ?_
  refine lv_iload hx hb dX1_counted_28 (lv_at hl 0 rfl) ?_
  refine lv_if_ne (tgt := 37) hx hb dX1_counted_30 (by decide) (fun c23 => absurd c23 (by decide)) (fun _ => ?_)
  refine lv_iconst (v := 0) hx hb dX1_counted_33 (by decide) ?_
  refine lv_goto (tgt := 38) hx hb dX1_counted_34 (by decide) ?_
  refine lv_iadd hx hb dX1_counted_38 ?_
  refine lv_topi (fun z24 ez24 => ?_)
  obtain rfl : z24 = 0 := ez24.trans (by decide)
  refine lv_istore_n (lv' := [(2, .int 0), (6, .int 0), (5, .int 5), (4, .int 7), (3, .ref k0), (0, .ref h0), (1, .int p0)]) hx hb dX1_counted_39 rfl hl (by decide) rfl (fun ls hl => ?_)
  refine lv_iinc (v := 6) (lv' := [(5, .int 6), (2, .int 0), (6, .int 0), (4, .int 7), (3, .ref k0), (0, .ref h0), (1, .int p0)]) hx hb dX1_counted_40 hl (k := 2) rfl (by decide) (by decide) rfl (fun ls hl => ?_)
  refine lv_goto (tgt := 14) hx hb dX1_counted_43 (by decide) ?_
  refine lv_iload hx hb dX1_counted_14 (lv_at hl 0 rfl) ?_
  refine lv_iload hx hb dX1_counted_16 (lv_at hl 3 rfl) ?_
  refine lv_icmp_ge (tgt := 46) hx hb dX1_counted_18 (by decide) (fun c25 => absurd c25 (by decide)) (fun _ => ?_)
  refine lv_aload_n hx hb dX1_counted_21 rfl (lv_at hl 4 rfl) ?_
  refine lv_iload hx hb dX1_counted_22 (lv_at hl 0 rfl) ?_
  refine va_iald hx hb hK hP 1 0 rfl rfl (zx_in rfl) dX1_counted_24 ?_
  refine lv_topi (fun z26 ez26 => ?_)
  obtain rfl : z26 = 0 := ez26.trans rfl
  refine lv_istore (lv' := [(6, .int 0), (5, .int 6), (2, .int 0), (4, .int 7), (3, .ref k0), (0, .ref h0), (1, .int p0)]) hx hb dX1_counted_25 hl (by decide) rfl (fun ls hl => ?_)
  refine lv_iload_n hx hb dX1_counted_27 rfl (lv_at hl 2 rfl) ?_
  refine lv_iload hx hb dX1_counted_28 (lv_at hl 0 rfl) ?_
  refine lv_if_ne (tgt := 37) hx hb dX1_counted_30 (by decide) (fun c27 => absurd c27 (by decide)) (fun _ => ?_)
  refine lv_iconst (v := 0) hx hb dX1_counted_33 (by decide) ?_
  refine lv_goto (tgt := 38) hx hb dX1_counted_34 (by decide) ?_
  refine lv_iadd hx hb dX1_counted_38 ?_
  refine lv_topi (fun z28 ez28 => ?_)
  obtain rfl : z28 = 0 := ez28.trans (by decide)
  refine lv_istore_n (lv' := [(2, .int 0), (6, .int 0), (5, .int 6), (4, .int 7), (3, .ref k0), (0, .ref h0), (1, .int p0)]) hx hb dX1_counted_39 rfl hl (by decide) rfl (fun ls hl => ?_)
  refine lv_iinc (v := 7) (lv' := [(5, .int 7), (2, .int 0), (6, .int 0), (4, .int 7), (3, .ref k0), (0, .ref h0), (1, .int p0)]) hx hb dX1_counted_40 hl (k := 2) rfl (by decide) (by decide) rfl (fun ls hl => ?_)
  refine lv_goto (tgt := 14) hx hb dX1_counted_43 (by decide) ?_
  refine lv_iload hx hb dX1_counted_14 (lv_at hl 0 rfl) ?_
  refine lv_iload hx hb dX1_counted_16 (lv_at hl 3 rfl) ?_
  refine lv_icmp_ge (tgt := 46) hx hb dX1_counted_18 (by decide) (fun _ => ?_) (fun c29 => absurd (by decide) c29)
  refine lv_bipush (v := 9) hx hb dX1_counted_46 (by decide) ?_
  refine va_newa (atype := .int) (a0 := (9, .inl (fun _ => 0))) (N' := 9) hx hb (hts (.arrayClass .int) (by decide +kernel)) rfl hK hP hD hS hA (fun _ => rfl) (by decide) (by decide) (Nat.le_of_ble_eq_true rfl) (Nat.le_of_ble_eq_true rfl) (Nat.le_of_ble_eq_true rfl) dX1_counted_48 (fun q30 cA31 H hK hP hD hS => ?_)
  have hP : va_P (dC, dI) vwCl [(h0, zM 0 0 1 (.ref k0) a4 a10 a11), (k0, .inl (cI, 7, .inl (fun _ => 0))), (q30, .inl (cA31, 9, .inl (fun _ => 0)))] H := hP
  have hD : va_D A [(h0, zM 0 0 1 (.ref k0) a4 a10 a11), (k0, .inl (cI, 7, .inl (fun _ => 0))), (q30, .inl (cA31, 9, .inl (fun _ => 0)))] := hD
  have hK : va_K (dC, dI) vwCl [(cI, .int), (cA31, .int)] s := hK
  refine W.widen (k := 1) (n := 9) (by omega) (by omega) ?_
  refine lv_dup hx hb dX1_counted_50 rfl ?_
  refine lv_iconst (v := 0) hx hb dX1_counted_51 (by decide) ?_
  refine lv_aload_n hx hb dX1_counted_52 rfl (lv_at hl 5 rfl) ?_
  refine va_get (D := (dC, dI)) (ci := 1) (v := .int 0) (C := RX1) (T := TX1) (N := 12) hx hb hts (by decide +kernel) hown hK hP 0 rfl rfl 1 (by decide) (hts (.fieldLink RX1 40 "LiarTentsModel" "generals" "I") (by decide +kernel)) (fun _ h9 => h9) rfl dX1_counted_53 ?_
  refine va_iast hx hb hK hP hD hS 2 1 rfl rfl (zx_in rfl) dX1_counted_56 (fun H locs hP hD hS => ?_)
  have hP : va_P (dC, dI) vwCl [(h0, zM 0 0 1 (.ref k0) a4 a10 a11), (k0, .inl (cI, 7, .inl (fun _ => 0))), (q30, .inl (cA31, 9, .inl (upd (fun _ => 0) (0 : Int32).toNatClampNeg (0))))] H := hP
  have hD : va_D A [(h0, zM 0 0 1 (.ref k0) a4 a10 a11), (k0, .inl (cI, 7, .inl (fun _ => 0))), (q30, .inl (cA31, 9, .inl (upd (fun _ => 0) (0 : Int32).toNatClampNeg (0))))] := hD
  refine lv_dup hx hb dX1_counted_57 rfl ?_
  refine lv_iconst (v := 1) hx hb dX1_counted_58 (by decide) ?_
  refine lv_aload_n hx hb dX1_counted_59 rfl (lv_at hl 5 rfl) ?_
  refine va_get (D := (dC, dI)) (ci := 1) (v := .int 1) (C := RX1) (T := TX1) (N := 12) hx hb hts (by decide +kernel) hown hK hP 0 rfl rfl 2 (by decide) (hts (.fieldLink RX1 7 "LiarTentsModel" "rounds" "I") (by decide +kernel)) (fun _ h9 => h9) rfl dX1_counted_60 ?_
  refine va_iast hx hb hK hP hD hS 2 1 rfl rfl (zx_in rfl) dX1_counted_63 (fun H locs hP hD hS => ?_)
  have hP : va_P (dC, dI) vwCl [(h0, zM 0 0 1 (.ref k0) a4 a10 a11), (k0, .inl (cI, 7, .inl (fun _ => 0))), (q30, .inl (cA31, 9, .inl (upd (upd (fun _ => 0) (0 : Int32).toNatClampNeg (0)) (1 : Int32).toNatClampNeg (1))))] H := hP
  have hD : va_D A [(h0, zM 0 0 1 (.ref k0) a4 a10 a11), (k0, .inl (cI, 7, .inl (fun _ => 0))), (q30, .inl (cA31, 9, .inl (upd (upd (fun _ => 0) (0 : Int32).toNatClampNeg (0)) (1 : Int32).toNatClampNeg (1))))] := hD
  refine lv_dup hx hb dX1_counted_64 rfl ?_
  refine lv_iconst (v := 2) hx hb dX1_counted_65 (by decide) ?_
  refine lv_iload_n hx hb dX1_counted_66 rfl (lv_at hl 1 rfl) ?_
  refine va_iast hx hb hK hP hD hS 2 1 rfl rfl (zx_in rfl) dX1_counted_67 (fun H locs hP hD hS => ?_)
  have hP : va_P (dC, dI) vwCl [(h0, zM 0 0 1 (.ref k0) a4 a10 a11), (k0, .inl (cI, 7, .inl (fun _ => 0))), (q30, .inl (cA31, 9, .inl (upd (upd (upd (fun _ => 0) (0 : Int32).toNatClampNeg (0)) (1 : Int32).toNatClampNeg (1)) (2 : Int32).toNatClampNeg (0))))] H := hP
  have hD : va_D A [(h0, zM 0 0 1 (.ref k0) a4 a10 a11), (k0, .inl (cI, 7, .inl (fun _ => 0))), (q30, .inl (cA31, 9, .inl (upd (upd (upd (fun _ => 0) (0 : Int32).toNatClampNeg (0)) (1 : Int32).toNatClampNeg (1)) (2 : Int32).toNatClampNeg (0))))] := hD
  refine lv_dup hx hb dX1_counted_68 rfl ?_
  refine lv_iconst (v := 3) hx hb dX1_counted_69 (by decide) ?_
  refine lv_aload_n hx hb dX1_counted_70 rfl (lv_at hl 5 rfl) ?_
  refine va_get (D := (dC, dI)) (ci := 1) (v := .int 0) (C := RX1) (T := TX1) (N := 12) hx hb hts (by decide +kernel) hown hK hP 0 rfl rfl 5 (by decide) (hts (.fieldLink RX1 87 "LiarTentsModel" "councils" "I") (by decide +kernel)) (fun _ h9 => h9) rfl dX1_counted_71 ?_
  refine va_iast hx hb hK hP hD hS 2 1 rfl rfl (zx_in rfl) dX1_counted_74 (fun H locs hP hD hS => ?_)
  have hP : va_P (dC, dI) vwCl [(h0, zM 0 0 1 (.ref k0) a4 a10 a11), (k0, .inl (cI, 7, .inl (fun _ => 0))), (q30, .inl (cA31, 9, .inl (upd (upd (upd (upd (fun _ => 0) (0 : Int32).toNatClampNeg (0)) (1 : Int32).toNatClampNeg (1)) (2 : Int32).toNatClampNeg (0)) (3 : Int32).toNatClampNeg (0))))] H := hP
  have hD : va_D A [(h0, zM 0 0 1 (.ref k0) a4 a10 a11), (k0, .inl (cI, 7, .inl (fun _ => 0))), (q30, .inl (cA31, 9, .inl (upd (upd (upd (upd (fun _ => 0) (0 : Int32).toNatClampNeg (0)) (1 : Int32).toNatClampNeg (1)) (2 : Int32).toNatClampNeg (0)) (3 : Int32).toNatClampNeg (0))))] := hD
  refine lv_dup hx hb dX1_counted_75 rfl ?_
  refine lv_iconst (v := 4) hx hb dX1_counted_76 (by decide) ?_
  refine lv_aload_n hx hb dX1_counted_77 rfl (lv_at hl 5 rfl) ?_
  refine va_get (D := (dC, dI)) (ci := 1) (v := .int (-1)) (C := RX1) (T := TX1) (N := 12) hx hb hts (by decide +kernel) hown hK hP 0 rfl rfl 9 (by decide) (hts (.fieldLink RX1 28 "LiarTentsModel" "runs" "I") (by decide +kernel)) (fun _ h9 => h9) rfl dX1_counted_78 ?_
  refine va_iast hx hb hK hP hD hS 2 1 rfl rfl (zx_in rfl) dX1_counted_81 (fun H locs hP hD hS => ?_)
  have hP : va_P (dC, dI) vwCl [(h0, zM 0 0 1 (.ref k0) a4 a10 a11), (k0, .inl (cI, 7, .inl (fun _ => 0))), (q30, .inl (cA31, 9, .inl (upd (upd (upd (upd (upd (fun _ => 0) (0 : Int32).toNatClampNeg (0)) (1 : Int32).toNatClampNeg (1)) (2 : Int32).toNatClampNeg (0)) (3 : Int32).toNatClampNeg (0)) (4 : Int32).toNatClampNeg ((-1)))))] H := hP
  have hD : va_D A [(h0, zM 0 0 1 (.ref k0) a4 a10 a11), (k0, .inl (cI, 7, .inl (fun _ => 0))), (q30, .inl (cA31, 9, .inl (upd (upd (upd (upd (upd (fun _ => 0) (0 : Int32).toNatClampNeg (0)) (1 : Int32).toNatClampNeg (1)) (2 : Int32).toNatClampNeg (0)) (3 : Int32).toNatClampNeg (0)) (4 : Int32).toNatClampNeg ((-1)))))] := hD
  refine lv_dup hx hb dX1_counted_82 rfl ?_
  refine lv_iconst (v := 5) hx hb dX1_counted_83 (by decide) ?_
  refine lv_aload_n hx hb dX1_counted_84 rfl (lv_at hl 5 rfl) ?_
  refine lv_iconst (v := 1) hx hb dX1_counted_85 (by decide) ?_
  have hPc := hP.sub (ws' := [(h0, zM 0 0 1 (.ref k0) a4 a10 a11)]) [0] rfl
  have hDc := hD.sub (ws' := [(h0, zM 0 0 1 (.ref k0) a4 a10 a11)]) [0] (by decide) rfl
  have hKc := hK.sub (tys' := []) [] rfl
  have hFc := va_free (wc := [(h0, zM 0 0 1 (.ref k0) a4 a10 a11)]) hD hS hA [0] rfl
  refine va_calli (va_runV (As := [.int 1]) (rest := [.int 5, .ref q30, .ref q30]) ⟨hx, hb, hml, hown, hts⟩ (c_X1_loyalThatDo l dC dI h0 1 (.ref k0) a4 a10 a11 H.size) (cwV 1 hts gX1_counted_X1_loyalThatDo rfl rfl rfl (by decide +kernel) ⟨Nat.le_of_ble_eq_true rfl, Nat.le_of_ble_eq_true rfl⟩) ⟨zx_blind, va_recv hKc hPc (ci := 1) (q0 := 0) rfl rfl, fun U hU hW => ⟨rfl, zx_go hPc hKc hDc hZ hS hFc hU hW⟩⟩ rfl rfl hl.1 rfl (lv_room (Nat.le_of_ble_eq_true rfl)) dX1_counted_86 ⟨Nat.le_of_ble_eq_true rfl, Nat.le_of_ble_eq_true rfl⟩) hS (fun q _ h => hFc q h) hFc (fun r u t H1 locs ht hvm hw hB hz1 hk1 hS => ?_)
  obtain ⟨hP1, hK1, hD1⟩ := hB
  rw [ht] at hP1
  have hK1 := va_K.moved hvm.symm hK1
  try dsimp only at hw hP1 hD1 hK1
  obtain ⟨hP, hD⟩ := va_join (wr := [(k0, .inl (cI, 7, .inl (fun _ => 0))), (q30, .inl (cA31, 9, .inl (upd (upd (upd (upd (upd (fun _ => 0) (0 : Int32).toNatClampNeg (0)) (1 : Int32).toNatClampNeg (1)) (2 : Int32).toNatClampNeg (0)) (3 : Int32).toNatClampNeg (0)) (4 : Int32).toNatClampNeg ((-1)))))]) (w1 := [(h0, zM 0 0 1 (.ref k0) a4 a10 a11)]) hP hD [0] [1, 2] rfl rfl (by decide) (by decide) hk1 hFc hP1 hD1
  generalize H1 = H at hP hS ⊢
  have hP : va_P (dC, dI) vwCl [(k0, .inl (cI, 7, .inl (fun _ => 0))), (q30, .inl (cA31, 9, .inl (upd (upd (upd (upd (upd (fun _ => 0) (0 : Int32).toNatClampNeg (0)) (1 : Int32).toNatClampNeg (1)) (2 : Int32).toNatClampNeg (0)) (3 : Int32).toNatClampNeg (0)) (4 : Int32).toNatClampNeg ((-1))))), (h0, zM 0 0 1 (.ref k0) a4 a10 a11)] H := hP
  have hD : va_D A [(k0, .inl (cI, 7, .inl (fun _ => 0))), (q30, .inl (cA31, 9, .inl (upd (upd (upd (upd (upd (fun _ => 0) (0 : Int32).toNatClampNeg (0)) (1 : Int32).toNatClampNeg (1)) (2 : Int32).toNatClampNeg (0)) (3 : Int32).toNatClampNeg (0)) (4 : Int32).toNatClampNeg ((-1))))), (h0, zM 0 0 1 (.ref k0) a4 a10 a11)] := hD
  obtain rfl : r = (-1) := hw
  refine va_iast hx hb hK hP hD hS 1 1 rfl rfl (zx_in rfl) dX1_counted_89 (fun H locs hP hD hS => ?_)
  have hP : va_P (dC, dI) vwCl [(k0, .inl (cI, 7, .inl (fun _ => 0))), (q30, .inl (cA31, 9, .inl (upd (upd (upd (upd (upd (upd (fun _ => 0) (0 : Int32).toNatClampNeg (0)) (1 : Int32).toNatClampNeg (1)) (2 : Int32).toNatClampNeg (0)) (3 : Int32).toNatClampNeg (0)) (4 : Int32).toNatClampNeg ((-1))) (5 : Int32).toNatClampNeg ((-1))))), (h0, zM 0 0 1 (.ref k0) a4 a10 a11)] H := hP
  have hD : va_D A [(k0, .inl (cI, 7, .inl (fun _ => 0))), (q30, .inl (cA31, 9, .inl (upd (upd (upd (upd (upd (upd (fun _ => 0) (0 : Int32).toNatClampNeg (0)) (1 : Int32).toNatClampNeg (1)) (2 : Int32).toNatClampNeg (0)) (3 : Int32).toNatClampNeg (0)) (4 : Int32).toNatClampNeg ((-1))) (5 : Int32).toNatClampNeg ((-1))))), (h0, zM 0 0 1 (.ref k0) a4 a10 a11)] := hD
  refine lv_dup hx hb dX1_counted_90 rfl ?_
  refine lv_bipush (v := 6) hx hb dX1_counted_91 (by decide) ?_
  refine lv_aload_n hx hb dX1_counted_93 rfl (lv_at hl 5 rfl) ?_
  refine lv_iconst (v := 0) hx hb dX1_counted_94 (by decide) ?_
  have hPc := hP.sub (ws' := [(h0, zM 0 0 1 (.ref k0) a4 a10 a11)]) [2] rfl
  have hDc := hD.sub (ws' := [(h0, zM 0 0 1 (.ref k0) a4 a10 a11)]) [2] (by decide) rfl
  have hKc := hK.sub (tys' := []) [] rfl
  have hFc := va_free (wc := [(h0, zM 0 0 1 (.ref k0) a4 a10 a11)]) hD hS hA [2] rfl
  refine va_calli (va_runV (As := [.int 0]) (rest := [.int 6, .ref q30, .ref q30]) ⟨hx, hb, hml, hown, hts⟩ (c_X1_loyalThatDo l dC dI h0 0 (.ref k0) a4 a10 a11 H.size) (cwV 1 hts gX1_counted_X1_loyalThatDo rfl rfl rfl (by decide +kernel) ⟨Nat.le_of_ble_eq_true rfl, Nat.le_of_ble_eq_true rfl⟩) ⟨zx_blind, va_recv hKc hPc (ci := 1) (q0 := 0) rfl rfl, fun U hU hW => ⟨rfl, zx_go hPc hKc hDc hZ hS hFc hU hW⟩⟩ rfl rfl hl.1 rfl (lv_room (Nat.le_of_ble_eq_true rfl)) dX1_counted_95 ⟨Nat.le_of_ble_eq_true rfl, Nat.le_of_ble_eq_true rfl⟩) hS (fun q _ h => hFc q h) hFc (fun r u t H1 locs ht hvm hw hB hz1 hk1 hS => ?_)
  obtain ⟨hP1, hK1, hD1⟩ := hB
  rw [ht] at hP1
  have hK1 := va_K.moved hvm.symm hK1
  try dsimp only at hw hP1 hD1 hK1
  obtain ⟨hP, hD⟩ := va_join (wr := [(k0, .inl (cI, 7, .inl (fun _ => 0))), (q30, .inl (cA31, 9, .inl (upd (upd (upd (upd (upd (upd (fun _ => 0) (0 : Int32).toNatClampNeg (0)) (1 : Int32).toNatClampNeg (1)) (2 : Int32).toNatClampNeg (0)) (3 : Int32).toNatClampNeg (0)) (4 : Int32).toNatClampNeg ((-1))) (5 : Int32).toNatClampNeg ((-1)))))]) (w1 := [(h0, zM 0 0 1 (.ref k0) a4 a10 a11)]) hP hD [2] [0, 1] rfl rfl (by decide) (by decide) hk1 hFc hP1 hD1
  generalize H1 = H at hP hS ⊢
  have hP : va_P (dC, dI) vwCl [(k0, .inl (cI, 7, .inl (fun _ => 0))), (q30, .inl (cA31, 9, .inl (upd (upd (upd (upd (upd (upd (fun _ => 0) (0 : Int32).toNatClampNeg (0)) (1 : Int32).toNatClampNeg (1)) (2 : Int32).toNatClampNeg (0)) (3 : Int32).toNatClampNeg (0)) (4 : Int32).toNatClampNeg ((-1))) (5 : Int32).toNatClampNeg ((-1))))), (h0, zM 0 0 1 (.ref k0) a4 a10 a11)] H := hP
  have hD : va_D A [(k0, .inl (cI, 7, .inl (fun _ => 0))), (q30, .inl (cA31, 9, .inl (upd (upd (upd (upd (upd (upd (fun _ => 0) (0 : Int32).toNatClampNeg (0)) (1 : Int32).toNatClampNeg (1)) (2 : Int32).toNatClampNeg (0)) (3 : Int32).toNatClampNeg (0)) (4 : Int32).toNatClampNeg ((-1))) (5 : Int32).toNatClampNeg ((-1))))), (h0, zM 0 0 1 (.ref k0) a4 a10 a11)] := hD
  obtain rfl : r = (-1) := hw
  refine va_iast hx hb hK hP hD hS 1 1 rfl rfl (zx_in rfl) dX1_counted_98 (fun H locs hP hD hS => ?_)
  have hP : va_P (dC, dI) vwCl [(k0, .inl (cI, 7, .inl (fun _ => 0))), (q30, .inl (cA31, 9, .inl (upd (upd (upd (upd (upd (upd (upd (fun _ => 0) (0 : Int32).toNatClampNeg (0)) (1 : Int32).toNatClampNeg (1)) (2 : Int32).toNatClampNeg (0)) (3 : Int32).toNatClampNeg (0)) (4 : Int32).toNatClampNeg ((-1))) (5 : Int32).toNatClampNeg ((-1))) (6 : Int32).toNatClampNeg ((-1))))), (h0, zM 0 0 1 (.ref k0) a4 a10 a11)] H := hP
  have hD : va_D A [(k0, .inl (cI, 7, .inl (fun _ => 0))), (q30, .inl (cA31, 9, .inl (upd (upd (upd (upd (upd (upd (upd (fun _ => 0) (0 : Int32).toNatClampNeg (0)) (1 : Int32).toNatClampNeg (1)) (2 : Int32).toNatClampNeg (0)) (3 : Int32).toNatClampNeg (0)) (4 : Int32).toNatClampNeg ((-1))) (5 : Int32).toNatClampNeg ((-1))) (6 : Int32).toNatClampNeg ((-1))))), (h0, zM 0 0 1 (.ref k0) a4 a10 a11)] := hD
  refine lv_dup hx hb dX1_counted_99 rfl ?_
  refine lv_bipush (v := 7) hx hb dX1_counted_100 (by decide) ?_
  refine lv_aload_n hx hb dX1_counted_102 rfl (lv_at hl 5 rfl) ?_
  refine va_get (D := (dC, dI)) (ci := 1) (v := .int (-1)) (C := RX1) (T := TX1) (N := 12) hx hb hts (by decide +kernel) hown hK hP 2 rfl rfl 7 (by decide) (hts (.fieldLink RX1 22 "LiarTentsModel" "commander" "I") (by decide +kernel)) (fun _ h9 => h9) rfl dX1_counted_103 ?_
  refine va_iast hx hb hK hP hD hS 1 1 rfl rfl (zx_in rfl) dX1_counted_106 (fun H locs hP hD hS => ?_)
  have hP : va_P (dC, dI) vwCl [(k0, .inl (cI, 7, .inl (fun _ => 0))), (q30, .inl (cA31, 9, .inl (upd (upd (upd (upd (upd (upd (upd (upd (fun _ => 0) (0 : Int32).toNatClampNeg (0)) (1 : Int32).toNatClampNeg (1)) (2 : Int32).toNatClampNeg (0)) (3 : Int32).toNatClampNeg (0)) (4 : Int32).toNatClampNeg ((-1))) (5 : Int32).toNatClampNeg ((-1))) (6 : Int32).toNatClampNeg ((-1))) (7 : Int32).toNatClampNeg ((-1))))), (h0, zM 0 0 1 (.ref k0) a4 a10 a11)] H := hP
  have hD : va_D A [(k0, .inl (cI, 7, .inl (fun _ => 0))), (q30, .inl (cA31, 9, .inl (upd (upd (upd (upd (upd (upd (upd (upd (fun _ => 0) (0 : Int32).toNatClampNeg (0)) (1 : Int32).toNatClampNeg (1)) (2 : Int32).toNatClampNeg (0)) (3 : Int32).toNatClampNeg (0)) (4 : Int32).toNatClampNeg ((-1))) (5 : Int32).toNatClampNeg ((-1))) (6 : Int32).toNatClampNeg ((-1))) (7 : Int32).toNatClampNeg ((-1))))), (h0, zM 0 0 1 (.ref k0) a4 a10 a11)] := hD
  refine lv_dup hx hb dX1_counted_107 rfl ?_
  refine lv_bipush (v := 8) hx hb dX1_counted_108 (by decide) ?_
  refine lv_aload_n hx hb dX1_counted_110 rfl (lv_at hl 5 rfl) ?_
  refine va_get (D := (dC, dI)) (ci := 1) (v := .int (-1)) (C := RX1) (T := TX1) (N := 12) hx hb hts (by decide +kernel) hown hK hP 2 rfl rfl 8 (by decide) (hts (.fieldLink RX1 25 "LiarTentsModel" "ordered" "I") (by decide +kernel)) (fun _ h9 => h9) rfl dX1_counted_111 ?_
  refine va_iast hx hb hK hP hD hS 1 1 rfl rfl (zx_in rfl) dX1_counted_114 (fun H locs hP hD hS => ?_)
  have hP : va_P (dC, dI) vwCl [(k0, .inl (cI, 7, .inl (fun _ => 0))), (q30, .inl (cA31, 9, .inl (upd (upd (upd (upd (upd (upd (upd (upd (upd (fun _ => 0) (0 : Int32).toNatClampNeg (0)) (1 : Int32).toNatClampNeg (1)) (2 : Int32).toNatClampNeg (0)) (3 : Int32).toNatClampNeg (0)) (4 : Int32).toNatClampNeg ((-1))) (5 : Int32).toNatClampNeg ((-1))) (6 : Int32).toNatClampNeg ((-1))) (7 : Int32).toNatClampNeg ((-1))) (8 : Int32).toNatClampNeg ((-1))))), (h0, zM 0 0 1 (.ref k0) a4 a10 a11)] H := hP
  have hD : va_D A [(k0, .inl (cI, 7, .inl (fun _ => 0))), (q30, .inl (cA31, 9, .inl (upd (upd (upd (upd (upd (upd (upd (upd (upd (fun _ => 0) (0 : Int32).toNatClampNeg (0)) (1 : Int32).toNatClampNeg (1)) (2 : Int32).toNatClampNeg (0)) (3 : Int32).toNatClampNeg (0)) (4 : Int32).toNatClampNeg ((-1))) (5 : Int32).toNatClampNeg ((-1))) (6 : Int32).toNatClampNeg ((-1))) (7 : Int32).toNatClampNeg ((-1))) (8 : Int32).toNatClampNeg ((-1))))), (h0, zM 0 0 1 (.ref k0) a4 a10 a11)] := hD
  refine lv_astore_n (lv' := [(3, .ref q30), (5, .int 7), (2, .int 0), (6, .int 0), (4, .int 7), (0, .ref h0), (1, .int p0)]) hx hb dX1_counted_115 rfl hl (by decide) rfl (fun ls hl => ?_)
  refine lv_aload_n hx hb dX1_counted_116 rfl (lv_at hl 0 rfl) ?_
  refine lv_iload_n hx hb dX1_counted_117 rfl (lv_at hl 6 rfl) ?_
  refine va_iald hx hb hK hP 1 1 rfl rfl hp dX1_counted_118 ?_
  refine lv_topi (fun zr ezr => ?_)
  have ezr : zr = zx_c p0 := ezr.trans (zx_row9 hp)
  have hP9 := hP.sub (ws' := [(h0, zM 0 0 1 (.ref k0) a4 a10 a11), (k0, .inl (cI, 7, .inl (fun _ => 0)))]) [2, 0] rfl
  have hD9 := hD.sub (ws' := [(h0, zM 0 0 1 (.ref k0) a4 a10 a11), (k0, .inl (cI, 7, .inl (fun _ => 0)))]) [2, 0] (by decide) rfl
  have hK9 := hK.sub (tys' := [(cI, .int)]) [0] rfl
  refine W.widen (k := 1) (n := 9) (by omega) (by omega) ?_
  exact W.iret (v := zr) hx hb hr (fun t ht hW => ⟨⟨zr, (), rfl, ezr, by rw [ht]; exact hP9, va_K.moved hW.alike hK9, hD9⟩, hS.F ht⟩) hS.2.2 dX1_counted_119
set_option maxHeartbeats 4000000 in
set_option maxRecDepth 100000 in
/-- count of the reference -/
theorem c_X1_count (l : Launch) (dC : Nat → ClassId) (dI : Nat → Nat → Nat) (h0 k0 : Nat) (cI : ClassId) (p0 : Int32) (a4 a10 a11 : Value) (sz : Nat) : Met l yX1_count wsX1_count ({ frames := 11, cells := 1, slots := 9, locals := 300 }) (va_Pc [.ref h0, .int p0] (zx_pre (dC, dI) [(h0, zM 0 0 1 (.ref k0) a4 a10 a11), (k0, .inl (cI, 7, .inl (fun _ => 0)))] [(cI, .int)] sz)) (va_Qi (fun (r : Int32) (u : Int32) => (u = 1 ∧ r = 0 ∧ (p0 < 0 ∨ 8 < p0)) ∨ (u = 0 ∧ r = zx_c p0 ∧ ¬ p0 < 0 ∧ ¬ 8 < p0)) (fun (u : Int32) => zx_at (dC, dI) [(h0, zM u 0 1 (.ref k0) a4 a10 a11), (k0, .inl (cI, 7, .inl (fun _ => 0)))] [(cI, .int)] (va_A [(h0, zM 0 0 1 (.ref k0) a4 a10 a11), (k0, .inl (cI, 7, .inl (fun _ => 0)))] sz)) (va_A [(h0, zM 0 0 1 (.ref k0) a4 a10 a11), (k0, .inl (cI, 7, .inl (fun _ => 0)))] sz)) 1 9 (va_A [(h0, zM 0 0 1 (.ref k0) a4 a10 a11), (k0, .inl (cI, 7, .inl (fun _ => 0)))] sz) := by
  refine Met.ofW (cc := cX1_count) (maxL := 2) (ret := (some .int)) (by decide) rfl ?_
  intro p e s m args below meth c s₁ B hml hv
  obtain ⟨rfl, hsz, hP, hK, hD0, hZ⟩ := hv
  have hx := B.exec
  have hb := B.bytes
  have hr := B.returns
  have hts := atoms_spec (ws := wsX1_count) B.pre
  have hown : s.vm.findClass RX1 = some m.cls := findClass_of_methodNamed B.named
  have hlocks := B.notSynchronized
  subst hsz
  have hD := hD0.self (sz := s.heap.size)
  generalize hAe : va_A [(h0, zM 0 0 1 (.ref k0) a4 a10 a11), (k0, .inl (cI, 7, .inl (fun _ => 0)))] s.heap.size = A at hD hZ ⊢
  have hA : ∀ q : Nat, s.heap.size ≤ q → A q := fun q h => by rw [← hAe]; exact Or.inr h
  have hS : va_S A s.heap s.heap [] := va_S.rf
  have hP : va_P (dC, dI) vwCl [(h0, zM 0 0 1 (.ref k0) a4 a10 a11), (k0, .inl (cI, 7, .inl (fun _ => 0)))] s.heap := hP
  have hl := lv_entry ([.ref h0, .int p0]) (n := 2) (Nat.le_of_ble_eq_true rfl)
  rw [lg_entry_eq]
  generalize (lg_sl ([.ref h0, .int p0]) ++ List.replicate (2 - (lg_sl ([.ref h0, .int p0])).length) Slot.unset).toArray = ls at hl ⊢
  have hl : lv_has ls 2 [(0, .ref h0), (1, .int p0)] := hl
  refine lv_aload_n hx hb dX1_count_0 rfl (lv_at hl 0 rfl) ?_
  refine lv_iconst (v := 0) hx hb dX1_count_1 (by decide) ?_
  refine va_put (D := (dC, dI)) (ci := 1) (v := .int 0) (ty := .int) (C := RX1) (T := TX1) (N := 12) hx hb hts (by decide +kernel) tyX1 tyX1_ok nmX1 hown hK hP hD hS 0 rfl rfl 0 (by decide) (hts (.fieldLink RX1 37 "LiarTentsModel" "thrown" "I") (by decide +kernel)) (fun _ h9 => h9) rfl (by decide +kernel) rfl rfl (Nat.le_of_ble_eq_true rfl) dX1_count_2 (fun H locs hP hD hS => ?_)
  have hP : va_P (dC, dI) vwCl [(h0, zM 0 0 1 (.ref k0) a4 a10 a11), (k0, .inl (cI, 7, .inl (fun _ => 0)))] H := hP
  have hD : va_D A [(h0, zM 0 0 1 (.ref k0) a4 a10 a11), (k0, .inl (cI, 7, .inl (fun _ => 0)))] := hD
  refine lv_iload_n hx hb dX1_count_5 rfl (lv_at hl 1 rfl) ?_
  refine lv_iconst (v := 0) hx hb dX1_count_6 (by decide) ?_
  refine lv_bipush (v := 8) hx hb dX1_count_7 (by decide) ?_
  have hPc := hP.sub (ws' := []) [] rfl
  have hDc := hD.sub (ws' := []) [] (by decide) rfl
  have hKc := hK.sub (tys' := []) [] rfl
  have hFc := va_free (wc := []) hD hS hA [] rfl
  refine va_calli (va_runS (As := [.int p0, .int 0, .int 8]) (rest := []) ⟨hx, hb, hml, hown, hts⟩ (c_X1_isIn l dC dI p0 0 8 H.size) (va_cwS 3 hts gX1_count_X1_isIn rfl rfl rfl (by decide +kernel) ⟨Nat.le_of_ble_eq_true rfl, Nat.le_of_ble_eq_true rfl⟩) ⟨zx_blind, fun U hU hW => ⟨rfl, zx_go hPc hKc hDc hZ hS hFc hU hW⟩⟩ rfl rfl hl.1 rfl (lv_room (Nat.le_of_ble_eq_true rfl)) dX1_count_9 ⟨Nat.le_of_ble_eq_true rfl, Nat.le_of_ble_eq_true rfl⟩) hS (fun q _ h => hFc q h) hFc (fun r u t H1 locs ht hvm hw hB hz1 hk1 hS => ?_)
  obtain ⟨hP1, hK1, hD1⟩ := hB
  rw [ht] at hP1
  have hK1 := va_K.moved hvm.symm hK1
  try dsimp only at hw hP1 hD1 hK1
  obtain ⟨hP, hD⟩ := va_join (wr := [(h0, zM 0 0 1 (.ref k0) a4 a10 a11), (k0, .inl (cI, 7, .inl (fun _ => 0)))]) (w1 := []) hP hD [] [0, 1] rfl rfl (by decide) (by decide) hk1 hFc hP1 hD1
  generalize H1 = H at hP hS ⊢
  have hP : va_P (dC, dI) vwCl [(h0, zM 0 0 1 (.ref k0) a4 a10 a11), (k0, .inl (cI, 7, .inl (fun _ => 0)))] H := hP
  have hD : va_D A [(h0, zM 0 0 1 (.ref k0) a4 a10 a11), (k0, .inl (cI, 7, .inl (fun _ => 0)))] := hD
  rcases hw with ⟨rfl, g1, g2⟩ | ⟨rfl, g⟩
  · skip
    refine lv_if_eq (tgt := 23) hx hb dX1_count_12 (by decide) (fun c1 => absurd c1 (by decide)) (fun _ => ?_)
    refine lv_aload_n hx hb dX1_count_15 rfl (lv_at hl 0 rfl) ?_
    refine lv_iload_n hx hb dX1_count_16 rfl (lv_at hl 1 rfl) ?_
    have hp : vp_in p0 9 := zx_in9 g1 g2
    have hPc := hP.sub (ws' := [(h0, zM 0 0 1 (.ref k0) a4 a10 a11), (k0, .inl (cI, 7, .inl (fun _ => 0)))]) [0, 1] rfl
    have hDc := hD.sub (ws' := [(h0, zM 0 0 1 (.ref k0) a4 a10 a11), (k0, .inl (cI, 7, .inl (fun _ => 0)))]) [0, 1] (by decide) rfl
    have hKc := hK.sub (tys' := [(cI, .int)]) [0] rfl
    have hFc := va_free (wc := [(h0, zM 0 0 1 (.ref k0) a4 a10 a11), (k0, .inl (cI, 7, .inl (fun _ => 0)))]) hD hS hA [0, 1] rfl
    refine va_calli (va_runV (As := [.int p0]) (rest := []) ⟨hx, hb, hml, hown, hts⟩ (c_X1_counted l dC dI h0 k0 cI p0 hp a4 a10 a11 H.size) (cwV 1 hts gX1_count_X1_counted rfl rfl rfl (by decide +kernel) ⟨Nat.le_of_ble_eq_true rfl, Nat.le_of_ble_eq_true rfl⟩) ⟨zx_blind, va_recv hKc hPc (ci := 1) (q0 := 0) rfl rfl, fun U hU hW => ⟨rfl, zx_go hPc hKc hDc hZ hS hFc hU hW⟩⟩ rfl rfl hl.1 rfl (lv_room (Nat.le_of_ble_eq_true rfl)) dX1_count_17 ⟨Nat.le_of_ble_eq_true rfl, Nat.le_of_ble_eq_true rfl⟩) hS (fun q _ h => hFc q h) hFc (fun r u t H1 locs ht hvm hw hB hz1 hk1 hS => ?_)
    obtain ⟨hP1, hK1, hD1⟩ := hB
    rw [ht] at hP1
    have hK1 := va_K.moved hvm.symm hK1
    try dsimp only at hw hP1 hD1 hK1
    obtain ⟨hP, hD⟩ := va_join (wr := []) (w1 := [(h0, zM 0 0 1 (.ref k0) a4 a10 a11), (k0, .inl (cI, 7, .inl (fun _ => 0)))]) hP hD [0, 1] [] rfl rfl (by decide) (by decide) hk1 hFc hP1 hD1
    generalize H1 = H at hP hS ⊢
    have hP : va_P (dC, dI) vwCl [(h0, zM 0 0 1 (.ref k0) a4 a10 a11), (k0, .inl (cI, 7, .inl (fun _ => 0)))] H := hP
    have hD : va_D A [(h0, zM 0 0 1 (.ref k0) a4 a10 a11), (k0, .inl (cI, 7, .inl (fun _ => 0)))] := hD
    refine W.widen (k := 1) (n := 9) (by omega) (by omega) ?_
    refine lv_goto (tgt := 28) hx hb dX1_count_20 (by decide) ?_
    have hP9 := hP.sub (ws' := [(h0, zM 0 0 1 (.ref k0) a4 a10 a11), (k0, .inl (cI, 7, .inl (fun _ => 0)))]) [0, 1] rfl
    have hD9 := hD.sub (ws' := [(h0, zM 0 0 1 (.ref k0) a4 a10 a11), (k0, .inl (cI, 7, .inl (fun _ => 0)))]) [0, 1] (by decide) rfl
    have hK9 := hK.sub (tys' := [(cI, .int)]) [0] rfl
    refine W.widen (k := 1) (n := 9) (by omega) (by omega) ?_
    exact W.iret (v := r) hx hb hr (fun t ht hW => ⟨⟨r, 0, rfl, Or.inr ⟨rfl, hw, g1, g2⟩, by rw [ht]; exact hP9, va_K.moved hW.alike hK9, hD9⟩, hS.F ht⟩) hS.2.2 dX1_count_28
  · skip
    refine lv_if_eq (tgt := 23) hx hb dX1_count_12 (by decide) (fun _ => ?_) (fun c2 => absurd (by decide) c2)
    refine lv_aload_n hx hb dX1_count_23 rfl (lv_at hl 0 rfl) ?_
    refine lv_iconst (v := 1) hx hb dX1_count_24 (by decide) ?_
    have hPc := hP.sub (ws' := [(h0, zM 0 0 1 (.ref k0) a4 a10 a11)]) [0] rfl
    have hDc := hD.sub (ws' := [(h0, zM 0 0 1 (.ref k0) a4 a10 a11)]) [0] (by decide) rfl
    have hKc := hK.sub (tys' := []) [] rfl
    have hFc := va_free (wc := [(h0, zM 0 0 1 (.ref k0) a4 a10 a11)]) hD hS hA [0] rfl
    refine va_calli (va_runV (As := [.int 1]) (rest := []) ⟨hx, hb, hml, hown, hts⟩ (c_X1_no l dC dI h0 1 (.ref k0) a4 a10 a11 H.size) (cwV 1 hts gX1_count_X1_no rfl rfl rfl (by decide +kernel) ⟨Nat.le_of_ble_eq_true rfl, Nat.le_of_ble_eq_true rfl⟩) ⟨zx_blind, va_recv hKc hPc (ci := 1) (q0 := 0) rfl rfl, fun U hU hW => ⟨rfl, zx_go hPc hKc hDc hZ hS hFc hU hW⟩⟩ rfl rfl hl.1 rfl (lv_room (Nat.le_of_ble_eq_true rfl)) dX1_count_25 ⟨Nat.le_of_ble_eq_true rfl, Nat.le_of_ble_eq_true rfl⟩) hS (fun q _ h => hFc q h) hFc (fun r u t H1 locs ht hvm hw hB hz1 hk1 hS => ?_)
    obtain ⟨hP1, hK1, hD1⟩ := hB
    rw [ht] at hP1
    have hK1 := va_K.moved hvm.symm hK1
    try dsimp only at hw hP1 hD1 hK1
    obtain ⟨hP, hD⟩ := va_join (wr := [(k0, .inl (cI, 7, .inl (fun _ => 0)))]) (w1 := [(h0, zM 1 0 1 (.ref k0) a4 a10 a11)]) hP hD [0] [1] rfl rfl (by decide) (by decide) hk1 hFc hP1 hD1
    generalize H1 = H at hP hS ⊢
    have hP : va_P (dC, dI) vwCl [(k0, .inl (cI, 7, .inl (fun _ => 0))), (h0, zM 1 0 1 (.ref k0) a4 a10 a11)] H := hP
    have hD : va_D A [(k0, .inl (cI, 7, .inl (fun _ => 0))), (h0, zM 1 0 1 (.ref k0) a4 a10 a11)] := hD
    obtain rfl := hw
    have hP9 := hP.sub (ws' := [(h0, zM 1 0 1 (.ref k0) a4 a10 a11), (k0, .inl (cI, 7, .inl (fun _ => 0)))]) [1, 0] rfl
    have hD9 := hD.sub (ws' := [(h0, zM 1 0 1 (.ref k0) a4 a10 a11), (k0, .inl (cI, 7, .inl (fun _ => 0)))]) [1, 0] (by decide) rfl
    have hK9 := hK.sub (tys' := [(cI, .int)]) [0] rfl
    refine W.widen (k := 1) (n := 9) (by omega) (by omega) ?_
    exact W.iret (v := 0) hx hb hr (fun t ht hW => ⟨⟨0, 1, rfl, Or.inl ⟨rfl, rfl, g⟩, by rw [ht]; exact hP9, va_K.moved hW.alike hK9, hD9⟩, hS.F ht⟩) hS.2.2 dX1_count_28
