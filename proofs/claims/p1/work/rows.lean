section
-- ===== PART A: goes FIRST, ahead of the names: the tables' words, and 'selects' of the private methods out of them =====
/-- a private method of a class that the tables say can be made, by its rows of tables_1 -/
def lw_okq (q : MethodName × Nat) : Prop := (q.1.cls ≠ "java/lang/invoke/MethodHandle" ∧ q.1.cls ≠ "java/lang/invoke/VarHandle") ∧ Cond.instantiable q.1.cls q.2 ∈ tables_1 ∧ Cond.privateMethod q.1 ∈ tables_1 ∧ Cond.instanceMethod q.1 ∈ tables_1
theorem lw_p0 : lw_okq (⟨"LiarTents", "alwaysAgree", "(I)Z"⟩, 18) := ⟨⟨by decide +kernel, by decide +kernel⟩, List.mem_of_getElem? (i := 10) (by decide +kernel), List.mem_of_getElem? (i := 80) (by decide +kernel), List.mem_of_getElem? (i := 81) (by decide +kernel)⟩
theorem lw_p1 : lw_okq (⟨"LiarTents", "loyalAgree", "(III)Z"⟩, 18) := ⟨⟨by decide +kernel, by decide +kernel⟩, List.mem_of_getElem? (i := 10) (by decide +kernel), List.mem_of_getElem? (i := 84) (by decide +kernel), List.mem_of_getElem? (i := 85) (by decide +kernel)⟩
theorem lw_p2 : lw_okq (⟨"LiarTents", "workOut", "(III)V"⟩, 18) := ⟨⟨by decide +kernel, by decide +kernel⟩, List.mem_of_getElem? (i := 10) (by decide +kernel), List.mem_of_getElem? (i := 88) (by decide +kernel), List.mem_of_getElem? (i := 89) (by decide +kernel)⟩
theorem lw_p3 : lw_okq (⟨"LiarTents", "agree", "(IIIII)V"⟩, 18) := ⟨⟨by decide +kernel, by decide +kernel⟩, List.mem_of_getElem? (i := 10) (by decide +kernel), List.mem_of_getElem? (i := 92) (by decide +kernel), List.mem_of_getElem? (i := 93) (by decide +kernel)⟩
theorem lw_p4 : lw_okq (⟨"LiarTents", "isGeneral", "(I)Z"⟩, 18) := ⟨⟨by decide +kernel, by decide +kernel⟩, List.mem_of_getElem? (i := 10) (by decide +kernel), List.mem_of_getElem? (i := 96) (by decide +kernel), List.mem_of_getElem? (i := 97) (by decide +kernel)⟩
theorem lw_p5 : lw_okq (⟨"LiarTents", "hearCommander", "(IIII)V"⟩, 18) := ⟨⟨by decide +kernel, by decide +kernel⟩, List.mem_of_getElem? (i := 10) (by decide +kernel), List.mem_of_getElem? (i := 100) (by decide +kernel), List.mem_of_getElem? (i := 101) (by decide +kernel)⟩
theorem lw_p6 : lw_okq (⟨"LiarTents", "weighRetold", "(III)V"⟩, 18) := ⟨⟨by decide +kernel, by decide +kernel⟩, List.mem_of_getElem? (i := 10) (by decide +kernel), List.mem_of_getElem? (i := 113) (by decide +kernel), List.mem_of_getElem? (i := 114) (by decide +kernel)⟩
theorem lw_p7 : lw_okq (⟨"LiarTents", "takeMajority", "(II)V"⟩, 18) := ⟨⟨by decide +kernel, by decide +kernel⟩, List.mem_of_getElem? (i := 10) (by decide +kernel), List.mem_of_getElem? (i := 117) (by decide +kernel), List.mem_of_getElem? (i := 118) (by decide +kernel)⟩
theorem lw_p8 : lw_okq (⟨"LiarTents", "orderDone", "(III)I"⟩, 18) := ⟨⟨by decide +kernel, by decide +kernel⟩, List.mem_of_getElem? (i := 10) (by decide +kernel), List.mem_of_getElem? (i := 121) (by decide +kernel), List.mem_of_getElem? (i := 122) (by decide +kernel)⟩
theorem lw_p9 : lw_okq (⟨"LiarTents", "counted", "(I)I"⟩, 18) := ⟨⟨by decide +kernel, by decide +kernel⟩, List.mem_of_getElem? (i := 10) (by decide +kernel), List.mem_of_getElem? (i := 134) (by decide +kernel), List.mem_of_getElem? (i := 135) (by decide +kernel)⟩
theorem lw_p10 : lw_okq (⟨"LiarTents", "liarsNow", "()I"⟩, 18) := ⟨⟨by decide +kernel, by decide +kernel⟩, List.mem_of_getElem? (i := 10) (by decide +kernel), List.mem_of_getElem? (i := 138) (by decide +kernel), List.mem_of_getElem? (i := 139) (by decide +kernel)⟩
theorem lw_p11 : lw_okq (⟨"LiarTents", "countedOfLatest", "(I)I"⟩, 18) := ⟨⟨by decide +kernel, by decide +kernel⟩, List.mem_of_getElem? (i := 10) (by decide +kernel), List.mem_of_getElem? (i := 142) (by decide +kernel), List.mem_of_getElem? (i := 143) (by decide +kernel)⟩
theorem lw_p12 : lw_okq (⟨"LiarTents", "loyalThatDid", "(I)I"⟩, 18) := ⟨⟨by decide +kernel, by decide +kernel⟩, List.mem_of_getElem? (i := 10) (by decide +kernel), List.mem_of_getElem? (i := 146) (by decide +kernel), List.mem_of_getElem? (i := 147) (by decide +kernel)⟩
theorem lw_p13 : lw_okq (⟨"LiarTents", "toldOf", "(II)I"⟩, 18) := ⟨⟨by decide +kernel, by decide +kernel⟩, List.mem_of_getElem? (i := 10) (by decide +kernel), List.mem_of_getElem? (i := 154) (by decide +kernel), List.mem_of_getElem? (i := 155) (by decide +kernel)⟩
theorem lw_p14 : lw_okq (⟨"java/lang/Throwable", "fillInStackTrace", "(I)Ljava/lang/Throwable;"⟩, 6) := ⟨⟨by decide +kernel, by decide +kernel⟩, List.mem_of_getElem? (i := 204) (by decide +kernel), List.mem_of_getElem? (i := 202) (by decide +kernel), List.mem_of_getElem? (i := 203) (by decide +kernel)⟩
theorem lw_p15 : lw_okq (⟨"LiarTents", "requireGeneral", "(I)V"⟩, 18) := ⟨⟨by decide +kernel, by decide +kernel⟩, List.mem_of_getElem? (i := 10) (by decide +kernel), List.mem_of_getElem? (i := 242) (by decide +kernel), List.mem_of_getElem? (i := 243) (by decide +kernel)⟩
def lw_privs_1 : List (MethodName × Nat) := [(⟨"LiarTents", "alwaysAgree", "(I)Z"⟩, 18), (⟨"LiarTents", "loyalAgree", "(III)Z"⟩, 18), (⟨"LiarTents", "workOut", "(III)V"⟩, 18), (⟨"LiarTents", "agree", "(IIIII)V"⟩, 18), (⟨"LiarTents", "isGeneral", "(I)Z"⟩, 18), (⟨"LiarTents", "hearCommander", "(IIII)V"⟩, 18), (⟨"LiarTents", "weighRetold", "(III)V"⟩, 18), (⟨"LiarTents", "takeMajority", "(II)V"⟩, 18), (⟨"LiarTents", "orderDone", "(III)I"⟩, 18), (⟨"LiarTents", "counted", "(I)I"⟩, 18), (⟨"LiarTents", "liarsNow", "()I"⟩, 18), (⟨"LiarTents", "countedOfLatest", "(I)I"⟩, 18), (⟨"LiarTents", "loyalThatDid", "(I)I"⟩, 18), (⟨"LiarTents", "toldOf", "(II)I"⟩, 18), (⟨"java/lang/Throwable", "fillInStackTrace", "(I)Ljava/lang/Throwable;"⟩, 6), (⟨"LiarTents", "requireGeneral", "(I)V"⟩, 18)]
theorem lw_r1 : ∀ q ∈ lw_privs_1, lw_okq q := List.forall_mem_cons.mpr ⟨lw_p0, List.forall_mem_cons.mpr ⟨lw_p1, List.forall_mem_cons.mpr ⟨lw_p2, List.forall_mem_cons.mpr ⟨lw_p3, List.forall_mem_cons.mpr ⟨lw_p4, List.forall_mem_cons.mpr ⟨lw_p5, List.forall_mem_cons.mpr ⟨lw_p6, List.forall_mem_cons.mpr ⟨lw_p7, List.forall_mem_cons.mpr ⟨lw_p8, List.forall_mem_cons.mpr ⟨lw_p9, List.forall_mem_cons.mpr ⟨lw_p10, List.forall_mem_cons.mpr ⟨lw_p11, List.forall_mem_cons.mpr ⟨lw_p12, List.forall_mem_cons.mpr ⟨lw_p13, List.forall_mem_cons.mpr ⟨lw_p14, List.forall_mem_cons.mpr ⟨lw_p15, fun _ h => absurd h List.not_mem_nil⟩⟩⟩⟩⟩⟩⟩⟩⟩⟩⟩⟩⟩⟩⟩⟩
theorem lw_p16 : lw_okq (⟨"LiarTents", "keepAsLatest", "(II)V"⟩, 18) := ⟨⟨by decide +kernel, by decide +kernel⟩, List.mem_of_getElem? (i := 10) (by decide +kernel), List.mem_of_getElem? (i := 301) (by decide +kernel), List.mem_of_getElem? (i := 302) (by decide +kernel)⟩
theorem lw_p17 : lw_okq (⟨"LiarTents", "enterCouncil", "(II)I"⟩, 18) := ⟨⟨by decide +kernel, by decide +kernel⟩, List.mem_of_getElem? (i := 10) (by decide +kernel), List.mem_of_getElem? (i := 308) (by decide +kernel), List.mem_of_getElem? (i := 309) (by decide +kernel)⟩
theorem lw_p18 : lw_okq (⟨"LiarTents", "requirePresent", "(I)V"⟩, 18) := ⟨⟨by decide +kernel, by decide +kernel⟩, List.mem_of_getElem? (i := 10) (by decide +kernel), List.mem_of_getElem? (i := 319) (by decide +kernel), List.mem_of_getElem? (i := 320) (by decide +kernel)⟩
theorem lw_p19 : lw_okq (⟨"LiarTents", "requireCouncil", "()V"⟩, 18) := ⟨⟨by decide +kernel, by decide +kernel⟩, List.mem_of_getElem? (i := 10) (by decide +kernel), List.mem_of_getElem? (i := 324) (by decide +kernel), List.mem_of_getElem? (i := 325) (by decide +kernel)⟩
theorem lw_p20 : lw_okq (⟨"LiarTents", "hearsLie", "(II)Z"⟩, 18) := ⟨⟨by decide +kernel, by decide +kernel⟩, List.mem_of_getElem? (i := 10) (by decide +kernel), List.mem_of_getElem? (i := 389) (by decide +kernel), List.mem_of_getElem? (i := 390) (by decide +kernel)⟩
theorem lw_p21 : lw_okq (⟨"LiarTentsModel", "no", "(I)I"⟩, 12) := ⟨⟨by decide +kernel, by decide +kernel⟩, List.mem_of_getElem? (i := 393) (by decide +kernel), List.mem_of_getElem? (i := 445) (by decide +kernel), List.mem_of_getElem? (i := 446) (by decide +kernel)⟩
theorem lw_p22 : lw_okq (⟨"LiarTentsModel", "isGeneral", "(I)Z"⟩, 12) := ⟨⟨by decide +kernel, by decide +kernel⟩, List.mem_of_getElem? (i := 393) (by decide +kernel), List.mem_of_getElem? (i := 453) (by decide +kernel), List.mem_of_getElem? (i := 454) (by decide +kernel)⟩
theorem lw_p23 : lw_okq (⟨"LiarTentsModel", "council", "(III)[I"⟩, 12) := ⟨⟨by decide +kernel, by decide +kernel⟩, List.mem_of_getElem? (i := 393) (by decide +kernel), List.mem_of_getElem? (i := 468) (by decide +kernel), List.mem_of_getElem? (i := 469) (by decide +kernel)⟩
theorem lw_p24 : lw_okq (⟨"LiarTentsModel", "all", "()I"⟩, 12) := ⟨⟨by decide +kernel, by decide +kernel⟩, List.mem_of_getElem? (i := 393) (by decide +kernel), List.mem_of_getElem? (i := 472) (by decide +kernel), List.mem_of_getElem? (i := 473) (by decide +kernel)⟩
theorem lw_p25 : lw_okq (⟨"LiarTentsModel", "agreement", "(IIII)[I"⟩, 12) := ⟨⟨by decide +kernel, by decide +kernel⟩, List.mem_of_getElem? (i := 393) (by decide +kernel), List.mem_of_getElem? (i := 476) (by decide +kernel), List.mem_of_getElem? (i := 477) (by decide +kernel)⟩
theorem lw_p26 : lw_okq (⟨"LiarTentsModel", "retold", "(IIII)[[I"⟩, 12) := ⟨⟨by decide +kernel, by decide +kernel⟩, List.mem_of_getElem? (i := 393) (by decide +kernel), List.mem_of_getElem? (i := 480) (by decide +kernel), List.mem_of_getElem? (i := 481) (by decide +kernel)⟩
theorem lw_p27 : lw_okq (⟨"LiarTentsModel", "heard", "(III)I"⟩, 12) := ⟨⟨by decide +kernel, by decide +kernel⟩, List.mem_of_getElem? (i := 393) (by decide +kernel), List.mem_of_getElem? (i := 485) (by decide +kernel), List.mem_of_getElem? (i := 486) (by decide +kernel)⟩
theorem lw_p28 : lw_okq (⟨"LiarTentsModel", "keep", "(II)V"⟩, 12) := ⟨⟨by decide +kernel, by decide +kernel⟩, List.mem_of_getElem? (i := 393) (by decide +kernel), List.mem_of_getElem? (i := 489) (by decide +kernel), List.mem_of_getElem? (i := 490) (by decide +kernel)⟩
theorem lw_p29 : lw_okq (⟨"LiarTentsModel", "wasThere", "(I)Z"⟩, 12) := ⟨⟨by decide +kernel, by decide +kernel⟩, List.mem_of_getElem? (i := 393) (by decide +kernel), List.mem_of_getElem? (i := 500) (by decide +kernel), List.mem_of_getElem? (i := 501) (by decide +kernel)⟩
theorem lw_p30 : lw_okq (⟨"LiarTentsModel", "counted", "(I)I"⟩, 12) := ⟨⟨by decide +kernel, by decide +kernel⟩, List.mem_of_getElem? (i := 393) (by decide +kernel), List.mem_of_getElem? (i := 512) (by decide +kernel), List.mem_of_getElem? (i := 513) (by decide +kernel)⟩
theorem lw_p31 : lw_okq (⟨"LiarTentsModel", "loyalThatDo", "(I)I"⟩, 12) := ⟨⟨by decide +kernel, by decide +kernel⟩, List.mem_of_getElem? (i := 393) (by decide +kernel), List.mem_of_getElem? (i := 516) (by decide +kernel), List.mem_of_getElem? (i := 517) (by decide +kernel)⟩
def lw_privs_2 : List (MethodName × Nat) := [(⟨"LiarTents", "keepAsLatest", "(II)V"⟩, 18), (⟨"LiarTents", "enterCouncil", "(II)I"⟩, 18), (⟨"LiarTents", "requirePresent", "(I)V"⟩, 18), (⟨"LiarTents", "requireCouncil", "()V"⟩, 18), (⟨"LiarTents", "hearsLie", "(II)Z"⟩, 18), (⟨"LiarTentsModel", "no", "(I)I"⟩, 12), (⟨"LiarTentsModel", "isGeneral", "(I)Z"⟩, 12), (⟨"LiarTentsModel", "council", "(III)[I"⟩, 12), (⟨"LiarTentsModel", "all", "()I"⟩, 12), (⟨"LiarTentsModel", "agreement", "(IIII)[I"⟩, 12), (⟨"LiarTentsModel", "retold", "(IIII)[[I"⟩, 12), (⟨"LiarTentsModel", "heard", "(III)I"⟩, 12), (⟨"LiarTentsModel", "keep", "(II)V"⟩, 12), (⟨"LiarTentsModel", "wasThere", "(I)Z"⟩, 12), (⟨"LiarTentsModel", "counted", "(I)I"⟩, 12), (⟨"LiarTentsModel", "loyalThatDo", "(I)I"⟩, 12)]
theorem lw_r2 : ∀ q ∈ lw_privs_2, lw_okq q := List.forall_mem_cons.mpr ⟨lw_p16, List.forall_mem_cons.mpr ⟨lw_p17, List.forall_mem_cons.mpr ⟨lw_p18, List.forall_mem_cons.mpr ⟨lw_p19, List.forall_mem_cons.mpr ⟨lw_p20, List.forall_mem_cons.mpr ⟨lw_p21, List.forall_mem_cons.mpr ⟨lw_p22, List.forall_mem_cons.mpr ⟨lw_p23, List.forall_mem_cons.mpr ⟨lw_p24, List.forall_mem_cons.mpr ⟨lw_p25, List.forall_mem_cons.mpr ⟨lw_p26, List.forall_mem_cons.mpr ⟨lw_p27, List.forall_mem_cons.mpr ⟨lw_p28, List.forall_mem_cons.mpr ⟨lw_p29, List.forall_mem_cons.mpr ⟨lw_p30, List.forall_mem_cons.mpr ⟨lw_p31, fun _ h => absurd h List.not_mem_nil⟩⟩⟩⟩⟩⟩⟩⟩⟩⟩⟩⟩⟩⟩⟩⟩
theorem lw_p32 : lw_okq (⟨"LiarTentsModel", "generalTold", "(II)I"⟩, 12) := ⟨⟨by decide +kernel, by decide +kernel⟩, List.mem_of_getElem? (i := 393) (by decide +kernel), List.mem_of_getElem? (i := 524) (by decide +kernel), List.mem_of_getElem? (i := 525) (by decide +kernel)⟩
theorem lw_p33 : lw_okq (⟨"LiarTentsModel", "isAgreed", "(III)Z"⟩, 12) := ⟨⟨by decide +kernel, by decide +kernel⟩, List.mem_of_getElem? (i := 393) (by decide +kernel), List.mem_of_getElem? (i := 540) (by decide +kernel), List.mem_of_getElem? (i := 541) (by decide +kernel)⟩
theorem lw_p34 : lw_okq (⟨"LiarTentsModel", "doesFor", "(I)Z"⟩, 12) := ⟨⟨by decide +kernel, by decide +kernel⟩, List.mem_of_getElem? (i := 393) (by decide +kernel), List.mem_of_getElem? (i := 552) (by decide +kernel), List.mem_of_getElem? (i := 553) (by decide +kernel)⟩
def lw_privs_3 : List (MethodName × Nat) := [(⟨"LiarTentsModel", "generalTold", "(II)I"⟩, 12), (⟨"LiarTentsModel", "isAgreed", "(III)Z"⟩, 12), (⟨"LiarTentsModel", "doesFor", "(I)Z"⟩, 12)]
theorem lw_r3 : ∀ q ∈ lw_privs_3, lw_okq q := List.forall_mem_cons.mpr ⟨lw_p32, List.forall_mem_cons.mpr ⟨lw_p33, List.forall_mem_cons.mpr ⟨lw_p34, fun _ h => absurd h List.not_mem_nil⟩⟩⟩
def lw_privs : List (MethodName × Nat) := lw_privs_1 ++ (lw_privs_2 ++ (lw_privs_3))
def lw_tbl : List Cond := k2_sels lw_privs ++ tables_1
theorem lw_privs_ok : ∀ q ∈ lw_privs, lw_okq q := by
  show ∀ q ∈ lw_privs_1 ++ (lw_privs_2 ++ (lw_privs_3)), lw_okq q
  exact List.forall_mem_append.mpr ⟨lw_r1, List.forall_mem_append.mpr ⟨lw_r2, lw_r3⟩⟩
/-- the streams that the claim lets the run draw from -/
abbrev lw_cs : List Choice := [Jvm.Choice.named "NaN.bits"]
theorem lw_bits : nanBits ∈ lw_cs := by first | decide | exact List.mem_cons_self | simp [lw_cs, nanBits]
-- ===== end of PART A; then your names; then what follows =====
end
section
/-- arrays over arrays of t can be made here (01.rows speaks of it; the printed names leave it out) -/
def va_AOA (t : FieldType) (U : State) : Prop := (Cond.arrayOver (.array t)).before #[] U = true
theorem va_AOA.of {t : FieldType} {A : Array Value} {U : State} (h : (Cond.arrayOver (.array t)).before A U = true) : va_AOA t U := h
theorem va_AOA.use {t : FieldType} {A : Array Value} {U : State} (h : va_AOA t U) : (Cond.arrayOver (.array t)).before A U = true := h
theorem va_AOA.moved {t : FieldType} {u U : State} (hvm : u.vm.Alike U.vm) (h : va_AOA t u) : va_AOA t U := over_moved (a := #[]) (a' := #[]) hvm h
end
section
/-! ===== BEGIN words of one list among another's, by their places ===== -/
theorem goodIn_r {big : List Cond} (ws : List Cond) (ps : List Nat) (hp : ws = ps.filterMap (fun i => big[i]?)) (h : ws.all goodWord = true) : GoodIn big ws := by
  intro w hw
  have h1 := List.all_eq_true.mp h w hw
  rw [hp] at hw
  obtain ⟨i, -, hi⟩ := List.mem_filterMap.mp hw
  have hm : w ∈ big := by first | exact List.mem_of_getElem? hi | exact List.getElem?_mem hi
  exact ⟨hm, good_of_word h1⟩
theorem goodIn_app {big a b : List Cond} (ha : GoodIn big a) (hb : GoodIn big b) : GoodIn big (a ++ b) := fun w h => (List.mem_append.mp h).elim (ha w) (hb w)
theorem goodIn_ca {big a b : List Cond} {c : Cond} (ha : GoodIn big (c :: a)) (hb : GoodIn big b) : GoodIn big (c :: (a ++ b)) := fun w h => (List.mem_cons.mp h).elim (fun e => ha w (List.mem_cons.mpr (Or.inl e))) (fun h => (List.mem_append.mp h).elim (fun h => ha w (List.mem_cons.mpr (Or.inr h))) (hb w))
theorem goodIn_sub {big ws : List Cond} (hm : ∀ w ∈ ws, w ∈ big) (h : ws.all goodWord = true) : GoodIn big ws := fun w hw => ⟨hm w hw, good_of_word (List.all_eq_true.mp h w hw)⟩
/-! ===== END ===== -/

/-! ===== BEGIN new T[n][m]: the outer array a place, the inner ones among the pooled ===== -/
/-- f, but v at every address of l -/
def vr_up {α : Type} (f : Nat → α) (l : List Nat) (v : α) : Nat → α := fun a => if a ∈ l then v else f a
theorem vr_up_in {α : Type} {f : Nat → α} {l : List Nat} {v : α} {a : Nat} (h : a ∈ l) : vr_up f l v a = v := if_pos h
theorem vr_up_ne {α : Type} {f : Nat → α} {l : List Nat} {v : α} {a : Nat} (h : a ∉ l) : vr_up f l v a = f a := if_neg h
theorem vr_rows {L l : List Nat} {f : Nat → va_E} {e : va_E} (h : ∀ a, a ∈ l → a ∉ L) : va_pl L f ++ l.map (fun a => (a, e)) = va_pl (L ++ l) (vr_up f l e) := by
  unfold va_pl
  rw [List.map_append]
  congr 1
  · apply List.map_congr_left
    intro a ha
    rw [vr_up_ne (fun q => h a q ha)]
  · apply List.map_congr_left
    intro a ha
    rw [vr_up_in ha]
theorem vr_lay {X rows : va_W} {x : Nat × va_E} {pl : va_W} {D : va_G} {cl : List vw_C} {H : Heap} (hP : va_P D cl (((X ++ pl) ++ [x]) ++ rows) H) : va_P D cl ((X ++ [x]) ++ (pl ++ rows)) H := by
  rw [List.append_assoc (X ++ pl)] at hP
  have h := va_P.swap hP
  rw [← List.append_assoc X] at h
  have h2 := va_P.swap h
  rw [List.append_assoc (X ++ [x])] at h2
  exact h2
theorem vr_layD {X rows : va_W} {x : Nat × va_E} {pl : va_W} {A : Nat → Prop} (hD : va_D A (((X ++ pl) ++ [x]) ++ rows)) : va_D A ((X ++ [x]) ++ (pl ++ rows)) := by
  rw [List.append_assoc (X ++ pl)] at hD
  have h := va_D.swap hD
  rw [← List.append_assoc X] at h
  have h2 := va_D.swap h
  rw [List.append_assoc (X ++ [x])] at h2
  exact h2
theorem vr_outer (c : ClassId) (N h0 : Nat) : ∀ i : Nat, Jvm.Free.Multi.outerC c N h0 i = arrV c N (fun j => va_rf (if j < i then some (h0 + 1 + j) else none))
  | 0 => by
    show ({ cls := c, slots := Array.replicate N .null, vm := .none } : Cell) = _
    rw [arrV_new]
    refine congrArg (arrV c N) (funext fun j => ?_)
    simp [va_rf]
  | i + 1 => by
    show (Jvm.Free.Multi.outerC c N h0 i).setSlot i (.ref (h0 + 1 + i)) = _
    rw [vr_outer c N h0 i, arrV_store]
    refine congrArg (arrV c N) (funext fun j => ?_)
    by_cases e : j = i
    · subst e
      simp [updV, va_rf]
    · by_cases h : j < i
      · simp [updV, e, h, Nat.lt_succ_of_lt h]
      · simp [updV, e, h, show ¬ j < i + 1 by omega]
section VGM
variable {p : Program} {l : Launch} {e : Env} {R : Room} {s : State} {m : MethodId} {args : Array Value} {below : List Frame} {meth : Method} {c : Code} {H : Heap} {locs : List Loc} {cells slots : Nat} {Q : State → Prop}
variable {cc : ByteArray} {pc : Nat} {ls : Array Slot} {rest : List Value} {D : va_G} {cl : List vw_C} {A : Nat → Prop} {a : Nat} {tys : List (ClassId × FieldType)} {ws : va_W} {H0 : Heap}
theorem va_mna {X : va_W} {L : List Nat} {f : Nat → va_E} {cc : ByteArray} (hexec : p.tables.exec = Jvm.exec) (hb : c.code = cc) {own : String} {index : Nat} {ty : FieldType} {cy : ClassId} (hown : s.vm.findClass own = some m.cls) (hclink : (Cond.classLink own index ("[" ++ (FieldType.array ty).toString)).before args s = true) (hover : va_AOA ty s) (harr : (Cond.arrayClass ty).before args s = true) (hcy : s.vm.findClass (FieldType.array ty).toString = some cy)
    (hK : va_K D cl tys s) (hP : va_P D cl (X ++ va_pl L f) H) (hD : va_D A (X ++ va_pl L f)) (hS : va_S A H0 H locs) (hA : ∀ q, H0.size ≤ q → A q) {n k : Int32} {N' K' : Nat} {z : vp_A} (hn : ¬ n < 0) (hk : ¬ k < 0) (hN : n.toNatClampNeg = N') (hM : k.toNatClampNeg = K')
    (hb1 : N' * 4 ≤ 536870912) (hb2 : K' * componentBytes ty ≤ 536870912) (hb3 : K' ≤ 536870912) (hdf : fits ty (defaultValue ty) = true) (hdd : (defaultValue ty).isDefault = true) (hcells : cells + (1 + N') ≤ R.cells) (hslots : slots + (N' + N' * K') ≤ R.slots) (hz : ∀ c : ClassId, Jvm.Free.Multi.innerC c K' (defaultValue ty) = vp_cell c z) (hdg : decode cc pc = .ok (.multianewarray index 2, 4))
    (kk : ∀ (q : Nat) (r : Nat → Nat) (cA : ClassId) (H1 : Heap), (∀ i j : Nat, i < N' → j < N' → r i = r j → i = j) → (∀ i : Nat, i < N' → r i ∉ L) → va_K D cl (tys ++ [(cA, .array ty)]) s →
      va_P D cl ((X ++ [(q, .inl (cA, N', .inr (.inr (.inr (.inr (fun i => if i < N' then some (r i) else none))))))]) ++ va_pl (L ++ (List.range N').map r) (vr_up f ((List.range N').map r) (.inl (cy, z)))) H1 → va_D A ((X ++ [(q, .inl (cA, N', .inr (.inr (.inr (.inr (fun i => if i < N' then some (r i) else none))))))]) ++ va_pl (L ++ (List.range N').map r) (vr_up f ((List.range N').map r) (.inl (cy, z)))) → va_S A H0 H1 locs →
      W p l e R s m args below meth c H1 locs (cells + 1 + N') (slots + N' + N' * K') Q (F0 m (pc + 4) ls (.ref q :: rest))) : W p l e R s m args below meth c H locs cells slots Q (F0 m pc ls (.int k :: .int n :: rest)) := by
  subst hN
  subst hM
  intro T hT Xs
  obtain ⟨vm₁, cA, comp, -, fA, fC, hO, -, X', step⟩ := Xs.multianewarray2F hexec hown hclink (va_AOA.use hover) harr (g := F0 m pc ls (.int k :: .int n :: rest)) rfl (by rw [hb]; exact hdg) rfl hn hk hb1 hb2 hb3 hdf hdd hcells hslots
  have ec : some cy = some comp := hcy.symm.trans fC
  cases ec
  generalize hF : Jvm.Free.Multi.fill (T.setVm vm₁) cA cy n.toNatClampNeg k.toNatClampNeg (defaultValue ty) n.toNatClampNeg = F at X' step
  have hTh : (T.setVm vm₁).heap = H := hT
  obtain ⟨f1, f2, -, -⟩ := Jvm.Free.Multi.fill_facts (T.setVm vm₁) cA cy n.toNatClampNeg k.toNatClampNeg (defaultValue ty) n.toNatClampNeg
  rw [hF, hTh] at f1 f2
  have hold : ∀ x : Nat, x < H.size → F.heap[x]? = H[x]? := fun x hx => by
    have := Jvm.Free.Multi.fill_old (T.setVm vm₁) cA cy n.toNatClampNeg k.toNatClampNeg (defaultValue ty) (a := x) (by rw [hTh]; exact hx) n.toNatClampNeg
    rw [hF, hTh] at this
    exact this
  have hrow : ∀ j : Nat, j < n.toNatClampNeg → F.heap[H.size + 1 + j]? = some (vp_cell cy z) := fun j hj => by
    have := Jvm.Free.Multi.fill_inner (T.setVm vm₁) cA cy n.toNatClampNeg k.toNatClampNeg (defaultValue ty) n.toNatClampNeg j hj
    rw [hF, hTh, hz] at this
    exact this
  have hout : Jvm.Free.Multi.outerC cA n.toNatClampNeg H.size n.toNatClampNeg = vp_cell cA (n.toNatClampNeg, .inr (.inr (.inr (.inr (fun i => if i < n.toNatClampNeg then some (H.size + 1 + i) else none))))) := by
    rw [vp_cell_q]
    exact vr_outer cA n.toNatClampNeg H.size n.toNatClampNeg
  rw [hout] at f2
  have hlt : ∀ a, a ∈ L → a < H.size := fun a ha => by
    obtain ⟨k9, hk9⟩ := va_pl_get (X := X) (f := f) ha
    exact (hP k9 _ hk9).lt
  have hnl : ∀ i : Nat, i < n.toNatClampNeg → H.size + 1 + i ∉ L := fun i _ h => by
    have := hlt _ h
    omega
  have hnm : ∀ a, a ∈ (List.range n.toNatClampNeg).map (fun i => H.size + 1 + i) → a ∉ L := fun a ha h => by
    obtain ⟨i, -, rfl⟩ := List.mem_map.mp ha
    have := hlt _ h
    omega
  have hP0 : va_P D cl (X ++ va_pl L f) F.heap := hP.kept (fun k9 x hx => hold x.1 ((hP k9 x hx).lt))
  have hP1 : va_P D cl ((X ++ va_pl L f) ++ [(H.size, .inl (cA, n.toNatClampNeg, .inr (.inr (.inr (.inr (fun i => if i < n.toNatClampNeg then some (H.size + 1 + i) else none))))))]) F.heap := hP0.app (fun k9 x hx => by
    have h0 : k9 < 1 := (List.getElem?_eq_some_iff.mp hx).1
    rw [show k9 = 0 by omega] at hx
    cases hx
    exact f2)
  have hP2 : va_P D cl (((X ++ va_pl L f) ++ [(H.size, .inl (cA, n.toNatClampNeg, .inr (.inr (.inr (.inr (fun i => if i < n.toNatClampNeg then some (H.size + 1 + i) else none))))))]) ++ ((List.range n.toNatClampNeg).map (fun i => H.size + 1 + i)).map (fun a => (a, .inl (cy, z)))) F.heap := hP1.app (fun k9 x hx => by
    obtain ⟨a, ha, rfl⟩ := List.mem_map.mp (List.mem_of_getElem? hx)
    obtain ⟨i, hi, rfl⟩ := List.mem_map.mp ha
    exact hrow i (List.mem_range.mp hi))
  have hD2 : va_D A (((X ++ va_pl L f) ++ [(H.size, .inl (cA, n.toNatClampNeg, .inr (.inr (.inr (.inr (fun i => if i < n.toNatClampNeg then some (H.size + 1 + i) else none))))))]) ++ ((List.range n.toNatClampNeg).map (fun i => H.size + 1 + i)).map (fun a => (a, .inl (cy, z)))) := by
    have hD1 := hD.push (e := .inl (cA, n.toNatClampNeg, .inr (.inr (.inr (.inr (fun i => if i < n.toNatClampNeg then some (H.size + 1 + i) else none)))))) hP rfl (hA _ hS.1)
    generalize hW1 : (X ++ va_pl L f) ++ [(H.size, .inl (cA, n.toNatClampNeg, .inr (.inr (.inr (.inr (fun i => if i < n.toNatClampNeg then some (H.size + 1 + i) else none))))))] = W1 at hD1 hP1 ⊢
    have hle : ∀ (k9 : Nat) (x : Nat × va_E), W1[k9]? = some x → x.1 ≤ H.size := fun k9 x hx => by
      rw [← hW1] at hx
      by_cases hl : k9 < (X ++ va_pl L f).length
      · rw [List.getElem?_append_left hl] at hx
        exact Nat.le_of_lt ((hP k9 x hx).lt)
      · rw [List.getElem?_append_right (by omega)] at hx
        have h0 : k9 - (X ++ va_pl L f).length < 1 := (List.getElem?_eq_some_iff.mp hx).1
        rw [show k9 - (X ++ va_pl L f).length = 0 by omega] at hx
        cases hx
        exact Nat.le_refl _
    have hr : ∀ (k9 : Nat) (x : Nat × va_E), (((List.range n.toNatClampNeg).map (fun i => H.size + 1 + i)).map (fun a => ((a, .inl (cy, z)) : Nat × va_E)))[k9]? = some x → x.1 = H.size + 1 + k9 := fun k9 x hx => by
      rw [List.getElem?_map, List.getElem?_map] at hx
      by_cases h9 : k9 < n.toNatClampNeg
      · rw [List.getElem?_range h9] at hx
        cases hx
        rfl
      · have hn0 : (List.range n.toNatClampNeg)[k9]? = none := List.getElem?_eq_none (by rw [List.length_range]; omega)
        rw [hn0] at hx
        cases hx
    refine ⟨fun i j x y hi hj hxy => ?_, fun k9 x hx => ?_⟩
    · by_cases h1 : i < W1.length <;> by_cases h2 : j < W1.length
      · rw [List.getElem?_append_left h1] at hi
        rw [List.getElem?_append_left h2] at hj
        exact hD1.1 i j x y hi hj hxy
      · rw [List.getElem?_append_left h1] at hi
        rw [List.getElem?_append_right (by omega)] at hj
        have := hle _ _ hi
        have := hr _ _ hj
        omega
      · rw [List.getElem?_append_right (by omega)] at hi
        rw [List.getElem?_append_left h2] at hj
        have := hle _ _ hj
        have := hr _ _ hi
        omega
      · rw [List.getElem?_append_right (by omega)] at hi hj
        have := hr _ _ hi
        have := hr _ _ hj
        omega
    · by_cases h1 : k9 < W1.length
      · rw [List.getElem?_append_left h1] at hx
        exact hD1.2 k9 x hx
      · rw [List.getElem?_append_right (by omega)] at hx
        have := hr _ _ hx
        exact hA _ (by have := hS.1; omega)
  have hAr : ArrOfT s cA (.array ty) := fun N9 z9 => by
    obtain ⟨-, k9, hk9, cm9, hkk9⟩ := (hO 0 0 0).1
    exact ⟨(fun q hq => by cases hq), k9, hk9, cm9, hkk9⟩
  have hK2 : va_K D cl (tys ++ [(cA, .array ty)]) s := ⟨hK.1, fun k9 x hx => by
    by_cases hl : k9 < tys.length
    · rw [List.getElem?_append_left hl] at hx
      exact hK.2 k9 x hx
    · rw [List.getElem?_append_right (by omega)] at hx
      have h0 : k9 - tys.length < 1 := (List.getElem?_eq_some_iff.mp hx).1
      rw [show k9 - tys.length = 0 by omega] at hx
      cases hx
      exact ⟨hAr, fA⟩⟩
  obtain ⟨t, a1, b1⟩ := kk H.size (fun i => H.size + 1 + i) cA F.heap (fun i j _ _ h => by have h9 : H.size + 1 + i = H.size + 1 + j := h; omega) hnl hK2 (by rw [← vr_rows hnm]; exact vr_lay hP2) (by rw [← vr_rows hnm]; exact vr_layD hD2) ⟨by rw [f1]; have := hS.1; omega, fun x h1 h2 => (hold x (Nat.lt_of_lt_of_le h1 hS.1)).trans (hS.2.1 x h1 h2), hS.2.2⟩ F rfl X'
  refine ⟨t, step t ?_, b1⟩
  have e : T.heap.size = H.size := by rw [hT]
  rw [e]
  exact a1
end VGM
/-! ===== END ===== -/

/-! ===== BEGIN exceptions that leave a method, and their catching by the caller (launches without stack traces) ===== -/
section VXA
/-! The laws vx_back, vx_callV, vx_callS, vx_callSW, vx_throw0, vx_throwS follow proofs of the library, with one case more: JvmDerived/Free/Laws.lean (Back.of_free), Shelf42/LK1.lean (callV, callS), Shelf/KitTraced.lean (throwNew0V, throwNewS). -/
/-- where a method has thrown q: the class by its name, the cell, what was written, the world -/
def vx_T (XC : String → State → State → Prop) (st : State) (q : Addr) (t : State) (mc ms : Nat) (free : Addr → Prop) : Prop :=
  ∃ (E : String) (ce : Cell) (L : List Loc), XC E st t ∧ t.heap[q]? = some ce ∧ ce.vm = .none ∧ st.vm.findClass E = some ce.cls ∧ st.WarmedH t.vm ∧ st.sameButNew ({ t with vm := st.vm } : State) L mc ms ∧ ∀ z ∈ L, free z.base
def vx_Q (Qc : Array Value → State → Outcome → State → Prop) (XC : String → State → State → Prop) (mc ms : Nat) (free : Addr → Prop) : Array Value → State → Outcome → State → Prop := fun a st o t =>
  (Qc a st o t ∧ ∃ L, FrameEnd st o t L mc ms ∧ ∀ q ∈ L, free q.base) ∨ ∃ q, o = .threw q ∧ vx_T XC st q t mc ms free
/-- a callee that returns or throws -/
def vx_Met (l : Launch) (y : MethodName) (ws : List Cond) (rm : Room) (Pc : Array Value → State → Prop) (Qc : Array Value → State → Outcome → State → Prop) (XC : String → State → State → Prop) (mc ms : Nat) (free : Addr → Prop) : Prop :=
  MetFree l y (headSpec ws rm) Pc (fun _ _ _ _ _ => True) (vx_Q Qc XC mc ms free)
def vx_Post (XC : String → State → State → Prop) (mc ms : Nat) (free : Addr → Prop) : Pt → Array Value → Addr → Pt → Prop := fun A a q B =>
  ∃ (g : JFrame) (mk : MethodId) (t : State) (L : List Loc) (E : String) (ce : Cell), B.U.heap = t.heap ∧ B.U.vm = t.vm ∧ XC E (A.U.calling g mk a) t ∧ t.heap[q]? = some ce ∧ ce.vm = .none ∧ A.U.vm.findClass E = some ce.cls ∧ B.locs = A.locs ++ L ∧ (∀ z ∈ L, free z.base) ∧ B.cells = A.cells + mc ∧ B.slots = A.slots + ms
def vx_Back (l : Launch) (R : Room) (p : Program) (e : Env) (below : List Frame) (s : State) (sargs : Array Value) (y : MethodName) (len W9 : Nat)
    (Pre : Pt → Array Value → Prop) (Post : Pt → Array Value → Option Value → Pt → Prop) (PostX : Pt → Array Value → Addr → Pt → Prop) : Prop :=
  ∀ (m : MethodId) (meth : Method) (c : Code) (A : Pt) (g : JFrame) (ig : Instr) (mk : MethodId) (a : Array Value),
    Stand p l e R s m sargs below meth c A.U A.locs A.cells A.slots → g.method = m → g.locals.size = c.maxLocals → decode c.code g.pc = .ok (ig, len) →
    2 * g.monitorRoom + (g.stack.map fun v => v.category).sum ≤ W9 → A.U.methodNamed? y = some mk → Pre A a →
    (∃ (v : Option Value) (B : Pt), Stand p l e R s m sargs below meth c B.U B.locs B.cells B.slots ∧ Post A a v B ∧
      Steps p.tables e below (doInvoke e (A.U.setTop g) [] mk a).1 (B.U.setTop { g with pc := g.pc + len, stack := v.toList ++ g.stack })) ∨
    (∃ (q : Addr) (B : Pt), Stand p l e R s m sargs below meth c B.U B.locs B.cells B.slots ∧ PostX A a q B ∧
      Steps p.tables e below (doInvoke e (A.U.setTop g) [] mk a).1 ((B.U.setTop g).pushFrame (.throwing q)))
section Payer
variable {l : Launch} {R : Room} {p : Program} {e : Env} {below : List Frame} {s : State} {sargs : Array Value} {y : MethodName} {len W9 : Nat}
theorem vx_back {ws : List Cond} {rm : Room} {Pc : Array Value → State → Prop} {Qc : Array Value → State → Outcome → State → Prop} {XC : String → State → State → Prop} {mc ms : Nat} {free : Addr → Prop} {bytes : ByteArray} {maxL : Nat} {ret : Option FieldType}
    (hM : vx_Met l y ws rm Pc Qc XC mc ms free) (hblind : FrameBlind Pc) (hrc : rm.cells = mc) (hrs : rm.slots = ms)
    (hframes : rm.frames + 1 ≤ R.frames) (hlocals : W9 + (maxL + 11) + rm.locals ≤ R.locals)
    (hws : ∀ w ∈ ws, ∀ a' U, s.WarmedH U.vm → w.before a' U = true) (hcode : Cond.code y bytes maxL ret ∈ ws) (hinit : ∀ a' U, s.WarmedH U.vm → (Cond.initialized y.cls).before a' U = true) :
    vx_Back l R p e below s sargs y len W9 (PreOf R mc ms Pc) (PostOf Qc mc ms free) (vx_Post XC mc ms free) := by
  intro m meth c A g ig mk a X hg hsize hdg hW hn hp
  have h1 : (headSpec ws rm).pre.before a A.U = true := atoms_intro fun w hw => hws w hw _ _ X.warmed
  have h2 : (Cond.code y bytes maxL ret).before a A.U = true := hws _ hcode _ _ X.warmed
  have h3 : (Cond.initialized y.cls).before a A.U = true := hinit _ _ X.warmed
  have h4 : A.cells + (headSpec ws rm).room.cells ≤ R.cells := by rw [show (headSpec ws rm).room.cells = mc from hrc]; exact hp.1
  have h5 : A.slots + (headSpec ws rm).room.slots ≤ R.slots := by rw [show (headSpec ws rm).room.slots = ms from hrs]; exact hp.2.1
  have hPc : Pc a (A.U.calling g mk a) := hblind _ _ _ _ hp.2.2
  obtain ⟨U, Ls, c0, s0⟩ := A
  dsimp only [Pt.U, Pt.locs, Pt.cells, Pt.slots] at h1 h2 h3 h4 h5 X hn hPc ⊢
  obtain ⟨methY, cY, hmY, hcY, -, hlY, -, -, -, -⟩ := Cond.code_spec hn h2
  obtain ⟨kY, hkY, -⟩ := className_of_methodNamed hn
  have hinitY : kY.init = .initialized := Cond.initialized_spec (findClass_of_methodNamed hn) hkY h3
  have h : At U g.method c below := by rw [hg]; exact X.here
  have hlocals9 : W9 + (maxL + 11) + (headSpec ws rm).room.locals ≤ R.locals := hlocals
  have happ : (headSpec ws rm).appliesLoose y e.platform (U.calling g mk a) = true :=
    Spec.appliesLoose_calling (g := g) h hdg hn hkY hinitY
      (X.room_calling (g := g) (R' := (headSpec ws rm).room) hsize hmY hcY hframes (by rw [hlY]; omega) h4 h5) h1
  obtain ⟨mid, hmid⟩ := h.above
  have hfr : (U.setTop g).frames = (.java g :: mid) ++ below := by rw [State.frames_setTop' g h.top, hmid]; rfl
  obtain ⟨o, s₂, hsteps, -, hend, hq⟩ := Steps.callFree hM p X.admits X.cas X.clock (acts := []) hfr happ hPc trivial
  have hq' : vx_Q Qc XC mc ms free a (U.calling g mk a) o s₂ := hq
  rw [State.frames_setTop' g h.top] at hend
  obtain ⟨g₀, hg0⟩ := Option.isSome_iff_exists.mp h.top
  obtain ⟨r, hr⟩ := State.topJava?_eq_some.mp hg0
  have hr' : (({ U with heap := s₂.heap, slotsUsed := s₂.slotsUsed } : State).setVm s₂.vm).frames = .java g₀ :: r := hr
  rcases hq' with ⟨hqc, L, hfe, hL⟩ | ⟨q, rfl, E, ce, L, hx, hce, hcv, hcl, hW₂, hsm, hL⟩
  · obtain ⟨⟨v, rfl⟩, hW₂, e2, q2, q3, q4, q5, q6⟩ := id hfe
    have e3 : s₂ = ({ (U.calling g mk a).setFrames s₂.frames with heap := s₂.heap, slotsUsed := s₂.slotsUsed } : State).setVm s₂.vm := by
      have : s₂ = ({ s₂ with vm := (U.calling g mk a).vm } : State).setVm s₂.vm := rfl
      rw [e2] at this
      exact this
    obtain ⟨c₂, i₂, len₂, hc₂, hd₂, hf₂⟩ := hend
    have hW' : U.WarmedH s₂.vm := hW₂
    have hcc : c₂ = c := by
      have h1 : s₂.code? g.method = U.code? g.method := by
        rw [State.code?_eq, State.code?_eq, hW'.alike.method?]
      exact Option.some.inj (hc₂.symm.trans (h1.trans h.code))
    subst hcc
    have hlen : len₂ = len := by rw [hdg] at hd₂; cases hd₂; rfl
    subst hlen
    have hs₂ : s₂ = (({ U with heap := s₂.heap, slotsUsed := s₂.slotsUsed } : State).setVm s₂.vm).setTop { g with pc := g.pc + len₂, stack := v.toList ++ g.stack } := by
      refine e3.trans ?_
      rw [hf₂, State.calling_eq h.top, State.setFrames_setFrames, State.setTop_of_frames _ hr', hr]
      rfl
    have hsame : U.sameButNew ({ U with heap := s₂.heap, slotsUsed := s₂.slotsUsed } : State) L mc ms := by
      refine ⟨?_, q2, q3, q4, q5, q6⟩
      obtain ⟨t, ht, -⟩ := State.frames_cons hr
      show ({ U with heap := s₂.heap, slotsUsed := s₂.slotsUsed } : State) = { U.setFrames U.frames with heap := s₂.heap, slotsUsed := s₂.slotsUsed }
      rw [State.setFrames_self ht]
    subst hg
    refine Or.inl ⟨v, ⟨(({ U with heap := s₂.heap, slotsUsed := s₂.slotsUsed } : State).setVm s₂.vm), Ls ++ L, c0 + mc, s0 + ms⟩,
      ⟨X.admits, X.cas, X.clock, X.frames, X.room, X.hears, X.method, X.code, (X.here.setHeapUsed s₂.heap s₂.slotsUsed).setVm hW'.alike, X.tail, State.WarmedH.trans X.warmed hW', X.limits, X.bytes, X.same.trans (hsame.setVm s.vm)⟩,
      ⟨g, mk, s₂, L, rfl, rfl, hqc, rfl, hL, rfl, rfl⟩, ?_⟩
    show Steps p.tables e below _ ((({ U with heap := s₂.heap, slotsUsed := s₂.slotsUsed } : State).setVm s₂.vm).setTop { g with pc := g.pc + len₂, stack := v.toList ++ g.stack })
    rw [← hs₂]
    exact hsteps
  · obtain ⟨e2, q2, q3, q4, q5, q6⟩ := id hsm
    have e3 : s₂ = ({ (U.calling g mk a).setFrames s₂.frames with heap := s₂.heap, slotsUsed := s₂.slotsUsed } : State).setVm s₂.vm := by
      have : s₂ = ({ s₂ with vm := (U.calling g mk a).vm } : State).setVm s₂.vm := rfl
      rw [e2] at this
      exact this
    have hf₂ : s₂.frames = .throwing q :: .java g :: U.frames.tail := hend
    have hW' : U.WarmedH s₂.vm := hW₂
    have hs₂ : s₂ = ((({ U with heap := s₂.heap, slotsUsed := s₂.slotsUsed } : State).setVm s₂.vm).setTop g).pushFrame (.throwing q) := by
      refine e3.trans ?_
      rw [hf₂, State.calling_eq h.top, State.setFrames_setFrames, State.pushFrame, State.frames_setTop _ hr', State.setTop_of_frames _ hr', State.setFrames_setFrames, hr]
      rfl
    have hsame : U.sameButNew ({ U with heap := s₂.heap, slotsUsed := s₂.slotsUsed } : State) L mc ms := by
      refine ⟨?_, q2, q3, q4, q5, q6⟩
      obtain ⟨t, ht, -⟩ := State.frames_cons hr
      show ({ U with heap := s₂.heap, slotsUsed := s₂.slotsUsed } : State) = { U.setFrames U.frames with heap := s₂.heap, slotsUsed := s₂.slotsUsed }
      rw [State.setFrames_self ht]
    subst hg
    refine Or.inr ⟨q, ⟨(({ U with heap := s₂.heap, slotsUsed := s₂.slotsUsed } : State).setVm s₂.vm), Ls ++ L, c0 + mc, s0 + ms⟩,
      ⟨X.admits, X.cas, X.clock, X.frames, X.room, X.hears, X.method, X.code, (X.here.setHeapUsed s₂.heap s₂.slotsUsed).setVm hW'.alike, X.tail, State.WarmedH.trans X.warmed hW', X.limits, X.bytes, X.same.trans (hsame.setVm s.vm)⟩,
      ⟨g, mk, s₂, L, E, ce, rfl, rfl, hx, hce, hcv, hcl, rfl, hL, rfl, rfl⟩, ?_⟩
    show Steps p.tables e below _ (((({ U with heap := s₂.heap, slotsUsed := s₂.slotsUsed } : State).setVm s₂.vm).setTop g).pushFrame (.throwing q))
    rw [← hs₂]
    exact hsteps
end Payer
section Calls
variable {p : Program} {l : Launch} {e : Env} {R : Room} {s : State} {m : MethodId} {args : Array Value} {below : List Frame} {meth : Method} {c : Code} {T : State} {locs : List Loc} {cells slots : Nat}
theorem vx_callV (X : Stand p l e R s m args below meth c T locs cells slots) (hexec : p.tables.exec = Jvm.exec) {own C : String} {index : Nat} {y : MethodName} {bytes : ByteArray} {maxL : Nat} {ret : Option FieldType}
    (hown : s.vm.findClass own = some m.cls) (hlink : (Cond.methodLink own index y).before args s = true) (hinst : (Cond.instanceMethod y).before args s = true) (hsel : (Cond.selects C y y).before args s = true)
    (hcode : (Cond.code y bytes maxL ret).before args s = true) (hy : y.cls ≠ "java/lang/invoke/MethodHandle" ∧ y.cls ≠ "java/lang/invoke/VarHandle")
    {W9 : Nat} {Pre : Pt → Array Value → Prop} {Post : Pt → Array Value → Option Value → Pt → Prop} {PostX : Pt → Array Value → Addr → Pt → Prop} (hK : vx_Back l R p e below s args y 3 W9 Pre Post PostX)
    {b : Addr} {cellB : Cell} (hcell : T.heap[b]? = some cellB) (hobj : cellB.vm.isStatics = false) (hcls : s.vm.findClass C = some cellB.cls)
    {g : JFrame} (hg : g.method = m) (hsize : g.locals.size = c.maxLocals) {argsL rest : List Value} (hlen : ∀ sig, parseMethodDescriptor y.desc = some sig → argsL.length = sig.parameters.length)
    (hstack : g.stack = argsL.reverse ++ .ref b :: rest) (hW : 2 * g.monitorRoom + (rest.map fun v => v.category).sum ≤ W9) (hdg : decode c.code g.pc = .ok (.invokevirtual index, 3))
    (hpre : ∀ vm₁, s.WarmedH vm₁ → Pre ⟨T.setVm vm₁, locs, cells, slots⟩ (Value.ref b :: argsL).toArray) :
    (∃ (v : Option Value) (vm₁ : Vm) (B : Pt), s.WarmedH vm₁ ∧ Stand p l e R s m args below meth c B.U B.locs B.cells B.slots ∧ Post ⟨T.setVm vm₁, locs, cells, slots⟩ (Value.ref b :: argsL).toArray v B ∧
      ∀ target, Steps p.tables e below (B.U.setTop { g with pc := g.pc + 3, stack := v.toList ++ rest }) target → Steps p.tables e below (T.setTop g) target) ∨
    (∃ (q : Addr) (vm₁ : Vm) (B : Pt), s.WarmedH vm₁ ∧ Stand p l e R s m args below meth c B.U B.locs B.cells B.slots ∧ PostX ⟨T.setVm vm₁, locs, cells, slots⟩ (Value.ref b :: argsL).toArray q B ∧
      Steps p.tables e below (T.setTop g) ((B.U.setTop { g with stack := rest }).pushFrame (.throwing q))) := by
  obtain ⟨mk, methM, hnamed, hmethM, hstM, habM⟩ := Cond.instanceMethod_spec hinst
  obtain ⟨methM', cM, hmethM', -, -, -, -, -, -, hsigM⟩ := Cond.code_spec hnamed hcode
  cases hmethM.symm.trans hmethM'
  obtain ⟨c2, r2, m2, q1, q2, q3, q4, kP, hkP, hkPi⟩ := Cond.selects_spec hsel
  cases hcls.symm.trans q1
  cases (State.methodFound?_of_named hnamed hy).symm.trans q2
  cases hnamed.symm.trans q3
  have hselP : selectMethod e.platform s.vm cellB.cls mk = .method mk := by rw [Launch.admits_selectMethod X.admits]; exact q4
  obtain ⟨vm₁, X₁, hstep₁⟩ := X.invokevirtual hexec hown hlink hnamed hmethM hstM hkP hkPi hy (a := b) (cell := cellB) hcell
    (fun z h => by rw [h] at hobj; cases hobj) hselP hmethM habM hkP hkPi (g := g) hg (argsL := argsL) (rest := rest) (hlen _ hsigM) hstack hdg
  rcases hK m meth c ⟨T.setVm vm₁, locs, cells, slots⟩ { g with stack := rest } (.invokevirtual index) mk (Value.ref b :: argsL).toArray X₁ hg hsize hdg hW (X₁.named hnamed) (hpre vm₁ X₁.warmed) with ⟨v, B, X', hpost, hsteps⟩ | ⟨q, B, X', hpost, hsteps⟩
  · exact Or.inl ⟨v, vm₁, B, X₁.warmed, X', hpost, fun target h => hstep₁ _ fun acts => by rw [doInvoke_state]; exact hsteps.trans h⟩
  · exact Or.inr ⟨q, vm₁, B, X₁.warmed, X', hpost, hstep₁ _ fun acts => by rw [doInvoke_state]; exact hsteps⟩
theorem vx_callS (X : Stand p l e R s m args below meth c T locs cells slots) (hexec : p.tables.exec = Jvm.exec) {own : String} {index : Nat} {y : MethodName} {bytes : ByteArray} {maxL : Nat} {ret : Option FieldType}
    (hown : s.vm.findClass own = some m.cls) (hlink : (Cond.methodLink own index y).before args s = true) (hstat : (Cond.static y).before args s = true) (hinit : (Cond.initialized y.cls).before args s = true)
    (hcode : (Cond.code y bytes maxL ret).before args s = true) (hy : y.cls ≠ "java/lang/invoke/MethodHandle" ∧ y.cls ≠ "java/lang/invoke/VarHandle")
    {W9 : Nat} {Pre : Pt → Array Value → Prop} {Post : Pt → Array Value → Option Value → Pt → Prop} {PostX : Pt → Array Value → Addr → Pt → Prop} (hK : vx_Back l R p e below s args y 3 W9 Pre Post PostX)
    {g : JFrame} (hg : g.method = m) (hsize : g.locals.size = c.maxLocals) {argsL rest : List Value} (hlen : ∀ sig, parseMethodDescriptor y.desc = some sig → argsL.length = sig.parameters.length)
    (hstack : g.stack = argsL.reverse ++ rest) (hW : 2 * g.monitorRoom + (rest.map fun v => v.category).sum ≤ W9) (hdg : decode c.code g.pc = .ok (.invokestatic index, 3))
    (hpre : ∀ vm₁, s.WarmedH vm₁ → Pre ⟨T.setVm vm₁, locs, cells, slots⟩ argsL.toArray) :
    (∃ (v : Option Value) (vm₁ : Vm) (B : Pt), s.WarmedH vm₁ ∧ Stand p l e R s m args below meth c B.U B.locs B.cells B.slots ∧ Post ⟨T.setVm vm₁, locs, cells, slots⟩ argsL.toArray v B ∧
      ∀ target, Steps p.tables e below (B.U.setTop { g with pc := g.pc + 3, stack := v.toList ++ rest }) target → Steps p.tables e below (T.setTop g) target) ∨
    (∃ (q : Addr) (vm₁ : Vm) (B : Pt), s.WarmedH vm₁ ∧ Stand p l e R s m args below meth c B.U B.locs B.cells B.slots ∧ PostX ⟨T.setVm vm₁, locs, cells, slots⟩ argsL.toArray q B ∧
      Steps p.tables e below (T.setTop g) ((B.U.setTop { g with stack := rest }).pushFrame (.throwing q))) := by
  obtain ⟨mk, hnamed⟩ := Cond.code_named hcode
  obtain ⟨methM, cM, hmethM, -, -, -, -, -, -, hsigM⟩ := Cond.code_spec hnamed hcode
  have hstatic : methM.isStatic = true := Cond.static_spec hnamed hmethM hstat
  obtain ⟨kP, hkP, -⟩ := className_of_methodNamed hnamed
  have hinitP : kP.init = .initialized := Cond.initialized_spec (findClass_of_methodNamed hnamed) hkP hinit
  obtain ⟨vm₁, X₁, hstep₁⟩ := X.invokestatic hexec hown hlink hnamed hmethM hstatic hkP hinitP hy (g := g) hg (argsL := argsL) (rest := rest) (hlen _ hsigM) hstack hdg
  rcases hK m meth c ⟨T.setVm vm₁, locs, cells, slots⟩ { g with stack := rest } (.invokestatic index) mk argsL.toArray X₁ hg hsize hdg hW (X₁.named hnamed) (hpre vm₁ X₁.warmed) with ⟨v, B, X', hpost, hsteps⟩ | ⟨q, B, X', hpost, hsteps⟩
  · exact Or.inl ⟨v, vm₁, B, X₁.warmed, X', hpost, fun target h => hstep₁ _ fun acts => by rw [doInvoke_state]; exact hsteps.trans h⟩
  · exact Or.inr ⟨q, vm₁, B, X₁.warmed, X', hpost, hstep₁ _ fun acts => by rw [doInvoke_state]; exact hsteps⟩
end Calls
theorem vx_cls {s : State} {T : State} {vm₁ : Vm} {E : String} {k : ClassId} (hW : s.WarmedH vm₁) (h : (T.setVm vm₁).vm.findClass E = some k) : s.vm.findClass E = some k := by
  have h1 : vm₁.findClass E = some k := h
  rw [hW.alike.findClass] at h1
  exact h1
/-- the method's frame g, with q thrown over it -/
def vx_W (p : Program) (l : Launch) (e : Env) (R : Room) (s : State) (m : MethodId) (args : Array Value) (below : List Frame) (meth : Method) (c : Code) (H : Heap) (locs : List Loc) (cells slots : Nat) (Q : State → Prop) (g : JFrame) (q : Addr) : Prop :=
  ∀ T : State, T.heap = H → Stand p l e R s m args below meth c T locs cells slots → ∃ t, Steps p.tables e below ((T.setTop g).pushFrame (.throwing q)) t ∧ Q t
def vx_Run (p : Program) (l : Launch) (e : Env) (R : Room) (s : State) (m : MethodId) (args : Array Value) (below : List Frame) (meth : Method) (c : Code) (H : Heap) (locs : List Loc) (cells slots mc ms : Nat) (g : JFrame) (rest : List Value) (Qa : State → Outcome → State → Prop) (XC : String → State → State → Prop) (free : Addr → Prop) : Prop :=
  ∀ T : State, T.heap = H → Stand p l e R s m args below meth c T locs cells slots →
    (∃ (v : Option Value) (st₀ t T' : State) (L : List Loc), st₀.heap = H ∧ Stand p l e R s m args below meth c T' (locs ++ L) (cells + mc) (slots + ms) ∧ (∀ q ∈ L, free q.base) ∧ T'.heap = t.heap ∧ T'.vm = t.vm ∧ Qa st₀ (.returned v) t ∧
      Goes p e below T g T' { g with pc := g.pc + 3, stack := v.toList ++ rest }) ∨
    (∃ (q : Addr) (st₀ t T' : State) (L : List Loc) (E : String) (ce : Cell), st₀.heap = H ∧ Stand p l e R s m args below meth c T' (locs ++ L) (cells + mc) (slots + ms) ∧ (∀ z ∈ L, free z.base) ∧ T'.heap = t.heap ∧ T'.vm = t.vm ∧ XC E st₀ t ∧ t.heap[q]? = some ce ∧ ce.vm = .none ∧ s.vm.findClass E = some ce.cls ∧
      Steps p.tables e below (T.setTop g) ((T'.setTop { g with stack := rest }).pushFrame (.throwing q)))
def vx_X {S : Type} (px : S → Prop) (B : String → S → State → Prop) (A : Nat → Prop) : String → State → State → Prop := fun E st t => ∃ u : S, px u ∧ B E u t ∧ va_F A st t
section Runs
variable {p : Program} {l : Launch} {e : Env} {R : Room} {s : State} {m : MethodId} {args : Array Value} {below : List Frame} {meth : Method} {c : Code} {H : Heap} {locs : List Loc} {cells slots : Nat}
variable {y : MethodName} {bytes cc : ByteArray} {maxL nL mc ms n index : Nat} {ret : Option FieldType} {ws : List Cond} {rm : Room} {Pc : Array Value → State → Prop} {Qc : Array Value → State → Outcome → State → Prop} {XC : String → State → State → Prop} {free : Addr → Prop} {Ts : List Cond} {own C : String} {b : Addr} {As rest : List Value} {g : JFrame}
theorem vx_callBack (cb : CallB R s args own index y bytes maxL ret ws rm mc ms n) (hM : vx_Met l y ws rm Pc Qc XC mc ms free) (hbl : FrameBlind Pc) : vx_Back l R p e below s args y 3 8 (PreOf R mc ms Pc) (PostOf Qc mc ms free) (vx_Post XC mc ms free) := by
  obtain ⟨hrc, hrs, hfr, hlo, hws, hcw, -, hini, -⟩ := cb
  exact vx_back (bytes := bytes) (maxL := maxL) (ret := ret) hM hbl hrc hrs hfr hlo hws hcw (fun a' U hW => word_at hW (Or.inl (by first | rfl | simp [Cond.onTables, Cond.keeps, Cond.steady])) hini)
theorem vx_runV (S : CallFix p m c cc nL s args Ts own) (hM : vx_Met l y ws rm Pc Qc XC mc ms free) (cw : CallW R s args own C index y bytes maxL ret ws rm mc ms n) (hp : PreV s H C b Pc As)
    (hg : g.method = m) (hn : As.length = n) (hsize : g.locals.size = nL) (hstack : g.stack = As.reverse ++ .ref b :: rest) (hW : 2 * g.monitorRoom + (rest.map fun v => v.category).sum ≤ 8) (hdg : decode cc g.pc = .ok (.invokevirtual index, 3)) (hf : cells + mc ≤ R.cells ∧ slots + ms ≤ R.slots) :
    vx_Run p l e R s m args below meth c H locs cells slots mc ms g rest (Qc (Value.ref b :: As).toArray) XC free := by
  have hK : vx_Back l R p e below s args y 3 8 (PreOf R mc ms Pc) (PostOf Qc mc ms free) (vx_Post XC mc ms free) := vx_callBack cw.1 hM hp.1
  obtain ⟨⟨-, -, -, -, -, -, hcode, -, hy, hlen, hl⟩, hin, hse⟩ := cw
  obtain ⟨hx, hb, hml, ho, -⟩ := S
  obtain ⟨-, ⟨cellB, hcB, hoB, hclB⟩, hPc⟩ := hp
  intro T hT X
  rcases vx_callV X hx (C := C) (bytes := bytes) (maxL := maxL) (ret := ret) ho hl hin hse hcode hy hK (by rw [hT]; exact hcB) hoB hclB hg (hsize.trans hml.symm) (argsL := As) (rest := rest) (fun sig h => hn.trans (hlen sig h)) hstack hW (by rw [hb]; exact hdg)
    (fun vm₁ hW₁ => ⟨hf.1, hf.2, hPc (T.setVm vm₁) hT hW₁⟩) with ⟨v, vm₁, ⟨U', l2, c2, s2⟩, hW₁, X', ⟨g', mk, t, L, e1, e2, hq, h1, hL, h2, h3⟩, st⟩ | ⟨q, vm₁, ⟨U', l2, c2, s2⟩, hW₁, X', ⟨g', mk, t, L, E, ce, e1, e2, hq, hce, hcv, hcl, h1, hL, h2, h3⟩, st⟩
  · dsimp only [Pt.U, Pt.locs, Pt.cells, Pt.slots] at X' e1 e2 h1 h2 h3 st
    subst h1; subst h2; subst h3
    exact Or.inl ⟨v, (T.setVm vm₁).calling g' mk (Value.ref b :: As).toArray, t, U', L, hT, X', hL, e1, e2, hq, st⟩
  · dsimp only [Pt.U, Pt.locs, Pt.cells, Pt.slots] at X' e1 e2 h1 h2 h3 st hcl
    subst h1; subst h2; subst h3
    exact Or.inr ⟨q, (T.setVm vm₁).calling g' mk (Value.ref b :: As).toArray, t, U', L, E, ce, hT, X', hL, e1, e2, hq, hce, hcv, vx_cls hW₁ hcl, st⟩
theorem vx_runS (S : CallFix p m c cc nL s args Ts own) (hM : vx_Met l y ws rm Pc Qc XC mc ms free) (cw : CallB R s args own index y bytes maxL ret ws rm mc ms n ∧ (Cond.static y).before args s = true) (hp : PreS s H Pc As)
    (hg : g.method = m) (hn : As.length = n) (hsize : g.locals.size = nL) (hstack : g.stack = As.reverse ++ rest) (hW : 2 * g.monitorRoom + (rest.map fun v => v.category).sum ≤ 8) (hdg : decode cc g.pc = .ok (.invokestatic index, 3)) (hf : cells + mc ≤ R.cells ∧ slots + ms ≤ R.slots) :
    vx_Run p l e R s m args below meth c H locs cells slots mc ms g rest (Qc As.toArray) XC free := by
  have hK : vx_Back l R p e below s args y 3 8 (PreOf R mc ms Pc) (PostOf Qc mc ms free) (vx_Post XC mc ms free) := vx_callBack cw.1 hM hp.1
  obtain ⟨⟨-, -, -, -, -, -, hcode, hini, hy, hlen, hl⟩, hstt⟩ := cw
  obtain ⟨hx, hb, hml, ho, -⟩ := S
  intro T hT X
  rcases vx_callS X hx (bytes := bytes) (maxL := maxL) (ret := ret) ho hl hstt hini hcode hy hK hg (hsize.trans hml.symm) (argsL := As) (rest := rest) (fun sig h => hn.trans (hlen sig h)) hstack hW (by rw [hb]; exact hdg)
    (fun vm₁ hW₁ => ⟨hf.1, hf.2, hp.2 (T.setVm vm₁) hT hW₁⟩) with ⟨v, vm₁, ⟨U', l2, c2, s2⟩, hW₁, X', ⟨g', mk, t, L, e1, e2, hq, h1, hL, h2, h3⟩, st⟩ | ⟨q, vm₁, ⟨U', l2, c2, s2⟩, hW₁, X', ⟨g', mk, t, L, E, ce, e1, e2, hq, hce, hcv, hcl, h1, hL, h2, h3⟩, st⟩
  · dsimp only [Pt.U, Pt.locs, Pt.cells, Pt.slots] at X' e1 e2 h1 h2 h3 st
    subst h1; subst h2; subst h3
    exact Or.inl ⟨v, (T.setVm vm₁).calling g' mk As.toArray, t, U', L, hT, X', hL, e1, e2, hq, st⟩
  · dsimp only [Pt.U, Pt.locs, Pt.cells, Pt.slots] at X' e1 e2 h1 h2 h3 st hcl
    subst h1; subst h2; subst h3
    exact Or.inr ⟨q, (T.setVm vm₁).calling g' mk As.toArray, t, U', L, E, ce, hT, X', hL, e1, e2, hq, hce, hcv, vx_cls hW₁ hcl, st⟩
end Runs
section Rows
variable {p : Program} {l : Launch} {e : Env} {R : Room} {s : State} {m : MethodId} {args : Array Value} {below : List Frame} {meth : Method} {c : Code} {H : Heap} {locs : List Loc} {cells slots : Nat} {Q : State → Prop}
variable {mc ms : Nat} {free : Addr → Prop} {A0 A1 : Nat → Prop} {H0 : Heap} {a : Array Value} {pc : Nat} {ls : Array Slot} {st0 rest : List Value}
theorem vx_keep {st₀ t T' : State} {L : List Loc} (h0 : st₀.heap = H) (e1 : T'.heap = t.heap) (hS : va_S A0 H0 H locs) (hA : ∀ q, q < H.size → A1 q → A0 q) (hf : ∀ q, free q → A0 q) (hL : ∀ q ∈ L, free q.base) (hF : va_F A1 st₀ t) :
    H.size ≤ T'.heap.size ∧ (∀ q : Nat, q < H.size → ¬ A1 q → T'.heap[q]? = H[q]?) ∧ va_S A0 H0 T'.heap (locs ++ L) := by
  obtain ⟨hz, hk⟩ := hF
  rw [h0] at hz hk
  exact ⟨by rw [e1]; exact hz, fun q h1 h2 => by rw [e1]; exact hk q h1 h2,
    ⟨Nat.le_trans hS.1 (by rw [e1]; exact hz), fun q h1 h2 => by rw [e1, hk q (Nat.lt_of_lt_of_le h1 hS.1) (fun z => h2 (hA q (Nat.lt_of_lt_of_le h1 hS.1) z))]; exact hS.2.1 q h1 h2, fun q hq => by
      rcases List.mem_append.mp hq with h | h
      · exact hS.2.2 q h
      · exact hf _ (hL q h)⟩⟩
theorem vx_calli {S SX : Type} {post : Int32 → S → Prop} {px : SX → Prop} {B : S → State → Prop} {BX : String → SX → State → Prop} {AX : Nat → Prop} (hr : vx_Run p l e R s m args below meth c H locs cells slots mc ms (F0 m pc ls st0) rest (va_Qi post B A1 a) (vx_X px BX AX) free) (hS : va_S A0 H0 H locs) (hA : ∀ q, q < H.size → A1 q → A0 q) (hf : ∀ q, free q → A0 q) (hAX : ∀ q, q < H.size → AX q → A0 q)
    (kx : ∀ (E : String) (ce : Cell) (q9 : Addr) (u : SX) (t : State) (H1 : Heap) (locs1 : List Loc), t.heap = H1 → s.vm.Alike t.vm → px u → BX E u t → H.size ≤ H1.size → (∀ q : Nat, q < H.size → ¬ AX q → H1[q]? = H[q]?) → va_S A0 H0 H1 locs1 → H1[q9]? = some ce → ce.vm = .none → s.vm.findClass E = some ce.cls → vx_W p l e R s m args below meth c H1 locs1 (cells + mc) (slots + ms) Q (F0 m pc ls rest) q9)
    (kk : ∀ (r : Int32) (u : S) (t : State) (H1 : Heap) (locs1 : List Loc), t.heap = H1 → s.vm.Alike t.vm → post r u → B u t → H.size ≤ H1.size → (∀ q : Nat, q < H.size → ¬ A1 q → H1[q]? = H[q]?) → va_S A0 H0 H1 locs1 → W p l e R s m args below meth c H1 locs1 (cells + mc) (slots + ms) Q (F0 m (pc + 3) ls (.int r :: rest))) : W p l e R s m args below meth c H locs cells slots Q (F0 m pc ls st0) := by
  intro T hT X
  rcases hr T hT X with ⟨v, st₀, t, T', L, h0, X', hL, e1, e2, ⟨⟨r, u, hv, hp, hb⟩, hF⟩, st⟩ | ⟨q, st₀, t, T', L, E, ce, h0, X', hL, e1, e2, ⟨u, hp, hb, hF⟩, hce, hcv, hcl, st⟩
  · cases hv
    obtain ⟨k1, k2, k3⟩ := vx_keep h0 e1 hS hA hf hL hF
    obtain ⟨t2, a1, b1⟩ := kk r u t T'.heap (locs ++ L) e1.symm (by rw [← e2]; exact X'.warmed.alike) hp hb k1 k2 k3 T' rfl X'
    exact ⟨t2, st t2 a1, b1⟩
  · obtain ⟨k1, k2, k3⟩ := vx_keep h0 e1 hS hAX hf hL hF
    obtain ⟨t2, a1, b1⟩ := kx E ce q u t T'.heap (locs ++ L) e1.symm (by rw [← e2]; exact X'.warmed.alike) hp hb k1 k2 k3 (by rw [e1]; exact hce) hcv hcl T' rfl X'
    exact ⟨t2, st.trans a1, b1⟩
theorem vx_calll {S SX : Type} {post : Int64 → S → Prop} {px : SX → Prop} {B : S → State → Prop} {BX : String → SX → State → Prop} {AX : Nat → Prop} (hr : vx_Run p l e R s m args below meth c H locs cells slots mc ms (F0 m pc ls st0) rest (va_Ql post B A1 a) (vx_X px BX AX) free) (hS : va_S A0 H0 H locs) (hA : ∀ q, q < H.size → A1 q → A0 q) (hf : ∀ q, free q → A0 q) (hAX : ∀ q, q < H.size → AX q → A0 q)
    (kx : ∀ (E : String) (ce : Cell) (q9 : Addr) (u : SX) (t : State) (H1 : Heap) (locs1 : List Loc), t.heap = H1 → s.vm.Alike t.vm → px u → BX E u t → H.size ≤ H1.size → (∀ q : Nat, q < H.size → ¬ AX q → H1[q]? = H[q]?) → va_S A0 H0 H1 locs1 → H1[q9]? = some ce → ce.vm = .none → s.vm.findClass E = some ce.cls → vx_W p l e R s m args below meth c H1 locs1 (cells + mc) (slots + ms) Q (F0 m pc ls rest) q9)
    (kk : ∀ (r : Int64) (u : S) (t : State) (H1 : Heap) (locs1 : List Loc), t.heap = H1 → s.vm.Alike t.vm → post r u → B u t → H.size ≤ H1.size → (∀ q : Nat, q < H.size → ¬ A1 q → H1[q]? = H[q]?) → va_S A0 H0 H1 locs1 → W p l e R s m args below meth c H1 locs1 (cells + mc) (slots + ms) Q (F0 m (pc + 3) ls (.long r :: rest))) : W p l e R s m args below meth c H locs cells slots Q (F0 m pc ls st0) := by
  intro T hT X
  rcases hr T hT X with ⟨v, st₀, t, T', L, h0, X', hL, e1, e2, ⟨⟨r, u, hv, hp, hb⟩, hF⟩, st⟩ | ⟨q, st₀, t, T', L, E, ce, h0, X', hL, e1, e2, ⟨u, hp, hb, hF⟩, hce, hcv, hcl, st⟩
  · cases hv
    obtain ⟨k1, k2, k3⟩ := vx_keep h0 e1 hS hA hf hL hF
    obtain ⟨t2, a1, b1⟩ := kk r u t T'.heap (locs ++ L) e1.symm (by rw [← e2]; exact X'.warmed.alike) hp hb k1 k2 k3 T' rfl X'
    exact ⟨t2, st t2 a1, b1⟩
  · obtain ⟨k1, k2, k3⟩ := vx_keep h0 e1 hS hAX hf hL hF
    obtain ⟨t2, a1, b1⟩ := kx E ce q u t T'.heap (locs ++ L) e1.symm (by rw [← e2]; exact X'.warmed.alike) hp hb k1 k2 k3 (by rw [e1]; exact hce) hcv hcl T' rfl X'
    exact ⟨t2, st.trans a1, b1⟩
theorem vx_callf {S SX : Type} {post : UInt32 → S → Prop} {px : SX → Prop} {B : S → State → Prop} {BX : String → SX → State → Prop} {AX : Nat → Prop} (hr : vx_Run p l e R s m args below meth c H locs cells slots mc ms (F0 m pc ls st0) rest (va_Qf post B A1 a) (vx_X px BX AX) free) (hS : va_S A0 H0 H locs) (hA : ∀ q, q < H.size → A1 q → A0 q) (hf : ∀ q, free q → A0 q) (hAX : ∀ q, q < H.size → AX q → A0 q)
    (kx : ∀ (E : String) (ce : Cell) (q9 : Addr) (u : SX) (t : State) (H1 : Heap) (locs1 : List Loc), t.heap = H1 → s.vm.Alike t.vm → px u → BX E u t → H.size ≤ H1.size → (∀ q : Nat, q < H.size → ¬ AX q → H1[q]? = H[q]?) → va_S A0 H0 H1 locs1 → H1[q9]? = some ce → ce.vm = .none → s.vm.findClass E = some ce.cls → vx_W p l e R s m args below meth c H1 locs1 (cells + mc) (slots + ms) Q (F0 m pc ls rest) q9)
    (kk : ∀ (r : UInt32) (u : S) (t : State) (H1 : Heap) (locs1 : List Loc), t.heap = H1 → s.vm.Alike t.vm → post r u → B u t → H.size ≤ H1.size → (∀ q : Nat, q < H.size → ¬ A1 q → H1[q]? = H[q]?) → va_S A0 H0 H1 locs1 → W p l e R s m args below meth c H1 locs1 (cells + mc) (slots + ms) Q (F0 m (pc + 3) ls (.float r :: rest))) : W p l e R s m args below meth c H locs cells slots Q (F0 m pc ls st0) := by
  intro T hT X
  rcases hr T hT X with ⟨v, st₀, t, T', L, h0, X', hL, e1, e2, ⟨⟨r, u, hv, hp, hb⟩, hF⟩, st⟩ | ⟨q, st₀, t, T', L, E, ce, h0, X', hL, e1, e2, ⟨u, hp, hb, hF⟩, hce, hcv, hcl, st⟩
  · cases hv
    obtain ⟨k1, k2, k3⟩ := vx_keep h0 e1 hS hA hf hL hF
    obtain ⟨t2, a1, b1⟩ := kk r u t T'.heap (locs ++ L) e1.symm (by rw [← e2]; exact X'.warmed.alike) hp hb k1 k2 k3 T' rfl X'
    exact ⟨t2, st t2 a1, b1⟩
  · obtain ⟨k1, k2, k3⟩ := vx_keep h0 e1 hS hAX hf hL hF
    obtain ⟨t2, a1, b1⟩ := kx E ce q u t T'.heap (locs ++ L) e1.symm (by rw [← e2]; exact X'.warmed.alike) hp hb k1 k2 k3 (by rw [e1]; exact hce) hcv hcl T' rfl X'
    exact ⟨t2, st.trans a1, b1⟩
theorem vx_calld {S SX : Type} {post : UInt64 → S → Prop} {px : SX → Prop} {B : S → State → Prop} {BX : String → SX → State → Prop} {AX : Nat → Prop} (hr : vx_Run p l e R s m args below meth c H locs cells slots mc ms (F0 m pc ls st0) rest (va_Qd post B A1 a) (vx_X px BX AX) free) (hS : va_S A0 H0 H locs) (hA : ∀ q, q < H.size → A1 q → A0 q) (hf : ∀ q, free q → A0 q) (hAX : ∀ q, q < H.size → AX q → A0 q)
    (kx : ∀ (E : String) (ce : Cell) (q9 : Addr) (u : SX) (t : State) (H1 : Heap) (locs1 : List Loc), t.heap = H1 → s.vm.Alike t.vm → px u → BX E u t → H.size ≤ H1.size → (∀ q : Nat, q < H.size → ¬ AX q → H1[q]? = H[q]?) → va_S A0 H0 H1 locs1 → H1[q9]? = some ce → ce.vm = .none → s.vm.findClass E = some ce.cls → vx_W p l e R s m args below meth c H1 locs1 (cells + mc) (slots + ms) Q (F0 m pc ls rest) q9)
    (kk : ∀ (r : UInt64) (u : S) (t : State) (H1 : Heap) (locs1 : List Loc), t.heap = H1 → s.vm.Alike t.vm → post r u → B u t → H.size ≤ H1.size → (∀ q : Nat, q < H.size → ¬ A1 q → H1[q]? = H[q]?) → va_S A0 H0 H1 locs1 → W p l e R s m args below meth c H1 locs1 (cells + mc) (slots + ms) Q (F0 m (pc + 3) ls (.double r :: rest))) : W p l e R s m args below meth c H locs cells slots Q (F0 m pc ls st0) := by
  intro T hT X
  rcases hr T hT X with ⟨v, st₀, t, T', L, h0, X', hL, e1, e2, ⟨⟨r, u, hv, hp, hb⟩, hF⟩, st⟩ | ⟨q, st₀, t, T', L, E, ce, h0, X', hL, e1, e2, ⟨u, hp, hb, hF⟩, hce, hcv, hcl, st⟩
  · cases hv
    obtain ⟨k1, k2, k3⟩ := vx_keep h0 e1 hS hA hf hL hF
    obtain ⟨t2, a1, b1⟩ := kk r u t T'.heap (locs ++ L) e1.symm (by rw [← e2]; exact X'.warmed.alike) hp hb k1 k2 k3 T' rfl X'
    exact ⟨t2, st t2 a1, b1⟩
  · obtain ⟨k1, k2, k3⟩ := vx_keep h0 e1 hS hAX hf hL hF
    obtain ⟨t2, a1, b1⟩ := kx E ce q u t T'.heap (locs ++ L) e1.symm (by rw [← e2]; exact X'.warmed.alike) hp hb k1 k2 k3 (by rw [e1]; exact hce) hcv hcl T' rfl X'
    exact ⟨t2, st.trans a1, b1⟩
theorem vx_callv {S SX : Type} {post : S → Prop} {px : SX → Prop} {B : S → State → Prop} {BX : String → SX → State → Prop} {AX : Nat → Prop} (hr : vx_Run p l e R s m args below meth c H locs cells slots mc ms (F0 m pc ls st0) rest (va_Qv post B A1 a) (vx_X px BX AX) free) (hS : va_S A0 H0 H locs) (hA : ∀ q, q < H.size → A1 q → A0 q) (hf : ∀ q, free q → A0 q) (hAX : ∀ q, q < H.size → AX q → A0 q)
    (kx : ∀ (E : String) (ce : Cell) (q9 : Addr) (u : SX) (t : State) (H1 : Heap) (locs1 : List Loc), t.heap = H1 → s.vm.Alike t.vm → px u → BX E u t → H.size ≤ H1.size → (∀ q : Nat, q < H.size → ¬ AX q → H1[q]? = H[q]?) → va_S A0 H0 H1 locs1 → H1[q9]? = some ce → ce.vm = .none → s.vm.findClass E = some ce.cls → vx_W p l e R s m args below meth c H1 locs1 (cells + mc) (slots + ms) Q (F0 m pc ls rest) q9)
    (kk : ∀ (u : S) (t : State) (H1 : Heap) (locs1 : List Loc), t.heap = H1 → s.vm.Alike t.vm → post u → B u t → H.size ≤ H1.size → (∀ q : Nat, q < H.size → ¬ A1 q → H1[q]? = H[q]?) → va_S A0 H0 H1 locs1 → W p l e R s m args below meth c H1 locs1 (cells + mc) (slots + ms) Q (F0 m (pc + 3) ls (rest))) : W p l e R s m args below meth c H locs cells slots Q (F0 m pc ls st0) := by
  intro T hT X
  rcases hr T hT X with ⟨v, st₀, t, T', L, h0, X', hL, e1, e2, ⟨⟨u, hv, hp, hb⟩, hF⟩, st⟩ | ⟨q, st₀, t, T', L, E, ce, h0, X', hL, e1, e2, ⟨u, hp, hb, hF⟩, hce, hcv, hcl, st⟩
  · cases hv
    obtain ⟨k1, k2, k3⟩ := vx_keep h0 e1 hS hA hf hL hF
    obtain ⟨t2, a1, b1⟩ := kk u t T'.heap (locs ++ L) e1.symm (by rw [← e2]; exact X'.warmed.alike) hp hb k1 k2 k3 T' rfl X'
    exact ⟨t2, st t2 a1, b1⟩
  · obtain ⟨k1, k2, k3⟩ := vx_keep h0 e1 hS hAX hf hL hF
    obtain ⟨t2, a1, b1⟩ := kx E ce q u t T'.heap (locs ++ L) e1.symm (by rw [← e2]; exact X'.warmed.alike) hp hb k1 k2 k3 (by rw [e1]; exact hce) hcv hcl T' rfl X'
    exact ⟨t2, st.trans a1, b1⟩
/-- caught by the row x of this method's table; the rows ahead don't take it -/
theorem vx_catch {own name : String} {E : String} {ce : Cell} {q : Addr} (hown : s.vm.findClass own = some m.cls) (pre : List ExceptionTableEntry) (x : ExceptionTableEntry) (suf : List ExceptionTableEntry) (hsplit : c.exceptionTable.toList = pre ++ x :: suf)
    (hpass : ∀ z ∈ pre, covers z pc = false ∨ (z.catchType ≠ 0 ∧ ∃ nm : String, (Cond.classLink own z.catchType nm).before args s = true ∧ va_Nc E nm s)) (hx : covers x pc = true) (h0 : x.catchType ≠ 0)
    (hlink : (Cond.classLink own x.catchType name).before args s = true) (hcast : (Cond.castable E name).before args s = true) (hcell : H[q]? = some ce) (hv : ce.vm = .none) (hcl : s.vm.findClass E = some ce.cls)
    (kk : W p l e R s m args below meth c H locs cells slots Q (F0 m x.handlerPc ls [.ref q])) : vx_W p l e R s m args below meth c H locs cells slots Q (F0 m pc ls rest) q := by
  intro T hT X
  have hpl : e.platform.magicAccessors = ({} : Platform).magicAccessors := by rw [X.admits.platform]
  obtain ⟨c3, c4, hc3, hc4, hasg⟩ := Cond.castable_spec hcast
  cases Option.some.inj (hc3.symm.trans hcl)
  obtain ⟨c5, hc5, hcl5⟩ := Cond.classLink_spec hown hlink e.platform hpl
  cases Option.some.inj (hc4.symm.trans hc5)
  obtain ⟨vm', X', st⟩ := X.thenCaughtThrough q (g := F0 m pc ls rest) rfl (Steps.refl _) (by rw [hT]; exact hcell) (by rw [hv]; rfl) (by obtain ⟨k9, h9, -⟩ := Vm.findClass_spec hcl; exact ⟨k9, h9⟩) pre x suf hsplit
    (fun z hz => by
      rcases hpass z hz with h | ⟨hz0, nm, hl1, hn1⟩
      · exact Or.inl h
      · obtain ⟨c6, hc6, hcl6⟩ := Cond.classLink_spec hown hl1 e.platform hpl
        obtain ⟨a8, b8, h1, h2, h3⟩ := hn1
        cases Option.some.inj (h1.symm.trans hcl)
        cases Option.some.inj (h2.symm.trans hc6)
        exact Or.inr ⟨hz0, _, hcl6, h3⟩) hx (Or.inr ⟨h0, c4, hcl5, hasg⟩)
  obtain ⟨t, a1, b1⟩ := kk (T.setVm vm') hT X'
  exact ⟨t, st.trans a1, b1⟩
end Rows
section Ends
variable {p : Program} {l : Launch} {e : Env} {R : Room} {s : State} {m : MethodId} {args : Array Value} {below : List Frame} {meth : Method} {c : Code} {H : Heap} {locs : List Loc} {cells slots : Nat} {Q : State → Prop}
variable {mc ms : Nat} {free : Addr → Prop} {A0 A1 : Nat → Prop} {H0 : Heap} {a : Array Value} {ls : Array Slot} {st0 rest : List Value}
variable {Qc : Array Value → State → Outcome → State → Prop} {XC : String → State → State → Prop}
/-- what a body that may throw owes at its end -/
def vx_MQ (below : List Frame) (Qc : Array Value → State → Outcome → State → Prop) (XC : String → State → State → Prop) (a : Array Value) (s : State) (mc ms : Nat) (free : Addr → Prop) : State → Prop := fun t =>
  ∃ o, t.status = .running ∧ Ended t below o ∧ vx_Q Qc XC mc ms free a s o t
theorem vx_ret {g : JFrame} {mc ms : Nat} (k : W p l e R s m args below meth c H locs cells slots (MQ below Qc args s mc ms free) g) : W p l e R s m args below meth c H locs cells slots (vx_MQ below Qc XC args s mc ms free) g := by
  intro T hT X
  obtain ⟨t, a1, o, b1, b2, b3, b4⟩ := k T hT X
  exact ⟨t, a1, o, b1, b2, Or.inl ⟨b3, b4⟩⟩
/-- not caught here: it goes on to the caller -/
theorem vx_widen {g : JFrame} {q : Addr} {k n : Nat} (h1 : cells ≤ k) (h2 : slots ≤ n) (kk : vx_W p l e R s m args below meth c H locs k n Q g q) : vx_W p l e R s m args below meth c H locs cells slots Q g q := fun T hT X => kk T hT (stand_widen X h1 h2)
theorem vx_out {pc : Nat} {E : String} {ce : Cell} {q : Addr} {mc ms : Nat} (hout : ∀ x ∈ c.exceptionTable.toList, covers x pc = false) (hlocks : meth.locks = false) (hcell : H[q]? = some ce) (hv : ce.vm = .none) (hcl : s.vm.findClass E = some ce.cls)
    (hx : ∀ t : State, t.heap = H → s.vm.Alike t.vm → XC E s t) (hf : ∀ z ∈ locs, free z.base) (hc : cells ≤ mc) (hs : slots ≤ ms) :
    vx_W p l e R s m args below meth c H locs cells slots (vx_MQ below Qc XC args s mc ms free) (F0 m pc ls rest) q := by
  intro T hT X
  obtain ⟨st1, hrun, hend, hW, hsm⟩ := X.leaveThrown q (g := F0 m pc ls rest) rfl rfl rfl hout hlocks
  have hcell9 : (T.setFrames (.throwing q :: below)).heap[q]? = some ce := by
    show T.heap[q]? = some ce
    rw [hT]; exact hcell
  exact ⟨_, st1, .threw q, hrun, hend, Or.inr ⟨q, rfl, E, ce, locs, hx _ hT hW.alike, hcell9, hv, hcl, hW, hsm.mono hc hs, hf⟩⟩
theorem vx_frame {U : State} {k n : Nat} (h : s.sameButNew ({ U with vm := s.vm } : State) locs k n) : s.heap.size ≤ U.heap.size ∧ ∀ q : Nat, q < s.heap.size → (∀ z ∈ locs, z.base ≠ q) → U.heap[q]? = s.heap[q]? := by
  obtain ⟨-, h2, -, -, -, h6⟩ := h
  refine ⟨h2, fun q hq hz => ?_⟩
  obtain ⟨c9, e1, e2, e3, e4⟩ := h6 q _ (Array.getElem?_eq_getElem hq)
  have hs : c9.slots = (s.heap[q]).slots := Array.ext_getElem? fun i => e4 i fun hm => hz _ hm rfl
  have h9 : c9 = s.heap[q] := by
    rw [hs] at e2
    exact e2
  have e5 : U.heap[q]? = some c9 := e1
  rw [e5, h9, Array.getElem?_eq_getElem hq]
/-- the words of a throw but the four that speak of the heap -/
def vx_no (w : Cond) : Bool := decide (w ≠ .isRef (.static Bundle.tN "UNASSIGNED_STACK" Bundle.steD)) && decide (w ≠ .isRef (.static Bundle.tN "SUPPRESSED_SENTINEL" Bundle.listD)) && decide (w ≠ .laysStatic Bundle.tN "UNASSIGNED_STACK" Bundle.steD) && decide (w ≠ .laysStatic Bundle.tN "SUPPRESSED_SENTINEL" Bundle.listD)
def vx_at0 (own : String) (ic : Nat) (X : String) (names : List String) : List Cond := (Bundle.ownAtoms0 own ic X names).filter vx_no
def vx_atS (own : String) (ic : Nat) (X : String) (names : List String) : List Cond := (Bundle.ownAtoms own ic X names).filter vx_no
/-- a word that the tables alone decide, or a good one -/
def vx_ot (w : Cond) : Bool := w.onTables || goodWord w
theorem vx_ot_at {args a' : Array Value} {s U : State} {w : Cond} (hW : s.WarmedH U.vm) (hvm : s.vm = U.vm) (hg : vx_ot w = true) (h : w.before args s = true) : w.before a' U = true := by
  simp only [vx_ot, Bool.or_eq_true] at hg
  rcases hg with hg | hg
  · exact va_tabs hg hvm h
  · exact word_at hW (good_of_word hg) h
/-- a list's words: the good ones out of the method's own list, the others by premises of their own -/
theorem vx_hat {args : Array Value} {s : State} {L B : List Cond} (h1 : ∀ w ∈ L.filter goodWord, w.before args s = true) (h2 : ∀ w ∈ L.filter (fun w => !goodWord w), w ∈ B) (h3 : ∀ w ∈ B, w.before args s = true) : ∀ w ∈ L, w.before args s = true := by
  intro w hw
  by_cases g : goodWord w = true
  · exact h1 w (List.mem_filter.mpr ⟨hw, g⟩)
  · refine h3 w (h2 w (List.mem_filter.mpr ⟨hw, ?_⟩))
    show (!goodWord w) = true
    cases hgw : goodWord w
    · rfl
    · exact absurd hgw g
theorem vx_c {args : Array Value} {s : State} {w : Cond} {B : List Cond} (h : w.before args s = true) (t : ∀ w ∈ B, w.before args s = true) : ∀ w' ∈ w :: B, w'.before args s = true := fun w' h' => (List.mem_cons.mp h').elim (fun e => by rw [e]; exact h) (t w')
theorem vx_n {args : Array Value} {s : State} : ∀ w ∈ ([] : List Cond), w.before args s = true := fun _ h => nomatch h
theorem vx_own {args : Array Value} {s : State} {L : List Cond} (h1 : ∀ w ∈ L.filter vx_no, w.before args s = true)
    (hU : (Cond.isRef (.static Bundle.tN "UNASSIGNED_STACK" Bundle.steD)).before args s = true) (hN : (Cond.isRef (.static Bundle.tN "SUPPRESSED_SENTINEL" Bundle.listD)).before args s = true)
    (lU : (Cond.laysStatic Bundle.tN "UNASSIGNED_STACK" Bundle.steD).before args s = true) (lN : (Cond.laysStatic Bundle.tN "SUPPRESSED_SENTINEL" Bundle.listD).before args s = true) : ∀ w ∈ L, w.before args s = true := by
  intro w hw
  by_cases e1 : w = .isRef (.static Bundle.tN "UNASSIGNED_STACK" Bundle.steD)
  · rw [e1]; exact hU
  · by_cases e2 : w = .isRef (.static Bundle.tN "SUPPRESSED_SENTINEL" Bundle.listD)
    · rw [e2]; exact hN
    · by_cases e3 : w = .laysStatic Bundle.tN "UNASSIGNED_STACK" Bundle.steD
      · rw [e3]; exact lU
      · by_cases e4 : w = .laysStatic Bundle.tN "SUPPRESSED_SENTINEL" Bundle.listD
        · rw [e4]; exact lN
        · exact h1 w (List.mem_filter.mpr ⟨hw, by unfold vx_no; rw [decide_eq_true e1, decide_eq_true e2, decide_eq_true e3, decide_eq_true e4]; rfl⟩)
/-- where a static field lies, its class's statics cell in H -/
def vx_L (C n d : String) (A : Nat → Prop) (U : State) (H : Heap) : Prop := ∃ (c : ClassId) (k : Class) (i : Nat) (f : Field) (a : Nat) (cell : Cell), U.vm.findClass C = some c ∧ U.fieldFound? C n d = some (c, k, i, f) ∧ f.isStatic = true ∧ k.statics = some a ∧ H[a]? = some cell ∧ cell.vm.isStatics = true ∧ cell.cls = c ∧ f.slot < cell.slots.size ∧ k.staticTypes[f.slot]? = some f.type ∧ ¬ A a
theorem vx_L.moved {C n d : String} {A : Nat → Prop} {u U : State} {H : Heap} (hvm : u.vm.Alike U.vm) (h : vx_L C n d A u H) : vx_L C n d A U H := by
  obtain ⟨c, k, i, f, a, cell, h1, h2, h3, h4, h5, h6, h7, h8, h9, h10⟩ := h
  obtain ⟨k', hi', he⟩ := State.fieldFound?_setVm hvm h2
  exact ⟨c, k', i, f, a, cell, by rw [hvm.findClass]; exact h1, hi', h3, by rw [he]; exact h4, h5, h6, h7, h8, by rw [he]; exact h9, h10⟩
theorem vx_L.kept {C n d : String} {A : Nat → Prop} {U : State} {H H1 : Heap} (h : vx_L C n d A U H) (hq : ∀ a : Nat, a < H.size → ¬ A a → H1[a]? = H[a]?) : vx_L C n d A U H1 := by
  obtain ⟨c, k, i, f, a, cell, h1, h2, h3, h4, h5, h6, h7, h8, h9, h10⟩ := h
  exact ⟨c, k, i, f, a, cell, h1, h2, h3, h4, by rw [hq a (Array.getElem?_eq_some_iff.mp h5).1 h10]; exact h5, h6, h7, h8, h9, h10⟩
theorem vx_L.narrow {C n d : String} {A B : Nat → Prop} {U : State} {H : Heap} (h : vx_L C n d A U H) (hAB : ∀ q, B q → A q) : vx_L C n d B U H := by
  obtain ⟨c, k, i, f, a, cell, h1, h2, h3, h4, h5, h6, h7, h8, h9, h10⟩ := h
  exact ⟨c, k, i, f, a, cell, h1, h2, h3, h4, h5, h6, h7, h8, h9, fun z => h10 (hAB _ z)⟩
theorem vx_L.word {C n d : String} {A : Nat → Prop} {s : State} {args : Array Value} (h : vx_L C n d A s s.heap) : (Cond.laysStatic C n d).before args s = true := by
  obtain ⟨c, k, i, f, a, cell, h1, h2, h3, h4, h5, h6, h7, h8, h9, -⟩ := h
  show (Cond.laysStatic C n d).holds args s none s [] = true
  exact Cond.laysStatic_of h1 h2 h3 h4 h5 h6 h7 h8 h9
/-- .. and what it holds: null or some reference -/
def vx_Zq (C n d : String) (A : Nat → Prop) (U : State) (H : Heap) : Prop := va_Zq C n d A U H ∧ vx_L C n d A U H
theorem vx_Zq.moved {C n d : String} {A : Nat → Prop} {u U : State} {H : Heap} (hvm : u.vm.Alike U.vm) (h : vx_Zq C n d A u H) : vx_Zq C n d A U H := ⟨va_Zq.moved hvm h.1, vx_L.moved hvm h.2⟩
theorem vx_Zq.kept {C n d : String} {A : Nat → Prop} {U : State} {H H1 : Heap} (h : vx_Zq C n d A U H) (hq : ∀ a : Nat, a < H.size → ¬ A a → H1[a]? = H[a]?) : vx_Zq C n d A U H1 := ⟨va_Zq.kept h.1 hq, vx_L.kept h.2 hq⟩
theorem vx_Zq.narrow {C n d : String} {A B : Nat → Prop} {U : State} {H : Heap} (h : vx_Zq C n d A U H) (hAB : ∀ q, B q → A q) : vx_Zq C n d B U H := ⟨va_Zq.narrow h.1 hAB, vx_L.narrow h.2 hAB⟩
theorem vx_Zqof {args : Array Value} {s : State} {C n d : String} {A : Nat → Prop} (hl : (Cond.laysStatic C n d).before args s = true) (hini : (Cond.initialized C).before args s = true) (h : (Cond.isRef (.static C n d)).before args s = true) (hA : ∀ a : Nat, a < s.heap.size → ¬ A a) : vx_Zq C n d A s s.heap := by
  refine ⟨va_Zqof hl hini h hA, ?_⟩
  obtain ⟨c, k, i, f, a, cell, h1, h2, h3, h4, h5, h6, h7, h8, h9⟩ := Cond.laysStatic_spec hl
  exact ⟨c, k, i, f, a, cell, h1, h2, h3, h4, h5, h6, h7, h8, h9, hA a (Array.getElem?_eq_some_iff.mp h5).1⟩
theorem vx_isRef {C n d : String} {v : Value} {A : Nat → Prop} {s : State} {args : Array Value} (h : va_Z C n d v A s s.heap) (hv : v.isRef = true) : (Cond.isRef (.static C n d)).before args s = true := by
  obtain ⟨cf, kf, fi, f, a, cell, h1, h2, h3, h4, h5, h6, h7, -⟩ := h
  have he : (Term.static C n d).eval args s none [] s = some v := by
    simp [Term.eval, State.fieldNamed?, h1, h2, h4, h5, h6, h7]
  simp only [Cond.before, Cond.holds, Cond.value, he]
  cases v <;> simp_all [Value.isRef]
theorem vx_isRefq {C n d : String} {A : Nat → Prop} {s : State} {args : Array Value} (h : va_Zq C n d A s s.heap) : (Cond.isRef (.static C n d)).before args s = true := by
  rcases h with h | ⟨t, h⟩
  · exact vx_isRef h rfl
  · exact vx_isRef h rfl
/-- the same frame, seen from here: as if the method were called anew in this heap -/
theorem vx_rebase {T : State} (X : Stand p l e R s m args below meth c T locs cells slots) {R' : Room} (hf : R'.frames ≤ R.frames) (hl : R'.locals ≤ R.locals) (hc : cells + R'.cells ≤ R.cells) (hs : slots + R'.slots ≤ R.slots) :
    Stand p l e R' ((T.setVm s.vm).setFrames (.invoking m args :: below)) m args below meth c T [] 0 0 := by
  have htop : (T.setVm s.vm).topJava?.isSome := X.here.top
  have hF : ((T.setVm s.vm).setFrames (.invoking m args :: below)).frames = .invoking m args :: below := State.frames_setFrames _ (State.cur_lt_of_top htop)
  obtain ⟨g₀, hg0⟩ := Option.isSome_iff_exists.mp htop
  obtain ⟨r, hr⟩ := State.topJava?_eq_some.mp hg0
  have hl9 : e.platform.stackLimits (T.setVm s.vm).me = e.platform.stackLimits s.me := X.limits
  have hb9 : (T.setVm s.vm).me.stackBytes = s.me.stackBytes := X.bytes
  refine ⟨X.admits, X.cas, X.clock, hF, ?_, X.hears, X.method, X.code, X.here, X.tail, X.warmed, ?_, ?_, ?_⟩
  · have h := X.room
    have hU : ((T.setVm s.vm).setFrames (.invoking m args :: below)).localsInUse = s.localsInUse := by
      rw [State.localsInUse_invoking hF (meth := meth) (c := c) X.method X.code, State.localsInUse_invoking X.frames X.method X.code]
    simp only [State.hasRoom, Bool.and_eq_true, decide_eq_true_eq] at h ⊢
    obtain ⟨⟨⟨⟨h1, h2, h3, h4, h5, h6⟩, h7⟩, h8⟩, h9⟩ := h
    rw [X.frames, List.length_cons] at h2 h3
    have q1 := X.heapSize
    have q2 := X.used
    simp only [hF, hU, List.length_cons, State.stackLimits_setFrames, State.stackBytes_setFrames, hl9, hb9]
    refine ⟨⟨⟨⟨by omega, by omega, by omega, by omega, by omega, h6⟩, ?_⟩, ?_⟩, X.book⟩
    · show T.heap.size + R'.cells ≤ e.platform.maxCells
      omega
    · show T.slotsUsed + R'.slots ≤ e.platform.maxSlots
      omega
  · rw [State.stackLimits_setFrames]; rfl
  · rw [State.stackBytes_setFrames]; rfl
  · refine ⟨?_, Nat.le_refl _, Nat.le_refl _, ?_, ?_, fun a c9 h9 => ⟨c9, h9, rfl, rfl, fun _ _ => rfl⟩⟩
    · obtain ⟨t, ht, -⟩ := State.frames_cons hr
      show T.setVm s.vm = { ((T.setVm s.vm).setFrames (.invoking m args :: below)).setFrames (T.setVm s.vm).frames with heap := T.heap, slotsUsed := T.slotsUsed }
      rw [State.setFrames_setFrames, State.setFrames_self ht]
      rfl
    · show T.slotsUsed = T.slotsUsed + ((T.heap.toList.drop T.heap.size).map (·.slots.size)).sum
      rw [List.drop_eq_nil_of_le (Nat.le_of_eq Array.length_toList)]
      rfl
    · show ((T.heap.toList.drop T.heap.size).map (·.slots.size)).sum ≤ 0
      rw [List.drop_eq_nil_of_le (Nat.le_of_eq Array.length_toList)]
      exact Nat.le_refl _
/-- 'throw new E()': new; dup; invokespecial; athrow -/
theorem vx_throw0 {cc : ByteArray} {pc : Nat} (hexec : p.tables.exec = Jvm.exec) (hb : c.code = cc) (hl : l.stackTraces = false) {own cls : String} {names : List String} {ik ic mc ms : Nat} {A : Nat → Prop}
    (hown : s.vm.findClass own = some m.cls) (hcls : Bundle.fit cls = true) (hnames : ∀ n ∈ names, Bundle.fit n = true)
    (hk : (Cond.classLink own ik cls).before args s = true) (hini : (Cond.initialized cls).before args s = true) (hat : ∀ w ∈ vx_at0 own ic cls names, w.before args s = true)
    (hgood : ∀ w ∈ Cond.classLink own ik cls :: Cond.initialized cls :: vx_at0 own ic cls names, vx_ot w = true)
    (hU : vx_Zq Bundle.tN "UNASSIGNED_STACK" Bundle.steD A s s.heap) (hN : vx_Zq Bundle.tN "SUPPRESSED_SENTINEL" Bundle.listD A s s.heap) (hS : va_S A s.heap H locs) (hsize : ls.size = c.maxLocals)
    (d0 : decode cc pc = .ok (.new ik, 3)) (d3 : decode cc (pc + 3) = .ok (.dup, 1)) (d4 : decode cc (pc + 4) = .ok (.invokespecial ic, 3)) (d7 : decode cc (pc + 7) = .ok (.athrow, 1))
    (hout : ∀ x ∈ c.exceptionTable.toList, covers x (pc + 7) = false)
    (hRframes : names.length + 3 < R.frames) (hRlocals : (rest.map fun v => v.category).sum + (13 * (names.length + 1) + 42) ≤ R.locals) (hRcells : cells + 1 ≤ R.cells) (hRslots : slots + 6 ≤ R.slots) (hlocks : meth.locks = false)
    (hx : ∀ t : State, s.vm.Alike t.vm → H.size ≤ t.heap.size → (∀ q : Nat, q < H.size → t.heap[q]? = H[q]?) → XC cls s t)
    (hf : ∀ z ∈ locs, free z.base) (hc : cells + 1 ≤ mc) (hs : slots + 6 ≤ ms) :
    W p l e R s m args below meth c H locs cells slots (vx_MQ below Qc XC args s mc ms free) (F0 m pc ls rest) := by
  intro T hT X
  have htr : e.platform.stackTraces = false := (show e.platform.stackTraces = l.stackTraces by rw [X.admits.platform]).trans hl
  have Y := vx_rebase X (R' := { frames := R.frames, locals := R.locals, cells := 1, slots := 6 }) (Nat.le_refl _) (Nat.le_refl _) hRcells hRslots
  obtain ⟨s', hA⟩ : ∃ z, z = (T.setVm s.vm).setFrames (.invoking m args :: below) := ⟨_, rfl⟩
  rw [← hA] at Y
  have hvm : s'.vm = s.vm := by rw [hA]; rfl
  have hhp : s'.heap = H := by rw [hA]; exact hT
  have hW0 : s.WarmedH s'.vm := by rw [hvm]; exact State.WarmedH.refl s
  have hat' : ∀ w ∈ vx_at0 own ic cls names, w.before args s' = true := fun w hw => vx_ot_at hW0 hvm.symm (hgood w (List.mem_cons_of_mem _ (List.mem_cons_of_mem _ hw))) (hat w hw)
  have hk' : (Cond.classLink own ik cls).before args s' = true := vx_ot_at hW0 hvm.symm (hgood _ List.mem_cons_self) hk
  have hini' : (Cond.initialized cls).before args s' = true := vx_ot_at hW0 hvm.symm (hgood _ (List.mem_cons_of_mem _ List.mem_cons_self)) hini
  have hU' : vx_Zq Bundle.tN "UNASSIGNED_STACK" Bundle.steD A s' s'.heap := by rw [hhp]; exact vx_Zq.moved hW0.alike (hU.kept hS.2.1)
  have hN' : vx_Zq Bundle.tN "SUPPRESSED_SENTINEL" Bundle.listD A s' s'.heap := by rw [hhp]; exact vx_Zq.moved hW0.alike (hN.kept hS.2.1)
  have h : ∀ w ∈ Bundle.ownAtoms0 own ic cls names, w.before args s' = true := vx_own hat' (vx_isRefq hU'.1) (vx_isRefq hN'.1) hU'.2.word hN'.2.word
  have hown' : s'.vm.findClass own = some m.cls := by rw [hvm]; exact hown
  have hins : (Cond.instantiable cls 6).before args s' = true := h _ (by simp [Bundle.ownAtoms0])
  obtain ⟨vm₁, cX, kX, hfX, hkX, -, -, X₁, st1⟩ := Y.newCold hexec (own := own) (C := cls) (index := ik) (n := 6) hown' hk' hins hini'
    (g := F0 m pc ls rest) rfl (by rw [hb]; exact d0) (Nat.le_refl _) (Nat.le_refl _)
  generalize hT1 : (T.setVm vm₁).pushCell { cls := cX, slots := kX.instanceTypes.map defaultValue, vm := .none } = T1 at X₁ st1
  have hcat : (Value.ref T.heap.size).category = 1 := rfl
  have hcellA : T1.heap[T.heap.size]? = some (freshCell cX kX) := by rw [← hT1]; exact State.heap_pushCell_size _ _
  have d3' : decode c.code (pc + 3) = .ok (.dup, 1) := by rw [hb]; exact d3
  obtain ⟨U, hsteps, hrun, hend, hW, hsame, ce, hce, hO⟩ := X₁.ctorThrow0 hexec htr (own := own) (cls := cls) (names := names) (ic := ic) hown' hcls hnames h (fun x hx => nomatch hx) hfX hkX hcellA (by rw [hhp, hT]; exact Nat.le_refl _)
    (g := { method := m, pc := pc + 4, locals := ls, stack := .ref T.heap.size :: .ref T.heap.size :: rest, locked := none }) rfl hsize rfl rfl (rest := rest) rfl
    (by rw [hb]; exact d4) (by rw [hb]; exact d7) hout hRframes (by simp only [List.map_cons, List.sum_cons, hcat]; omega) hlocks
  obtain ⟨f1, f2⟩ := vx_frame hsame
  rw [hhp] at f1 f2
  have hWs : s.WarmedH U.vm := State.WarmedH.trans hW0 hW
  have hcl : s.vm.findClass cls = some ce.cls := by
    have h9 := hO.cls
    rw [hvm] at h9
    exact h9
  have hall : s.sameButNew ({ U with vm := s.vm } : State) locs mc ms := by
    subst hA
    obtain ⟨e1, e2⟩ := hsame
    rw [State.setFrames_setFrames] at e1
    have h2 : (T.setVm s.vm).sameButNew ({ U with vm := s.vm } : State) [] (0 + 1) (0 + 6) := ⟨e1, e2⟩
    have h3 := X.same.trans h2
    rw [List.append_nil] at h3
    exact h3.mono hc hs
  refine ⟨U, ?_, .threw T.heap.size, hrun, hend, Or.inr ⟨T.heap.size, rfl, cls, ce, locs, hx U hWs.alike f1 (fun q hq => f2 q hq (fun z hz => nomatch hz)), hce, hO.vm, hcl, hWs, hall, hf⟩⟩
  refine st1 _ ?_
  show Steps p.tables e below (T1.setTop { method := m, pc := pc + 3, locals := ls, stack := .ref T.heap.size :: rest, locked := none }) _
  jvm_step X₁.here [X₁.here.top, hexec, d3', Value.category]
  exact hsteps
/-- 'throw new E("text")': new; dup; ldc; invokespecial; athrow -/
theorem vx_throwS {cc : ByteArray} {pc : Nat} (hexec : p.tables.exec = Jvm.exec) (hb : c.code = cc) (hl : l.stackTraces = false) {own cls text : String} {names : List String} {ik is ic mc ms sa : Nat} {A : Nat → Prop}
    (hown : s.vm.findClass own = some m.cls) (hcls : Bundle.fit cls = true) (hnames : ∀ n ∈ names, Bundle.fit n = true)
    (hk : (Cond.classLink own ik cls).before args s = true) (hini : (Cond.initialized cls).before args s = true) (hstr : vk_R own is text sa s) (hat : ∀ w ∈ vx_atS own ic cls names, w.before args s = true)
    (hgood : ∀ w ∈ Cond.classLink own ik cls :: Cond.initialized cls :: vx_atS own ic cls names, vx_ot w = true)
    (hU : vx_Zq Bundle.tN "UNASSIGNED_STACK" Bundle.steD A s s.heap) (hN : vx_Zq Bundle.tN "SUPPRESSED_SENTINEL" Bundle.listD A s s.heap) (hS : va_S A s.heap H locs) (hsize : ls.size = c.maxLocals)
    (d0 : decode cc pc = .ok (.new ik, 3)) (d3 : decode cc (pc + 3) = .ok (.dup, 1)) (d4 : decode cc (pc + 4) = .ok (.ldc is, 2)) (d6 : decode cc (pc + 6) = .ok (.invokespecial ic, 3)) (d9 : decode cc (pc + 9) = .ok (.athrow, 1))
    (hout : ∀ x ∈ c.exceptionTable.toList, covers x (pc + 9) = false)
    (hRframes : names.length + 3 < R.frames) (hRlocals : (rest.map fun v => v.category).sum + (13 * (names.length + 1) + 43) ≤ R.locals) (hRcells : cells + 1 ≤ R.cells) (hRslots : slots + 6 ≤ R.slots) (hlocks : meth.locks = false)
    (hx : ∀ t : State, s.vm.Alike t.vm → H.size ≤ t.heap.size → (∀ q : Nat, q < H.size → t.heap[q]? = H[q]?) → XC cls s t)
    (hf : ∀ z ∈ locs, free z.base) (hc : cells + 1 ≤ mc) (hs : slots + 6 ≤ ms) :
    W p l e R s m args below meth c H locs cells slots (vx_MQ below Qc XC args s mc ms free) (F0 m pc ls rest) := by
  intro T hT X
  have htr : e.platform.stackTraces = false := (show e.platform.stackTraces = l.stackTraces by rw [X.admits.platform]).trans hl
  have Y := vx_rebase X (R' := { frames := R.frames, locals := R.locals, cells := 1, slots := 6 }) (Nat.le_refl _) (Nat.le_refl _) hRcells hRslots
  obtain ⟨s', hA⟩ : ∃ z, z = (T.setVm s.vm).setFrames (.invoking m args :: below) := ⟨_, rfl⟩
  rw [← hA] at Y
  have hvm : s'.vm = s.vm := by rw [hA]; rfl
  have hhp : s'.heap = H := by rw [hA]; exact hT
  have hW0 : s.WarmedH s'.vm := by rw [hvm]; exact State.WarmedH.refl s
  have hat' : ∀ w ∈ vx_atS own ic cls names, w.before args s' = true := fun w hw => vx_ot_at hW0 hvm.symm (hgood w (List.mem_cons_of_mem _ (List.mem_cons_of_mem _ hw))) (hat w hw)
  have hk' : (Cond.classLink own ik cls).before args s' = true := vx_ot_at hW0 hvm.symm (hgood _ List.mem_cons_self) hk
  have hini' : (Cond.initialized cls).before args s' = true := vx_ot_at hW0 hvm.symm (hgood _ (List.mem_cons_of_mem _ List.mem_cons_self)) hini
  have hU' : vx_Zq Bundle.tN "UNASSIGNED_STACK" Bundle.steD A s' s'.heap := by rw [hhp]; exact vx_Zq.moved hW0.alike (hU.kept hS.2.1)
  have hN' : vx_Zq Bundle.tN "SUPPRESSED_SENTINEL" Bundle.listD A s' s'.heap := by rw [hhp]; exact vx_Zq.moved hW0.alike (hN.kept hS.2.1)
  have h : ∀ w ∈ Bundle.ownAtoms own ic cls names, w.before args s' = true := vx_own hat' (vx_isRefq hU'.1) (vx_isRefq hN'.1) hU'.2.word hN'.2.word
  have hown' : s'.vm.findClass own = some m.cls := by rw [hvm]; exact hown
  have hins : (Cond.instantiable cls 6).before args s' = true := h _ (by simp [Bundle.ownAtoms])
  obtain ⟨vm₁, cX, kX, hfX, hkX, -, -, X₁, st1⟩ := Y.newCold hexec (own := own) (C := cls) (index := ik) (n := 6) hown' hk' hins hini'
    (g := F0 m pc ls rest) rfl (by rw [hb]; exact d0) (Nat.le_refl _) (Nat.le_refl _)
  generalize hT1 : (T.setVm vm₁).pushCell { cls := cX, slots := kX.instanceTypes.map defaultValue, vm := .none } = T1 at X₁ st1
  have hcat : (Value.ref T.heap.size).category = 1 := rfl
  have hcellA : T1.heap[T.heap.size]? = some (freshCell cX kX) := by rw [← hT1]; exact State.heap_pushCell_size _ _
  have d3' : decode c.code (pc + 3) = .ok (.dup, 1) := by rw [hb]; exact d3
  have d4' : decode c.code (pc + 4) = .ok (.ldc is, 2) := by rw [hb]; exact d4
  have hstr' : vk_R own is text sa s' := vk_R.warm hW0 hstr
  obtain ⟨U, hsteps, hrun, hend, hW, hsame, ce, hce, hO⟩ := X₁.ctorThrowS hexec htr (own := own) (cls := cls) (names := names) (ic := ic) hown' hcls hnames h (fun x hx => nomatch hx) hfX hkX hcellA (by rw [hhp, hT]; exact Nat.le_refl _) (msg := .ref sa) rfl
    (g := { method := m, pc := pc + 6, locals := ls, stack := .ref sa :: .ref T.heap.size :: .ref T.heap.size :: rest, locked := none }) rfl hsize rfl rfl (rest := rest) rfl
    (by rw [hb]; exact d6) (by rw [hb]; exact d9) hout hRframes (by simp only [List.map_cons, List.sum_cons, hcat]; omega) hlocks
  obtain ⟨f1, f2⟩ := vx_frame hsame
  rw [hhp] at f1 f2
  have hWs : s.WarmedH U.vm := State.WarmedH.trans hW0 hW
  have hcl : s.vm.findClass cls = some ce.cls := by
    have h9 := hO.cls
    rw [hvm] at h9
    exact h9
  have hall : s.sameButNew ({ U with vm := s.vm } : State) locs mc ms := by
    subst hA
    obtain ⟨e1, e2⟩ := hsame
    rw [State.setFrames_setFrames] at e1
    have h2 : (T.setVm s.vm).sameButNew ({ U with vm := s.vm } : State) [] (0 + 1) (0 + 6) := ⟨e1, e2⟩
    have h3 := X.same.trans h2
    rw [List.append_nil] at h3
    exact h3.mono hc hs
  refine ⟨U, ?_, .threw T.heap.size, hrun, hend, Or.inr ⟨T.heap.size, rfl, cls, ce, locs, hx U hWs.alike f1 (fun q hq => f2 q hq (fun z hz => nomatch hz)), hce, hO.vm, hcl, hWs, hall, hf⟩⟩
  refine st1 _ ?_
  show Steps p.tables e below (T1.setTop { method := m, pc := pc + 3, locals := ls, stack := .ref T.heap.size :: rest, locked := none }) _
  jvm_step X₁.here [X₁.here.top, hexec, d3', Value.category]
  exact X₁.ldcString hexec (own := own) (text := text) (index := is) (a := sa) hown' hstr'.1 hstr'.2
    (g := { method := m, pc := pc + 4, locals := ls, stack := .ref T.heap.size :: .ref T.heap.size :: rest, locked := none }) rfl d4' _ hsteps
/-- 'throw new E("text")', the text by a wide index -/
theorem vx_throwSW {cc : ByteArray} {pc : Nat} (hexec : p.tables.exec = Jvm.exec) (hb : c.code = cc) (hl : l.stackTraces = false) {own cls text : String} {names : List String} {ik is ic mc ms sa : Nat} {A : Nat → Prop}
    (hown : s.vm.findClass own = some m.cls) (hcls : Bundle.fit cls = true) (hnames : ∀ n ∈ names, Bundle.fit n = true)
    (hk : (Cond.classLink own ik cls).before args s = true) (hini : (Cond.initialized cls).before args s = true) (hstr : vk_R own is text sa s) (hat : ∀ w ∈ vx_atS own ic cls names, w.before args s = true)
    (hgood : ∀ w ∈ Cond.classLink own ik cls :: Cond.initialized cls :: vx_atS own ic cls names, vx_ot w = true)
    (hU : vx_Zq Bundle.tN "UNASSIGNED_STACK" Bundle.steD A s s.heap) (hN : vx_Zq Bundle.tN "SUPPRESSED_SENTINEL" Bundle.listD A s s.heap) (hS : va_S A s.heap H locs) (hsize : ls.size = c.maxLocals)
    (d0 : decode cc pc = .ok (.new ik, 3)) (d3 : decode cc (pc + 3) = .ok (.dup, 1)) (d4 : decode cc (pc + 4) = .ok (.ldc_w is, 3)) (d7 : decode cc (pc + 7) = .ok (.invokespecial ic, 3)) (d10 : decode cc (pc + 10) = .ok (.athrow, 1))
    (hout : ∀ x ∈ c.exceptionTable.toList, covers x (pc + 10) = false)
    (hRframes : names.length + 3 < R.frames) (hRlocals : (rest.map fun v => v.category).sum + (13 * (names.length + 1) + 43) ≤ R.locals) (hRcells : cells + 1 ≤ R.cells) (hRslots : slots + 6 ≤ R.slots) (hlocks : meth.locks = false)
    (hx : ∀ t : State, s.vm.Alike t.vm → H.size ≤ t.heap.size → (∀ q : Nat, q < H.size → t.heap[q]? = H[q]?) → XC cls s t)
    (hf : ∀ z ∈ locs, free z.base) (hc : cells + 1 ≤ mc) (hs : slots + 6 ≤ ms) :
    W p l e R s m args below meth c H locs cells slots (vx_MQ below Qc XC args s mc ms free) (F0 m pc ls rest) := by
  intro T hT X
  have htr : e.platform.stackTraces = false := (show e.platform.stackTraces = l.stackTraces by rw [X.admits.platform]).trans hl
  have Y := vx_rebase X (R' := { frames := R.frames, locals := R.locals, cells := 1, slots := 6 }) (Nat.le_refl _) (Nat.le_refl _) hRcells hRslots
  obtain ⟨s', hA⟩ : ∃ z, z = (T.setVm s.vm).setFrames (.invoking m args :: below) := ⟨_, rfl⟩
  rw [← hA] at Y
  have hvm : s'.vm = s.vm := by rw [hA]; rfl
  have hhp : s'.heap = H := by rw [hA]; exact hT
  have hW0 : s.WarmedH s'.vm := by rw [hvm]; exact State.WarmedH.refl s
  have hat' : ∀ w ∈ vx_atS own ic cls names, w.before args s' = true := fun w hw => vx_ot_at hW0 hvm.symm (hgood w (List.mem_cons_of_mem _ (List.mem_cons_of_mem _ hw))) (hat w hw)
  have hk' : (Cond.classLink own ik cls).before args s' = true := vx_ot_at hW0 hvm.symm (hgood _ List.mem_cons_self) hk
  have hini' : (Cond.initialized cls).before args s' = true := vx_ot_at hW0 hvm.symm (hgood _ (List.mem_cons_of_mem _ List.mem_cons_self)) hini
  have hU' : vx_Zq Bundle.tN "UNASSIGNED_STACK" Bundle.steD A s' s'.heap := by rw [hhp]; exact vx_Zq.moved hW0.alike (hU.kept hS.2.1)
  have hN' : vx_Zq Bundle.tN "SUPPRESSED_SENTINEL" Bundle.listD A s' s'.heap := by rw [hhp]; exact vx_Zq.moved hW0.alike (hN.kept hS.2.1)
  have h : ∀ w ∈ Bundle.ownAtoms own ic cls names, w.before args s' = true := vx_own hat' (vx_isRefq hU'.1) (vx_isRefq hN'.1) hU'.2.word hN'.2.word
  have hown' : s'.vm.findClass own = some m.cls := by rw [hvm]; exact hown
  have hins : (Cond.instantiable cls 6).before args s' = true := h _ (by simp [Bundle.ownAtoms])
  obtain ⟨vm₁, cX, kX, hfX, hkX, -, -, X₁, st1⟩ := Y.newCold hexec (own := own) (C := cls) (index := ik) (n := 6) hown' hk' hins hini'
    (g := F0 m pc ls rest) rfl (by rw [hb]; exact d0) (Nat.le_refl _) (Nat.le_refl _)
  generalize hT1 : (T.setVm vm₁).pushCell { cls := cX, slots := kX.instanceTypes.map defaultValue, vm := .none } = T1 at X₁ st1
  have hcat : (Value.ref T.heap.size).category = 1 := rfl
  have hcellA : T1.heap[T.heap.size]? = some (freshCell cX kX) := by rw [← hT1]; exact State.heap_pushCell_size _ _
  have d3' : decode c.code (pc + 3) = .ok (.dup, 1) := by rw [hb]; exact d3
  have d4' : decode c.code (pc + 4) = .ok (.ldc_w is, 3) := by rw [hb]; exact d4
  have hstr' : vk_R own is text sa s' := vk_R.warm hW0 hstr
  obtain ⟨U, hsteps, hrun, hend, hW, hsame, ce, hce, hO⟩ := X₁.ctorThrowS hexec htr (own := own) (cls := cls) (names := names) (ic := ic) hown' hcls hnames h (fun x hx => nomatch hx) hfX hkX hcellA (by rw [hhp, hT]; exact Nat.le_refl _) (msg := .ref sa) rfl
    (g := { method := m, pc := pc + 7, locals := ls, stack := .ref sa :: .ref T.heap.size :: .ref T.heap.size :: rest, locked := none }) rfl hsize rfl rfl (rest := rest) rfl
    (by rw [hb]; exact d7) (by rw [hb]; exact d10) hout hRframes (by simp only [List.map_cons, List.sum_cons, hcat]; omega) hlocks
  obtain ⟨f1, f2⟩ := vx_frame hsame
  rw [hhp] at f1 f2
  have hWs : s.WarmedH U.vm := State.WarmedH.trans hW0 hW
  have hcl : s.vm.findClass cls = some ce.cls := by
    have h9 := hO.cls
    rw [hvm] at h9
    exact h9
  have hall : s.sameButNew ({ U with vm := s.vm } : State) locs mc ms := by
    subst hA
    obtain ⟨e1, e2⟩ := hsame
    rw [State.setFrames_setFrames] at e1
    have h2 : (T.setVm s.vm).sameButNew ({ U with vm := s.vm } : State) [] (0 + 1) (0 + 6) := ⟨e1, e2⟩
    have h3 := X.same.trans h2
    rw [List.append_nil] at h3
    exact h3.mono hc hs
  refine ⟨U, ?_, .threw T.heap.size, hrun, hend, Or.inr ⟨T.heap.size, rfl, cls, ce, locs, hx U hWs.alike f1 (fun q hq => f2 q hq (fun z hz => nomatch hz)), hce, hO.vm, hcl, hWs, hall, hf⟩⟩
  refine st1 _ ?_
  show Steps p.tables e below (T1.setTop { method := m, pc := pc + 3, locals := ls, stack := .ref T.heap.size :: rest, locked := none }) _
  jvm_step X₁.here [X₁.here.top, hexec, d3', Value.category]
  exact X₁.ldcStringW hexec (own := own) (text := text) (index := is) (a := sa) hown' hstr'.1 hstr'.2
    (g := { method := m, pc := pc + 4, locals := ls, stack := .ref T.heap.size :: .ref T.heap.size :: rest, locked := none }) rfl d4' _ hsteps
end Ends
section Bodies
variable {l : Launch}
theorem vx_ofW {y : MethodName} {ws ws' : List Cond} {rm : Room} {Pc : Array Value → State → Prop} {Qc : Array Value → State → Outcome → State → Prop} {XC : String → State → State → Prop} {mc ms : Nat} {free : Addr → Prop} {cc : ByteArray} {maxL : Nat} {ret : Option FieldType}
    (hy : plainName y.cls = true) (hw : ws = Cond.code y cc maxL ret :: ws')
    (body : ∀ p e s m args below meth c s₁, BodyLoose p l y (headSpec ws rm) cc maxL ret e s m args below meth c s₁ → c.maxLocals = maxL → (∀ x ∈ c.exceptionTable.toList, False) → Pc args s →
      W p l e (headSpec ws rm).room s m args below meth c s.heap [] 0 0 (vx_MQ below Qc XC args s mc ms free) (entryFrame m args maxL)) : vx_Met l y ws rm Pc Qc XC mc ms free := by
  refine MetFree.of_bodyS (code := cc) (maxLocals := maxL) (ret := ret) hy ?_ ?_
  · intro args s m h hn
    obtain ⟨meth, c, h1, h2, h3, h4, h5, h6, -, -⟩ := Cond.code_spec hn (atoms_spec (ws := ws) h _ (by rw [hw]; exact List.mem_cons_self))
    exact ⟨meth, c, h1, h2, h3, h4, h5, h6⟩
  · intro p e s m args below meth c s₁ B hml hP _
    have hh0 : s₁.heap = s.heap := by rw [B.state]; rfl
    have ht : ∀ x ∈ c.exceptionTable.toList, False := by
      obtain ⟨meth9, c9, h1, h2, -, -, -, -, h7, -⟩ := Cond.code_spec B.named (atoms_spec (ws := ws) B.pre _ (by rw [hw]; exact List.mem_cons_self))
      cases Option.some.inj (h1.symm.trans B.method)
      cases Option.some.inj (h2.symm.trans (Stand.of_body B).code)
      intro x hx
      rw [Array.isEmpty_iff.mp h7] at hx
      cases hx
    obtain ⟨t, a1, o, b1, b2, b3⟩ := body p e s m args below meth c s₁ B hml ht hP s₁ hh0 (Stand.of_body B)
    exact ⟨t, o, a1, b1, b2, b3⟩
/-- the table of a body with handlers -/
theorem vx_table {p : Program} {x y : MethodName} {S : Spec} {cc bytes : ByteArray} {maxL maxL' : Nat} {ret ret' : Option FieldType} {e : Env} {s s₁ : State} {m : MethodId} {args : Array Value} {below : List Frame} {meth : Method} {c : Code} {hh : List (Nat × Nat × Nat × Nat)}
    (B : BodyLoose p l y S cc maxL ret e s m args below meth c s₁) (h : (Cond.codeWith y bytes maxL' ret' hh).before args s = true) : c.exceptionTable.toList = tableOf hh := by
  obtain ⟨m9, meth9, c9, hn9, h1, h2, -, -, h6, -⟩ := Cond.codeWith_spec h
  cases Option.some.inj (hn9.symm.trans B.named)
  cases Option.some.inj (h1.symm.trans B.method)
  cases Option.some.inj (h2.symm.trans (Stand.of_body B).code)
  rw [← h6, table_eq]
end Bodies
end VXA
/-! ===== END ===== -/
/-! ===== BEGIN a static call of a method with an exception table ===== -/
section VXS
variable {p : Program} {l : Launch} {e : Env} {R : Room} {s : State} {m : MethodId} {args : Array Value} {below : List Frame} {meth : Method} {c : Code} {T : State} {H : Heap} {locs : List Loc} {cells slots : Nat}
abbrev vx_CSW (R : Room) (s : State) (args : Array Value) (own : String) (index : Nat) (y : MethodName) (bytes : ByteArray) (maxL : Nat) (ret : Option FieldType) (hh : List (Nat × Nat × Nat × Nat)) (ws : List Cond) (rm : Room) (mc ms n : Nat) : Prop :=
  (rm.cells = mc ∧ rm.slots = ms ∧ rm.frames + 1 ≤ R.frames ∧ 8 + (maxL + 11) + rm.locals ≤ R.locals ∧ (∀ w ∈ ws, ∀ (a' : Array Value) (U : State), s.WarmedH U.vm → w.before a' U = true) ∧ Cond.codeWith y bytes maxL ret hh ∈ ws) ∧
  (Cond.codeWith y bytes maxL ret hh).before args s = true ∧ (Cond.initialized y.cls).before args s = true ∧ (y.cls ≠ "java/lang/invoke/MethodHandle" ∧ y.cls ≠ "java/lang/invoke/VarHandle") ∧
  (∀ sig, parseMethodDescriptor y.desc = some sig → n = sig.parameters.length) ∧ (Cond.methodLink own index y).before args s = true ∧ (Cond.static y).before args s = true
theorem vx_cwSW {own : String} {index maxL mc ms : Nat} {y : MethodName} {bytes : ByteArray} {ret : Option FieldType} {hh : List (Nat × Nat × Nat × Nat)} {Ts ws ws' : List Cond} {rm : Room} (n : Nat) (ht : ∀ w ∈ Ts, w.before args s = true) (hT : GoodIn Ts (va_wsS own index y ws)) (hw : ws = Cond.codeWith y bytes maxL ret hh :: ws') (hrc : rm.cells = mc) (hrs : rm.slots = ms)
    (hd : y.cls ≠ "java/lang/invoke/MethodHandle" ∧ y.cls ≠ "java/lang/invoke/VarHandle" ∧ (parseMethodDescriptor y.desc).map (fun d => d.parameters.length) = some n) (hR : rm.frames + 1 ≤ R.frames ∧ 8 + (maxL + 11) + rm.locals ≤ R.locals) :
    vx_CSW R s args own index y bytes maxL ret hh ws rm mc ms n := by
  have ok : ∀ w ∈ va_wsS own index y ws, w.before args s = true := fun w h => ht w (hT w h).1
  have hG : GoodIn Ts ws := fun w h => hT w (by unfold va_wsS; exact List.mem_append_right _ h)
  have hc : Cond.codeWith y bytes maxL ret hh ∈ ws := by rw [hw]; exact List.mem_cons_self
  refine ⟨⟨hrc, hrs, hR.1, hR.2, pay_in ht hG, hc⟩, ht _ (hG _ hc).1, ok _ (by simp [va_wsS]), ⟨hd.1, hd.2.1⟩, fun sig h => ?_, ok _ (by simp [va_wsS]), ok _ (by simp [va_wsS])⟩
  have h2 := hd.2.2
  rw [h] at h2
  exact (Option.some.inj h2).symm
theorem vx_callSW (X : Stand p l e R s m args below meth c T locs cells slots) (hexec : p.tables.exec = Jvm.exec) {own : String} {index : Nat} {y : MethodName} {bytes : ByteArray} {maxL : Nat} {ret : Option FieldType} {hh : List (Nat × Nat × Nat × Nat)}
    (hown : s.vm.findClass own = some m.cls) (hlink : (Cond.methodLink own index y).before args s = true) (hstat : (Cond.static y).before args s = true) (hinit : (Cond.initialized y.cls).before args s = true)
    (hcode : (Cond.codeWith y bytes maxL ret hh).before args s = true) (hy : y.cls ≠ "java/lang/invoke/MethodHandle" ∧ y.cls ≠ "java/lang/invoke/VarHandle")
    {W9 : Nat} {Pre : Pt → Array Value → Prop} {Post : Pt → Array Value → Option Value → Pt → Prop} (hK : Back l R p e below s args y 3 W9 Pre Post)
    {g : JFrame} (hg : g.method = m) (hsize : g.locals.size = c.maxLocals) {argsL rest : List Value} (hlen : ∀ sig, parseMethodDescriptor y.desc = some sig → argsL.length = sig.parameters.length)
    (hstack : g.stack = argsL.reverse ++ rest) (hW : 2 * g.monitorRoom + (rest.map fun v => v.category).sum ≤ W9) (hdg : decode c.code g.pc = .ok (.invokestatic index, 3))
    (hpre : ∀ vm₁, s.WarmedH vm₁ → Pre ⟨T.setVm vm₁, locs, cells, slots⟩ argsL.toArray) :
    ∃ (v : Option Value) (vm₁ : Vm) (B : Pt), s.WarmedH vm₁ ∧ Stand p l e R s m args below meth c B.U B.locs B.cells B.slots ∧ Post ⟨T.setVm vm₁, locs, cells, slots⟩ argsL.toArray v B ∧
      ∀ target, Steps p.tables e below (B.U.setTop { g with pc := g.pc + 3, stack := v.toList ++ rest }) target → Steps p.tables e below (T.setTop g) target := by
  obtain ⟨mk, methM, cM, hnamed, hmethM, -, -, -, -, -, -, hsigM⟩ := Cond.codeWith_spec hcode
  have hstatic : methM.isStatic = true := Cond.static_spec hnamed hmethM hstat
  obtain ⟨kP, hkP, -⟩ := className_of_methodNamed hnamed
  have hinitP : kP.init = .initialized := Cond.initialized_spec (findClass_of_methodNamed hnamed) hkP hinit
  obtain ⟨vm₁, X₁, hstep₁⟩ := X.invokestatic hexec hown hlink hnamed hmethM hstatic hkP hinitP hy (g := g) hg (argsL := argsL) (rest := rest) (hlen _ hsigM) hstack hdg
  obtain ⟨v, B, X', hpost, hsteps⟩ := hK m meth c ⟨T.setVm vm₁, locs, cells, slots⟩ { g with stack := rest } (.invokestatic index) mk argsL.toArray X₁ hg hsize hdg hW (X₁.named hnamed) (hpre vm₁ X₁.warmed)
  exact ⟨v, vm₁, B, X₁.warmed, X', hpost, fun target h => hstep₁ _ fun acts => by rw [doInvoke_state]; exact hsteps.trans h⟩
theorem vx_runSW {y : MethodName} {bytes cc : ByteArray} {maxL nL mc ms n index : Nat} {ret : Option FieldType} {hh : List (Nat × Nat × Nat × Nat)} {ws : List Cond} {rm : Room} {Pc : Array Value → State → Prop} {Qc : Array Value → State → Outcome → State → Prop} {free : Addr → Prop} {Ts : List Cond} {own : String} {As rest : List Value} {g : JFrame}
    (S : CallFix p m c cc nL s args Ts own) (hM : Met l y ws rm Pc Qc mc ms free) (cw : vx_CSW R s args own index y bytes maxL ret hh ws rm mc ms n) (hp : PreS s H Pc As)
    (hg : g.method = m) (hn : As.length = n) (hsize : g.locals.size = nL) (hstack : g.stack = As.reverse ++ rest) (hW : 2 * g.monitorRoom + (rest.map fun v => v.category).sum ≤ 8) (hdg : decode cc g.pc = .ok (.invokestatic index, 3)) (hf : cells + mc ≤ R.cells ∧ slots + ms ≤ R.slots) :
    va_Run p l e R s m args below meth c H locs cells slots mc ms g rest (Qc As.toArray) (free) := by
  obtain ⟨⟨hrc, hrs, hfr, hlo, hws, hcw⟩, hcode, hini, hy, hlen, hl, hstt⟩ := cw
  have hK : Back l R p e below s args y 3 8 (PreOf R mc ms Pc) (PostOf Qc mc ms free) := va_backW (hh := hh) (bytes := bytes) (maxL := maxL) (ret := ret) hM hp.1 hrc hrs hfr hlo hws hcw (fun a' U hW => word_at hW (Or.inl (by first | rfl | simp [Cond.onTables, Cond.keeps, Cond.steady])) hini)
  obtain ⟨hx, hb, hml, ho, -⟩ := S
  intro T hT X
  obtain ⟨v, vm₁, ⟨U', l2, c2, s2⟩, hW₁, X', ⟨g', mk, t, L, e1, e2, hq, h1, hL, h2, h3⟩, st⟩ := vx_callSW X hx (hh := hh) (bytes := bytes) (maxL := maxL) (ret := ret) ho hl hstt hini hcode hy hK hg (hsize.trans hml.symm) (argsL := As) (rest := rest) (fun sig h => hn.trans (hlen sig h)) hstack hW (by rw [hb]; exact hdg)
    (fun vm₁ hW₁ => ⟨hf.1, hf.2, hp.2 (T.setVm vm₁) hT hW₁⟩)
  dsimp only [Pt.U, Pt.locs, Pt.cells, Pt.slots] at X' e1 e2 h1 h2 h3 st
  subst h1; subst h2; subst h3
  exact ⟨v, (T.setVm vm₁).calling g' mk As.toArray, t, U', L, hT, X', hL, e1, e2, hq, st⟩
/-- not caught here, past rows that name other classes: it goes on to the caller -/
theorem vx_outP {p : Program} {l : Launch} {e : Env} {R : Room} {s : State} {m : MethodId} {args : Array Value} {below : List Frame} {meth : Method} {c : Code} {H : Heap} {locs : List Loc} {cells slots : Nat} {free : Addr → Prop} {ls : Array Slot} {rest : List Value} {Qc : Array Value → State → Outcome → State → Prop} {XC : String → State → State → Prop}
    {pc : Nat} {own E : String} {ce : Cell} {q : Addr} {mc ms : Nat} (hown : s.vm.findClass own = some m.cls) (hlocks : meth.locks = false)
    (hpass : ∀ z ∈ c.exceptionTable.toList, covers z pc = false ∨ (z.catchType ≠ 0 ∧ ∃ nm : String, (Cond.classLink own z.catchType nm).before args s = true ∧ va_Nc E nm s)) (hcell : H[q]? = some ce) (hv : ce.vm = .none) (hcl : s.vm.findClass E = some ce.cls)
    (hx : ∀ t : State, t.heap = H → s.vm.Alike t.vm → XC E s t) (hf : ∀ z ∈ locs, free z.base) (hc : cells ≤ mc) (hs : slots ≤ ms) :
    vx_W p l e R s m args below meth c H locs cells slots (vx_MQ below Qc XC args s mc ms free) (F0 m pc ls rest) q := by
  intro T hT X
  have hpl : e.platform.magicAccessors = ({} : Platform).magicAccessors := by rw [X.admits.platform]
  obtain ⟨vm', hW', X', st⟩ := X.outThrough hlocks q (g := F0 m pc ls rest) rfl rfl rfl (cell := ce) (by rw [hT]; exact hcell) (by rw [hv]; rfl)
    (by obtain ⟨k9, h9, -⟩ := Vm.findClass_spec hcl; exact ⟨k9, h9⟩) (fun z hz => by
      rcases hpass z hz with h | ⟨hz0, nm, hl1, hn1⟩
      · exact Or.inl h
      · obtain ⟨c6, hc6, hcl6⟩ := Cond.classLink_spec hown hl1 e.platform hpl
        obtain ⟨a8, b8, h1, h2, h3⟩ := hn1
        cases Option.some.inj (h1.symm.trans hcl)
        cases Option.some.inj (h2.symm.trans hc6)
        exact Or.inr ⟨hz0, _, hcl6, h3⟩)
  obtain ⟨g₀, hfr⟩ := X'.frames_eq
  have hcell9 : ((T.setVm vm').setFrames (.throwing q :: below)).heap[q]? = some ce := by
    show T.heap[q]? = some ce
    rw [hT]; exact hcell
  have hend : Ended ((T.setVm vm').setFrames (.throwing q :: below)) below (.threw q) := State.frames_setFrames _ (State.cur_lt_of_frames hfr)
  refine ⟨(T.setVm vm').setFrames (.throwing q :: below), ?_, .threw q, X'.here.running, hend, Or.inr ⟨q, rfl, E, ce, locs, hx _ hT (X'.ends _).1.alike, hcell9, hv, hcl, (X'.ends _).1, (X'.ends _).2.mono hc hs, hf⟩⟩
  rw [X.pushThrowing_eq]
  exact st
/-- a thing of a world lies in the heap -/
theorem vx_lt {D : va_G} {cl : List vw_C} {ws : va_W} {H1 : Heap} (h : va_P D cl ws H1) {k : Nat} {q : Nat × va_E} (hk : ws[k]? = some q) : q.1 < H1.size := (h k q hk).lt
end VXS
/-! ===== END ===== -/
/-! ===== BEGIN methods with a table of their own: called by a name, returning or throwing ===== -/
section VXH
/-! vx_backW, vx_callVX, vx_callSX, vx_callVW, vx_runVW, vx_runVX, vx_runSX, vx_ofWH follow the same proofs as their sisters above (Free/Laws.lean, Shelf42/LK1.lean); vx_outP calls Shelf42/NT130.lean (outThrough). -/
section
variable {l : Launch} {R : Room} {p : Program} {e : Env} {below : List Frame} {s : State} {sargs : Array Value} {y : MethodName} {len W9 : Nat}
theorem vx_backW {ws : List Cond} {rm : Room} {Pc : Array Value → State → Prop} {Qc : Array Value → State → Outcome → State → Prop} {XC : String → State → State → Prop} {mc ms : Nat} {free : Addr → Prop} {bytes : ByteArray} {maxL : Nat} {ret : Option FieldType} {hh : List (Nat × Nat × Nat × Nat)}
    (hM : vx_Met l y ws rm Pc Qc XC mc ms free) (hblind : FrameBlind Pc) (hrc : rm.cells = mc) (hrs : rm.slots = ms)
    (hframes : rm.frames + 1 ≤ R.frames) (hlocals : W9 + (maxL + 11) + rm.locals ≤ R.locals)
    (hws : ∀ w ∈ ws, ∀ a' U, s.WarmedH U.vm → w.before a' U = true) (hcode : Cond.codeWith y bytes maxL ret hh ∈ ws) (hinit : ∀ a' U, s.WarmedH U.vm → (Cond.initialized y.cls).before a' U = true) :
    vx_Back l R p e below s sargs y len W9 (PreOf R mc ms Pc) (PostOf Qc mc ms free) (vx_Post XC mc ms free) := by
  intro m meth c A g ig mk a X hg hsize hdg hW hn hp
  have h1 : (headSpec ws rm).pre.before a A.U = true := atoms_intro fun w hw => hws w hw _ _ X.warmed
  have h2 : (Cond.codeWith y bytes maxL ret hh).before a A.U = true := hws _ hcode _ _ X.warmed
  have h3 : (Cond.initialized y.cls).before a A.U = true := hinit _ _ X.warmed
  have h4 : A.cells + (headSpec ws rm).room.cells ≤ R.cells := by rw [show (headSpec ws rm).room.cells = mc from hrc]; exact hp.1
  have h5 : A.slots + (headSpec ws rm).room.slots ≤ R.slots := by rw [show (headSpec ws rm).room.slots = ms from hrs]; exact hp.2.1
  have hPc : Pc a (A.U.calling g mk a) := hblind _ _ _ _ hp.2.2
  obtain ⟨U, Ls, c0, s0⟩ := A
  dsimp only [Pt.U, Pt.locs, Pt.cells, Pt.slots] at h1 h2 h3 h4 h5 X hn hPc ⊢
  obtain ⟨m9, methY, cY, hn9, hmY, hcY, -, hlY, -⟩ := Cond.codeWith_spec h2
  cases Option.some.inj (hn9.symm.trans hn)
  obtain ⟨kY, hkY, -⟩ := className_of_methodNamed hn
  have hinitY : kY.init = .initialized := Cond.initialized_spec (findClass_of_methodNamed hn) hkY h3
  have h : At U g.method c below := by rw [hg]; exact X.here
  have hlocals9 : W9 + (maxL + 11) + (headSpec ws rm).room.locals ≤ R.locals := hlocals
  have happ : (headSpec ws rm).appliesLoose y e.platform (U.calling g mk a) = true :=
    Spec.appliesLoose_calling (g := g) h hdg hn hkY hinitY
      (X.room_calling (g := g) (R' := (headSpec ws rm).room) hsize hmY hcY hframes (by rw [hlY]; omega) h4 h5) h1
  obtain ⟨mid, hmid⟩ := h.above
  have hfr : (U.setTop g).frames = (.java g :: mid) ++ below := by rw [State.frames_setTop' g h.top, hmid]; rfl
  obtain ⟨o, s₂, hsteps, -, hend, hq⟩ := Steps.callFree hM p X.admits X.cas X.clock (acts := []) hfr happ hPc trivial
  have hq' : vx_Q Qc XC mc ms free a (U.calling g mk a) o s₂ := hq
  rw [State.frames_setTop' g h.top] at hend
  obtain ⟨g₀, hg0⟩ := Option.isSome_iff_exists.mp h.top
  obtain ⟨r, hr⟩ := State.topJava?_eq_some.mp hg0
  have hr' : (({ U with heap := s₂.heap, slotsUsed := s₂.slotsUsed } : State).setVm s₂.vm).frames = .java g₀ :: r := hr
  rcases hq' with ⟨hqc, L, hfe, hL⟩ | ⟨q, rfl, E, ce, L, hx, hce, hcv, hcl, hW₂, hsm, hL⟩
  · obtain ⟨⟨v, rfl⟩, hW₂, e2, q2, q3, q4, q5, q6⟩ := id hfe
    have e3 : s₂ = ({ (U.calling g mk a).setFrames s₂.frames with heap := s₂.heap, slotsUsed := s₂.slotsUsed } : State).setVm s₂.vm := by
      have : s₂ = ({ s₂ with vm := (U.calling g mk a).vm } : State).setVm s₂.vm := rfl
      rw [e2] at this
      exact this
    obtain ⟨c₂, i₂, len₂, hc₂, hd₂, hf₂⟩ := hend
    have hW' : U.WarmedH s₂.vm := hW₂
    have hcc : c₂ = c := by
      have h1 : s₂.code? g.method = U.code? g.method := by
        rw [State.code?_eq, State.code?_eq, hW'.alike.method?]
      exact Option.some.inj (hc₂.symm.trans (h1.trans h.code))
    subst hcc
    have hlen : len₂ = len := by rw [hdg] at hd₂; cases hd₂; rfl
    subst hlen
    have hs₂ : s₂ = (({ U with heap := s₂.heap, slotsUsed := s₂.slotsUsed } : State).setVm s₂.vm).setTop { g with pc := g.pc + len₂, stack := v.toList ++ g.stack } := by
      refine e3.trans ?_
      rw [hf₂, State.calling_eq h.top, State.setFrames_setFrames, State.setTop_of_frames _ hr', hr]
      rfl
    have hsame : U.sameButNew ({ U with heap := s₂.heap, slotsUsed := s₂.slotsUsed } : State) L mc ms := by
      refine ⟨?_, q2, q3, q4, q5, q6⟩
      obtain ⟨t, ht, -⟩ := State.frames_cons hr
      show ({ U with heap := s₂.heap, slotsUsed := s₂.slotsUsed } : State) = { U.setFrames U.frames with heap := s₂.heap, slotsUsed := s₂.slotsUsed }
      rw [State.setFrames_self ht]
    subst hg
    refine Or.inl ⟨v, ⟨(({ U with heap := s₂.heap, slotsUsed := s₂.slotsUsed } : State).setVm s₂.vm), Ls ++ L, c0 + mc, s0 + ms⟩,
      ⟨X.admits, X.cas, X.clock, X.frames, X.room, X.hears, X.method, X.code, (X.here.setHeapUsed s₂.heap s₂.slotsUsed).setVm hW'.alike, X.tail, State.WarmedH.trans X.warmed hW', X.limits, X.bytes, X.same.trans (hsame.setVm s.vm)⟩,
      ⟨g, mk, s₂, L, rfl, rfl, hqc, rfl, hL, rfl, rfl⟩, ?_⟩
    show Steps p.tables e below _ ((({ U with heap := s₂.heap, slotsUsed := s₂.slotsUsed } : State).setVm s₂.vm).setTop { g with pc := g.pc + len₂, stack := v.toList ++ g.stack })
    rw [← hs₂]
    exact hsteps
  · obtain ⟨e2, q2, q3, q4, q5, q6⟩ := id hsm
    have e3 : s₂ = ({ (U.calling g mk a).setFrames s₂.frames with heap := s₂.heap, slotsUsed := s₂.slotsUsed } : State).setVm s₂.vm := by
      have : s₂ = ({ s₂ with vm := (U.calling g mk a).vm } : State).setVm s₂.vm := rfl
      rw [e2] at this
      exact this
    have hf₂ : s₂.frames = .throwing q :: .java g :: U.frames.tail := hend
    have hW' : U.WarmedH s₂.vm := hW₂
    have hs₂ : s₂ = ((({ U with heap := s₂.heap, slotsUsed := s₂.slotsUsed } : State).setVm s₂.vm).setTop g).pushFrame (.throwing q) := by
      refine e3.trans ?_
      rw [hf₂, State.calling_eq h.top, State.setFrames_setFrames, State.pushFrame, State.frames_setTop _ hr', State.setTop_of_frames _ hr', State.setFrames_setFrames, hr]
      rfl
    have hsame : U.sameButNew ({ U with heap := s₂.heap, slotsUsed := s₂.slotsUsed } : State) L mc ms := by
      refine ⟨?_, q2, q3, q4, q5, q6⟩
      obtain ⟨t, ht, -⟩ := State.frames_cons hr
      show ({ U with heap := s₂.heap, slotsUsed := s₂.slotsUsed } : State) = { U.setFrames U.frames with heap := s₂.heap, slotsUsed := s₂.slotsUsed }
      rw [State.setFrames_self ht]
    subst hg
    refine Or.inr ⟨q, ⟨(({ U with heap := s₂.heap, slotsUsed := s₂.slotsUsed } : State).setVm s₂.vm), Ls ++ L, c0 + mc, s0 + ms⟩,
      ⟨X.admits, X.cas, X.clock, X.frames, X.room, X.hears, X.method, X.code, (X.here.setHeapUsed s₂.heap s₂.slotsUsed).setVm hW'.alike, X.tail, State.WarmedH.trans X.warmed hW', X.limits, X.bytes, X.same.trans (hsame.setVm s.vm)⟩,
      ⟨g, mk, s₂, L, E, ce, rfl, rfl, hx, hce, hcv, hcl, rfl, hL, rfl, rfl⟩, ?_⟩
    show Steps p.tables e below _ (((({ U with heap := s₂.heap, slotsUsed := s₂.slotsUsed } : State).setVm s₂.vm).setTop g).pushFrame (.throwing q))
    rw [← hs₂]
    exact hsteps
end
variable {p : Program} {l : Launch} {e : Env} {R : Room} {s : State} {m : MethodId} {args : Array Value} {below : List Frame} {meth : Method} {c : Code} {T : State} {H : Heap} {locs : List Loc} {cells slots : Nat}
theorem vx_callVX (X : Stand p l e R s m args below meth c T locs cells slots) (hexec : p.tables.exec = Jvm.exec) {own C : String} {index : Nat} {y : MethodName} {bytes : ByteArray} {maxL : Nat} {ret : Option FieldType} {hh : List (Nat × Nat × Nat × Nat)}
    (hown : s.vm.findClass own = some m.cls) (hlink : (Cond.methodLink own index y).before args s = true) (hinst : (Cond.instanceMethod y).before args s = true) (hsel : (Cond.selects C y y).before args s = true)
    (hcode : (Cond.codeWith y bytes maxL ret hh).before args s = true) (hy : y.cls ≠ "java/lang/invoke/MethodHandle" ∧ y.cls ≠ "java/lang/invoke/VarHandle")
    {W9 : Nat} {Pre : Pt → Array Value → Prop} {Post : Pt → Array Value → Option Value → Pt → Prop} {PostX : Pt → Array Value → Addr → Pt → Prop} (hK : vx_Back l R p e below s args y 3 W9 Pre Post PostX)
    {b : Addr} {cellB : Cell} (hcell : T.heap[b]? = some cellB) (hobj : cellB.vm.isStatics = false) (hcls : s.vm.findClass C = some cellB.cls)
    {g : JFrame} (hg : g.method = m) (hsize : g.locals.size = c.maxLocals) {argsL rest : List Value} (hlen : ∀ sig, parseMethodDescriptor y.desc = some sig → argsL.length = sig.parameters.length)
    (hstack : g.stack = argsL.reverse ++ .ref b :: rest) (hW : 2 * g.monitorRoom + (rest.map fun v => v.category).sum ≤ W9) (hdg : decode c.code g.pc = .ok (.invokevirtual index, 3))
    (hpre : ∀ vm₁, s.WarmedH vm₁ → Pre ⟨T.setVm vm₁, locs, cells, slots⟩ (Value.ref b :: argsL).toArray) :
    (∃ (v : Option Value) (vm₁ : Vm) (B : Pt), s.WarmedH vm₁ ∧ Stand p l e R s m args below meth c B.U B.locs B.cells B.slots ∧ Post ⟨T.setVm vm₁, locs, cells, slots⟩ (Value.ref b :: argsL).toArray v B ∧
      ∀ target, Steps p.tables e below (B.U.setTop { g with pc := g.pc + 3, stack := v.toList ++ rest }) target → Steps p.tables e below (T.setTop g) target) ∨
    (∃ (q : Addr) (vm₁ : Vm) (B : Pt), s.WarmedH vm₁ ∧ Stand p l e R s m args below meth c B.U B.locs B.cells B.slots ∧ PostX ⟨T.setVm vm₁, locs, cells, slots⟩ (Value.ref b :: argsL).toArray q B ∧
      Steps p.tables e below (T.setTop g) ((B.U.setTop { g with stack := rest }).pushFrame (.throwing q))) := by
  obtain ⟨mk, methM, hnamed, hmethM, hstM, habM⟩ := Cond.instanceMethod_spec hinst
  obtain ⟨m8, methM', cM, hn8, hmethM', -, -, -, -, -, -, hsigM⟩ := Cond.codeWith_spec hcode
  cases Option.some.inj (hn8.symm.trans hnamed)
  cases hmethM.symm.trans hmethM'
  obtain ⟨c2, r2, m2, q1, q2, q3, q4, kP, hkP, hkPi⟩ := Cond.selects_spec hsel
  cases hcls.symm.trans q1
  cases (State.methodFound?_of_named hnamed hy).symm.trans q2
  cases hnamed.symm.trans q3
  have hselP : selectMethod e.platform s.vm cellB.cls mk = .method mk := by rw [Launch.admits_selectMethod X.admits]; exact q4
  obtain ⟨vm₁, X₁, hstep₁⟩ := X.invokevirtual hexec hown hlink hnamed hmethM hstM hkP hkPi hy (a := b) (cell := cellB) hcell
    (fun z h => by rw [h] at hobj; cases hobj) hselP hmethM habM hkP hkPi (g := g) hg (argsL := argsL) (rest := rest) (hlen _ hsigM) hstack hdg
  rcases hK m meth c ⟨T.setVm vm₁, locs, cells, slots⟩ { g with stack := rest } (.invokevirtual index) mk (Value.ref b :: argsL).toArray X₁ hg hsize hdg hW (X₁.named hnamed) (hpre vm₁ X₁.warmed) with ⟨v, B, X', hpost, hsteps⟩ | ⟨q, B, X', hpost, hsteps⟩
  · exact Or.inl ⟨v, vm₁, B, X₁.warmed, X', hpost, fun target h => hstep₁ _ fun acts => by rw [doInvoke_state]; exact hsteps.trans h⟩
  · exact Or.inr ⟨q, vm₁, B, X₁.warmed, X', hpost, hstep₁ _ fun acts => by rw [doInvoke_state]; exact hsteps⟩
theorem vx_callSX (X : Stand p l e R s m args below meth c T locs cells slots) (hexec : p.tables.exec = Jvm.exec) {own : String} {index : Nat} {y : MethodName} {bytes : ByteArray} {maxL : Nat} {ret : Option FieldType} {hh : List (Nat × Nat × Nat × Nat)}
    (hown : s.vm.findClass own = some m.cls) (hlink : (Cond.methodLink own index y).before args s = true) (hstat : (Cond.static y).before args s = true) (hinit : (Cond.initialized y.cls).before args s = true)
    (hcode : (Cond.codeWith y bytes maxL ret hh).before args s = true) (hy : y.cls ≠ "java/lang/invoke/MethodHandle" ∧ y.cls ≠ "java/lang/invoke/VarHandle")
    {W9 : Nat} {Pre : Pt → Array Value → Prop} {Post : Pt → Array Value → Option Value → Pt → Prop} {PostX : Pt → Array Value → Addr → Pt → Prop} (hK : vx_Back l R p e below s args y 3 W9 Pre Post PostX)
    {g : JFrame} (hg : g.method = m) (hsize : g.locals.size = c.maxLocals) {argsL rest : List Value} (hlen : ∀ sig, parseMethodDescriptor y.desc = some sig → argsL.length = sig.parameters.length)
    (hstack : g.stack = argsL.reverse ++ rest) (hW : 2 * g.monitorRoom + (rest.map fun v => v.category).sum ≤ W9) (hdg : decode c.code g.pc = .ok (.invokestatic index, 3))
    (hpre : ∀ vm₁, s.WarmedH vm₁ → Pre ⟨T.setVm vm₁, locs, cells, slots⟩ argsL.toArray) :
    (∃ (v : Option Value) (vm₁ : Vm) (B : Pt), s.WarmedH vm₁ ∧ Stand p l e R s m args below meth c B.U B.locs B.cells B.slots ∧ Post ⟨T.setVm vm₁, locs, cells, slots⟩ argsL.toArray v B ∧
      ∀ target, Steps p.tables e below (B.U.setTop { g with pc := g.pc + 3, stack := v.toList ++ rest }) target → Steps p.tables e below (T.setTop g) target) ∨
    (∃ (q : Addr) (vm₁ : Vm) (B : Pt), s.WarmedH vm₁ ∧ Stand p l e R s m args below meth c B.U B.locs B.cells B.slots ∧ PostX ⟨T.setVm vm₁, locs, cells, slots⟩ argsL.toArray q B ∧
      Steps p.tables e below (T.setTop g) ((B.U.setTop { g with stack := rest }).pushFrame (.throwing q))) := by
  obtain ⟨mk, methM, cM, hnamed, hmethM, -, -, -, -, -, -, hsigM⟩ := Cond.codeWith_spec hcode
  have hstatic : methM.isStatic = true := Cond.static_spec hnamed hmethM hstat
  obtain ⟨kP, hkP, -⟩ := className_of_methodNamed hnamed
  have hinitP : kP.init = .initialized := Cond.initialized_spec (findClass_of_methodNamed hnamed) hkP hinit
  obtain ⟨vm₁, X₁, hstep₁⟩ := X.invokestatic hexec hown hlink hnamed hmethM hstatic hkP hinitP hy (g := g) hg (argsL := argsL) (rest := rest) (hlen _ hsigM) hstack hdg
  rcases hK m meth c ⟨T.setVm vm₁, locs, cells, slots⟩ { g with stack := rest } (.invokestatic index) mk argsL.toArray X₁ hg hsize hdg hW (X₁.named hnamed) (hpre vm₁ X₁.warmed) with ⟨v, B, X', hpost, hsteps⟩ | ⟨q, B, X', hpost, hsteps⟩
  · exact Or.inl ⟨v, vm₁, B, X₁.warmed, X', hpost, fun target h => hstep₁ _ fun acts => by rw [doInvoke_state]; exact hsteps.trans h⟩
  · exact Or.inr ⟨q, vm₁, B, X₁.warmed, X', hpost, hstep₁ _ fun acts => by rw [doInvoke_state]; exact hsteps⟩
theorem vx_callVW (X : Stand p l e R s m args below meth c T locs cells slots) (hexec : p.tables.exec = Jvm.exec) {own C : String} {index : Nat} {y : MethodName} {bytes : ByteArray} {maxL : Nat} {ret : Option FieldType} {hh : List (Nat × Nat × Nat × Nat)}
    (hown : s.vm.findClass own = some m.cls) (hlink : (Cond.methodLink own index y).before args s = true) (hinst : (Cond.instanceMethod y).before args s = true) (hsel : (Cond.selects C y y).before args s = true)
    (hcode : (Cond.codeWith y bytes maxL ret hh).before args s = true) (hy : y.cls ≠ "java/lang/invoke/MethodHandle" ∧ y.cls ≠ "java/lang/invoke/VarHandle")
    {W9 : Nat} {Pre : Pt → Array Value → Prop} {Post : Pt → Array Value → Option Value → Pt → Prop} (hK : Back l R p e below s args y 3 W9 Pre Post)
    {b : Addr} {cellB : Cell} (hcell : T.heap[b]? = some cellB) (hobj : cellB.vm.isStatics = false) (hcls : s.vm.findClass C = some cellB.cls)
    {g : JFrame} (hg : g.method = m) (hsize : g.locals.size = c.maxLocals) {argsL rest : List Value} (hlen : ∀ sig, parseMethodDescriptor y.desc = some sig → argsL.length = sig.parameters.length)
    (hstack : g.stack = argsL.reverse ++ .ref b :: rest) (hW : 2 * g.monitorRoom + (rest.map fun v => v.category).sum ≤ W9) (hdg : decode c.code g.pc = .ok (.invokevirtual index, 3))
    (hpre : ∀ vm₁, s.WarmedH vm₁ → Pre ⟨T.setVm vm₁, locs, cells, slots⟩ (Value.ref b :: argsL).toArray) :
    ∃ (v : Option Value) (vm₁ : Vm) (B : Pt), s.WarmedH vm₁ ∧ Stand p l e R s m args below meth c B.U B.locs B.cells B.slots ∧ Post ⟨T.setVm vm₁, locs, cells, slots⟩ (Value.ref b :: argsL).toArray v B ∧
      ∀ target, Steps p.tables e below (B.U.setTop { g with pc := g.pc + 3, stack := v.toList ++ rest }) target → Steps p.tables e below (T.setTop g) target := by
  obtain ⟨mk, methM, hnamed, hmethM, hstM, habM⟩ := Cond.instanceMethod_spec hinst
  obtain ⟨m8, methM', cM, hn8, hmethM', -, -, -, -, -, -, hsigM⟩ := Cond.codeWith_spec hcode
  cases Option.some.inj (hn8.symm.trans hnamed)
  cases hmethM.symm.trans hmethM'
  obtain ⟨c2, r2, m2, q1, q2, q3, q4, kP, hkP, hkPi⟩ := Cond.selects_spec hsel
  cases hcls.symm.trans q1
  cases (State.methodFound?_of_named hnamed hy).symm.trans q2
  cases hnamed.symm.trans q3
  have hselP : selectMethod e.platform s.vm cellB.cls mk = .method mk := by rw [Launch.admits_selectMethod X.admits]; exact q4
  obtain ⟨vm₁, X₁, hstep₁⟩ := X.invokevirtual hexec hown hlink hnamed hmethM hstM hkP hkPi hy (a := b) (cell := cellB) hcell
    (fun z h => by rw [h] at hobj; cases hobj) hselP hmethM habM hkP hkPi (g := g) hg (argsL := argsL) (rest := rest) (hlen _ hsigM) hstack hdg
  obtain ⟨v, B, X', hpost, hsteps⟩ := hK m meth c ⟨T.setVm vm₁, locs, cells, slots⟩ { g with stack := rest } (.invokevirtual index) mk (Value.ref b :: argsL).toArray X₁ hg hsize hdg hW (X₁.named hnamed) (hpre vm₁ X₁.warmed)
  exact ⟨v, vm₁, B, X₁.warmed, X', hpost, fun target h => hstep₁ _ fun acts => by rw [doInvoke_state]; exact hsteps.trans h⟩
abbrev vx_CVW (R : Room) (s : State) (args : Array Value) (own C : String) (index : Nat) (y : MethodName) (bytes : ByteArray) (maxL : Nat) (ret : Option FieldType) (hh : List (Nat × Nat × Nat × Nat)) (ws : List Cond) (rm : Room) (mc ms n : Nat) : Prop :=
  (rm.cells = mc ∧ rm.slots = ms ∧ rm.frames + 1 ≤ R.frames ∧ 8 + (maxL + 11) + rm.locals ≤ R.locals ∧ (∀ w ∈ ws, ∀ (a' : Array Value) (U : State), s.WarmedH U.vm → w.before a' U = true) ∧ Cond.codeWith y bytes maxL ret hh ∈ ws) ∧
  (Cond.codeWith y bytes maxL ret hh).before args s = true ∧ (Cond.initialized y.cls).before args s = true ∧ (y.cls ≠ "java/lang/invoke/MethodHandle" ∧ y.cls ≠ "java/lang/invoke/VarHandle") ∧
  (∀ sig, parseMethodDescriptor y.desc = some sig → n = sig.parameters.length) ∧ (Cond.methodLink own index y).before args s = true ∧ (Cond.instanceMethod y).before args s = true ∧ (Cond.selects C y y).before args s = true
theorem vx_cwVW {own C : String} {index maxL mc ms : Nat} {y : MethodName} {bytes : ByteArray} {ret : Option FieldType} {hh : List (Nat × Nat × Nat × Nat)} {Ts ws ws' : List Cond} {rm : Room} (n : Nat) (ht : ∀ w ∈ Ts, w.before args s = true) (hT : GoodIn Ts (wsV own index C y ws)) (hw : ws = Cond.codeWith y bytes maxL ret hh :: ws') (hrc : rm.cells = mc) (hrs : rm.slots = ms)
    (hd : y.cls = C ∧ y.cls ≠ "java/lang/invoke/MethodHandle" ∧ y.cls ≠ "java/lang/invoke/VarHandle" ∧ (parseMethodDescriptor y.desc).map (fun d => d.parameters.length) = some n) (hR : rm.frames + 1 ≤ R.frames ∧ 8 + (maxL + 11) + rm.locals ≤ R.locals) :
    vx_CVW R s args own C index y bytes maxL ret hh ws rm mc ms n := by
  obtain ⟨hC, hd⟩ := hd
  subst hC
  have ok : ∀ w ∈ wsV own index y.cls y ws, w.before args s = true := fun w h => ht w (hT w h).1
  have hG : GoodIn Ts ws := fun w h => hT w (by unfold wsV; exact List.mem_append_right _ h)
  have hc : Cond.codeWith y bytes maxL ret hh ∈ ws := by rw [hw]; exact List.mem_cons_self
  refine ⟨⟨hrc, hrs, hR.1, hR.2, pay_in ht hG, hc⟩, ht _ (hG _ hc).1, ok _ (by simp [wsV]), ⟨hd.1, hd.2.1⟩, fun sig h => ?_, ok _ (by simp [wsV]), ok _ (by simp [wsV]), ok _ (by simp [wsV])⟩
  have h2 := hd.2.2
  rw [h] at h2
  exact (Option.some.inj h2).symm
theorem vx_runVW {y : MethodName} {bytes cc : ByteArray} {maxL nL mc ms n index : Nat} {ret : Option FieldType} {hh : List (Nat × Nat × Nat × Nat)} {ws : List Cond} {rm : Room} {Pc : Array Value → State → Prop} {Qc : Array Value → State → Outcome → State → Prop} {free : Addr → Prop} {Ts : List Cond} {own C : String} {b : Addr} {As rest : List Value} {g : JFrame}
    (S : CallFix p m c cc nL s args Ts own) (hM : Met l y ws rm Pc Qc mc ms free) (cw : vx_CVW R s args own C index y bytes maxL ret hh ws rm mc ms n) (hp : PreV s H C b Pc As)
    (hg : g.method = m) (hn : As.length = n) (hsize : g.locals.size = nL) (hstack : g.stack = As.reverse ++ .ref b :: rest) (hW : 2 * g.monitorRoom + (rest.map fun v => v.category).sum ≤ 8) (hdg : decode cc g.pc = .ok (.invokevirtual index, 3)) (hf : cells + mc ≤ R.cells ∧ slots + ms ≤ R.slots) :
    va_Run p l e R s m args below meth c H locs cells slots mc ms g rest (Qc (Value.ref b :: As).toArray) free := by
  obtain ⟨⟨hrc, hrs, hfr, hlo, hws, hcw⟩, hcode, hini, hy, hlen, hl, hin, hse⟩ := cw
  have hK : Back l R p e below s args y 3 8 (PreOf R mc ms Pc) (PostOf Qc mc ms free) := va_backW (hh := hh) (bytes := bytes) (maxL := maxL) (ret := ret) hM hp.1 hrc hrs hfr hlo hws hcw (fun a' U hW => word_at hW (Or.inl (by first | rfl | simp [Cond.onTables, Cond.keeps, Cond.steady])) hini)
  obtain ⟨hx, hb, hml, ho, -⟩ := S
  obtain ⟨-, ⟨cellB, hcB, hoB, hclB⟩, hPc⟩ := hp
  intro T hT X
  obtain ⟨v, vm₁, ⟨U', l2, c2, s2⟩, hW₁, X', ⟨g', mk, t, L, e1, e2, hq, h1, hL, h2, h3⟩, st⟩ := vx_callVW X hx (C := C) (hh := hh) (bytes := bytes) (maxL := maxL) (ret := ret) ho hl hin hse hcode hy hK (by rw [hT]; exact hcB) hoB hclB hg (hsize.trans hml.symm) (argsL := As) (rest := rest) (fun sig h => hn.trans (hlen sig h)) hstack hW (by rw [hb]; exact hdg)
    (fun vm₁ hW₁ => ⟨hf.1, hf.2, hPc (T.setVm vm₁) hT hW₁⟩)
  dsimp only [Pt.U, Pt.locs, Pt.cells, Pt.slots] at X' e1 e2 h1 h2 h3 st
  subst h1; subst h2; subst h3
  exact ⟨v, (T.setVm vm₁).calling g' mk (Value.ref b :: As).toArray, t, U', L, hT, X', hL, e1, e2, hq, st⟩
section
variable {y : MethodName} {bytes cc : ByteArray} {maxL nL mc ms n index : Nat} {ret : Option FieldType} {ws : List Cond} {rm : Room} {Pc : Array Value → State → Prop} {Qc : Array Value → State → Outcome → State → Prop} {XC : String → State → State → Prop} {free : Addr → Prop} {Ts : List Cond} {own C : String} {b : Addr} {As rest : List Value} {g : JFrame}
theorem vx_runVX {hh : List (Nat × Nat × Nat × Nat)} (S : CallFix p m c cc nL s args Ts own) (hM : vx_Met l y ws rm Pc Qc XC mc ms free) (cw : vx_CVW R s args own C index y bytes maxL ret hh ws rm mc ms n) (hp : PreV s H C b Pc As)
    (hg : g.method = m) (hn : As.length = n) (hsize : g.locals.size = nL) (hstack : g.stack = As.reverse ++ .ref b :: rest) (hW : 2 * g.monitorRoom + (rest.map fun v => v.category).sum ≤ 8) (hdg : decode cc g.pc = .ok (.invokevirtual index, 3)) (hf : cells + mc ≤ R.cells ∧ slots + ms ≤ R.slots) :
    vx_Run p l e R s m args below meth c H locs cells slots mc ms g rest (Qc (Value.ref b :: As).toArray) XC free := by
  obtain ⟨⟨hrc, hrs, hfr, hlo, hws, hcw⟩, hcode, hini, hy, hlen, hl, hin, hse⟩ := cw
  have hK : vx_Back l R p e below s args y 3 8 (PreOf R mc ms Pc) (PostOf Qc mc ms free) (vx_Post XC mc ms free) := vx_backW (hh := hh) (bytes := bytes) (maxL := maxL) (ret := ret) hM hp.1 hrc hrs hfr hlo hws hcw (fun a' U hW => word_at hW (Or.inl (by first | rfl | simp [Cond.onTables, Cond.keeps, Cond.steady])) hini)
  obtain ⟨hx, hb, hml, ho, -⟩ := S
  obtain ⟨-, ⟨cellB, hcB, hoB, hclB⟩, hPc⟩ := hp
  intro T hT X
  rcases vx_callVX X hx (C := C) (hh := hh) (bytes := bytes) (maxL := maxL) (ret := ret) ho hl hin hse hcode hy hK (by rw [hT]; exact hcB) hoB hclB hg (hsize.trans hml.symm) (argsL := As) (rest := rest) (fun sig h => hn.trans (hlen sig h)) hstack hW (by rw [hb]; exact hdg)
    (fun vm₁ hW₁ => ⟨hf.1, hf.2, hPc (T.setVm vm₁) hT hW₁⟩) with ⟨v, vm₁, ⟨U', l2, c2, s2⟩, hW₁, X', ⟨g', mk, t, L, e1, e2, hq, h1, hL, h2, h3⟩, st⟩ | ⟨q, vm₁, ⟨U', l2, c2, s2⟩, hW₁, X', ⟨g', mk, t, L, E, ce, e1, e2, hq, hce, hcv, hcl, h1, hL, h2, h3⟩, st⟩
  · dsimp only [Pt.U, Pt.locs, Pt.cells, Pt.slots] at X' e1 e2 h1 h2 h3 st
    subst h1; subst h2; subst h3
    exact Or.inl ⟨v, (T.setVm vm₁).calling g' mk (Value.ref b :: As).toArray, t, U', L, hT, X', hL, e1, e2, hq, st⟩
  · dsimp only [Pt.U, Pt.locs, Pt.cells, Pt.slots] at X' e1 e2 h1 h2 h3 st hcl
    subst h1; subst h2; subst h3
    exact Or.inr ⟨q, (T.setVm vm₁).calling g' mk (Value.ref b :: As).toArray, t, U', L, E, ce, hT, X', hL, e1, e2, hq, hce, hcv, vx_cls hW₁ hcl, st⟩
theorem vx_runSX {hh : List (Nat × Nat × Nat × Nat)} (S : CallFix p m c cc nL s args Ts own) (hM : vx_Met l y ws rm Pc Qc XC mc ms free) (cw : vx_CSW R s args own index y bytes maxL ret hh ws rm mc ms n) (hp : PreS s H Pc As)
    (hg : g.method = m) (hn : As.length = n) (hsize : g.locals.size = nL) (hstack : g.stack = As.reverse ++ rest) (hW : 2 * g.monitorRoom + (rest.map fun v => v.category).sum ≤ 8) (hdg : decode cc g.pc = .ok (.invokestatic index, 3)) (hf : cells + mc ≤ R.cells ∧ slots + ms ≤ R.slots) :
    vx_Run p l e R s m args below meth c H locs cells slots mc ms g rest (Qc As.toArray) XC free := by
  obtain ⟨⟨hrc, hrs, hfr, hlo, hws, hcw⟩, hcode, hini, hy, hlen, hl, hstt⟩ := cw
  have hK : vx_Back l R p e below s args y 3 8 (PreOf R mc ms Pc) (PostOf Qc mc ms free) (vx_Post XC mc ms free) := vx_backW (hh := hh) (bytes := bytes) (maxL := maxL) (ret := ret) hM hp.1 hrc hrs hfr hlo hws hcw (fun a' U hW => word_at hW (Or.inl (by first | rfl | simp [Cond.onTables, Cond.keeps, Cond.steady])) hini)
  obtain ⟨hx, hb, hml, ho, -⟩ := S
  intro T hT X
  rcases vx_callSX X hx (hh := hh) (bytes := bytes) (maxL := maxL) (ret := ret) ho hl hstt hini hcode hy hK hg (hsize.trans hml.symm) (argsL := As) (rest := rest) (fun sig h => hn.trans (hlen sig h)) hstack hW (by rw [hb]; exact hdg)
    (fun vm₁ hW₁ => ⟨hf.1, hf.2, hp.2 (T.setVm vm₁) hT hW₁⟩) with ⟨v, vm₁, ⟨U', l2, c2, s2⟩, hW₁, X', ⟨g', mk, t, L, e1, e2, hq, h1, hL, h2, h3⟩, st⟩ | ⟨q, vm₁, ⟨U', l2, c2, s2⟩, hW₁, X', ⟨g', mk, t, L, E, ce, e1, e2, hq, hce, hcv, hcl, h1, hL, h2, h3⟩, st⟩
  · dsimp only [Pt.U, Pt.locs, Pt.cells, Pt.slots] at X' e1 e2 h1 h2 h3 st
    subst h1; subst h2; subst h3
    exact Or.inl ⟨v, (T.setVm vm₁).calling g' mk As.toArray, t, U', L, hT, X', hL, e1, e2, hq, st⟩
  · dsimp only [Pt.U, Pt.locs, Pt.cells, Pt.slots] at X' e1 e2 h1 h2 h3 st hcl
    subst h1; subst h2; subst h3
    exact Or.inr ⟨q, (T.setVm vm₁).calling g' mk As.toArray, t, U', L, E, ce, hT, X', hL, e1, e2, hq, hce, hcv, vx_cls hW₁ hcl, st⟩
end
end VXH
theorem vx_ofWH {l : Launch} {y : MethodName} {ws ws' : List Cond} {rm : Room} {Pc : Array Value → State → Prop} {Qc : Array Value → State → Outcome → State → Prop} {XC : String → State → State → Prop} {mc ms : Nat} {free : Addr → Prop} {cc : ByteArray} {maxL : Nat} {ret : Option FieldType} {hh : List (Nat × Nat × Nat × Nat)}
    (hy : plainName y.cls = true) (hw : ws = Cond.codeWith y cc maxL ret hh :: ws')
    (body : ∀ p e s m args below meth c s₁, BodyLoose p l y (headSpec ws rm) cc maxL ret e s m args below meth c s₁ → c.maxLocals = maxL → Pc args s →
      W p l e (headSpec ws rm).room s m args below meth c s.heap [] 0 0 (vx_MQ below Qc XC args s mc ms free) (entryFrame m args maxL)) : vx_Met l y ws rm Pc Qc XC mc ms free := by
  refine MetFree.of_bodyS (code := cc) (maxLocals := maxL) (ret := ret) hy ?_ ?_
  · intro args s m h hn
    obtain ⟨m9, meth, c, hn9, h1, h2, h3, h4, -, h5, h6, -⟩ := Cond.codeWith_spec (atoms_spec (ws := ws) h _ (by rw [hw]; exact List.mem_cons_self))
    cases hn.symm.trans hn9
    exact ⟨meth, c, h1, h2, h3, h4, h5, h6⟩
  · intro p e s m args below meth c s₁ B hml hP _
    have hh0 : s₁.heap = s.heap := by rw [B.state]; rfl
    obtain ⟨t, a1, o, b1, b2, b3⟩ := body p e s m args below meth c s₁ B hml hP s₁ hh0 (Stand.of_body B)
    exact ⟨t, o, a1, b1, b2, b3⟩
/-! ===== END ===== -/
end
section
/-! ===== BEGIN printed: names, fields, word lists, decode rows ===== -/
def RX0 : String := "LiarTents"
def TX0 : u_T := fun k => match k with
  | 0 => ("LiarTents", "generals", "I", false)
  | 1 => ("LiarTents", "rounds", "I", false)
  | 2 => ("LiarTents", "councils", "I", false)
  | 3 => ("LiarTents", "attacksInAll", "I", false)
  | 4 => ("LiarTents", "kinds", "[I", true)
  | 5 => ("LiarTents", "attacked", "[I", true)
  | 6 => ("LiarTents", "commanded", "[I", true)
  | 7 => ("LiarTents", "differed", "[I", true)
  | 8 => ("LiarTents", "latestGenerals", "I", false)
  | 9 => ("LiarTents", "latestCommander", "I", false)
  | 10 => ("LiarTents", "latestOrder", "I", false)
  | 11 => ("LiarTents", "latestMessengers", "I", false)
  | 12 => ("LiarTents", "latestDone", "[I", true)
  | 13 => ("LiarTents", "latestTook", "[[I", true)
  | 14 => ("LiarTents", "heard", "[[I", true)
  | 15 => ("LiarTents", "balance", "[[I", true)
  | 16 => ("LiarTents", "taken", "[[I", true)
  | _ => ("LiarTents", "tookOf", "[[I", true)
def tyX0 : Nat → FieldType := fun k => match k with
  | 0 => .int
  | 1 => .int
  | 2 => .int
  | 3 => .int
  | 4 => .array .int
  | 5 => .array .int
  | 6 => .array .int
  | 7 => .array .int
  | 8 => .int
  | 9 => .int
  | 10 => .int
  | 11 => .int
  | 12 => .array .int
  | 13 => .array (.array .int)
  | 14 => .array (.array .int)
  | 15 => .array (.array .int)
  | 16 => .array (.array .int)
  | _ => .array (.array .int)
abbrev wsX00 : List Cond := u_ws RX0 TX0 18
theorem nmX0 : ∀ a, a < 18 → ∀ b, b < 18 → a ≠ b → (TX0 a).2.1 ≠ (TX0 b).2.1 := by decide +kernel
theorem tyX0_ok : ∀ k, k < 18 → parseFieldDescriptor (TX0 k).2.2.1 = some (tyX0 k) := by decide +kernel
abbrev cX0_init : ByteArray := prog_1_method_1_code
def yX0_init : MethodName := ⟨RX0, "<init>", "()V"⟩
abbrev cX0_come : ByteArray := prog_1_method_2_code
def yX0_come : MethodName := ⟨RX0, "come", "()I"⟩
abbrev cX0_setKind : ByteArray := prog_1_method_3_code
def yX0_setKind : MethodName := ⟨RX0, "setKind", "(II)I"⟩
abbrev cX0_setRounds : ByteArray := prog_1_method_4_code
def yX0_setRounds : MethodName := ⟨RX0, "setRounds", "(I)I"⟩
abbrev cX0_hold : ByteArray := prog_1_method_5_code
def yX0_hold : MethodName := ⟨RX0, "hold", "(II)I"⟩
abbrev cX0_does : ByteArray := prog_1_method_6_code
def yX0_does : MethodName := ⟨RX0, "does", "(I)I"⟩
abbrev cX0_took : ByteArray := prog_1_method_7_code
def yX0_took : MethodName := ⟨RX0, "took", "(II)I"⟩
abbrev cX0_count : ByteArray := prog_1_method_8_code
def yX0_count : MethodName := ⟨RX0, "count", "(I)I"⟩
abbrev cX0_told : ByteArray := prog_1_method_9_code
def yX0_told : MethodName := ⟨RX0, "told", "(II)I"⟩
abbrev cX0_hears : ByteArray := prog_1_method_10_code
def yX0_hears : MethodName := ⟨RX0, "hears", "(III)I"⟩
abbrev cX0_would : ByteArray := prog_1_method_11_code
def yX0_would : MethodName := ⟨RX0, "would", "(III)I"⟩
abbrev cX0_agrees : ByteArray := prog_1_method_12_code
def yX0_agrees : MethodName := ⟨RX0, "agrees", "(II)Z"⟩
abbrev cX0_messengers : ByteArray := prog_1_method_13_code
def yX0_messengers : MethodName := ⟨RX0, "messengers", "(I)I"⟩
abbrev cX0_needs : ByteArray := prog_1_method_14_code
def yX0_needs : MethodName := ⟨RX0, "needs", "()I"⟩
abbrev cX0_found : ByteArray := prog_1_method_15_code
def yX0_found : MethodName := ⟨RX0, "found", "(I)I"⟩
abbrev cX0_mean : ByteArray := prog_1_method_16_code
def yX0_mean : MethodName := ⟨RX0, "mean", "()D"⟩
abbrev cX0_digest : ByteArray := prog_1_method_17_code
def yX0_digest : MethodName := ⟨RX0, "digest", "()J"⟩
abbrev cX0_isGeneral : ByteArray := prog_1_method_18_code
def yX0_isGeneral : MethodName := ⟨RX0, "isGeneral", "(I)Z"⟩
abbrev cX0_requireGeneral : ByteArray := prog_1_method_19_code
def yX0_requireGeneral : MethodName := ⟨RX0, "requireGeneral", "(I)V"⟩
abbrev cX0_requirePresent : ByteArray := prog_1_method_20_code
def yX0_requirePresent : MethodName := ⟨RX0, "requirePresent", "(I)V"⟩
abbrev cX0_requireCouncil : ByteArray := prog_1_method_21_code
def yX0_requireCouncil : MethodName := ⟨RX0, "requireCouncil", "()V"⟩
abbrev cX0_requireOrder : ByteArray := prog_1_method_22_code
def yX0_requireOrder : MethodName := ⟨RX0, "requireOrder", "(I)V"⟩
abbrev cX0_requireRounds : ByteArray := prog_1_method_23_code
def yX0_requireRounds : MethodName := ⟨RX0, "requireRounds", "(I)V"⟩
abbrev cX0_said : ByteArray := prog_1_method_24_code
def yX0_said : MethodName := ⟨RX0, "said", "(IIII)I"⟩
abbrev cX0_hearsLie : ByteArray := prog_1_method_25_code
def yX0_hearsLie : MethodName := ⟨RX0, "hearsLie", "(II)Z"⟩
abbrev cX0_workOut : ByteArray := prog_1_method_26_code
def yX0_workOut : MethodName := ⟨RX0, "workOut", "(III)V"⟩
abbrev cX0_agree : ByteArray := prog_1_method_27_code
def yX0_agree : MethodName := ⟨RX0, "agree", "(IIIII)V"⟩
abbrev cX0_isAmong : ByteArray := prog_1_method_28_code
def yX0_isAmong : MethodName := ⟨RX0, "isAmong", "(II)Z"⟩
abbrev cX0_hearCommander : ByteArray := prog_1_method_29_code
def yX0_hearCommander : MethodName := ⟨RX0, "hearCommander", "(IIII)V"⟩
abbrev cX0_weighRetold : ByteArray := prog_1_method_30_code
def yX0_weighRetold : MethodName := ⟨RX0, "weighRetold", "(III)V"⟩
abbrev cX0_weight : ByteArray := prog_1_method_31_code
def yX0_weight : MethodName := ⟨RX0, "weight", "(I)I"⟩
abbrev cX0_takeMajority : ByteArray := prog_1_method_32_code
def yX0_takeMajority : MethodName := ⟨RX0, "takeMajority", "(II)V"⟩
abbrev cX0_orderDone : ByteArray := prog_1_method_33_code
def yX0_orderDone : MethodName := ⟨RX0, "orderDone", "(III)I"⟩
abbrev cX0_loyalAgree : ByteArray := prog_1_method_34_code
def yX0_loyalAgree : MethodName := ⟨RX0, "loyalAgree", "(III)Z"⟩
abbrev cX0_alwaysAgree : ByteArray := prog_1_method_35_code
def yX0_alwaysAgree : MethodName := ⟨RX0, "alwaysAgree", "(I)Z"⟩
abbrev cX0_messengersAmong : ByteArray := prog_1_method_36_code
def yX0_messengersAmong : MethodName := ⟨RX0, "messengersAmong", "(II)I"⟩
abbrev cX0_keepAsLatest : ByteArray := prog_1_method_37_code
def yX0_keepAsLatest : MethodName := ⟨RX0, "keepAsLatest", "(II)V"⟩
abbrev cX0_enterCouncil : ByteArray := prog_1_method_38_code
def yX0_enterCouncil : MethodName := ⟨RX0, "enterCouncil", "(II)I"⟩
abbrev cX0_counted : ByteArray := prog_1_method_39_code
def yX0_counted : MethodName := ⟨RX0, "counted", "(I)I"⟩
abbrev cX0_countedOfLatest : ByteArray := prog_1_method_40_code
def yX0_countedOfLatest : MethodName := ⟨RX0, "countedOfLatest", "(I)I"⟩
abbrev cX0_liarsNow : ByteArray := prog_1_method_41_code
def yX0_liarsNow : MethodName := ⟨RX0, "liarsNow", "()I"⟩
abbrev cX0_loyalThatDid : ByteArray := prog_1_method_42_code
def yX0_loyalThatDid : MethodName := ⟨RX0, "loyalThatDid", "(I)I"⟩
abbrev cX0_toldOf : ByteArray := prog_1_method_43_code
def yX0_toldOf : MethodName := ⟨RX0, "toldOf", "(II)I"⟩
abbrev cX0_mixed : ByteArray := prog_1_method_44_code
def yX0_mixed : MethodName := ⟨RX0, "mixed", "(JJ)J"⟩
def RX1 : String := "LiarTentsModel"
def TX1 : u_T := fun k => match k with
  | 0 => ("LiarTentsModel", "thrown", "I", false)
  | 1 => ("LiarTentsModel", "generals", "I", false)
  | 2 => ("LiarTentsModel", "rounds", "I", false)
  | 3 => ("LiarTentsModel", "kind", "[I", true)
  | 4 => ("LiarTentsModel", "often", "[[I", true)
  | 5 => ("LiarTentsModel", "councils", "I", false)
  | 6 => ("LiarTentsModel", "there", "I", false)
  | 7 => ("LiarTentsModel", "commander", "I", false)
  | 8 => ("LiarTentsModel", "ordered", "I", false)
  | 9 => ("LiarTentsModel", "runs", "I", false)
  | 10 => ("LiarTentsModel", "did", "[I", true)
  | _ => ("LiarTentsModel", "from", "[[I", true)
def tyX1 : Nat → FieldType := fun k => match k with
  | 0 => .int
  | 1 => .int
  | 2 => .int
  | 3 => .array .int
  | 4 => .array (.array .int)
  | 5 => .int
  | 6 => .int
  | 7 => .int
  | 8 => .int
  | 9 => .int
  | 10 => .array .int
  | _ => .array (.array .int)
abbrev wsX10 : List Cond := u_ws RX1 TX1 12
theorem nmX1 : ∀ a, a < 12 → ∀ b, b < 12 → a ≠ b → (TX1 a).2.1 ≠ (TX1 b).2.1 := by decide +kernel
theorem tyX1_ok : ∀ k, k < 12 → parseFieldDescriptor (TX1 k).2.2.1 = some (tyX1 k) := by decide +kernel
abbrev cX1_init : ByteArray := prog_3_method_1_code
def yX1_init : MethodName := ⟨RX1, "<init>", "()V"⟩
abbrev cX1_thrown : ByteArray := prog_3_method_2_code
def yX1_thrown : MethodName := ⟨RX1, "thrown", "()I"⟩
abbrev cX1_no : ByteArray := prog_3_method_3_code
def yX1_no : MethodName := ⟨RX1, "no", "(I)I"⟩
abbrev cX1_isIn : ByteArray := prog_3_method_4_code
def yX1_isIn : MethodName := ⟨RX1, "isIn", "(III)Z"⟩
abbrev cX1_isGeneral : ByteArray := prog_3_method_5_code
def yX1_isGeneral : MethodName := ⟨RX1, "isGeneral", "(I)Z"⟩
abbrev cX1_heard : ByteArray := prog_3_method_6_code
def yX1_heard : MethodName := ⟨RX1, "heard", "(III)I"⟩
abbrev cX1_retold : ByteArray := prog_3_method_7_code
def yX1_retold : MethodName := ⟨RX1, "retold", "(IIII)[[I"⟩
abbrev cX1_agreement : ByteArray := prog_3_method_8_code
def yX1_agreement : MethodName := ⟨RX1, "agreement", "(IIII)[I"⟩
abbrev cX1_all : ByteArray := prog_3_method_9_code
def yX1_all : MethodName := ⟨RX1, "all", "()I"⟩
abbrev cX1_council : ByteArray := prog_3_method_10_code
def yX1_council : MethodName := ⟨RX1, "council", "(III)[I"⟩
abbrev cX1_runners : ByteArray := prog_3_method_11_code
def yX1_runners : MethodName := ⟨RX1, "runners", "(II)I"⟩
abbrev cX1_isAgreed : ByteArray := prog_3_method_12_code
def yX1_isAgreed : MethodName := ⟨RX1, "isAgreed", "(III)Z"⟩
abbrev cX1_come : ByteArray := prog_3_method_13_code
def yX1_come : MethodName := ⟨RX1, "come", "()I"⟩
abbrev cX1_setKind : ByteArray := prog_3_method_14_code
def yX1_setKind : MethodName := ⟨RX1, "setKind", "(II)I"⟩
abbrev cX1_setRounds : ByteArray := prog_3_method_15_code
def yX1_setRounds : MethodName := ⟨RX1, "setRounds", "(I)I"⟩
abbrev cX1_keep : ByteArray := prog_3_method_16_code
def yX1_keep : MethodName := ⟨RX1, "keep", "(II)V"⟩
abbrev cX1_hold : ByteArray := prog_3_method_17_code
def yX1_hold : MethodName := ⟨RX1, "hold", "(II)I"⟩
abbrev cX1_wasThere : ByteArray := prog_3_method_18_code
def yX1_wasThere : MethodName := ⟨RX1, "wasThere", "(I)Z"⟩
abbrev cX1_does : ByteArray := prog_3_method_19_code
def yX1_does : MethodName := ⟨RX1, "does", "(I)I"⟩
abbrev cX1_took : ByteArray := prog_3_method_20_code
def yX1_took : MethodName := ⟨RX1, "took", "(II)I"⟩
abbrev cX1_loyalThatDo : ByteArray := prog_3_method_21_code
def yX1_loyalThatDo : MethodName := ⟨RX1, "loyalThatDo", "(I)I"⟩
abbrev cX1_counted : ByteArray := prog_3_method_22_code
def yX1_counted : MethodName := ⟨RX1, "counted", "(I)I"⟩
abbrev cX1_count : ByteArray := prog_3_method_23_code
def yX1_count : MethodName := ⟨RX1, "count", "(I)I"⟩
abbrev cX1_generalTold : ByteArray := prog_3_method_24_code
def yX1_generalTold : MethodName := ⟨RX1, "generalTold", "(II)I"⟩
abbrev cX1_told : ByteArray := prog_3_method_25_code
def yX1_told : MethodName := ⟨RX1, "told", "(II)I"⟩
abbrev cX1_hears : ByteArray := prog_3_method_26_code
def yX1_hears : MethodName := ⟨RX1, "hears", "(III)I"⟩
abbrev cX1_would : ByteArray := prog_3_method_27_code
def yX1_would : MethodName := ⟨RX1, "would", "(III)I"⟩
abbrev cX1_agrees : ByteArray := prog_3_method_28_code
def yX1_agrees : MethodName := ⟨RX1, "agrees", "(II)Z"⟩
abbrev cX1_messengers : ByteArray := prog_3_method_29_code
def yX1_messengers : MethodName := ⟨RX1, "messengers", "(I)I"⟩
abbrev cX1_doesFor : ByteArray := prog_3_method_30_code
def yX1_doesFor : MethodName := ⟨RX1, "doesFor", "(I)Z"⟩
abbrev cX1_needs : ByteArray := prog_3_method_31_code
def yX1_needs : MethodName := ⟨RX1, "needs", "()I"⟩
abbrev cX1_found : ByteArray := prog_3_method_32_code
def yX1_found : MethodName := ⟨RX1, "found", "(I)I"⟩
abbrev cX1_mean : ByteArray := prog_3_method_33_code
def yX1_mean : MethodName := ⟨RX1, "mean", "()D"⟩
abbrev cX1_digest : ByteArray := prog_3_method_34_code
def yX1_digest : MethodName := ⟨RX1, "digest", "()J"⟩
def RJ0 : String := "java/lang/String"
def TJ0 : u_T := fun k => match k with
  | _ => ("", "", "", false)
def tyJ0 : Nat → FieldType := fun k => match k with
  | _ => .int
abbrev wsJ00 : List Cond := u_ws RJ0 TJ0 0
theorem nmJ0 : ∀ a, a < 0 → ∀ b, b < 0 → a ≠ b → (TJ0 a).2.1 ≠ (TJ0 b).2.1 := by decide +kernel
theorem tyJ0_ok : ∀ k, k < 0 → parseFieldDescriptor (TJ0 k).2.2.1 = some (tyJ0 k) := by decide +kernel
def RL : String := "LiarTentsLaw"
abbrev cL_come : ByteArray := method_3_code
def yL_come : MethodName := ⟨RL, "come", "(LLiarTents;[J)I"⟩
abbrev cL_setKind : ByteArray := method_4_code
def yL_setKind : MethodName := ⟨RL, "setKind", "(LLiarTents;II[J)I"⟩
abbrev cL_setRounds : ByteArray := method_5_code
def yL_setRounds : MethodName := ⟨RL, "setRounds", "(LLiarTents;I[J)I"⟩
abbrev cL_hold : ByteArray := method_6_code
def yL_hold : MethodName := ⟨RL, "hold", "(LLiarTents;II[J)I"⟩
abbrev cL_does : ByteArray := method_7_code
def yL_does : MethodName := ⟨RL, "does", "(LLiarTents;I[J)I"⟩
abbrev cL_took : ByteArray := method_8_code
def yL_took : MethodName := ⟨RL, "took", "(LLiarTents;II[J)I"⟩
abbrev cL_count : ByteArray := method_9_code
def yL_count : MethodName := ⟨RL, "count", "(LLiarTents;I[J)I"⟩
abbrev cL_told : ByteArray := method_10_code
def yL_told : MethodName := ⟨RL, "told", "(LLiarTents;II[J)I"⟩
abbrev cL_hears : ByteArray := method_11_code
def yL_hears : MethodName := ⟨RL, "hears", "(LLiarTents;III[J)I"⟩
abbrev cL_would : ByteArray := method_12_code
def yL_would : MethodName := ⟨RL, "would", "(LLiarTents;III[J)I"⟩
abbrev cL_agrees : ByteArray := method_13_code
def yL_agrees : MethodName := ⟨RL, "agrees", "(LLiarTents;II[J)I"⟩
abbrev cL_messengers : ByteArray := method_14_code
def yL_messengers : MethodName := ⟨RL, "messengers", "(LLiarTents;I[J)I"⟩
abbrev cL_found : ByteArray := method_15_code
def yL_found : MethodName := ⟨RL, "found", "(LLiarTents;I[J)I"⟩
abbrev cL_law : ByteArray := code
def yL_law : MethodName := ⟨RL, "law", "([I)Z"⟩
def wsX0_init : List Cond := .code yX0_init cX0_init 1 none :: ([.methodLink RX0 1 objectInit, .instanceMethod objectInit, .code objectInit ⟨#[0xb1]⟩ 1 none, .fieldLink RX0 7 "LiarTents" "rounds" "I", .arrayClass .int, .fieldLink RX0 13 "LiarTents" "kinds" "[I", .fieldLink RX0 17 "LiarTents" "attacked" "[I", .fieldLink RX0 20 "LiarTents" "commanded" "[I", .fieldLink RX0 23 "LiarTents" "differed" "[I", .fieldLink RX0 26 "LiarTents" "latestDone" "[I", .classLink RX0 29 "[[I", .fieldLink RX0 31 "LiarTents" "latestTook" "[[I", .fieldLink RX0 34 "LiarTents" "heard" "[[I", .fieldLink RX0 37 "LiarTents" "balance" "[[I", .fieldLink RX0 40 "LiarTents" "taken" "[[I", .fieldLink RX0 43 "LiarTents" "tookOf" "[[I"] ++ wsX00)
def wsX0_come : List Cond := .code yX0_come cX0_come 2 (some .int) :: ([.classLink RX0 49 "java/lang/IllegalStateException", .initialized "java/lang/IllegalStateException", .fieldLink RX0 46 "LiarTents" "generals" "I"] ++ wsX00 ++ (vx_atS RX0 53 "java/lang/IllegalStateException" ["java/lang/RuntimeException", "java/lang/Exception"]).filter goodWord)
def wsX0_isGeneral : List Cond := .code yX0_isGeneral cX0_isGeneral 2 (some .boolean) :: ([.fieldLink RX0 46 "LiarTents" "generals" "I"] ++ wsX00)
def wsX0_requireGeneral : List Cond := .code yX0_requireGeneral cX0_requireGeneral 2 none :: ([.classLink RX0 60 "java/lang/IndexOutOfBoundsException", .initialized "java/lang/IndexOutOfBoundsException", .methodLink RX0 148 yX0_isGeneral, .instanceMethod yX0_isGeneral, .selects RX0 yX0_isGeneral yX0_isGeneral, .initialized RX0, .code yX0_isGeneral cX0_isGeneral 2 (some .boolean), .fieldLink RX0 46 "LiarTents" "generals" "I"] ++ wsX00 ++ (vx_atS RX0 64 "java/lang/IndexOutOfBoundsException" ["java/lang/RuntimeException", "java/lang/Exception"]).filter goodWord)
def wsX0_setKind : List Cond := .code yX0_setKind cX0_setKind 4 (some .int) :: ([.classLink RX0 60 "java/lang/IndexOutOfBoundsException", .initialized "java/lang/IndexOutOfBoundsException", .fieldLink RX0 13 "LiarTents" "kinds" "[I", .methodLink RX0 56 yX0_requireGeneral, .instanceMethod yX0_requireGeneral, .selects RX0 yX0_requireGeneral yX0_requireGeneral, .initialized RX0, .code yX0_requireGeneral cX0_requireGeneral 2 none, .methodLink RX0 148 yX0_isGeneral, .instanceMethod yX0_isGeneral, .selects RX0 yX0_isGeneral yX0_isGeneral, .code yX0_isGeneral cX0_isGeneral 2 (some .boolean), .fieldLink RX0 46 "LiarTents" "generals" "I"] ++ wsX00 ++ (vx_atS RX0 64 "java/lang/IndexOutOfBoundsException" ["java/lang/RuntimeException", "java/lang/Exception"]).filter goodWord)
def wsX0_requireRounds : List Cond := .code yX0_requireRounds cX0_requireRounds 1 none :: ([.classLink RX0 105 "java/lang/IllegalArgumentException", .initialized "java/lang/IllegalArgumentException"] ++ (vx_atS RX0 109 "java/lang/IllegalArgumentException" ["java/lang/RuntimeException", "java/lang/Exception"]).filter goodWord)
def wsX0_setRounds : List Cond := .code yX0_setRounds cX0_setRounds 3 (some .int) :: ([.fieldLink RX0 7 "LiarTents" "rounds" "I", .methodLink RX0 65 yX0_requireRounds, .static yX0_requireRounds, .initialized RX0, .code yX0_requireRounds cX0_requireRounds 1 none, .classLink RX0 105 "java/lang/IllegalArgumentException", .initialized "java/lang/IllegalArgumentException"] ++ wsX00 ++ (vx_atS RX0 109 "java/lang/IllegalArgumentException" ["java/lang/RuntimeException", "java/lang/Exception"]).filter goodWord)
def wsX0_requireOrder : List Cond := .code yX0_requireOrder cX0_requireOrder 1 none :: ([.classLink RX0 105 "java/lang/IllegalArgumentException", .initialized "java/lang/IllegalArgumentException"] ++ (vx_atS RX0 109 "java/lang/IllegalArgumentException" ["java/lang/RuntimeException", "java/lang/Exception"]).filter goodWord)
def wsX0_isAmong : List Cond := .code yX0_isAmong cX0_isAmong 2 (some .boolean) :: ([])
def wsX0_said : List Cond := .code yX0_said cX0_said 4 (some .int) :: ([])
def wsX0_weight : List Cond := .code yX0_weight cX0_weight 1 (some .int) :: ([])
def wsX0_hearCommander : List Cond := .code yX0_hearCommander cX0_hearCommander 7 none :: ([.fieldLink RX0 46 "LiarTents" "generals" "I", .fieldLink RX0 13 "LiarTents" "kinds" "[I", .fieldLink RX0 34 "LiarTents" "heard" "[[I", .fieldLink RX0 37 "LiarTents" "balance" "[[I", .methodLink RX0 169 yX0_isAmong, .static yX0_isAmong, .initialized RX0, .code yX0_isAmong cX0_isAmong 2 (some .boolean), .methodLink RX0 110 yX0_said, .static yX0_said, .code yX0_said cX0_said 4 (some .int), .methodLink RX0 178 yX0_weight, .static yX0_weight, .code yX0_weight cX0_weight 1 (some .int)] ++ wsX00)
def wsX0_weighRetold : List Cond := .code yX0_weighRetold cX0_weighRetold 6 none :: ([.fieldLink RX0 46 "LiarTents" "generals" "I", .fieldLink RX0 40 "LiarTents" "taken" "[[I", .fieldLink RX0 37 "LiarTents" "balance" "[[I", .fieldLink RX0 43 "LiarTents" "tookOf" "[[I", .methodLink RX0 169 yX0_isAmong, .static yX0_isAmong, .initialized RX0, .code yX0_isAmong cX0_isAmong 2 (some .boolean), .methodLink RX0 178 yX0_weight, .static yX0_weight, .code yX0_weight cX0_weight 1 (some .int)] ++ wsX00)
def wsX0_takeMajority : List Cond := .code yX0_takeMajority cX0_takeMajority 4 none :: ([.fieldLink RX0 46 "LiarTents" "generals" "I", .fieldLink RX0 40 "LiarTents" "taken" "[[I", .fieldLink RX0 37 "LiarTents" "balance" "[[I", .methodLink RX0 169 yX0_isAmong, .static yX0_isAmong, .initialized RX0, .code yX0_isAmong cX0_isAmong 2 (some .boolean)] ++ wsX00)
def wsX0_agree_r1 : List Cond := [Cond.fieldLink RX0 46 "LiarTents" "generals" "I", Cond.fieldLink RX0 34 "LiarTents" "heard" "[[I", Cond.methodLink RX0 148 yX0_isGeneral, Cond.instanceMethod yX0_isGeneral, Cond.selects RX0 yX0_isGeneral yX0_isGeneral, Cond.initialized RX0, Cond.code yX0_isGeneral cX0_isGeneral 2 (some .boolean), Cond.methodLink RX0 165 yX0_hearCommander, Cond.instanceMethod yX0_hearCommander, Cond.selects RX0 yX0_hearCommander yX0_hearCommander, Cond.code yX0_hearCommander cX0_hearCommander 7 none, Cond.fieldLink RX0 13 "LiarTents" "kinds" "[I", Cond.fieldLink RX0 37 "LiarTents" "balance" "[[I", Cond.methodLink RX0 169 yX0_isAmong, Cond.static yX0_isAmong, Cond.code yX0_isAmong cX0_isAmong 2 (some .boolean), Cond.methodLink RX0 110 yX0_said, Cond.static yX0_said, Cond.code yX0_said cX0_said 4 (some .int), Cond.methodLink RX0 178 yX0_weight, Cond.static yX0_weight, Cond.code yX0_weight cX0_weight 1 (some .int), Cond.methodLink RX0 161 yX0_agree, Cond.instanceMethod yX0_agree]
def wsX0_agree_r2 : List Cond := [Cond.selects RX0 yX0_agree yX0_agree, Cond.methodLink RX0 172 yX0_weighRetold, Cond.instanceMethod yX0_weighRetold, Cond.selects RX0 yX0_weighRetold yX0_weighRetold, Cond.code yX0_weighRetold cX0_weighRetold 6 none, Cond.fieldLink RX0 40 "LiarTents" "taken" "[[I", Cond.fieldLink RX0 43 "LiarTents" "tookOf" "[[I", Cond.methodLink RX0 175 yX0_takeMajority, Cond.instanceMethod yX0_takeMajority, Cond.selects RX0 yX0_takeMajority yX0_takeMajority, Cond.code yX0_takeMajority cX0_takeMajority 4 none]
def wsX0_agree : List Cond := .code yX0_agree cX0_agree 8 none :: ((wsX0_agree_r1 ++ wsX0_agree_r2) ++ wsX00)
def wsX0_workOut_r1 : List Cond := [Cond.fieldLink RX0 46 "LiarTents" "generals" "I", Cond.fieldLink RX0 43 "LiarTents" "tookOf" "[[I", Cond.fieldLink RX0 34 "LiarTents" "heard" "[[I", Cond.methodLink RX0 161 yX0_agree, Cond.instanceMethod yX0_agree, Cond.selects RX0 yX0_agree yX0_agree, Cond.initialized RX0, Cond.code yX0_agree cX0_agree 8 none, Cond.methodLink RX0 148 yX0_isGeneral, Cond.instanceMethod yX0_isGeneral, Cond.selects RX0 yX0_isGeneral yX0_isGeneral, Cond.code yX0_isGeneral cX0_isGeneral 2 (some .boolean), Cond.methodLink RX0 165 yX0_hearCommander, Cond.instanceMethod yX0_hearCommander, Cond.selects RX0 yX0_hearCommander yX0_hearCommander, Cond.code yX0_hearCommander cX0_hearCommander 7 none, Cond.fieldLink RX0 13 "LiarTents" "kinds" "[I", Cond.fieldLink RX0 37 "LiarTents" "balance" "[[I", Cond.methodLink RX0 169 yX0_isAmong, Cond.static yX0_isAmong, Cond.code yX0_isAmong cX0_isAmong 2 (some .boolean), Cond.methodLink RX0 110 yX0_said, Cond.static yX0_said, Cond.code yX0_said cX0_said 4 (some .int)]
def wsX0_workOut_r2 : List Cond := [Cond.methodLink RX0 178 yX0_weight, Cond.static yX0_weight, Cond.code yX0_weight cX0_weight 1 (some .int), Cond.methodLink RX0 172 yX0_weighRetold, Cond.instanceMethod yX0_weighRetold, Cond.selects RX0 yX0_weighRetold yX0_weighRetold, Cond.code yX0_weighRetold cX0_weighRetold 6 none, Cond.fieldLink RX0 40 "LiarTents" "taken" "[[I", Cond.methodLink RX0 175 yX0_takeMajority, Cond.instanceMethod yX0_takeMajority, Cond.selects RX0 yX0_takeMajority yX0_takeMajority, Cond.code yX0_takeMajority cX0_takeMajority 4 none]
def wsX0_workOut : List Cond := .code yX0_workOut cX0_workOut 6 none :: ((wsX0_workOut_r1 ++ wsX0_workOut_r2) ++ wsX00)
def wsX0_messengersAmong : List Cond := .code yX0_messengersAmong cX0_messengersAmong 5 (some .int) :: ([])
def wsX0_orderDone : List Cond := .code yX0_orderDone cX0_orderDone 4 (some .int) :: ([.fieldLink RX0 40 "LiarTents" "taken" "[[I"] ++ wsX00)
def wsX0_keepAsLatest : List Cond := .code yX0_keepAsLatest cX0_keepAsLatest 5 none :: ([.fieldLink RX0 46 "LiarTents" "generals" "I", .fieldLink RX0 145 "LiarTents" "latestGenerals" "I", .fieldLink RX0 89 "LiarTents" "latestCommander" "I", .fieldLink RX0 181 "LiarTents" "latestOrder" "I", .fieldLink RX0 7 "LiarTents" "rounds" "I", .fieldLink RX0 184 "LiarTents" "latestMessengers" "I", .fieldLink RX0 26 "LiarTents" "latestDone" "[I", .fieldLink RX0 31 "LiarTents" "latestTook" "[[I", .fieldLink RX0 43 "LiarTents" "tookOf" "[[I", .methodLink RX0 122 yX0_messengersAmong, .static yX0_messengersAmong, .initialized RX0, .code yX0_messengersAmong cX0_messengersAmong 5 (some .int), .methodLink RX0 114 yX0_orderDone, .instanceMethod yX0_orderDone, .selects RX0 yX0_orderDone yX0_orderDone, .code yX0_orderDone cX0_orderDone 4 (some .int), .fieldLink RX0 40 "LiarTents" "taken" "[[I"] ++ wsX00)
def wsX0_enterCouncil : List Cond := .code yX0_enterCouncil cX0_enterCouncil 6 (some .int) :: ([.fieldLink RX0 145 "LiarTents" "latestGenerals" "I", .fieldLink RX0 26 "LiarTents" "latestDone" "[I", .fieldLink RX0 17 "LiarTents" "attacked" "[I", .fieldLink RX0 23 "LiarTents" "differed" "[I", .fieldLink RX0 20 "LiarTents" "commanded" "[I", .fieldLink RX0 133 "LiarTents" "councils" "I", .fieldLink RX0 136 "LiarTents" "attacksInAll" "I"] ++ wsX00)
def wsX0_hold_r1 : List Cond := [Cond.fieldLink RX0 7 "LiarTents" "rounds" "I", Cond.methodLink RX0 56 yX0_requireGeneral, Cond.instanceMethod yX0_requireGeneral, Cond.selects RX0 yX0_requireGeneral yX0_requireGeneral, Cond.initialized RX0, Cond.code yX0_requireGeneral cX0_requireGeneral 2 none, Cond.classLink RX0 60 "java/lang/IndexOutOfBoundsException", Cond.initialized "java/lang/IndexOutOfBoundsException", Cond.methodLink RX0 148 yX0_isGeneral, Cond.instanceMethod yX0_isGeneral, Cond.selects RX0 yX0_isGeneral yX0_isGeneral, Cond.code yX0_isGeneral cX0_isGeneral 2 (some .boolean), Cond.fieldLink RX0 46 "LiarTents" "generals" "I", Cond.methodLink RX0 68 yX0_requireOrder, Cond.static yX0_requireOrder, Cond.code yX0_requireOrder cX0_requireOrder 1 none, Cond.classLink RX0 105 "java/lang/IllegalArgumentException", Cond.initialized "java/lang/IllegalArgumentException", Cond.methodLink RX0 71 yX0_workOut, Cond.instanceMethod yX0_workOut, Cond.selects RX0 yX0_workOut yX0_workOut, Cond.code yX0_workOut cX0_workOut 6 none, Cond.fieldLink RX0 43 "LiarTents" "tookOf" "[[I", Cond.fieldLink RX0 34 "LiarTents" "heard" "[[I"]
def wsX0_hold_r2 : List Cond := [Cond.methodLink RX0 161 yX0_agree, Cond.instanceMethod yX0_agree, Cond.selects RX0 yX0_agree yX0_agree, Cond.code yX0_agree cX0_agree 8 none, Cond.methodLink RX0 165 yX0_hearCommander, Cond.instanceMethod yX0_hearCommander, Cond.selects RX0 yX0_hearCommander yX0_hearCommander, Cond.code yX0_hearCommander cX0_hearCommander 7 none, Cond.fieldLink RX0 13 "LiarTents" "kinds" "[I", Cond.fieldLink RX0 37 "LiarTents" "balance" "[[I", Cond.methodLink RX0 169 yX0_isAmong, Cond.static yX0_isAmong, Cond.code yX0_isAmong cX0_isAmong 2 (some .boolean), Cond.methodLink RX0 110 yX0_said, Cond.static yX0_said, Cond.code yX0_said cX0_said 4 (some .int), Cond.methodLink RX0 178 yX0_weight, Cond.static yX0_weight, Cond.code yX0_weight cX0_weight 1 (some .int), Cond.methodLink RX0 172 yX0_weighRetold, Cond.instanceMethod yX0_weighRetold, Cond.selects RX0 yX0_weighRetold yX0_weighRetold, Cond.code yX0_weighRetold cX0_weighRetold 6 none, Cond.fieldLink RX0 40 "LiarTents" "taken" "[[I"]
def wsX0_hold_r3 : List Cond := [Cond.methodLink RX0 175 yX0_takeMajority, Cond.instanceMethod yX0_takeMajority, Cond.selects RX0 yX0_takeMajority yX0_takeMajority, Cond.code yX0_takeMajority cX0_takeMajority 4 none, Cond.methodLink RX0 75 yX0_keepAsLatest, Cond.instanceMethod yX0_keepAsLatest, Cond.selects RX0 yX0_keepAsLatest yX0_keepAsLatest, Cond.code yX0_keepAsLatest cX0_keepAsLatest 5 none, Cond.fieldLink RX0 145 "LiarTents" "latestGenerals" "I", Cond.fieldLink RX0 89 "LiarTents" "latestCommander" "I", Cond.fieldLink RX0 181 "LiarTents" "latestOrder" "I", Cond.fieldLink RX0 184 "LiarTents" "latestMessengers" "I", Cond.fieldLink RX0 26 "LiarTents" "latestDone" "[I", Cond.fieldLink RX0 31 "LiarTents" "latestTook" "[[I", Cond.methodLink RX0 122 yX0_messengersAmong, Cond.static yX0_messengersAmong, Cond.code yX0_messengersAmong cX0_messengersAmong 5 (some .int), Cond.methodLink RX0 114 yX0_orderDone, Cond.instanceMethod yX0_orderDone, Cond.selects RX0 yX0_orderDone yX0_orderDone, Cond.code yX0_orderDone cX0_orderDone 4 (some .int), Cond.methodLink RX0 79 yX0_enterCouncil, Cond.instanceMethod yX0_enterCouncil, Cond.selects RX0 yX0_enterCouncil yX0_enterCouncil]
def wsX0_hold_r4 : List Cond := [Cond.code yX0_enterCouncil cX0_enterCouncil 6 (some .int), Cond.fieldLink RX0 17 "LiarTents" "attacked" "[I", Cond.fieldLink RX0 23 "LiarTents" "differed" "[I", Cond.fieldLink RX0 20 "LiarTents" "commanded" "[I", Cond.fieldLink RX0 133 "LiarTents" "councils" "I", Cond.fieldLink RX0 136 "LiarTents" "attacksInAll" "I"]
def wsX0_hold : List Cond := .code yX0_hold cX0_hold 3 (some .int) :: ((wsX0_hold_r1 ++ (wsX0_hold_r2 ++ (wsX0_hold_r3 ++ wsX0_hold_r4))) ++ wsX00 ++ (vx_atS RX0 64 "java/lang/IndexOutOfBoundsException" ["java/lang/RuntimeException", "java/lang/Exception"]).filter goodWord ++ (vx_atS RX0 109 "java/lang/IllegalArgumentException" ["java/lang/RuntimeException", "java/lang/Exception"]).filter goodWord)
def wsX0_requirePresent : List Cond := .code yX0_requirePresent cX0_requirePresent 2 none :: ([.classLink RX0 60 "java/lang/IndexOutOfBoundsException", .initialized "java/lang/IndexOutOfBoundsException", .fieldLink RX0 133 "LiarTents" "councils" "I", .fieldLink RX0 145 "LiarTents" "latestGenerals" "I", .methodLink RX0 56 yX0_requireGeneral, .instanceMethod yX0_requireGeneral, .selects RX0 yX0_requireGeneral yX0_requireGeneral, .initialized RX0, .code yX0_requireGeneral cX0_requireGeneral 2 none, .methodLink RX0 148 yX0_isGeneral, .instanceMethod yX0_isGeneral, .selects RX0 yX0_isGeneral yX0_isGeneral, .code yX0_isGeneral cX0_isGeneral 2 (some .boolean), .fieldLink RX0 46 "LiarTents" "generals" "I"] ++ wsX00 ++ (vx_atS RX0 64 "java/lang/IndexOutOfBoundsException" ["java/lang/RuntimeException", "java/lang/Exception"]).filter goodWord)
def wsX0_requireCouncil : List Cond := .code yX0_requireCouncil cX0_requireCouncil 1 none :: ([.classLink RX0 49 "java/lang/IllegalStateException", .initialized "java/lang/IllegalStateException", .fieldLink RX0 133 "LiarTents" "councils" "I"] ++ wsX00 ++ (vx_atS RX0 53 "java/lang/IllegalStateException" ["java/lang/RuntimeException", "java/lang/Exception"]).filter goodWord)
def wsX0_does_r1 : List Cond := [Cond.fieldLink RX0 26 "LiarTents" "latestDone" "[I", Cond.methodLink RX0 83 yX0_requirePresent, Cond.instanceMethod yX0_requirePresent, Cond.selects RX0 yX0_requirePresent yX0_requirePresent, Cond.initialized RX0, Cond.code yX0_requirePresent cX0_requirePresent 2 none, Cond.classLink RX0 60 "java/lang/IndexOutOfBoundsException", Cond.initialized "java/lang/IndexOutOfBoundsException", Cond.fieldLink RX0 133 "LiarTents" "councils" "I", Cond.fieldLink RX0 145 "LiarTents" "latestGenerals" "I", Cond.methodLink RX0 56 yX0_requireGeneral, Cond.instanceMethod yX0_requireGeneral, Cond.selects RX0 yX0_requireGeneral yX0_requireGeneral, Cond.code yX0_requireGeneral cX0_requireGeneral 2 none, Cond.methodLink RX0 148 yX0_isGeneral, Cond.instanceMethod yX0_isGeneral, Cond.selects RX0 yX0_isGeneral yX0_isGeneral, Cond.code yX0_isGeneral cX0_isGeneral 2 (some .boolean), Cond.fieldLink RX0 46 "LiarTents" "generals" "I", Cond.methodLink RX0 86 yX0_requireCouncil, Cond.instanceMethod yX0_requireCouncil, Cond.selects RX0 yX0_requireCouncil yX0_requireCouncil, Cond.code yX0_requireCouncil cX0_requireCouncil 1 none, Cond.classLink RX0 49 "java/lang/IllegalStateException"]
def wsX0_does_r2 : List Cond := [Cond.initialized "java/lang/IllegalStateException"]
def wsX0_does : List Cond := .code yX0_does cX0_does 2 (some .int) :: ((wsX0_does_r1 ++ wsX0_does_r2) ++ wsX00 ++ (vx_atS RX0 64 "java/lang/IndexOutOfBoundsException" ["java/lang/RuntimeException", "java/lang/Exception"]).filter goodWord ++ (vx_atS RX0 53 "java/lang/IllegalStateException" ["java/lang/RuntimeException", "java/lang/Exception"]).filter goodWord)
def wsX0_took_r1 : List Cond := [Cond.classLink RX0 49 "java/lang/IllegalStateException", Cond.initialized "java/lang/IllegalStateException", Cond.fieldLink RX0 89 "LiarTents" "latestCommander" "I", Cond.fieldLink RX0 31 "LiarTents" "latestTook" "[[I", Cond.methodLink RX0 83 yX0_requirePresent, Cond.instanceMethod yX0_requirePresent, Cond.selects RX0 yX0_requirePresent yX0_requirePresent, Cond.initialized RX0, Cond.code yX0_requirePresent cX0_requirePresent 2 none, Cond.classLink RX0 60 "java/lang/IndexOutOfBoundsException", Cond.initialized "java/lang/IndexOutOfBoundsException", Cond.fieldLink RX0 133 "LiarTents" "councils" "I", Cond.fieldLink RX0 145 "LiarTents" "latestGenerals" "I", Cond.methodLink RX0 56 yX0_requireGeneral, Cond.instanceMethod yX0_requireGeneral, Cond.selects RX0 yX0_requireGeneral yX0_requireGeneral, Cond.code yX0_requireGeneral cX0_requireGeneral 2 none, Cond.methodLink RX0 148 yX0_isGeneral, Cond.instanceMethod yX0_isGeneral, Cond.selects RX0 yX0_isGeneral yX0_isGeneral, Cond.code yX0_isGeneral cX0_isGeneral 2 (some .boolean), Cond.fieldLink RX0 46 "LiarTents" "generals" "I", Cond.methodLink RX0 86 yX0_requireCouncil, Cond.instanceMethod yX0_requireCouncil]
def wsX0_took_r2 : List Cond := [Cond.selects RX0 yX0_requireCouncil yX0_requireCouncil, Cond.code yX0_requireCouncil cX0_requireCouncil 1 none]
def wsX0_took : List Cond := .code yX0_took cX0_took 3 (some .int) :: ((wsX0_took_r1 ++ wsX0_took_r2) ++ wsX00 ++ (vx_atS RX0 53 "java/lang/IllegalStateException" ["java/lang/RuntimeException", "java/lang/Exception"]).filter goodWord ++ (vx_atS RX0 64 "java/lang/IndexOutOfBoundsException" ["java/lang/RuntimeException", "java/lang/Exception"]).filter goodWord)
def wsX0_liarsNow : List Cond := .code yX0_liarsNow cX0_liarsNow 3 (some .int) :: ([.fieldLink RX0 46 "LiarTents" "generals" "I", .fieldLink RX0 13 "LiarTents" "kinds" "[I"] ++ wsX00)
def wsX0_loyalThatDid : List Cond := .code yX0_loyalThatDid cX0_loyalThatDid 4 (some .int) :: ([.fieldLink RX0 145 "LiarTents" "latestGenerals" "I", .fieldLink RX0 13 "LiarTents" "kinds" "[I", .fieldLink RX0 26 "LiarTents" "latestDone" "[I"] ++ wsX00)
def wsX0_countedOfLatest : List Cond := .code yX0_countedOfLatest cX0_countedOfLatest 2 (some .int) :: ([.fieldLink RX0 184 "LiarTents" "latestMessengers" "I", .fieldLink RX0 89 "LiarTents" "latestCommander" "I", .fieldLink RX0 181 "LiarTents" "latestOrder" "I", .methodLink RX0 194 yX0_loyalThatDid, .instanceMethod yX0_loyalThatDid, .selects RX0 yX0_loyalThatDid yX0_loyalThatDid, .initialized RX0, .code yX0_loyalThatDid cX0_loyalThatDid 4 (some .int), .fieldLink RX0 145 "LiarTents" "latestGenerals" "I", .fieldLink RX0 13 "LiarTents" "kinds" "[I", .fieldLink RX0 26 "LiarTents" "latestDone" "[I"] ++ wsX00)
def wsX0_counted : List Cond := .code yX0_counted cX0_counted 2 (some .int) :: ([.fieldLink RX0 46 "LiarTents" "generals" "I", .fieldLink RX0 7 "LiarTents" "rounds" "I", .fieldLink RX0 133 "LiarTents" "councils" "I", .methodLink RX0 187 yX0_liarsNow, .instanceMethod yX0_liarsNow, .selects RX0 yX0_liarsNow yX0_liarsNow, .initialized RX0, .code yX0_liarsNow cX0_liarsNow 3 (some .int), .fieldLink RX0 13 "LiarTents" "kinds" "[I", .methodLink RX0 191 yX0_countedOfLatest, .instanceMethod yX0_countedOfLatest, .selects RX0 yX0_countedOfLatest yX0_countedOfLatest, .code yX0_countedOfLatest cX0_countedOfLatest 2 (some .int), .fieldLink RX0 184 "LiarTents" "latestMessengers" "I", .fieldLink RX0 89 "LiarTents" "latestCommander" "I", .fieldLink RX0 181 "LiarTents" "latestOrder" "I", .methodLink RX0 194 yX0_loyalThatDid, .instanceMethod yX0_loyalThatDid, .selects RX0 yX0_loyalThatDid yX0_loyalThatDid, .code yX0_loyalThatDid cX0_loyalThatDid 4 (some .int), .fieldLink RX0 145 "LiarTents" "latestGenerals" "I", .fieldLink RX0 26 "LiarTents" "latestDone" "[I"] ++ wsX00)
def wsX0_count_r1 : List Cond := [Cond.classLink RX0 60 "java/lang/IndexOutOfBoundsException", Cond.initialized "java/lang/IndexOutOfBoundsException", Cond.methodLink RX0 96 yX0_counted, Cond.instanceMethod yX0_counted, Cond.selects RX0 yX0_counted yX0_counted, Cond.initialized RX0, Cond.code yX0_counted cX0_counted 2 (some .int), Cond.fieldLink RX0 46 "LiarTents" "generals" "I", Cond.fieldLink RX0 7 "LiarTents" "rounds" "I", Cond.fieldLink RX0 133 "LiarTents" "councils" "I", Cond.methodLink RX0 187 yX0_liarsNow, Cond.instanceMethod yX0_liarsNow, Cond.selects RX0 yX0_liarsNow yX0_liarsNow, Cond.code yX0_liarsNow cX0_liarsNow 3 (some .int), Cond.fieldLink RX0 13 "LiarTents" "kinds" "[I", Cond.methodLink RX0 191 yX0_countedOfLatest, Cond.instanceMethod yX0_countedOfLatest, Cond.selects RX0 yX0_countedOfLatest yX0_countedOfLatest, Cond.code yX0_countedOfLatest cX0_countedOfLatest 2 (some .int), Cond.fieldLink RX0 184 "LiarTents" "latestMessengers" "I", Cond.fieldLink RX0 89 "LiarTents" "latestCommander" "I", Cond.fieldLink RX0 181 "LiarTents" "latestOrder" "I", Cond.methodLink RX0 194 yX0_loyalThatDid, Cond.instanceMethod yX0_loyalThatDid]
def wsX0_count_r2 : List Cond := [Cond.selects RX0 yX0_loyalThatDid yX0_loyalThatDid, Cond.code yX0_loyalThatDid cX0_loyalThatDid 4 (some .int), Cond.fieldLink RX0 145 "LiarTents" "latestGenerals" "I", Cond.fieldLink RX0 26 "LiarTents" "latestDone" "[I"]
def wsX0_count : List Cond := .code yX0_count cX0_count 2 (some .int) :: ((wsX0_count_r1 ++ wsX0_count_r2) ++ wsX00 ++ (vx_atS RX0 64 "java/lang/IndexOutOfBoundsException" ["java/lang/RuntimeException", "java/lang/Exception"]).filter goodWord)
def wsX0_toldOf : List Cond := .code yX0_toldOf cX0_toldOf 3 (some .int) :: ([.fieldLink RX0 13 "LiarTents" "kinds" "[I", .fieldLink RX0 17 "LiarTents" "attacked" "[I", .fieldLink RX0 20 "LiarTents" "commanded" "[I", .fieldLink RX0 23 "LiarTents" "differed" "[I"] ++ wsX00)
def wsX0_told : List Cond := .code yX0_told cX0_told 3 (some .int) :: ([.classLink RX0 60 "java/lang/IndexOutOfBoundsException", .initialized "java/lang/IndexOutOfBoundsException", .methodLink RX0 56 yX0_requireGeneral, .instanceMethod yX0_requireGeneral, .selects RX0 yX0_requireGeneral yX0_requireGeneral, .initialized RX0, .code yX0_requireGeneral cX0_requireGeneral 2 none, .methodLink RX0 148 yX0_isGeneral, .instanceMethod yX0_isGeneral, .selects RX0 yX0_isGeneral yX0_isGeneral, .code yX0_isGeneral cX0_isGeneral 2 (some .boolean), .fieldLink RX0 46 "LiarTents" "generals" "I", .methodLink RX0 102 yX0_toldOf, .instanceMethod yX0_toldOf, .selects RX0 yX0_toldOf yX0_toldOf, .code yX0_toldOf cX0_toldOf 3 (some .int), .fieldLink RX0 13 "LiarTents" "kinds" "[I", .fieldLink RX0 17 "LiarTents" "attacked" "[I", .fieldLink RX0 20 "LiarTents" "commanded" "[I", .fieldLink RX0 23 "LiarTents" "differed" "[I"] ++ wsX00 ++ (vx_atS RX0 64 "java/lang/IndexOutOfBoundsException" ["java/lang/RuntimeException", "java/lang/Exception"]).filter goodWord)
def wsX0_hears : List Cond := .code yX0_hears cX0_hears 4 (some .int) :: ([.classLink RX0 105 "java/lang/IllegalArgumentException", .initialized "java/lang/IllegalArgumentException", .fieldLink RX0 13 "LiarTents" "kinds" "[I", .methodLink RX0 56 yX0_requireGeneral, .instanceMethod yX0_requireGeneral, .selects RX0 yX0_requireGeneral yX0_requireGeneral, .initialized RX0, .code yX0_requireGeneral cX0_requireGeneral 2 none, .classLink RX0 60 "java/lang/IndexOutOfBoundsException", .initialized "java/lang/IndexOutOfBoundsException", .methodLink RX0 148 yX0_isGeneral, .instanceMethod yX0_isGeneral, .selects RX0 yX0_isGeneral yX0_isGeneral, .code yX0_isGeneral cX0_isGeneral 2 (some .boolean), .fieldLink RX0 46 "LiarTents" "generals" "I", .methodLink RX0 68 yX0_requireOrder, .static yX0_requireOrder, .code yX0_requireOrder cX0_requireOrder 1 none, .methodLink RX0 110 yX0_said, .static yX0_said, .code yX0_said cX0_said 4 (some .int)] ++ wsX00 ++ (vx_atS RX0 109 "java/lang/IllegalArgumentException" ["java/lang/RuntimeException", "java/lang/Exception"]).filter goodWord ++ (vx_atS RX0 64 "java/lang/IndexOutOfBoundsException" ["java/lang/RuntimeException", "java/lang/Exception"]).filter goodWord)
def wsX0_would_r1 : List Cond := [Cond.fieldLink RX0 7 "LiarTents" "rounds" "I", Cond.methodLink RX0 56 yX0_requireGeneral, Cond.instanceMethod yX0_requireGeneral, Cond.selects RX0 yX0_requireGeneral yX0_requireGeneral, Cond.initialized RX0, Cond.code yX0_requireGeneral cX0_requireGeneral 2 none, Cond.classLink RX0 60 "java/lang/IndexOutOfBoundsException", Cond.initialized "java/lang/IndexOutOfBoundsException", Cond.methodLink RX0 148 yX0_isGeneral, Cond.instanceMethod yX0_isGeneral, Cond.selects RX0 yX0_isGeneral yX0_isGeneral, Cond.code yX0_isGeneral cX0_isGeneral 2 (some .boolean), Cond.fieldLink RX0 46 "LiarTents" "generals" "I", Cond.methodLink RX0 68 yX0_requireOrder, Cond.static yX0_requireOrder, Cond.code yX0_requireOrder cX0_requireOrder 1 none, Cond.classLink RX0 105 "java/lang/IllegalArgumentException", Cond.initialized "java/lang/IllegalArgumentException", Cond.methodLink RX0 71 yX0_workOut, Cond.instanceMethod yX0_workOut, Cond.selects RX0 yX0_workOut yX0_workOut, Cond.code yX0_workOut cX0_workOut 6 none, Cond.fieldLink RX0 43 "LiarTents" "tookOf" "[[I", Cond.fieldLink RX0 34 "LiarTents" "heard" "[[I"]
def wsX0_would_r2 : List Cond := [Cond.methodLink RX0 161 yX0_agree, Cond.instanceMethod yX0_agree, Cond.selects RX0 yX0_agree yX0_agree, Cond.code yX0_agree cX0_agree 8 none, Cond.methodLink RX0 165 yX0_hearCommander, Cond.instanceMethod yX0_hearCommander, Cond.selects RX0 yX0_hearCommander yX0_hearCommander, Cond.code yX0_hearCommander cX0_hearCommander 7 none, Cond.fieldLink RX0 13 "LiarTents" "kinds" "[I", Cond.fieldLink RX0 37 "LiarTents" "balance" "[[I", Cond.methodLink RX0 169 yX0_isAmong, Cond.static yX0_isAmong, Cond.code yX0_isAmong cX0_isAmong 2 (some .boolean), Cond.methodLink RX0 110 yX0_said, Cond.static yX0_said, Cond.code yX0_said cX0_said 4 (some .int), Cond.methodLink RX0 178 yX0_weight, Cond.static yX0_weight, Cond.code yX0_weight cX0_weight 1 (some .int), Cond.methodLink RX0 172 yX0_weighRetold, Cond.instanceMethod yX0_weighRetold, Cond.selects RX0 yX0_weighRetold yX0_weighRetold, Cond.code yX0_weighRetold cX0_weighRetold 6 none, Cond.fieldLink RX0 40 "LiarTents" "taken" "[[I"]
def wsX0_would_r3 : List Cond := [Cond.methodLink RX0 175 yX0_takeMajority, Cond.instanceMethod yX0_takeMajority, Cond.selects RX0 yX0_takeMajority yX0_takeMajority, Cond.code yX0_takeMajority cX0_takeMajority 4 none, Cond.methodLink RX0 114 yX0_orderDone, Cond.instanceMethod yX0_orderDone, Cond.selects RX0 yX0_orderDone yX0_orderDone, Cond.code yX0_orderDone cX0_orderDone 4 (some .int)]
def wsX0_would : List Cond := .code yX0_would cX0_would 4 (some .int) :: ((wsX0_would_r1 ++ (wsX0_would_r2 ++ wsX0_would_r3)) ++ wsX00 ++ (vx_atS RX0 64 "java/lang/IndexOutOfBoundsException" ["java/lang/RuntimeException", "java/lang/Exception"]).filter goodWord ++ (vx_atS RX0 109 "java/lang/IllegalArgumentException" ["java/lang/RuntimeException", "java/lang/Exception"]).filter goodWord)
def wsX0_loyalAgree_r1 : List Cond := [Cond.fieldLink RX0 13 "LiarTents" "kinds" "[I", Cond.fieldLink RX0 46 "LiarTents" "generals" "I", Cond.methodLink RX0 71 yX0_workOut, Cond.instanceMethod yX0_workOut, Cond.selects RX0 yX0_workOut yX0_workOut, Cond.initialized RX0, Cond.code yX0_workOut cX0_workOut 6 none, Cond.fieldLink RX0 43 "LiarTents" "tookOf" "[[I", Cond.fieldLink RX0 34 "LiarTents" "heard" "[[I", Cond.methodLink RX0 161 yX0_agree, Cond.instanceMethod yX0_agree, Cond.selects RX0 yX0_agree yX0_agree, Cond.code yX0_agree cX0_agree 8 none, Cond.methodLink RX0 148 yX0_isGeneral, Cond.instanceMethod yX0_isGeneral, Cond.selects RX0 yX0_isGeneral yX0_isGeneral, Cond.code yX0_isGeneral cX0_isGeneral 2 (some .boolean), Cond.methodLink RX0 165 yX0_hearCommander, Cond.instanceMethod yX0_hearCommander, Cond.selects RX0 yX0_hearCommander yX0_hearCommander, Cond.code yX0_hearCommander cX0_hearCommander 7 none, Cond.fieldLink RX0 37 "LiarTents" "balance" "[[I", Cond.methodLink RX0 169 yX0_isAmong, Cond.static yX0_isAmong]
def wsX0_loyalAgree_r2 : List Cond := [Cond.code yX0_isAmong cX0_isAmong 2 (some .boolean), Cond.methodLink RX0 110 yX0_said, Cond.static yX0_said, Cond.code yX0_said cX0_said 4 (some .int), Cond.methodLink RX0 178 yX0_weight, Cond.static yX0_weight, Cond.code yX0_weight cX0_weight 1 (some .int), Cond.methodLink RX0 172 yX0_weighRetold, Cond.instanceMethod yX0_weighRetold, Cond.selects RX0 yX0_weighRetold yX0_weighRetold, Cond.code yX0_weighRetold cX0_weighRetold 6 none, Cond.fieldLink RX0 40 "LiarTents" "taken" "[[I", Cond.methodLink RX0 175 yX0_takeMajority, Cond.instanceMethod yX0_takeMajority, Cond.selects RX0 yX0_takeMajority yX0_takeMajority, Cond.code yX0_takeMajority cX0_takeMajority 4 none, Cond.methodLink RX0 114 yX0_orderDone, Cond.instanceMethod yX0_orderDone, Cond.selects RX0 yX0_orderDone yX0_orderDone, Cond.code yX0_orderDone cX0_orderDone 4 (some .int)]
def wsX0_loyalAgree : List Cond := .code yX0_loyalAgree cX0_loyalAgree 7 (some .boolean) :: ((wsX0_loyalAgree_r1 ++ wsX0_loyalAgree_r2) ++ wsX00)
def wsX0_agrees_r1 : List Cond := [Cond.fieldLink RX0 7 "LiarTents" "rounds" "I", Cond.methodLink RX0 56 yX0_requireGeneral, Cond.instanceMethod yX0_requireGeneral, Cond.selects RX0 yX0_requireGeneral yX0_requireGeneral, Cond.initialized RX0, Cond.code yX0_requireGeneral cX0_requireGeneral 2 none, Cond.classLink RX0 60 "java/lang/IndexOutOfBoundsException", Cond.initialized "java/lang/IndexOutOfBoundsException", Cond.methodLink RX0 148 yX0_isGeneral, Cond.instanceMethod yX0_isGeneral, Cond.selects RX0 yX0_isGeneral yX0_isGeneral, Cond.code yX0_isGeneral cX0_isGeneral 2 (some .boolean), Cond.fieldLink RX0 46 "LiarTents" "generals" "I", Cond.methodLink RX0 68 yX0_requireOrder, Cond.static yX0_requireOrder, Cond.code yX0_requireOrder cX0_requireOrder 1 none, Cond.classLink RX0 105 "java/lang/IllegalArgumentException", Cond.initialized "java/lang/IllegalArgumentException", Cond.methodLink RX0 118 yX0_loyalAgree, Cond.instanceMethod yX0_loyalAgree, Cond.selects RX0 yX0_loyalAgree yX0_loyalAgree, Cond.code yX0_loyalAgree cX0_loyalAgree 7 (some .boolean), Cond.fieldLink RX0 13 "LiarTents" "kinds" "[I", Cond.methodLink RX0 71 yX0_workOut]
def wsX0_agrees_r2 : List Cond := [Cond.instanceMethod yX0_workOut, Cond.selects RX0 yX0_workOut yX0_workOut, Cond.code yX0_workOut cX0_workOut 6 none, Cond.fieldLink RX0 43 "LiarTents" "tookOf" "[[I", Cond.fieldLink RX0 34 "LiarTents" "heard" "[[I", Cond.methodLink RX0 161 yX0_agree, Cond.instanceMethod yX0_agree, Cond.selects RX0 yX0_agree yX0_agree, Cond.code yX0_agree cX0_agree 8 none, Cond.methodLink RX0 165 yX0_hearCommander, Cond.instanceMethod yX0_hearCommander, Cond.selects RX0 yX0_hearCommander yX0_hearCommander, Cond.code yX0_hearCommander cX0_hearCommander 7 none, Cond.fieldLink RX0 37 "LiarTents" "balance" "[[I", Cond.methodLink RX0 169 yX0_isAmong, Cond.static yX0_isAmong, Cond.code yX0_isAmong cX0_isAmong 2 (some .boolean), Cond.methodLink RX0 110 yX0_said, Cond.static yX0_said, Cond.code yX0_said cX0_said 4 (some .int), Cond.methodLink RX0 178 yX0_weight, Cond.static yX0_weight, Cond.code yX0_weight cX0_weight 1 (some .int), Cond.methodLink RX0 172 yX0_weighRetold]
def wsX0_agrees_r3 : List Cond := [Cond.instanceMethod yX0_weighRetold, Cond.selects RX0 yX0_weighRetold yX0_weighRetold, Cond.code yX0_weighRetold cX0_weighRetold 6 none, Cond.fieldLink RX0 40 "LiarTents" "taken" "[[I", Cond.methodLink RX0 175 yX0_takeMajority, Cond.instanceMethod yX0_takeMajority, Cond.selects RX0 yX0_takeMajority yX0_takeMajority, Cond.code yX0_takeMajority cX0_takeMajority 4 none, Cond.methodLink RX0 114 yX0_orderDone, Cond.instanceMethod yX0_orderDone, Cond.selects RX0 yX0_orderDone yX0_orderDone, Cond.code yX0_orderDone cX0_orderDone 4 (some .int)]
def wsX0_agrees : List Cond := .code yX0_agrees cX0_agrees 3 (some .boolean) :: ((wsX0_agrees_r1 ++ (wsX0_agrees_r2 ++ wsX0_agrees_r3)) ++ wsX00 ++ (vx_atS RX0 64 "java/lang/IndexOutOfBoundsException" ["java/lang/RuntimeException", "java/lang/Exception"]).filter goodWord ++ (vx_atS RX0 109 "java/lang/IllegalArgumentException" ["java/lang/RuntimeException", "java/lang/Exception"]).filter goodWord)
def wsX0_messengers : List Cond := .code yX0_messengers cX0_messengers 2 (some .int) :: ([.fieldLink RX0 46 "LiarTents" "generals" "I", .methodLink RX0 65 yX0_requireRounds, .static yX0_requireRounds, .initialized RX0, .code yX0_requireRounds cX0_requireRounds 1 none, .classLink RX0 105 "java/lang/IllegalArgumentException", .initialized "java/lang/IllegalArgumentException", .methodLink RX0 122 yX0_messengersAmong, .static yX0_messengersAmong, .code yX0_messengersAmong cX0_messengersAmong 5 (some .int)] ++ wsX00 ++ (vx_atS RX0 109 "java/lang/IllegalArgumentException" ["java/lang/RuntimeException", "java/lang/Exception"]).filter goodWord)
def wsX0_alwaysAgree_r1 : List Cond := [Cond.fieldLink RX0 46 "LiarTents" "generals" "I", Cond.methodLink RX0 118 yX0_loyalAgree, Cond.instanceMethod yX0_loyalAgree, Cond.selects RX0 yX0_loyalAgree yX0_loyalAgree, Cond.initialized RX0, Cond.code yX0_loyalAgree cX0_loyalAgree 7 (some .boolean), Cond.fieldLink RX0 13 "LiarTents" "kinds" "[I", Cond.methodLink RX0 71 yX0_workOut, Cond.instanceMethod yX0_workOut, Cond.selects RX0 yX0_workOut yX0_workOut, Cond.code yX0_workOut cX0_workOut 6 none, Cond.fieldLink RX0 43 "LiarTents" "tookOf" "[[I", Cond.fieldLink RX0 34 "LiarTents" "heard" "[[I", Cond.methodLink RX0 161 yX0_agree, Cond.instanceMethod yX0_agree, Cond.selects RX0 yX0_agree yX0_agree, Cond.code yX0_agree cX0_agree 8 none, Cond.methodLink RX0 148 yX0_isGeneral, Cond.instanceMethod yX0_isGeneral, Cond.selects RX0 yX0_isGeneral yX0_isGeneral, Cond.code yX0_isGeneral cX0_isGeneral 2 (some .boolean), Cond.methodLink RX0 165 yX0_hearCommander, Cond.instanceMethod yX0_hearCommander, Cond.selects RX0 yX0_hearCommander yX0_hearCommander]
def wsX0_alwaysAgree_r2 : List Cond := [Cond.code yX0_hearCommander cX0_hearCommander 7 none, Cond.fieldLink RX0 37 "LiarTents" "balance" "[[I", Cond.methodLink RX0 169 yX0_isAmong, Cond.static yX0_isAmong, Cond.code yX0_isAmong cX0_isAmong 2 (some .boolean), Cond.methodLink RX0 110 yX0_said, Cond.static yX0_said, Cond.code yX0_said cX0_said 4 (some .int), Cond.methodLink RX0 178 yX0_weight, Cond.static yX0_weight, Cond.code yX0_weight cX0_weight 1 (some .int), Cond.methodLink RX0 172 yX0_weighRetold, Cond.instanceMethod yX0_weighRetold, Cond.selects RX0 yX0_weighRetold yX0_weighRetold, Cond.code yX0_weighRetold cX0_weighRetold 6 none, Cond.fieldLink RX0 40 "LiarTents" "taken" "[[I", Cond.methodLink RX0 175 yX0_takeMajority, Cond.instanceMethod yX0_takeMajority, Cond.selects RX0 yX0_takeMajority yX0_takeMajority, Cond.code yX0_takeMajority cX0_takeMajority 4 none, Cond.methodLink RX0 114 yX0_orderDone, Cond.instanceMethod yX0_orderDone, Cond.selects RX0 yX0_orderDone yX0_orderDone, Cond.code yX0_orderDone cX0_orderDone 4 (some .int)]
def wsX0_alwaysAgree : List Cond := .code yX0_alwaysAgree cX0_alwaysAgree 4 (some .boolean) :: ((wsX0_alwaysAgree_r1 ++ wsX0_alwaysAgree_r2) ++ wsX00)
def wsX0_needs_r1 : List Cond := [Cond.methodLink RX0 125 yX0_alwaysAgree, Cond.instanceMethod yX0_alwaysAgree, Cond.selects RX0 yX0_alwaysAgree yX0_alwaysAgree, Cond.initialized RX0, Cond.code yX0_alwaysAgree cX0_alwaysAgree 4 (some .boolean), Cond.fieldLink RX0 46 "LiarTents" "generals" "I", Cond.methodLink RX0 118 yX0_loyalAgree, Cond.instanceMethod yX0_loyalAgree, Cond.selects RX0 yX0_loyalAgree yX0_loyalAgree, Cond.code yX0_loyalAgree cX0_loyalAgree 7 (some .boolean), Cond.fieldLink RX0 13 "LiarTents" "kinds" "[I", Cond.methodLink RX0 71 yX0_workOut, Cond.instanceMethod yX0_workOut, Cond.selects RX0 yX0_workOut yX0_workOut, Cond.code yX0_workOut cX0_workOut 6 none, Cond.fieldLink RX0 43 "LiarTents" "tookOf" "[[I", Cond.fieldLink RX0 34 "LiarTents" "heard" "[[I", Cond.methodLink RX0 161 yX0_agree, Cond.instanceMethod yX0_agree, Cond.selects RX0 yX0_agree yX0_agree, Cond.code yX0_agree cX0_agree 8 none, Cond.methodLink RX0 148 yX0_isGeneral, Cond.instanceMethod yX0_isGeneral, Cond.selects RX0 yX0_isGeneral yX0_isGeneral]
def wsX0_needs_r2 : List Cond := [Cond.code yX0_isGeneral cX0_isGeneral 2 (some .boolean), Cond.methodLink RX0 165 yX0_hearCommander, Cond.instanceMethod yX0_hearCommander, Cond.selects RX0 yX0_hearCommander yX0_hearCommander, Cond.code yX0_hearCommander cX0_hearCommander 7 none, Cond.fieldLink RX0 37 "LiarTents" "balance" "[[I", Cond.methodLink RX0 169 yX0_isAmong, Cond.static yX0_isAmong, Cond.code yX0_isAmong cX0_isAmong 2 (some .boolean), Cond.methodLink RX0 110 yX0_said, Cond.static yX0_said, Cond.code yX0_said cX0_said 4 (some .int), Cond.methodLink RX0 178 yX0_weight, Cond.static yX0_weight, Cond.code yX0_weight cX0_weight 1 (some .int), Cond.methodLink RX0 172 yX0_weighRetold, Cond.instanceMethod yX0_weighRetold, Cond.selects RX0 yX0_weighRetold yX0_weighRetold, Cond.code yX0_weighRetold cX0_weighRetold 6 none, Cond.fieldLink RX0 40 "LiarTents" "taken" "[[I", Cond.methodLink RX0 175 yX0_takeMajority, Cond.instanceMethod yX0_takeMajority, Cond.selects RX0 yX0_takeMajority yX0_takeMajority, Cond.code yX0_takeMajority cX0_takeMajority 4 none]
def wsX0_needs_r3 : List Cond := [Cond.methodLink RX0 114 yX0_orderDone, Cond.instanceMethod yX0_orderDone, Cond.selects RX0 yX0_orderDone yX0_orderDone, Cond.code yX0_orderDone cX0_orderDone 4 (some .int)]
def wsX0_needs : List Cond := .code yX0_needs cX0_needs 2 (some .int) :: ((wsX0_needs_r1 ++ (wsX0_needs_r2 ++ wsX0_needs_r3)) ++ wsX00)
def wsX0_hearsLie : List Cond := .code yX0_hearsLie cX0_hearsLie 4 (some .boolean) :: ([.fieldLink RX0 13 "LiarTents" "kinds" "[I", .methodLink RX0 110 yX0_said, .static yX0_said, .initialized RX0, .code yX0_said cX0_said 4 (some .int)] ++ wsX00)
def wsX0_found : List Cond := .code yX0_found cX0_found 4 (some .int) :: ([.fieldLink RX0 46 "LiarTents" "generals" "I", .methodLink RX0 56 yX0_requireGeneral, .instanceMethod yX0_requireGeneral, .selects RX0 yX0_requireGeneral yX0_requireGeneral, .initialized RX0, .code yX0_requireGeneral cX0_requireGeneral 2 none, .classLink RX0 60 "java/lang/IndexOutOfBoundsException", .initialized "java/lang/IndexOutOfBoundsException", .methodLink RX0 148 yX0_isGeneral, .instanceMethod yX0_isGeneral, .selects RX0 yX0_isGeneral yX0_isGeneral, .code yX0_isGeneral cX0_isGeneral 2 (some .boolean), .methodLink RX0 129 yX0_hearsLie, .instanceMethod yX0_hearsLie, .selects RX0 yX0_hearsLie yX0_hearsLie, .code yX0_hearsLie cX0_hearsLie 4 (some .boolean), .fieldLink RX0 13 "LiarTents" "kinds" "[I", .methodLink RX0 110 yX0_said, .static yX0_said, .code yX0_said cX0_said 4 (some .int)] ++ wsX00 ++ (vx_atS RX0 64 "java/lang/IndexOutOfBoundsException" ["java/lang/RuntimeException", "java/lang/Exception"]).filter goodWord)
def wsX0_mean : List Cond := .code yX0_mean cX0_mean 1 (some .double) :: ([.fieldLink RX0 133 "LiarTents" "councils" "I", .fieldLink RX0 136 "LiarTents" "attacksInAll" "I"] ++ wsX00)
def wsX0_mixed : List Cond := .code yX0_mixed cX0_mixed 4 (some .long) :: ([.constantLong RX0 197 (31)])
def wsX0_digest_r1 : List Cond := [Cond.constantLong RX0 139 (1429), Cond.fieldLink RX0 46 "LiarTents" "generals" "I", Cond.fieldLink RX0 145 "LiarTents" "latestGenerals" "I", Cond.fieldLink RX0 26 "LiarTents" "latestDone" "[I", Cond.fieldLink RX0 7 "LiarTents" "rounds" "I", Cond.methodLink RX0 96 yX0_counted, Cond.instanceMethod yX0_counted, Cond.selects RX0 yX0_counted yX0_counted, Cond.initialized RX0, Cond.code yX0_counted cX0_counted 2 (some .int), Cond.fieldLink RX0 133 "LiarTents" "councils" "I", Cond.methodLink RX0 187 yX0_liarsNow, Cond.instanceMethod yX0_liarsNow, Cond.selects RX0 yX0_liarsNow yX0_liarsNow, Cond.code yX0_liarsNow cX0_liarsNow 3 (some .int), Cond.fieldLink RX0 13 "LiarTents" "kinds" "[I", Cond.methodLink RX0 191 yX0_countedOfLatest, Cond.instanceMethod yX0_countedOfLatest, Cond.selects RX0 yX0_countedOfLatest yX0_countedOfLatest, Cond.code yX0_countedOfLatest cX0_countedOfLatest 2 (some .int), Cond.fieldLink RX0 184 "LiarTents" "latestMessengers" "I", Cond.fieldLink RX0 89 "LiarTents" "latestCommander" "I", Cond.fieldLink RX0 181 "LiarTents" "latestOrder" "I", Cond.methodLink RX0 194 yX0_loyalThatDid]
def wsX0_digest_r2 : List Cond := [Cond.instanceMethod yX0_loyalThatDid, Cond.selects RX0 yX0_loyalThatDid yX0_loyalThatDid, Cond.code yX0_loyalThatDid cX0_loyalThatDid 4 (some .int), Cond.methodLink RX0 141 yX0_mixed, Cond.static yX0_mixed, Cond.code yX0_mixed cX0_mixed 4 (some .long), Cond.constantLong RX0 197 (31), Cond.methodLink RX0 102 yX0_toldOf, Cond.instanceMethod yX0_toldOf, Cond.selects RX0 yX0_toldOf yX0_toldOf, Cond.code yX0_toldOf cX0_toldOf 3 (some .int), Cond.fieldLink RX0 17 "LiarTents" "attacked" "[I", Cond.fieldLink RX0 20 "LiarTents" "commanded" "[I", Cond.fieldLink RX0 23 "LiarTents" "differed" "[I", Cond.methodLink RX0 118 yX0_loyalAgree, Cond.instanceMethod yX0_loyalAgree, Cond.selects RX0 yX0_loyalAgree yX0_loyalAgree, Cond.code yX0_loyalAgree cX0_loyalAgree 7 (some .boolean), Cond.methodLink RX0 71 yX0_workOut, Cond.instanceMethod yX0_workOut, Cond.selects RX0 yX0_workOut yX0_workOut, Cond.code yX0_workOut cX0_workOut 6 none, Cond.fieldLink RX0 43 "LiarTents" "tookOf" "[[I", Cond.fieldLink RX0 34 "LiarTents" "heard" "[[I"]
def wsX0_digest_r3 : List Cond := [Cond.methodLink RX0 161 yX0_agree, Cond.instanceMethod yX0_agree, Cond.selects RX0 yX0_agree yX0_agree, Cond.code yX0_agree cX0_agree 8 none, Cond.methodLink RX0 148 yX0_isGeneral, Cond.instanceMethod yX0_isGeneral, Cond.selects RX0 yX0_isGeneral yX0_isGeneral, Cond.code yX0_isGeneral cX0_isGeneral 2 (some .boolean), Cond.methodLink RX0 165 yX0_hearCommander, Cond.instanceMethod yX0_hearCommander, Cond.selects RX0 yX0_hearCommander yX0_hearCommander, Cond.code yX0_hearCommander cX0_hearCommander 7 none, Cond.fieldLink RX0 37 "LiarTents" "balance" "[[I", Cond.methodLink RX0 169 yX0_isAmong, Cond.static yX0_isAmong, Cond.code yX0_isAmong cX0_isAmong 2 (some .boolean), Cond.methodLink RX0 110 yX0_said, Cond.static yX0_said, Cond.code yX0_said cX0_said 4 (some .int), Cond.methodLink RX0 178 yX0_weight, Cond.static yX0_weight, Cond.code yX0_weight cX0_weight 1 (some .int), Cond.methodLink RX0 172 yX0_weighRetold, Cond.instanceMethod yX0_weighRetold]
def wsX0_digest_r4 : List Cond := [Cond.selects RX0 yX0_weighRetold yX0_weighRetold, Cond.code yX0_weighRetold cX0_weighRetold 6 none, Cond.fieldLink RX0 40 "LiarTents" "taken" "[[I", Cond.methodLink RX0 175 yX0_takeMajority, Cond.instanceMethod yX0_takeMajority, Cond.selects RX0 yX0_takeMajority yX0_takeMajority, Cond.code yX0_takeMajority cX0_takeMajority 4 none, Cond.methodLink RX0 114 yX0_orderDone, Cond.instanceMethod yX0_orderDone, Cond.selects RX0 yX0_orderDone yX0_orderDone, Cond.code yX0_orderDone cX0_orderDone 4 (some .int)]
def wsX0_digest : List Cond := .code yX0_digest cX0_digest 5 (some .long) :: ((wsX0_digest_r1 ++ (wsX0_digest_r2 ++ (wsX0_digest_r3 ++ wsX0_digest_r4))) ++ wsX00)
def wsX1_init : List Cond := .code yX1_init cX1_init 1 none :: ([.methodLink RX1 1 objectInit, .instanceMethod objectInit, .code objectInit ⟨#[0xb1]⟩ 1 none, .fieldLink RX1 7 "LiarTentsModel" "rounds" "I", .arrayClass .int, .fieldLink RX1 13 "LiarTentsModel" "kind" "[I", .classLink RX1 17 "[[I", .fieldLink RX1 19 "LiarTentsModel" "often" "[[I", .fieldLink RX1 22 "LiarTentsModel" "commander" "I", .fieldLink RX1 25 "LiarTentsModel" "ordered" "I", .fieldLink RX1 28 "LiarTentsModel" "runs" "I", .fieldLink RX1 31 "LiarTentsModel" "did" "[I", .fieldLink RX1 34 "LiarTentsModel" "from" "[[I"] ++ wsX10)
def wsX1_thrown : List Cond := .code yX1_thrown cX1_thrown 1 (some .int) :: ([.fieldLink RX1 37 "LiarTentsModel" "thrown" "I"] ++ wsX10)
def wsX1_no : List Cond := .code yX1_no cX1_no 2 (some .int) :: ([.fieldLink RX1 37 "LiarTentsModel" "thrown" "I"] ++ wsX10)
def wsX1_isIn : List Cond := .code yX1_isIn cX1_isIn 3 (some .boolean) :: ([])
def wsX1_isGeneral : List Cond := .code yX1_isGeneral cX1_isGeneral 2 (some .boolean) :: ([.fieldLink RX1 40 "LiarTentsModel" "generals" "I", .methodLink RX1 43 yX1_isIn, .static yX1_isIn, .initialized RX1, .code yX1_isIn cX1_isIn 3 (some .boolean)] ++ wsX10)
def wsX1_heard : List Cond := .code yX1_heard cX1_heard 4 (some .int) :: ([.fieldLink RX1 13 "LiarTentsModel" "kind" "[I"] ++ wsX10)
def wsX1_agreement : List Cond := .code yX1_agreement cX1_agreement 10 (some (.array .int)) :: ([.classLink RX1 47 "[I", .arrayClass .int, .methodLink RX1 56 yX1_retold, .instanceMethod yX1_retold, .selects RX1 yX1_retold yX1_retold, .initialized RX1, .methodLink RX1 48 yX1_heard, .instanceMethod yX1_heard, .selects RX1 yX1_heard yX1_heard, .code yX1_heard cX1_heard 4 (some .int), .fieldLink RX1 13 "LiarTentsModel" "kind" "[I", .code yX1_retold cX1_retold 8 (some (.array (.array .int))), .fieldLink RX1 40 "LiarTentsModel" "generals" "I", .methodLink RX1 52 yX1_agreement, .instanceMethod yX1_agreement, .selects RX1 yX1_agreement yX1_agreement] ++ wsX10)
def wsX1_retold : List Cond := .code yX1_retold cX1_retold 8 (some (.array (.array .int))) :: ([.classLink RX1 47 "[I", .fieldLink RX1 40 "LiarTentsModel" "generals" "I", .methodLink RX1 48 yX1_heard, .instanceMethod yX1_heard, .selects RX1 yX1_heard yX1_heard, .initialized RX1, .code yX1_heard cX1_heard 4 (some .int), .fieldLink RX1 13 "LiarTentsModel" "kind" "[I", .methodLink RX1 52 yX1_agreement, .instanceMethod yX1_agreement, .selects RX1 yX1_agreement yX1_agreement, .code yX1_agreement cX1_agreement 10 (some (.array .int)), .arrayClass .int, .methodLink RX1 56 yX1_retold, .instanceMethod yX1_retold, .selects RX1 yX1_retold yX1_retold] ++ wsX10)
def wsX1_all : List Cond := .code yX1_all cX1_all 1 (some .int) :: ([.fieldLink RX1 40 "LiarTentsModel" "generals" "I"] ++ wsX10)
def wsX1_council : List Cond := .code yX1_council cX1_council 5 (some (.array .int)) :: ([.methodLink RX1 60 yX1_all, .instanceMethod yX1_all, .selects RX1 yX1_all yX1_all, .initialized RX1, .code yX1_all cX1_all 1 (some .int), .fieldLink RX1 40 "LiarTentsModel" "generals" "I", .methodLink RX1 52 yX1_agreement, .instanceMethod yX1_agreement, .selects RX1 yX1_agreement yX1_agreement, .code yX1_agreement cX1_agreement 10 (some (.array .int)), .classLink RX1 47 "[I", .arrayClass .int, .methodLink RX1 56 yX1_retold, .instanceMethod yX1_retold, .selects RX1 yX1_retold yX1_retold, .methodLink RX1 48 yX1_heard, .instanceMethod yX1_heard, .selects RX1 yX1_heard yX1_heard, .code yX1_heard cX1_heard 4 (some .int), .fieldLink RX1 13 "LiarTentsModel" "kind" "[I", .code yX1_retold cX1_retold 8 (some (.array (.array .int)))] ++ wsX10)
def wsX1_runners : List Cond := .code yX1_runners cX1_runners 2 (some .int) :: ([.methodLink RX1 64 yX1_runners, .static yX1_runners, .initialized RX1])
def wsX1_isAgreed_r1 : List Cond := [Cond.fieldLink RX1 13 "LiarTentsModel" "kind" "[I", Cond.fieldLink RX1 40 "LiarTentsModel" "generals" "I", Cond.methodLink RX1 68 yX1_council, Cond.instanceMethod yX1_council, Cond.selects RX1 yX1_council yX1_council, Cond.initialized RX1, Cond.code yX1_council cX1_council 5 (some (.array .int)), Cond.methodLink RX1 60 yX1_all, Cond.instanceMethod yX1_all, Cond.selects RX1 yX1_all yX1_all, Cond.code yX1_all cX1_all 1 (some .int), Cond.methodLink RX1 52 yX1_agreement, Cond.instanceMethod yX1_agreement, Cond.selects RX1 yX1_agreement yX1_agreement, Cond.code yX1_agreement cX1_agreement 10 (some (.array .int)), Cond.classLink RX1 47 "[I", Cond.arrayClass .int, Cond.methodLink RX1 56 yX1_retold, Cond.instanceMethod yX1_retold, Cond.selects RX1 yX1_retold yX1_retold, Cond.methodLink RX1 48 yX1_heard, Cond.instanceMethod yX1_heard, Cond.selects RX1 yX1_heard yX1_heard, Cond.code yX1_heard cX1_heard 4 (some .int)]
def wsX1_isAgreed_r2 : List Cond := [Cond.code yX1_retold cX1_retold 8 (some (.array (.array .int)))]
def wsX1_isAgreed : List Cond := .code yX1_isAgreed cX1_isAgreed 7 (some .boolean) :: ((wsX1_isAgreed_r1 ++ wsX1_isAgreed_r2) ++ wsX10)
def wsX1_come : List Cond := .code yX1_come cX1_come 1 (some .int) :: ([.fieldLink RX1 37 "LiarTentsModel" "thrown" "I", .fieldLink RX1 40 "LiarTentsModel" "generals" "I", .methodLink RX1 72 yX1_no, .instanceMethod yX1_no, .selects RX1 yX1_no yX1_no, .initialized RX1, .code yX1_no cX1_no 2 (some .int)] ++ wsX10)
def wsX1_setKind : List Cond := .code yX1_setKind cX1_setKind 4 (some .int) :: ([.fieldLink RX1 37 "LiarTentsModel" "thrown" "I", .fieldLink RX1 13 "LiarTentsModel" "kind" "[I", .methodLink RX1 76 yX1_isGeneral, .instanceMethod yX1_isGeneral, .selects RX1 yX1_isGeneral yX1_isGeneral, .initialized RX1, .code yX1_isGeneral cX1_isGeneral 2 (some .boolean), .fieldLink RX1 40 "LiarTentsModel" "generals" "I", .methodLink RX1 43 yX1_isIn, .static yX1_isIn, .code yX1_isIn cX1_isIn 3 (some .boolean), .methodLink RX1 72 yX1_no, .instanceMethod yX1_no, .selects RX1 yX1_no yX1_no, .code yX1_no cX1_no 2 (some .int)] ++ wsX10)
def wsX1_setRounds : List Cond := .code yX1_setRounds cX1_setRounds 3 (some .int) :: ([.fieldLink RX1 37 "LiarTentsModel" "thrown" "I", .fieldLink RX1 7 "LiarTentsModel" "rounds" "I", .methodLink RX1 43 yX1_isIn, .static yX1_isIn, .initialized RX1, .code yX1_isIn cX1_isIn 3 (some .boolean), .methodLink RX1 72 yX1_no, .instanceMethod yX1_no, .selects RX1 yX1_no yX1_no, .code yX1_no cX1_no 2 (some .int)] ++ wsX10)
def wsX1_keep : List Cond := .code yX1_keep cX1_keep 6 none :: ([.fieldLink RX1 7 "LiarTentsModel" "rounds" "I", .classLink RX1 47 "[I", .fieldLink RX1 40 "LiarTentsModel" "generals" "I", .fieldLink RX1 34 "LiarTentsModel" "from" "[[I", .methodLink RX1 60 yX1_all, .instanceMethod yX1_all, .selects RX1 yX1_all yX1_all, .initialized RX1, .code yX1_all cX1_all 1 (some .int), .methodLink RX1 56 yX1_retold, .instanceMethod yX1_retold, .selects RX1 yX1_retold yX1_retold, .code yX1_retold cX1_retold 8 (some (.array (.array .int))), .methodLink RX1 48 yX1_heard, .instanceMethod yX1_heard, .selects RX1 yX1_heard yX1_heard, .code yX1_heard cX1_heard 4 (some .int), .fieldLink RX1 13 "LiarTentsModel" "kind" "[I", .methodLink RX1 52 yX1_agreement, .instanceMethod yX1_agreement, .selects RX1 yX1_agreement yX1_agreement, .code yX1_agreement cX1_agreement 10 (some (.array .int)), .arrayClass .int] ++ wsX10)
def wsX1_hold_r1 : List Cond := [Cond.fieldLink RX1 37 "LiarTentsModel" "thrown" "I", Cond.fieldLink RX1 7 "LiarTentsModel" "rounds" "I", Cond.fieldLink RX1 40 "LiarTentsModel" "generals" "I", Cond.fieldLink RX1 84 "LiarTentsModel" "there" "I", Cond.fieldLink RX1 22 "LiarTentsModel" "commander" "I", Cond.fieldLink RX1 25 "LiarTentsModel" "ordered" "I", Cond.fieldLink RX1 28 "LiarTentsModel" "runs" "I", Cond.fieldLink RX1 87 "LiarTentsModel" "councils" "I", Cond.fieldLink RX1 19 "LiarTentsModel" "often" "[[I", Cond.fieldLink RX1 31 "LiarTentsModel" "did" "[I", Cond.methodLink RX1 76 yX1_isGeneral, Cond.instanceMethod yX1_isGeneral, Cond.selects RX1 yX1_isGeneral yX1_isGeneral, Cond.initialized RX1, Cond.code yX1_isGeneral cX1_isGeneral 2 (some .boolean), Cond.methodLink RX1 43 yX1_isIn, Cond.static yX1_isIn, Cond.code yX1_isIn cX1_isIn 3 (some .boolean), Cond.methodLink RX1 72 yX1_no, Cond.instanceMethod yX1_no, Cond.selects RX1 yX1_no yX1_no, Cond.code yX1_no cX1_no 2 (some .int), Cond.methodLink RX1 68 yX1_council, Cond.instanceMethod yX1_council]
def wsX1_hold_r2 : List Cond := [Cond.selects RX1 yX1_council yX1_council, Cond.code yX1_council cX1_council 5 (some (.array .int)), Cond.methodLink RX1 60 yX1_all, Cond.instanceMethod yX1_all, Cond.selects RX1 yX1_all yX1_all, Cond.code yX1_all cX1_all 1 (some .int), Cond.methodLink RX1 52 yX1_agreement, Cond.instanceMethod yX1_agreement, Cond.selects RX1 yX1_agreement yX1_agreement, Cond.code yX1_agreement cX1_agreement 10 (some (.array .int)), Cond.classLink RX1 47 "[I", Cond.arrayClass .int, Cond.methodLink RX1 56 yX1_retold, Cond.instanceMethod yX1_retold, Cond.selects RX1 yX1_retold yX1_retold, Cond.methodLink RX1 48 yX1_heard, Cond.instanceMethod yX1_heard, Cond.selects RX1 yX1_heard yX1_heard, Cond.code yX1_heard cX1_heard 4 (some .int), Cond.fieldLink RX1 13 "LiarTentsModel" "kind" "[I", Cond.code yX1_retold cX1_retold 8 (some (.array (.array .int))), Cond.methodLink RX1 80 yX1_keep, Cond.instanceMethod yX1_keep, Cond.selects RX1 yX1_keep yX1_keep]
def wsX1_hold_r3 : List Cond := [Cond.code yX1_keep cX1_keep 6 none, Cond.fieldLink RX1 34 "LiarTentsModel" "from" "[[I", Cond.methodLink RX1 64 yX1_runners, Cond.static yX1_runners, Cond.code yX1_runners cX1_runners 2 (some .int)]
def wsX1_hold : List Cond := .code yX1_hold cX1_hold 6 (some .int) :: ((wsX1_hold_r1 ++ (wsX1_hold_r2 ++ wsX1_hold_r3)) ++ wsX10)
def wsX1_wasThere : List Cond := .code yX1_wasThere cX1_wasThere 2 (some .boolean) :: ([.fieldLink RX1 87 "LiarTentsModel" "councils" "I", .fieldLink RX1 84 "LiarTentsModel" "there" "I", .methodLink RX1 76 yX1_isGeneral, .instanceMethod yX1_isGeneral, .selects RX1 yX1_isGeneral yX1_isGeneral, .initialized RX1, .code yX1_isGeneral cX1_isGeneral 2 (some .boolean), .fieldLink RX1 40 "LiarTentsModel" "generals" "I", .methodLink RX1 43 yX1_isIn, .static yX1_isIn, .code yX1_isIn cX1_isIn 3 (some .boolean)] ++ wsX10)
def wsX1_does : List Cond := .code yX1_does cX1_does 2 (some .int) :: ([.fieldLink RX1 37 "LiarTentsModel" "thrown" "I", .fieldLink RX1 87 "LiarTentsModel" "councils" "I", .fieldLink RX1 31 "LiarTentsModel" "did" "[I", .methodLink RX1 90 yX1_wasThere, .instanceMethod yX1_wasThere, .selects RX1 yX1_wasThere yX1_wasThere, .initialized RX1, .code yX1_wasThere cX1_wasThere 2 (some .boolean), .fieldLink RX1 84 "LiarTentsModel" "there" "I", .methodLink RX1 76 yX1_isGeneral, .instanceMethod yX1_isGeneral, .selects RX1 yX1_isGeneral yX1_isGeneral, .code yX1_isGeneral cX1_isGeneral 2 (some .boolean), .fieldLink RX1 40 "LiarTentsModel" "generals" "I", .methodLink RX1 43 yX1_isIn, .static yX1_isIn, .code yX1_isIn cX1_isIn 3 (some .boolean), .methodLink RX1 72 yX1_no, .instanceMethod yX1_no, .selects RX1 yX1_no yX1_no, .code yX1_no cX1_no 2 (some .int)] ++ wsX10)
def wsX1_took : List Cond := .code yX1_took cX1_took 3 (some .int) :: ([.fieldLink RX1 37 "LiarTentsModel" "thrown" "I", .fieldLink RX1 87 "LiarTentsModel" "councils" "I", .fieldLink RX1 22 "LiarTentsModel" "commander" "I", .fieldLink RX1 34 "LiarTentsModel" "from" "[[I", .methodLink RX1 90 yX1_wasThere, .instanceMethod yX1_wasThere, .selects RX1 yX1_wasThere yX1_wasThere, .initialized RX1, .code yX1_wasThere cX1_wasThere 2 (some .boolean), .fieldLink RX1 84 "LiarTentsModel" "there" "I", .methodLink RX1 76 yX1_isGeneral, .instanceMethod yX1_isGeneral, .selects RX1 yX1_isGeneral yX1_isGeneral, .code yX1_isGeneral cX1_isGeneral 2 (some .boolean), .fieldLink RX1 40 "LiarTentsModel" "generals" "I", .methodLink RX1 43 yX1_isIn, .static yX1_isIn, .code yX1_isIn cX1_isIn 3 (some .boolean), .methodLink RX1 72 yX1_no, .instanceMethod yX1_no, .selects RX1 yX1_no yX1_no, .code yX1_no cX1_no 2 (some .int)] ++ wsX10)
def wsX1_loyalThatDo : List Cond := .code yX1_loyalThatDo cX1_loyalThatDo 4 (some .int) :: ([.fieldLink RX1 84 "LiarTentsModel" "there" "I", .fieldLink RX1 13 "LiarTentsModel" "kind" "[I", .fieldLink RX1 31 "LiarTentsModel" "did" "[I", .fieldLink RX1 87 "LiarTentsModel" "councils" "I"] ++ wsX10)
def wsX1_counted : List Cond := .code yX1_counted cX1_counted 7 (some .int) :: ([.fieldLink RX1 13 "LiarTentsModel" "kind" "[I", .arrayClass .int, .fieldLink RX1 40 "LiarTentsModel" "generals" "I", .fieldLink RX1 7 "LiarTentsModel" "rounds" "I", .fieldLink RX1 87 "LiarTentsModel" "councils" "I", .fieldLink RX1 28 "LiarTentsModel" "runs" "I", .fieldLink RX1 22 "LiarTentsModel" "commander" "I", .fieldLink RX1 25 "LiarTentsModel" "ordered" "I", .methodLink RX1 93 yX1_loyalThatDo, .instanceMethod yX1_loyalThatDo, .selects RX1 yX1_loyalThatDo yX1_loyalThatDo, .initialized RX1, .code yX1_loyalThatDo cX1_loyalThatDo 4 (some .int), .fieldLink RX1 84 "LiarTentsModel" "there" "I", .fieldLink RX1 31 "LiarTentsModel" "did" "[I"] ++ wsX10)
def wsX1_count_r1 : List Cond := [Cond.fieldLink RX1 37 "LiarTentsModel" "thrown" "I", Cond.methodLink RX1 43 yX1_isIn, Cond.static yX1_isIn, Cond.initialized RX1, Cond.code yX1_isIn cX1_isIn 3 (some .boolean), Cond.methodLink RX1 96 yX1_counted, Cond.instanceMethod yX1_counted, Cond.selects RX1 yX1_counted yX1_counted, Cond.code yX1_counted cX1_counted 7 (some .int), Cond.fieldLink RX1 13 "LiarTentsModel" "kind" "[I", Cond.arrayClass .int, Cond.fieldLink RX1 40 "LiarTentsModel" "generals" "I", Cond.fieldLink RX1 7 "LiarTentsModel" "rounds" "I", Cond.fieldLink RX1 87 "LiarTentsModel" "councils" "I", Cond.fieldLink RX1 28 "LiarTentsModel" "runs" "I", Cond.fieldLink RX1 22 "LiarTentsModel" "commander" "I", Cond.fieldLink RX1 25 "LiarTentsModel" "ordered" "I", Cond.methodLink RX1 93 yX1_loyalThatDo, Cond.instanceMethod yX1_loyalThatDo, Cond.selects RX1 yX1_loyalThatDo yX1_loyalThatDo, Cond.code yX1_loyalThatDo cX1_loyalThatDo 4 (some .int), Cond.fieldLink RX1 84 "LiarTentsModel" "there" "I", Cond.fieldLink RX1 31 "LiarTentsModel" "did" "[I", Cond.methodLink RX1 72 yX1_no]
def wsX1_count_r2 : List Cond := [Cond.instanceMethod yX1_no, Cond.selects RX1 yX1_no yX1_no, Cond.code yX1_no cX1_no 2 (some .int)]
def wsX1_count : List Cond := .code yX1_count cX1_count 2 (some .int) :: ((wsX1_count_r1 ++ wsX1_count_r2) ++ wsX10)
def wsX1_generalTold : List Cond := .code yX1_generalTold cX1_generalTold 3 (some .int) :: ([.fieldLink RX1 13 "LiarTentsModel" "kind" "[I", .fieldLink RX1 19 "LiarTentsModel" "often" "[[I"] ++ wsX10)
def wsX1_told : List Cond := .code yX1_told cX1_told 3 (some .int) :: ([.fieldLink RX1 37 "LiarTentsModel" "thrown" "I", .methodLink RX1 76 yX1_isGeneral, .instanceMethod yX1_isGeneral, .selects RX1 yX1_isGeneral yX1_isGeneral, .initialized RX1, .code yX1_isGeneral cX1_isGeneral 2 (some .boolean), .fieldLink RX1 40 "LiarTentsModel" "generals" "I", .methodLink RX1 43 yX1_isIn, .static yX1_isIn, .code yX1_isIn cX1_isIn 3 (some .boolean), .methodLink RX1 99 yX1_generalTold, .instanceMethod yX1_generalTold, .selects RX1 yX1_generalTold yX1_generalTold, .code yX1_generalTold cX1_generalTold 3 (some .int), .fieldLink RX1 13 "LiarTentsModel" "kind" "[I", .fieldLink RX1 19 "LiarTentsModel" "often" "[[I", .methodLink RX1 72 yX1_no, .instanceMethod yX1_no, .selects RX1 yX1_no yX1_no, .code yX1_no cX1_no 2 (some .int)] ++ wsX10)
def wsX1_hears : List Cond := .code yX1_hears cX1_hears 4 (some .int) :: ([.fieldLink RX1 37 "LiarTentsModel" "thrown" "I", .methodLink RX1 76 yX1_isGeneral, .instanceMethod yX1_isGeneral, .selects RX1 yX1_isGeneral yX1_isGeneral, .initialized RX1, .code yX1_isGeneral cX1_isGeneral 2 (some .boolean), .fieldLink RX1 40 "LiarTentsModel" "generals" "I", .methodLink RX1 43 yX1_isIn, .static yX1_isIn, .code yX1_isIn cX1_isIn 3 (some .boolean), .methodLink RX1 72 yX1_no, .instanceMethod yX1_no, .selects RX1 yX1_no yX1_no, .code yX1_no cX1_no 2 (some .int), .methodLink RX1 48 yX1_heard, .instanceMethod yX1_heard, .selects RX1 yX1_heard yX1_heard, .code yX1_heard cX1_heard 4 (some .int), .fieldLink RX1 13 "LiarTentsModel" "kind" "[I"] ++ wsX10)
def wsX1_would_r1 : List Cond := [Cond.fieldLink RX1 37 "LiarTentsModel" "thrown" "I", Cond.fieldLink RX1 7 "LiarTentsModel" "rounds" "I", Cond.methodLink RX1 76 yX1_isGeneral, Cond.instanceMethod yX1_isGeneral, Cond.selects RX1 yX1_isGeneral yX1_isGeneral, Cond.initialized RX1, Cond.code yX1_isGeneral cX1_isGeneral 2 (some .boolean), Cond.fieldLink RX1 40 "LiarTentsModel" "generals" "I", Cond.methodLink RX1 43 yX1_isIn, Cond.static yX1_isIn, Cond.code yX1_isIn cX1_isIn 3 (some .boolean), Cond.methodLink RX1 72 yX1_no, Cond.instanceMethod yX1_no, Cond.selects RX1 yX1_no yX1_no, Cond.code yX1_no cX1_no 2 (some .int), Cond.methodLink RX1 68 yX1_council, Cond.instanceMethod yX1_council, Cond.selects RX1 yX1_council yX1_council, Cond.code yX1_council cX1_council 5 (some (.array .int)), Cond.methodLink RX1 60 yX1_all, Cond.instanceMethod yX1_all, Cond.selects RX1 yX1_all yX1_all, Cond.code yX1_all cX1_all 1 (some .int), Cond.methodLink RX1 52 yX1_agreement]
def wsX1_would_r2 : List Cond := [Cond.instanceMethod yX1_agreement, Cond.selects RX1 yX1_agreement yX1_agreement, Cond.code yX1_agreement cX1_agreement 10 (some (.array .int)), Cond.classLink RX1 47 "[I", Cond.arrayClass .int, Cond.methodLink RX1 56 yX1_retold, Cond.instanceMethod yX1_retold, Cond.selects RX1 yX1_retold yX1_retold, Cond.methodLink RX1 48 yX1_heard, Cond.instanceMethod yX1_heard, Cond.selects RX1 yX1_heard yX1_heard, Cond.code yX1_heard cX1_heard 4 (some .int), Cond.fieldLink RX1 13 "LiarTentsModel" "kind" "[I", Cond.code yX1_retold cX1_retold 8 (some (.array (.array .int)))]
def wsX1_would : List Cond := .code yX1_would cX1_would 4 (some .int) :: ((wsX1_would_r1 ++ wsX1_would_r2) ++ wsX10)
def wsX1_agrees_r1 : List Cond := [Cond.fieldLink RX1 37 "LiarTentsModel" "thrown" "I", Cond.fieldLink RX1 7 "LiarTentsModel" "rounds" "I", Cond.methodLink RX1 76 yX1_isGeneral, Cond.instanceMethod yX1_isGeneral, Cond.selects RX1 yX1_isGeneral yX1_isGeneral, Cond.initialized RX1, Cond.code yX1_isGeneral cX1_isGeneral 2 (some .boolean), Cond.fieldLink RX1 40 "LiarTentsModel" "generals" "I", Cond.methodLink RX1 43 yX1_isIn, Cond.static yX1_isIn, Cond.code yX1_isIn cX1_isIn 3 (some .boolean), Cond.methodLink RX1 102 yX1_isAgreed, Cond.instanceMethod yX1_isAgreed, Cond.selects RX1 yX1_isAgreed yX1_isAgreed, Cond.code yX1_isAgreed cX1_isAgreed 7 (some .boolean), Cond.fieldLink RX1 13 "LiarTentsModel" "kind" "[I", Cond.methodLink RX1 68 yX1_council, Cond.instanceMethod yX1_council, Cond.selects RX1 yX1_council yX1_council, Cond.code yX1_council cX1_council 5 (some (.array .int)), Cond.methodLink RX1 60 yX1_all, Cond.instanceMethod yX1_all, Cond.selects RX1 yX1_all yX1_all, Cond.code yX1_all cX1_all 1 (some .int)]
def wsX1_agrees_r2 : List Cond := [Cond.methodLink RX1 52 yX1_agreement, Cond.instanceMethod yX1_agreement, Cond.selects RX1 yX1_agreement yX1_agreement, Cond.code yX1_agreement cX1_agreement 10 (some (.array .int)), Cond.classLink RX1 47 "[I", Cond.arrayClass .int, Cond.methodLink RX1 56 yX1_retold, Cond.instanceMethod yX1_retold, Cond.selects RX1 yX1_retold yX1_retold, Cond.methodLink RX1 48 yX1_heard, Cond.instanceMethod yX1_heard, Cond.selects RX1 yX1_heard yX1_heard, Cond.code yX1_heard cX1_heard 4 (some .int), Cond.code yX1_retold cX1_retold 8 (some (.array (.array .int)))]
def wsX1_agrees : List Cond := .code yX1_agrees cX1_agrees 3 (some .boolean) :: ((wsX1_agrees_r1 ++ wsX1_agrees_r2) ++ wsX10)
def wsX1_messengers : List Cond := .code yX1_messengers cX1_messengers 2 (some .int) :: ([.fieldLink RX1 37 "LiarTentsModel" "thrown" "I", .fieldLink RX1 40 "LiarTentsModel" "generals" "I", .methodLink RX1 43 yX1_isIn, .static yX1_isIn, .initialized RX1, .code yX1_isIn cX1_isIn 3 (some .boolean), .methodLink RX1 64 yX1_runners, .static yX1_runners, .code yX1_runners cX1_runners 2 (some .int), .methodLink RX1 72 yX1_no, .instanceMethod yX1_no, .selects RX1 yX1_no yX1_no, .code yX1_no cX1_no 2 (some .int)] ++ wsX10)
def wsX1_doesFor_r1 : List Cond := [Cond.fieldLink RX1 40 "LiarTentsModel" "generals" "I", Cond.methodLink RX1 102 yX1_isAgreed, Cond.instanceMethod yX1_isAgreed, Cond.selects RX1 yX1_isAgreed yX1_isAgreed, Cond.initialized RX1, Cond.code yX1_isAgreed cX1_isAgreed 7 (some .boolean), Cond.fieldLink RX1 13 "LiarTentsModel" "kind" "[I", Cond.methodLink RX1 68 yX1_council, Cond.instanceMethod yX1_council, Cond.selects RX1 yX1_council yX1_council, Cond.code yX1_council cX1_council 5 (some (.array .int)), Cond.methodLink RX1 60 yX1_all, Cond.instanceMethod yX1_all, Cond.selects RX1 yX1_all yX1_all, Cond.code yX1_all cX1_all 1 (some .int), Cond.methodLink RX1 52 yX1_agreement, Cond.instanceMethod yX1_agreement, Cond.selects RX1 yX1_agreement yX1_agreement, Cond.code yX1_agreement cX1_agreement 10 (some (.array .int)), Cond.classLink RX1 47 "[I", Cond.arrayClass .int, Cond.methodLink RX1 56 yX1_retold, Cond.instanceMethod yX1_retold, Cond.selects RX1 yX1_retold yX1_retold]
def wsX1_doesFor_r2 : List Cond := [Cond.methodLink RX1 48 yX1_heard, Cond.instanceMethod yX1_heard, Cond.selects RX1 yX1_heard yX1_heard, Cond.code yX1_heard cX1_heard 4 (some .int), Cond.code yX1_retold cX1_retold 8 (some (.array (.array .int)))]
def wsX1_doesFor : List Cond := .code yX1_doesFor cX1_doesFor 3 (some .boolean) :: ((wsX1_doesFor_r1 ++ wsX1_doesFor_r2) ++ wsX10)
def wsX1_needs_r1 : List Cond := [Cond.fieldLink RX1 37 "LiarTentsModel" "thrown" "I", Cond.methodLink RX1 105 yX1_doesFor, Cond.instanceMethod yX1_doesFor, Cond.selects RX1 yX1_doesFor yX1_doesFor, Cond.initialized RX1, Cond.code yX1_doesFor cX1_doesFor 3 (some .boolean), Cond.fieldLink RX1 40 "LiarTentsModel" "generals" "I", Cond.methodLink RX1 102 yX1_isAgreed, Cond.instanceMethod yX1_isAgreed, Cond.selects RX1 yX1_isAgreed yX1_isAgreed, Cond.code yX1_isAgreed cX1_isAgreed 7 (some .boolean), Cond.fieldLink RX1 13 "LiarTentsModel" "kind" "[I", Cond.methodLink RX1 68 yX1_council, Cond.instanceMethod yX1_council, Cond.selects RX1 yX1_council yX1_council, Cond.code yX1_council cX1_council 5 (some (.array .int)), Cond.methodLink RX1 60 yX1_all, Cond.instanceMethod yX1_all, Cond.selects RX1 yX1_all yX1_all, Cond.code yX1_all cX1_all 1 (some .int), Cond.methodLink RX1 52 yX1_agreement, Cond.instanceMethod yX1_agreement, Cond.selects RX1 yX1_agreement yX1_agreement, Cond.code yX1_agreement cX1_agreement 10 (some (.array .int))]
def wsX1_needs_r2 : List Cond := [Cond.classLink RX1 47 "[I", Cond.arrayClass .int, Cond.methodLink RX1 56 yX1_retold, Cond.instanceMethod yX1_retold, Cond.selects RX1 yX1_retold yX1_retold, Cond.methodLink RX1 48 yX1_heard, Cond.instanceMethod yX1_heard, Cond.selects RX1 yX1_heard yX1_heard, Cond.code yX1_heard cX1_heard 4 (some .int), Cond.code yX1_retold cX1_retold 8 (some (.array (.array .int)))]
def wsX1_needs : List Cond := .code yX1_needs cX1_needs 2 (some .int) :: ((wsX1_needs_r1 ++ wsX1_needs_r2) ++ wsX10)
def wsX1_found : List Cond := .code yX1_found cX1_found 4 (some .int) :: ([.fieldLink RX1 37 "LiarTentsModel" "thrown" "I", .fieldLink RX1 40 "LiarTentsModel" "generals" "I", .methodLink RX1 76 yX1_isGeneral, .instanceMethod yX1_isGeneral, .selects RX1 yX1_isGeneral yX1_isGeneral, .initialized RX1, .code yX1_isGeneral cX1_isGeneral 2 (some .boolean), .methodLink RX1 43 yX1_isIn, .static yX1_isIn, .code yX1_isIn cX1_isIn 3 (some .boolean), .methodLink RX1 72 yX1_no, .instanceMethod yX1_no, .selects RX1 yX1_no yX1_no, .code yX1_no cX1_no 2 (some .int), .methodLink RX1 48 yX1_heard, .instanceMethod yX1_heard, .selects RX1 yX1_heard yX1_heard, .code yX1_heard cX1_heard 4 (some .int), .fieldLink RX1 13 "LiarTentsModel" "kind" "[I"] ++ wsX10)
def wsX1_mean : List Cond := .code yX1_mean cX1_mean 6 (some .double) :: ([.fieldLink RX1 37 "LiarTentsModel" "thrown" "I", .fieldLink RX1 19 "LiarTentsModel" "often" "[[I", .fieldLink RX1 87 "LiarTentsModel" "councils" "I"] ++ wsX10)
def wsX1_digest_r1 : List Cond := [Cond.fieldLink RX1 37 "LiarTentsModel" "thrown" "I", Cond.constantLong RX1 108 (1429), Cond.constantLong RX1 110 (31), Cond.fieldLink RX1 40 "LiarTentsModel" "generals" "I", Cond.fieldLink RX1 84 "LiarTentsModel" "there" "I", Cond.fieldLink RX1 31 "LiarTentsModel" "did" "[I", Cond.fieldLink RX1 7 "LiarTentsModel" "rounds" "I", Cond.methodLink RX1 96 yX1_counted, Cond.instanceMethod yX1_counted, Cond.selects RX1 yX1_counted yX1_counted, Cond.initialized RX1, Cond.code yX1_counted cX1_counted 7 (some .int), Cond.fieldLink RX1 13 "LiarTentsModel" "kind" "[I", Cond.arrayClass .int, Cond.fieldLink RX1 87 "LiarTentsModel" "councils" "I", Cond.fieldLink RX1 28 "LiarTentsModel" "runs" "I", Cond.fieldLink RX1 22 "LiarTentsModel" "commander" "I", Cond.fieldLink RX1 25 "LiarTentsModel" "ordered" "I", Cond.methodLink RX1 93 yX1_loyalThatDo, Cond.instanceMethod yX1_loyalThatDo, Cond.selects RX1 yX1_loyalThatDo yX1_loyalThatDo, Cond.code yX1_loyalThatDo cX1_loyalThatDo 4 (some .int), Cond.methodLink RX1 99 yX1_generalTold, Cond.instanceMethod yX1_generalTold]
def wsX1_digest_r2 : List Cond := [Cond.selects RX1 yX1_generalTold yX1_generalTold, Cond.code yX1_generalTold cX1_generalTold 3 (some .int), Cond.fieldLink RX1 19 "LiarTentsModel" "often" "[[I", Cond.methodLink RX1 102 yX1_isAgreed, Cond.instanceMethod yX1_isAgreed, Cond.selects RX1 yX1_isAgreed yX1_isAgreed, Cond.code yX1_isAgreed cX1_isAgreed 7 (some .boolean), Cond.methodLink RX1 68 yX1_council, Cond.instanceMethod yX1_council, Cond.selects RX1 yX1_council yX1_council, Cond.code yX1_council cX1_council 5 (some (.array .int)), Cond.methodLink RX1 60 yX1_all, Cond.instanceMethod yX1_all, Cond.selects RX1 yX1_all yX1_all, Cond.code yX1_all cX1_all 1 (some .int), Cond.methodLink RX1 52 yX1_agreement, Cond.instanceMethod yX1_agreement, Cond.selects RX1 yX1_agreement yX1_agreement, Cond.code yX1_agreement cX1_agreement 10 (some (.array .int)), Cond.classLink RX1 47 "[I", Cond.methodLink RX1 56 yX1_retold, Cond.instanceMethod yX1_retold, Cond.selects RX1 yX1_retold yX1_retold, Cond.methodLink RX1 48 yX1_heard]
def wsX1_digest_r3 : List Cond := [Cond.instanceMethod yX1_heard, Cond.selects RX1 yX1_heard yX1_heard, Cond.code yX1_heard cX1_heard 4 (some .int), Cond.code yX1_retold cX1_retold 8 (some (.array (.array .int)))]
def wsX1_digest : List Cond := .code yX1_digest cX1_digest 5 (some .long) :: ((wsX1_digest_r1 ++ (wsX1_digest_r2 ++ wsX1_digest_r3)) ++ wsX10)
def wsL_come : List Cond := .codeWith yL_come cL_come 3 (some .int) [(0, 8, 11, 13)] :: ([.classLink RL 13 "java/lang/IllegalStateException", .methodLink RL 7 yX0_come, .instanceMethod yX0_come, .selects RX0 yX0_come yX0_come, .initialized RX0, .code yX0_come cX0_come 2 (some .int), .classLink RX0 49 "java/lang/IllegalStateException", .initialized "java/lang/IllegalStateException", .fieldLink RX0 46 "LiarTents" "generals" "I"] ++ wsX00 ++ (vx_atS RX0 53 "java/lang/IllegalStateException" ["java/lang/RuntimeException", "java/lang/Exception"]).filter goodWord)
def wsL_setKind : List Cond := .codeWith yL_setKind cL_setKind 5 (some .int) [(0, 10, 13, 19)] :: ([.classLink RL 19 "java/lang/IndexOutOfBoundsException", .methodLink RL 15 yX0_setKind, .instanceMethod yX0_setKind, .selects RX0 yX0_setKind yX0_setKind, .initialized RX0, .code yX0_setKind cX0_setKind 4 (some .int), .classLink RX0 60 "java/lang/IndexOutOfBoundsException", .initialized "java/lang/IndexOutOfBoundsException", .fieldLink RX0 13 "LiarTents" "kinds" "[I", .methodLink RX0 56 yX0_requireGeneral, .instanceMethod yX0_requireGeneral, .selects RX0 yX0_requireGeneral yX0_requireGeneral, .code yX0_requireGeneral cX0_requireGeneral 2 none, .methodLink RX0 148 yX0_isGeneral, .instanceMethod yX0_isGeneral, .selects RX0 yX0_isGeneral yX0_isGeneral, .code yX0_isGeneral cX0_isGeneral 2 (some .boolean), .fieldLink RX0 46 "LiarTents" "generals" "I"] ++ wsX00 ++ (vx_atS RX0 64 "java/lang/IndexOutOfBoundsException" ["java/lang/RuntimeException", "java/lang/Exception"]).filter goodWord)
def wsL_setRounds : List Cond := .codeWith yL_setRounds cL_setRounds 4 (some .int) [(0, 9, 12, 25)] :: ([.classLink RL 25 "java/lang/IllegalArgumentException", .methodLink RL 21 yX0_setRounds, .instanceMethod yX0_setRounds, .selects RX0 yX0_setRounds yX0_setRounds, .initialized RX0, .code yX0_setRounds cX0_setRounds 3 (some .int), .fieldLink RX0 7 "LiarTents" "rounds" "I", .methodLink RX0 65 yX0_requireRounds, .static yX0_requireRounds, .code yX0_requireRounds cX0_requireRounds 1 none, .classLink RX0 105 "java/lang/IllegalArgumentException", .initialized "java/lang/IllegalArgumentException"] ++ wsX00 ++ (vx_atS RX0 109 "java/lang/IllegalArgumentException" ["java/lang/RuntimeException", "java/lang/Exception"]).filter goodWord)
def wsL_hold_r1 : List Cond := [Cond.classLink RL 19 "java/lang/IndexOutOfBoundsException", Cond.classLink RL 25 "java/lang/IllegalArgumentException", Cond.methodLink RL 27 yX0_hold, Cond.instanceMethod yX0_hold, Cond.selects RX0 yX0_hold yX0_hold, Cond.initialized RX0, Cond.code yX0_hold cX0_hold 3 (some .int), Cond.fieldLink RX0 7 "LiarTents" "rounds" "I", Cond.methodLink RX0 56 yX0_requireGeneral, Cond.instanceMethod yX0_requireGeneral, Cond.selects RX0 yX0_requireGeneral yX0_requireGeneral, Cond.code yX0_requireGeneral cX0_requireGeneral 2 none, Cond.classLink RX0 60 "java/lang/IndexOutOfBoundsException", Cond.initialized "java/lang/IndexOutOfBoundsException", Cond.methodLink RX0 148 yX0_isGeneral, Cond.instanceMethod yX0_isGeneral, Cond.selects RX0 yX0_isGeneral yX0_isGeneral, Cond.code yX0_isGeneral cX0_isGeneral 2 (some .boolean), Cond.fieldLink RX0 46 "LiarTents" "generals" "I", Cond.methodLink RX0 68 yX0_requireOrder, Cond.static yX0_requireOrder, Cond.code yX0_requireOrder cX0_requireOrder 1 none, Cond.classLink RX0 105 "java/lang/IllegalArgumentException", Cond.initialized "java/lang/IllegalArgumentException"]
def wsL_hold_r2 : List Cond := [Cond.methodLink RX0 71 yX0_workOut, Cond.instanceMethod yX0_workOut, Cond.selects RX0 yX0_workOut yX0_workOut, Cond.code yX0_workOut cX0_workOut 6 none, Cond.fieldLink RX0 43 "LiarTents" "tookOf" "[[I", Cond.fieldLink RX0 34 "LiarTents" "heard" "[[I", Cond.methodLink RX0 161 yX0_agree, Cond.instanceMethod yX0_agree, Cond.selects RX0 yX0_agree yX0_agree, Cond.code yX0_agree cX0_agree 8 none, Cond.methodLink RX0 165 yX0_hearCommander, Cond.instanceMethod yX0_hearCommander, Cond.selects RX0 yX0_hearCommander yX0_hearCommander, Cond.code yX0_hearCommander cX0_hearCommander 7 none, Cond.fieldLink RX0 13 "LiarTents" "kinds" "[I", Cond.fieldLink RX0 37 "LiarTents" "balance" "[[I", Cond.methodLink RX0 169 yX0_isAmong, Cond.static yX0_isAmong, Cond.code yX0_isAmong cX0_isAmong 2 (some .boolean), Cond.methodLink RX0 110 yX0_said, Cond.static yX0_said, Cond.code yX0_said cX0_said 4 (some .int), Cond.methodLink RX0 178 yX0_weight, Cond.static yX0_weight]
def wsL_hold_r3 : List Cond := [Cond.code yX0_weight cX0_weight 1 (some .int), Cond.methodLink RX0 172 yX0_weighRetold, Cond.instanceMethod yX0_weighRetold, Cond.selects RX0 yX0_weighRetold yX0_weighRetold, Cond.code yX0_weighRetold cX0_weighRetold 6 none, Cond.fieldLink RX0 40 "LiarTents" "taken" "[[I", Cond.methodLink RX0 175 yX0_takeMajority, Cond.instanceMethod yX0_takeMajority, Cond.selects RX0 yX0_takeMajority yX0_takeMajority, Cond.code yX0_takeMajority cX0_takeMajority 4 none, Cond.methodLink RX0 75 yX0_keepAsLatest, Cond.instanceMethod yX0_keepAsLatest, Cond.selects RX0 yX0_keepAsLatest yX0_keepAsLatest, Cond.code yX0_keepAsLatest cX0_keepAsLatest 5 none, Cond.fieldLink RX0 145 "LiarTents" "latestGenerals" "I", Cond.fieldLink RX0 89 "LiarTents" "latestCommander" "I", Cond.fieldLink RX0 181 "LiarTents" "latestOrder" "I", Cond.fieldLink RX0 184 "LiarTents" "latestMessengers" "I", Cond.fieldLink RX0 26 "LiarTents" "latestDone" "[I", Cond.fieldLink RX0 31 "LiarTents" "latestTook" "[[I", Cond.methodLink RX0 122 yX0_messengersAmong, Cond.static yX0_messengersAmong, Cond.code yX0_messengersAmong cX0_messengersAmong 5 (some .int), Cond.methodLink RX0 114 yX0_orderDone]
def wsL_hold_r4 : List Cond := [Cond.instanceMethod yX0_orderDone, Cond.selects RX0 yX0_orderDone yX0_orderDone, Cond.code yX0_orderDone cX0_orderDone 4 (some .int), Cond.methodLink RX0 79 yX0_enterCouncil, Cond.instanceMethod yX0_enterCouncil, Cond.selects RX0 yX0_enterCouncil yX0_enterCouncil, Cond.code yX0_enterCouncil cX0_enterCouncil 6 (some .int), Cond.fieldLink RX0 17 "LiarTents" "attacked" "[I", Cond.fieldLink RX0 23 "LiarTents" "differed" "[I", Cond.fieldLink RX0 20 "LiarTents" "commanded" "[I", Cond.fieldLink RX0 133 "LiarTents" "councils" "I", Cond.fieldLink RX0 136 "LiarTents" "attacksInAll" "I"]
def wsL_hold : List Cond := .codeWith yL_hold cL_hold 5 (some .int) [(0, 10, 13, 19), (0, 10, 17, 25)] :: ((wsL_hold_r1 ++ (wsL_hold_r2 ++ (wsL_hold_r3 ++ wsL_hold_r4))) ++ wsX00 ++ (vx_atS RX0 64 "java/lang/IndexOutOfBoundsException" ["java/lang/RuntimeException", "java/lang/Exception"]).filter goodWord ++ (vx_atS RX0 109 "java/lang/IllegalArgumentException" ["java/lang/RuntimeException", "java/lang/Exception"]).filter goodWord)
def wsL_does_r1 : List Cond := [Cond.classLink RL 19 "java/lang/IndexOutOfBoundsException", Cond.classLink RL 13 "java/lang/IllegalStateException", Cond.methodLink RL 30 yX0_does, Cond.instanceMethod yX0_does, Cond.selects RX0 yX0_does yX0_does, Cond.initialized RX0, Cond.code yX0_does cX0_does 2 (some .int), Cond.fieldLink RX0 26 "LiarTents" "latestDone" "[I", Cond.methodLink RX0 83 yX0_requirePresent, Cond.instanceMethod yX0_requirePresent, Cond.selects RX0 yX0_requirePresent yX0_requirePresent, Cond.code yX0_requirePresent cX0_requirePresent 2 none, Cond.classLink RX0 60 "java/lang/IndexOutOfBoundsException", Cond.initialized "java/lang/IndexOutOfBoundsException", Cond.fieldLink RX0 133 "LiarTents" "councils" "I", Cond.fieldLink RX0 145 "LiarTents" "latestGenerals" "I", Cond.methodLink RX0 56 yX0_requireGeneral, Cond.instanceMethod yX0_requireGeneral, Cond.selects RX0 yX0_requireGeneral yX0_requireGeneral, Cond.code yX0_requireGeneral cX0_requireGeneral 2 none, Cond.methodLink RX0 148 yX0_isGeneral, Cond.instanceMethod yX0_isGeneral, Cond.selects RX0 yX0_isGeneral yX0_isGeneral, Cond.code yX0_isGeneral cX0_isGeneral 2 (some .boolean)]
def wsL_does_r2 : List Cond := [Cond.fieldLink RX0 46 "LiarTents" "generals" "I", Cond.methodLink RX0 86 yX0_requireCouncil, Cond.instanceMethod yX0_requireCouncil, Cond.selects RX0 yX0_requireCouncil yX0_requireCouncil, Cond.code yX0_requireCouncil cX0_requireCouncil 1 none, Cond.classLink RX0 49 "java/lang/IllegalStateException", Cond.initialized "java/lang/IllegalStateException"]
def wsL_does : List Cond := .codeWith yL_does cL_does 4 (some .int) [(0, 9, 12, 19), (0, 9, 15, 13)] :: ((wsL_does_r1 ++ wsL_does_r2) ++ wsX00 ++ (vx_atS RX0 64 "java/lang/IndexOutOfBoundsException" ["java/lang/RuntimeException", "java/lang/Exception"]).filter goodWord ++ (vx_atS RX0 53 "java/lang/IllegalStateException" ["java/lang/RuntimeException", "java/lang/Exception"]).filter goodWord)
def wsL_took_r1 : List Cond := [Cond.classLink RL 19 "java/lang/IndexOutOfBoundsException", Cond.classLink RL 13 "java/lang/IllegalStateException", Cond.methodLink RL 33 yX0_took, Cond.instanceMethod yX0_took, Cond.selects RX0 yX0_took yX0_took, Cond.initialized RX0, Cond.code yX0_took cX0_took 3 (some .int), Cond.classLink RX0 49 "java/lang/IllegalStateException", Cond.initialized "java/lang/IllegalStateException", Cond.fieldLink RX0 89 "LiarTents" "latestCommander" "I", Cond.fieldLink RX0 31 "LiarTents" "latestTook" "[[I", Cond.methodLink RX0 83 yX0_requirePresent, Cond.instanceMethod yX0_requirePresent, Cond.selects RX0 yX0_requirePresent yX0_requirePresent, Cond.code yX0_requirePresent cX0_requirePresent 2 none, Cond.classLink RX0 60 "java/lang/IndexOutOfBoundsException", Cond.initialized "java/lang/IndexOutOfBoundsException", Cond.fieldLink RX0 133 "LiarTents" "councils" "I", Cond.fieldLink RX0 145 "LiarTents" "latestGenerals" "I", Cond.methodLink RX0 56 yX0_requireGeneral, Cond.instanceMethod yX0_requireGeneral, Cond.selects RX0 yX0_requireGeneral yX0_requireGeneral, Cond.code yX0_requireGeneral cX0_requireGeneral 2 none, Cond.methodLink RX0 148 yX0_isGeneral]
def wsL_took_r2 : List Cond := [Cond.instanceMethod yX0_isGeneral, Cond.selects RX0 yX0_isGeneral yX0_isGeneral, Cond.code yX0_isGeneral cX0_isGeneral 2 (some .boolean), Cond.fieldLink RX0 46 "LiarTents" "generals" "I", Cond.methodLink RX0 86 yX0_requireCouncil, Cond.instanceMethod yX0_requireCouncil, Cond.selects RX0 yX0_requireCouncil yX0_requireCouncil, Cond.code yX0_requireCouncil cX0_requireCouncil 1 none]
def wsL_took : List Cond := .codeWith yL_took cL_took 5 (some .int) [(0, 10, 13, 19), (0, 10, 17, 13)] :: ((wsL_took_r1 ++ wsL_took_r2) ++ wsX00 ++ (vx_atS RX0 53 "java/lang/IllegalStateException" ["java/lang/RuntimeException", "java/lang/Exception"]).filter goodWord ++ (vx_atS RX0 64 "java/lang/IndexOutOfBoundsException" ["java/lang/RuntimeException", "java/lang/Exception"]).filter goodWord)
def wsL_count_r1 : List Cond := [Cond.classLink RL 19 "java/lang/IndexOutOfBoundsException", Cond.methodLink RL 36 yX0_count, Cond.instanceMethod yX0_count, Cond.selects RX0 yX0_count yX0_count, Cond.initialized RX0, Cond.code yX0_count cX0_count 2 (some .int), Cond.classLink RX0 60 "java/lang/IndexOutOfBoundsException", Cond.initialized "java/lang/IndexOutOfBoundsException", Cond.methodLink RX0 96 yX0_counted, Cond.instanceMethod yX0_counted, Cond.selects RX0 yX0_counted yX0_counted, Cond.code yX0_counted cX0_counted 2 (some .int), Cond.fieldLink RX0 46 "LiarTents" "generals" "I", Cond.fieldLink RX0 7 "LiarTents" "rounds" "I", Cond.fieldLink RX0 133 "LiarTents" "councils" "I", Cond.methodLink RX0 187 yX0_liarsNow, Cond.instanceMethod yX0_liarsNow, Cond.selects RX0 yX0_liarsNow yX0_liarsNow, Cond.code yX0_liarsNow cX0_liarsNow 3 (some .int), Cond.fieldLink RX0 13 "LiarTents" "kinds" "[I", Cond.methodLink RX0 191 yX0_countedOfLatest, Cond.instanceMethod yX0_countedOfLatest, Cond.selects RX0 yX0_countedOfLatest yX0_countedOfLatest, Cond.code yX0_countedOfLatest cX0_countedOfLatest 2 (some .int)]
def wsL_count_r2 : List Cond := [Cond.fieldLink RX0 184 "LiarTents" "latestMessengers" "I", Cond.fieldLink RX0 89 "LiarTents" "latestCommander" "I", Cond.fieldLink RX0 181 "LiarTents" "latestOrder" "I", Cond.methodLink RX0 194 yX0_loyalThatDid, Cond.instanceMethod yX0_loyalThatDid, Cond.selects RX0 yX0_loyalThatDid yX0_loyalThatDid, Cond.code yX0_loyalThatDid cX0_loyalThatDid 4 (some .int), Cond.fieldLink RX0 145 "LiarTents" "latestGenerals" "I", Cond.fieldLink RX0 26 "LiarTents" "latestDone" "[I"]
def wsL_count : List Cond := .codeWith yL_count cL_count 4 (some .int) [(0, 9, 12, 19)] :: ((wsL_count_r1 ++ wsL_count_r2) ++ wsX00 ++ (vx_atS RX0 64 "java/lang/IndexOutOfBoundsException" ["java/lang/RuntimeException", "java/lang/Exception"]).filter goodWord)
def wsL_told_r1 : List Cond := [Cond.classLink RL 19 "java/lang/IndexOutOfBoundsException", Cond.methodLink RL 39 yX0_told, Cond.instanceMethod yX0_told, Cond.selects RX0 yX0_told yX0_told, Cond.initialized RX0, Cond.code yX0_told cX0_told 3 (some .int), Cond.classLink RX0 60 "java/lang/IndexOutOfBoundsException", Cond.initialized "java/lang/IndexOutOfBoundsException", Cond.methodLink RX0 56 yX0_requireGeneral, Cond.instanceMethod yX0_requireGeneral, Cond.selects RX0 yX0_requireGeneral yX0_requireGeneral, Cond.code yX0_requireGeneral cX0_requireGeneral 2 none, Cond.methodLink RX0 148 yX0_isGeneral, Cond.instanceMethod yX0_isGeneral, Cond.selects RX0 yX0_isGeneral yX0_isGeneral, Cond.code yX0_isGeneral cX0_isGeneral 2 (some .boolean), Cond.fieldLink RX0 46 "LiarTents" "generals" "I", Cond.methodLink RX0 102 yX0_toldOf, Cond.instanceMethod yX0_toldOf, Cond.selects RX0 yX0_toldOf yX0_toldOf, Cond.code yX0_toldOf cX0_toldOf 3 (some .int), Cond.fieldLink RX0 13 "LiarTents" "kinds" "[I", Cond.fieldLink RX0 17 "LiarTents" "attacked" "[I", Cond.fieldLink RX0 20 "LiarTents" "commanded" "[I"]
def wsL_told_r2 : List Cond := [Cond.fieldLink RX0 23 "LiarTents" "differed" "[I"]
def wsL_told : List Cond := .codeWith yL_told cL_told 5 (some .int) [(0, 10, 13, 19)] :: ((wsL_told_r1 ++ wsL_told_r2) ++ wsX00 ++ (vx_atS RX0 64 "java/lang/IndexOutOfBoundsException" ["java/lang/RuntimeException", "java/lang/Exception"]).filter goodWord)
def wsL_hears_r1 : List Cond := [Cond.classLink RL 19 "java/lang/IndexOutOfBoundsException", Cond.classLink RL 25 "java/lang/IllegalArgumentException", Cond.methodLink RL 42 yX0_hears, Cond.instanceMethod yX0_hears, Cond.selects RX0 yX0_hears yX0_hears, Cond.initialized RX0, Cond.code yX0_hears cX0_hears 4 (some .int), Cond.classLink RX0 105 "java/lang/IllegalArgumentException", Cond.initialized "java/lang/IllegalArgumentException", Cond.fieldLink RX0 13 "LiarTents" "kinds" "[I", Cond.methodLink RX0 56 yX0_requireGeneral, Cond.instanceMethod yX0_requireGeneral, Cond.selects RX0 yX0_requireGeneral yX0_requireGeneral, Cond.code yX0_requireGeneral cX0_requireGeneral 2 none, Cond.classLink RX0 60 "java/lang/IndexOutOfBoundsException", Cond.initialized "java/lang/IndexOutOfBoundsException", Cond.methodLink RX0 148 yX0_isGeneral, Cond.instanceMethod yX0_isGeneral, Cond.selects RX0 yX0_isGeneral yX0_isGeneral, Cond.code yX0_isGeneral cX0_isGeneral 2 (some .boolean), Cond.fieldLink RX0 46 "LiarTents" "generals" "I", Cond.methodLink RX0 68 yX0_requireOrder, Cond.static yX0_requireOrder, Cond.code yX0_requireOrder cX0_requireOrder 1 none]
def wsL_hears_r2 : List Cond := [Cond.methodLink RX0 110 yX0_said, Cond.static yX0_said, Cond.code yX0_said cX0_said 4 (some .int)]
def wsL_hears : List Cond := .codeWith yL_hears cL_hears 6 (some .int) [(0, 12, 15, 19), (0, 12, 19, 25)] :: ((wsL_hears_r1 ++ wsL_hears_r2) ++ wsX00 ++ (vx_atS RX0 109 "java/lang/IllegalArgumentException" ["java/lang/RuntimeException", "java/lang/Exception"]).filter goodWord ++ (vx_atS RX0 64 "java/lang/IndexOutOfBoundsException" ["java/lang/RuntimeException", "java/lang/Exception"]).filter goodWord)
def wsL_would_r1 : List Cond := [Cond.classLink RL 19 "java/lang/IndexOutOfBoundsException", Cond.classLink RL 25 "java/lang/IllegalArgumentException", Cond.methodLink RL 46 yX0_would, Cond.instanceMethod yX0_would, Cond.selects RX0 yX0_would yX0_would, Cond.initialized RX0, Cond.code yX0_would cX0_would 4 (some .int), Cond.fieldLink RX0 7 "LiarTents" "rounds" "I", Cond.methodLink RX0 56 yX0_requireGeneral, Cond.instanceMethod yX0_requireGeneral, Cond.selects RX0 yX0_requireGeneral yX0_requireGeneral, Cond.code yX0_requireGeneral cX0_requireGeneral 2 none, Cond.classLink RX0 60 "java/lang/IndexOutOfBoundsException", Cond.initialized "java/lang/IndexOutOfBoundsException", Cond.methodLink RX0 148 yX0_isGeneral, Cond.instanceMethod yX0_isGeneral, Cond.selects RX0 yX0_isGeneral yX0_isGeneral, Cond.code yX0_isGeneral cX0_isGeneral 2 (some .boolean), Cond.fieldLink RX0 46 "LiarTents" "generals" "I", Cond.methodLink RX0 68 yX0_requireOrder, Cond.static yX0_requireOrder, Cond.code yX0_requireOrder cX0_requireOrder 1 none, Cond.classLink RX0 105 "java/lang/IllegalArgumentException", Cond.initialized "java/lang/IllegalArgumentException"]
def wsL_would_r2 : List Cond := [Cond.methodLink RX0 71 yX0_workOut, Cond.instanceMethod yX0_workOut, Cond.selects RX0 yX0_workOut yX0_workOut, Cond.code yX0_workOut cX0_workOut 6 none, Cond.fieldLink RX0 43 "LiarTents" "tookOf" "[[I", Cond.fieldLink RX0 34 "LiarTents" "heard" "[[I", Cond.methodLink RX0 161 yX0_agree, Cond.instanceMethod yX0_agree, Cond.selects RX0 yX0_agree yX0_agree, Cond.code yX0_agree cX0_agree 8 none, Cond.methodLink RX0 165 yX0_hearCommander, Cond.instanceMethod yX0_hearCommander, Cond.selects RX0 yX0_hearCommander yX0_hearCommander, Cond.code yX0_hearCommander cX0_hearCommander 7 none, Cond.fieldLink RX0 13 "LiarTents" "kinds" "[I", Cond.fieldLink RX0 37 "LiarTents" "balance" "[[I", Cond.methodLink RX0 169 yX0_isAmong, Cond.static yX0_isAmong, Cond.code yX0_isAmong cX0_isAmong 2 (some .boolean), Cond.methodLink RX0 110 yX0_said, Cond.static yX0_said, Cond.code yX0_said cX0_said 4 (some .int), Cond.methodLink RX0 178 yX0_weight, Cond.static yX0_weight]
def wsL_would_r3 : List Cond := [Cond.code yX0_weight cX0_weight 1 (some .int), Cond.methodLink RX0 172 yX0_weighRetold, Cond.instanceMethod yX0_weighRetold, Cond.selects RX0 yX0_weighRetold yX0_weighRetold, Cond.code yX0_weighRetold cX0_weighRetold 6 none, Cond.fieldLink RX0 40 "LiarTents" "taken" "[[I", Cond.methodLink RX0 175 yX0_takeMajority, Cond.instanceMethod yX0_takeMajority, Cond.selects RX0 yX0_takeMajority yX0_takeMajority, Cond.code yX0_takeMajority cX0_takeMajority 4 none, Cond.methodLink RX0 114 yX0_orderDone, Cond.instanceMethod yX0_orderDone, Cond.selects RX0 yX0_orderDone yX0_orderDone, Cond.code yX0_orderDone cX0_orderDone 4 (some .int)]
def wsL_would : List Cond := .codeWith yL_would cL_would 6 (some .int) [(0, 12, 15, 19), (0, 12, 19, 25)] :: ((wsL_would_r1 ++ (wsL_would_r2 ++ wsL_would_r3)) ++ wsX00 ++ (vx_atS RX0 64 "java/lang/IndexOutOfBoundsException" ["java/lang/RuntimeException", "java/lang/Exception"]).filter goodWord ++ (vx_atS RX0 109 "java/lang/IllegalArgumentException" ["java/lang/RuntimeException", "java/lang/Exception"]).filter goodWord)
def wsL_agrees_r1 : List Cond := [Cond.classLink RL 19 "java/lang/IndexOutOfBoundsException", Cond.classLink RL 25 "java/lang/IllegalArgumentException", Cond.methodLink RL 49 yX0_agrees, Cond.instanceMethod yX0_agrees, Cond.selects RX0 yX0_agrees yX0_agrees, Cond.initialized RX0, Cond.code yX0_agrees cX0_agrees 3 (some .boolean), Cond.fieldLink RX0 7 "LiarTents" "rounds" "I", Cond.methodLink RX0 56 yX0_requireGeneral, Cond.instanceMethod yX0_requireGeneral, Cond.selects RX0 yX0_requireGeneral yX0_requireGeneral, Cond.code yX0_requireGeneral cX0_requireGeneral 2 none, Cond.classLink RX0 60 "java/lang/IndexOutOfBoundsException", Cond.initialized "java/lang/IndexOutOfBoundsException", Cond.methodLink RX0 148 yX0_isGeneral, Cond.instanceMethod yX0_isGeneral, Cond.selects RX0 yX0_isGeneral yX0_isGeneral, Cond.code yX0_isGeneral cX0_isGeneral 2 (some .boolean), Cond.fieldLink RX0 46 "LiarTents" "generals" "I", Cond.methodLink RX0 68 yX0_requireOrder, Cond.static yX0_requireOrder, Cond.code yX0_requireOrder cX0_requireOrder 1 none, Cond.classLink RX0 105 "java/lang/IllegalArgumentException", Cond.initialized "java/lang/IllegalArgumentException"]
def wsL_agrees_r2 : List Cond := [Cond.methodLink RX0 118 yX0_loyalAgree, Cond.instanceMethod yX0_loyalAgree, Cond.selects RX0 yX0_loyalAgree yX0_loyalAgree, Cond.code yX0_loyalAgree cX0_loyalAgree 7 (some .boolean), Cond.fieldLink RX0 13 "LiarTents" "kinds" "[I", Cond.methodLink RX0 71 yX0_workOut, Cond.instanceMethod yX0_workOut, Cond.selects RX0 yX0_workOut yX0_workOut, Cond.code yX0_workOut cX0_workOut 6 none, Cond.fieldLink RX0 43 "LiarTents" "tookOf" "[[I", Cond.fieldLink RX0 34 "LiarTents" "heard" "[[I", Cond.methodLink RX0 161 yX0_agree, Cond.instanceMethod yX0_agree, Cond.selects RX0 yX0_agree yX0_agree, Cond.code yX0_agree cX0_agree 8 none, Cond.methodLink RX0 165 yX0_hearCommander, Cond.instanceMethod yX0_hearCommander, Cond.selects RX0 yX0_hearCommander yX0_hearCommander, Cond.code yX0_hearCommander cX0_hearCommander 7 none, Cond.fieldLink RX0 37 "LiarTents" "balance" "[[I", Cond.methodLink RX0 169 yX0_isAmong, Cond.static yX0_isAmong, Cond.code yX0_isAmong cX0_isAmong 2 (some .boolean), Cond.methodLink RX0 110 yX0_said]
def wsL_agrees_r3 : List Cond := [Cond.static yX0_said, Cond.code yX0_said cX0_said 4 (some .int), Cond.methodLink RX0 178 yX0_weight, Cond.static yX0_weight, Cond.code yX0_weight cX0_weight 1 (some .int), Cond.methodLink RX0 172 yX0_weighRetold, Cond.instanceMethod yX0_weighRetold, Cond.selects RX0 yX0_weighRetold yX0_weighRetold, Cond.code yX0_weighRetold cX0_weighRetold 6 none, Cond.fieldLink RX0 40 "LiarTents" "taken" "[[I", Cond.methodLink RX0 175 yX0_takeMajority, Cond.instanceMethod yX0_takeMajority, Cond.selects RX0 yX0_takeMajority yX0_takeMajority, Cond.code yX0_takeMajority cX0_takeMajority 4 none, Cond.methodLink RX0 114 yX0_orderDone, Cond.instanceMethod yX0_orderDone, Cond.selects RX0 yX0_orderDone yX0_orderDone, Cond.code yX0_orderDone cX0_orderDone 4 (some .int)]
def wsL_agrees : List Cond := .codeWith yL_agrees cL_agrees 5 (some .int) [(0, 17, 20, 19), (0, 17, 24, 25)] :: ((wsL_agrees_r1 ++ (wsL_agrees_r2 ++ wsL_agrees_r3)) ++ wsX00 ++ (vx_atS RX0 64 "java/lang/IndexOutOfBoundsException" ["java/lang/RuntimeException", "java/lang/Exception"]).filter goodWord ++ (vx_atS RX0 109 "java/lang/IllegalArgumentException" ["java/lang/RuntimeException", "java/lang/Exception"]).filter goodWord)
def wsL_messengers : List Cond := .codeWith yL_messengers cL_messengers 4 (some .int) [(0, 9, 12, 25)] :: ([.classLink RL 25 "java/lang/IllegalArgumentException", .methodLink RL 53 yX0_messengers, .instanceMethod yX0_messengers, .selects RX0 yX0_messengers yX0_messengers, .initialized RX0, .code yX0_messengers cX0_messengers 2 (some .int), .fieldLink RX0 46 "LiarTents" "generals" "I", .methodLink RX0 65 yX0_requireRounds, .static yX0_requireRounds, .code yX0_requireRounds cX0_requireRounds 1 none, .classLink RX0 105 "java/lang/IllegalArgumentException", .initialized "java/lang/IllegalArgumentException", .methodLink RX0 122 yX0_messengersAmong, .static yX0_messengersAmong, .code yX0_messengersAmong cX0_messengersAmong 5 (some .int)] ++ wsX00 ++ (vx_atS RX0 109 "java/lang/IllegalArgumentException" ["java/lang/RuntimeException", "java/lang/Exception"]).filter goodWord)
def wsL_found_r1 : List Cond := [Cond.classLink RL 19 "java/lang/IndexOutOfBoundsException", Cond.methodLink RL 56 yX0_found, Cond.instanceMethod yX0_found, Cond.selects RX0 yX0_found yX0_found, Cond.initialized RX0, Cond.code yX0_found cX0_found 4 (some .int), Cond.fieldLink RX0 46 "LiarTents" "generals" "I", Cond.methodLink RX0 56 yX0_requireGeneral, Cond.instanceMethod yX0_requireGeneral, Cond.selects RX0 yX0_requireGeneral yX0_requireGeneral, Cond.code yX0_requireGeneral cX0_requireGeneral 2 none, Cond.classLink RX0 60 "java/lang/IndexOutOfBoundsException", Cond.initialized "java/lang/IndexOutOfBoundsException", Cond.methodLink RX0 148 yX0_isGeneral, Cond.instanceMethod yX0_isGeneral, Cond.selects RX0 yX0_isGeneral yX0_isGeneral, Cond.code yX0_isGeneral cX0_isGeneral 2 (some .boolean), Cond.methodLink RX0 129 yX0_hearsLie, Cond.instanceMethod yX0_hearsLie, Cond.selects RX0 yX0_hearsLie yX0_hearsLie, Cond.code yX0_hearsLie cX0_hearsLie 4 (some .boolean), Cond.fieldLink RX0 13 "LiarTents" "kinds" "[I", Cond.methodLink RX0 110 yX0_said, Cond.static yX0_said]
def wsL_found_r2 : List Cond := [Cond.code yX0_said cX0_said 4 (some .int)]
def wsL_found : List Cond := .codeWith yL_found cL_found 4 (some .int) [(0, 9, 12, 19)] :: ((wsL_found_r1 ++ wsL_found_r2) ++ wsX00 ++ (vx_atS RX0 64 "java/lang/IndexOutOfBoundsException" ["java/lang/RuntimeException", "java/lang/Exception"]).filter goodWord)
def wsL_law0_r1 : List Cond := [Cond.classLink RL 8 RX0, Cond.instantiable RX0 18, Cond.initialized RX0, Cond.classLink RL 60 RX1, Cond.instantiable RX1 12, Cond.initialized RX1, Cond.arrayClass .long, Cond.methodLink RL 59 yX0_init, Cond.instanceMethod yX0_init, Cond.code yX0_init cX0_init 1 none, Cond.methodLink RX0 1 objectInit, Cond.instanceMethod objectInit, Cond.code objectInit ⟨#[0xb1]⟩ 1 none, Cond.fieldLink RX0 7 "LiarTents" "rounds" "I", Cond.arrayClass .int, Cond.fieldLink RX0 13 "LiarTents" "kinds" "[I", Cond.fieldLink RX0 17 "LiarTents" "attacked" "[I", Cond.fieldLink RX0 20 "LiarTents" "commanded" "[I", Cond.fieldLink RX0 23 "LiarTents" "differed" "[I", Cond.fieldLink RX0 26 "LiarTents" "latestDone" "[I", Cond.classLink RX0 29 "[[I", Cond.fieldLink RX0 31 "LiarTents" "latestTook" "[[I", Cond.fieldLink RX0 34 "LiarTents" "heard" "[[I", Cond.fieldLink RX0 37 "LiarTents" "balance" "[[I"]
def wsL_law0_r2 : List Cond := [Cond.fieldLink RX0 40 "LiarTents" "taken" "[[I", Cond.fieldLink RX0 43 "LiarTents" "tookOf" "[[I", Cond.methodLink RL 62 yX1_init, Cond.instanceMethod yX1_init, Cond.code yX1_init cX1_init 1 none, Cond.methodLink RX1 1 objectInit, Cond.fieldLink RX1 7 "LiarTentsModel" "rounds" "I", Cond.fieldLink RX1 13 "LiarTentsModel" "kind" "[I", Cond.classLink RX1 17 "[[I", Cond.fieldLink RX1 19 "LiarTentsModel" "often" "[[I", Cond.fieldLink RX1 22 "LiarTentsModel" "commander" "I", Cond.fieldLink RX1 25 "LiarTentsModel" "ordered" "I", Cond.fieldLink RX1 28 "LiarTentsModel" "runs" "I", Cond.fieldLink RX1 31 "LiarTentsModel" "did" "[I", Cond.fieldLink RX1 34 "LiarTentsModel" "from" "[[I", Cond.methodLink RL 63 yL_come, Cond.static yL_come, Cond.initialized RL, Cond.codeWith yL_come cL_come 3 (some .int) [(0, 8, 11, 13)], Cond.classLink RL 13 "java/lang/IllegalStateException", Cond.methodLink RL 7 yX0_come, Cond.instanceMethod yX0_come, Cond.selects RX0 yX0_come yX0_come, Cond.code yX0_come cX0_come 2 (some .int)]
def wsL_law0_r3 : List Cond := [Cond.classLink RX0 49 "java/lang/IllegalStateException", Cond.initialized "java/lang/IllegalStateException", Cond.fieldLink RX0 46 "LiarTents" "generals" "I", Cond.methodLink RL 68 yX1_come, Cond.instanceMethod yX1_come, Cond.selects RX1 yX1_come yX1_come, Cond.code yX1_come cX1_come 1 (some .int), Cond.fieldLink RX1 37 "LiarTentsModel" "thrown" "I", Cond.fieldLink RX1 40 "LiarTentsModel" "generals" "I", Cond.methodLink RX1 72 yX1_no, Cond.instanceMethod yX1_no, Cond.selects RX1 yX1_no yX1_no, Cond.code yX1_no cX1_no 2 (some .int), Cond.methodLink RL 69 yX1_thrown, Cond.instanceMethod yX1_thrown, Cond.selects RX1 yX1_thrown yX1_thrown, Cond.code yX1_thrown cX1_thrown 1 (some .int), Cond.methodLink RL 72 yL_setKind, Cond.static yL_setKind, Cond.codeWith yL_setKind cL_setKind 5 (some .int) [(0, 10, 13, 19)], Cond.classLink RL 19 "java/lang/IndexOutOfBoundsException", Cond.methodLink RL 15 yX0_setKind, Cond.instanceMethod yX0_setKind, Cond.selects RX0 yX0_setKind yX0_setKind]
def wsL_law0_r4 : List Cond := [Cond.code yX0_setKind cX0_setKind 4 (some .int), Cond.classLink RX0 60 "java/lang/IndexOutOfBoundsException", Cond.initialized "java/lang/IndexOutOfBoundsException", Cond.methodLink RX0 56 yX0_requireGeneral, Cond.instanceMethod yX0_requireGeneral, Cond.selects RX0 yX0_requireGeneral yX0_requireGeneral, Cond.code yX0_requireGeneral cX0_requireGeneral 2 none, Cond.methodLink RX0 148 yX0_isGeneral, Cond.instanceMethod yX0_isGeneral, Cond.selects RX0 yX0_isGeneral yX0_isGeneral, Cond.code yX0_isGeneral cX0_isGeneral 2 (some .boolean), Cond.methodLink RL 75 yX1_setKind, Cond.instanceMethod yX1_setKind, Cond.selects RX1 yX1_setKind yX1_setKind, Cond.code yX1_setKind cX1_setKind 4 (some .int), Cond.methodLink RX1 76 yX1_isGeneral, Cond.instanceMethod yX1_isGeneral, Cond.selects RX1 yX1_isGeneral yX1_isGeneral, Cond.code yX1_isGeneral cX1_isGeneral 2 (some .boolean), Cond.methodLink RX1 43 yX1_isIn, Cond.static yX1_isIn, Cond.code yX1_isIn cX1_isIn 3 (some .boolean), Cond.methodLink RL 76 yL_setRounds, Cond.static yL_setRounds]
def wsL_law0_r5 : List Cond := [Cond.codeWith yL_setRounds cL_setRounds 4 (some .int) [(0, 9, 12, 25)], Cond.classLink RL 25 "java/lang/IllegalArgumentException", Cond.methodLink RL 21 yX0_setRounds, Cond.instanceMethod yX0_setRounds, Cond.selects RX0 yX0_setRounds yX0_setRounds, Cond.code yX0_setRounds cX0_setRounds 3 (some .int), Cond.methodLink RX0 65 yX0_requireRounds, Cond.static yX0_requireRounds, Cond.code yX0_requireRounds cX0_requireRounds 1 none, Cond.classLink RX0 105 "java/lang/IllegalArgumentException", Cond.initialized "java/lang/IllegalArgumentException", Cond.methodLink RL 79 yX1_setRounds, Cond.instanceMethod yX1_setRounds, Cond.selects RX1 yX1_setRounds yX1_setRounds, Cond.code yX1_setRounds cX1_setRounds 3 (some .int), Cond.methodLink RL 80 yL_hold, Cond.static yL_hold, Cond.codeWith yL_hold cL_hold 5 (some .int) [(0, 10, 13, 19), (0, 10, 17, 25)], Cond.methodLink RL 27 yX0_hold, Cond.instanceMethod yX0_hold, Cond.selects RX0 yX0_hold yX0_hold, Cond.code yX0_hold cX0_hold 3 (some .int), Cond.methodLink RX0 68 yX0_requireOrder, Cond.static yX0_requireOrder]
def wsL_law0_r6 : List Cond := [Cond.code yX0_requireOrder cX0_requireOrder 1 none, Cond.methodLink RX0 71 yX0_workOut, Cond.instanceMethod yX0_workOut, Cond.selects RX0 yX0_workOut yX0_workOut, Cond.code yX0_workOut cX0_workOut 6 none, Cond.methodLink RX0 161 yX0_agree, Cond.instanceMethod yX0_agree, Cond.selects RX0 yX0_agree yX0_agree, Cond.code yX0_agree cX0_agree 8 none, Cond.methodLink RX0 165 yX0_hearCommander, Cond.instanceMethod yX0_hearCommander, Cond.selects RX0 yX0_hearCommander yX0_hearCommander, Cond.code yX0_hearCommander cX0_hearCommander 7 none, Cond.methodLink RX0 169 yX0_isAmong, Cond.static yX0_isAmong, Cond.code yX0_isAmong cX0_isAmong 2 (some .boolean), Cond.methodLink RX0 110 yX0_said, Cond.static yX0_said, Cond.code yX0_said cX0_said 4 (some .int), Cond.methodLink RX0 178 yX0_weight, Cond.static yX0_weight, Cond.code yX0_weight cX0_weight 1 (some .int), Cond.methodLink RX0 172 yX0_weighRetold, Cond.instanceMethod yX0_weighRetold]
def wsL_law0_r7 : List Cond := [Cond.selects RX0 yX0_weighRetold yX0_weighRetold, Cond.code yX0_weighRetold cX0_weighRetold 6 none, Cond.methodLink RX0 175 yX0_takeMajority, Cond.instanceMethod yX0_takeMajority, Cond.selects RX0 yX0_takeMajority yX0_takeMajority, Cond.code yX0_takeMajority cX0_takeMajority 4 none, Cond.methodLink RX0 75 yX0_keepAsLatest, Cond.instanceMethod yX0_keepAsLatest, Cond.selects RX0 yX0_keepAsLatest yX0_keepAsLatest, Cond.code yX0_keepAsLatest cX0_keepAsLatest 5 none, Cond.fieldLink RX0 145 "LiarTents" "latestGenerals" "I", Cond.fieldLink RX0 89 "LiarTents" "latestCommander" "I", Cond.fieldLink RX0 181 "LiarTents" "latestOrder" "I", Cond.fieldLink RX0 184 "LiarTents" "latestMessengers" "I", Cond.methodLink RX0 122 yX0_messengersAmong, Cond.static yX0_messengersAmong, Cond.code yX0_messengersAmong cX0_messengersAmong 5 (some .int), Cond.methodLink RX0 114 yX0_orderDone, Cond.instanceMethod yX0_orderDone, Cond.selects RX0 yX0_orderDone yX0_orderDone, Cond.code yX0_orderDone cX0_orderDone 4 (some .int), Cond.methodLink RX0 79 yX0_enterCouncil, Cond.instanceMethod yX0_enterCouncil, Cond.selects RX0 yX0_enterCouncil yX0_enterCouncil]
def wsL_law0_r8 : List Cond := [Cond.code yX0_enterCouncil cX0_enterCouncil 6 (some .int), Cond.fieldLink RX0 133 "LiarTents" "councils" "I", Cond.fieldLink RX0 136 "LiarTents" "attacksInAll" "I", Cond.methodLink RL 82 yX1_hold, Cond.instanceMethod yX1_hold, Cond.selects RX1 yX1_hold yX1_hold, Cond.code yX1_hold cX1_hold 6 (some .int), Cond.fieldLink RX1 84 "LiarTentsModel" "there" "I", Cond.fieldLink RX1 87 "LiarTentsModel" "councils" "I", Cond.methodLink RX1 68 yX1_council, Cond.instanceMethod yX1_council, Cond.selects RX1 yX1_council yX1_council, Cond.code yX1_council cX1_council 5 (some (.array .int)), Cond.methodLink RX1 60 yX1_all, Cond.instanceMethod yX1_all, Cond.selects RX1 yX1_all yX1_all, Cond.code yX1_all cX1_all 1 (some .int), Cond.methodLink RX1 52 yX1_agreement, Cond.instanceMethod yX1_agreement, Cond.selects RX1 yX1_agreement yX1_agreement, Cond.code yX1_agreement cX1_agreement 10 (some (.array .int)), Cond.classLink RX1 47 "[I", Cond.methodLink RX1 56 yX1_retold, Cond.instanceMethod yX1_retold]
def wsL_law0_r9 : List Cond := [Cond.selects RX1 yX1_retold yX1_retold, Cond.methodLink RX1 48 yX1_heard, Cond.instanceMethod yX1_heard, Cond.selects RX1 yX1_heard yX1_heard, Cond.code yX1_heard cX1_heard 4 (some .int), Cond.code yX1_retold cX1_retold 8 (some (.array (.array .int))), Cond.methodLink RX1 80 yX1_keep, Cond.instanceMethod yX1_keep, Cond.selects RX1 yX1_keep yX1_keep, Cond.code yX1_keep cX1_keep 6 none, Cond.methodLink RX1 64 yX1_runners, Cond.static yX1_runners, Cond.code yX1_runners cX1_runners 2 (some .int), Cond.methodLink RL 83 yL_does, Cond.static yL_does, Cond.codeWith yL_does cL_does 4 (some .int) [(0, 9, 12, 19), (0, 9, 15, 13)], Cond.methodLink RL 30 yX0_does, Cond.instanceMethod yX0_does, Cond.selects RX0 yX0_does yX0_does, Cond.code yX0_does cX0_does 2 (some .int), Cond.methodLink RX0 83 yX0_requirePresent, Cond.instanceMethod yX0_requirePresent, Cond.selects RX0 yX0_requirePresent yX0_requirePresent, Cond.code yX0_requirePresent cX0_requirePresent 2 none]
def wsL_law0_r10 : List Cond := [Cond.methodLink RX0 86 yX0_requireCouncil, Cond.instanceMethod yX0_requireCouncil, Cond.selects RX0 yX0_requireCouncil yX0_requireCouncil, Cond.code yX0_requireCouncil cX0_requireCouncil 1 none, Cond.methodLink RL 85 yX1_does, Cond.instanceMethod yX1_does, Cond.selects RX1 yX1_does yX1_does, Cond.code yX1_does cX1_does 2 (some .int), Cond.methodLink RX1 90 yX1_wasThere, Cond.instanceMethod yX1_wasThere, Cond.selects RX1 yX1_wasThere yX1_wasThere, Cond.code yX1_wasThere cX1_wasThere 2 (some .boolean), Cond.methodLink RL 86 yL_took, Cond.static yL_took, Cond.codeWith yL_took cL_took 5 (some .int) [(0, 10, 13, 19), (0, 10, 17, 13)], Cond.methodLink RL 33 yX0_took, Cond.instanceMethod yX0_took, Cond.selects RX0 yX0_took yX0_took, Cond.code yX0_took cX0_took 3 (some .int), Cond.methodLink RL 88 yX1_took, Cond.instanceMethod yX1_took, Cond.selects RX1 yX1_took yX1_took, Cond.code yX1_took cX1_took 3 (some .int), Cond.methodLink RL 89 yL_count]
def wsL_law0_r11 : List Cond := [Cond.static yL_count, Cond.codeWith yL_count cL_count 4 (some .int) [(0, 9, 12, 19)], Cond.methodLink RL 36 yX0_count, Cond.instanceMethod yX0_count, Cond.selects RX0 yX0_count yX0_count, Cond.code yX0_count cX0_count 2 (some .int), Cond.methodLink RX0 96 yX0_counted, Cond.instanceMethod yX0_counted, Cond.selects RX0 yX0_counted yX0_counted, Cond.code yX0_counted cX0_counted 2 (some .int), Cond.methodLink RX0 187 yX0_liarsNow, Cond.instanceMethod yX0_liarsNow, Cond.selects RX0 yX0_liarsNow yX0_liarsNow, Cond.code yX0_liarsNow cX0_liarsNow 3 (some .int), Cond.methodLink RX0 191 yX0_countedOfLatest, Cond.instanceMethod yX0_countedOfLatest, Cond.selects RX0 yX0_countedOfLatest yX0_countedOfLatest, Cond.code yX0_countedOfLatest cX0_countedOfLatest 2 (some .int), Cond.methodLink RX0 194 yX0_loyalThatDid, Cond.instanceMethod yX0_loyalThatDid, Cond.selects RX0 yX0_loyalThatDid yX0_loyalThatDid, Cond.code yX0_loyalThatDid cX0_loyalThatDid 4 (some .int), Cond.methodLink RL 91 yX1_count, Cond.instanceMethod yX1_count]
def wsL_law0_r12 : List Cond := [Cond.selects RX1 yX1_count yX1_count, Cond.code yX1_count cX1_count 2 (some .int), Cond.methodLink RX1 96 yX1_counted, Cond.instanceMethod yX1_counted, Cond.selects RX1 yX1_counted yX1_counted, Cond.code yX1_counted cX1_counted 7 (some .int), Cond.methodLink RX1 93 yX1_loyalThatDo, Cond.instanceMethod yX1_loyalThatDo, Cond.selects RX1 yX1_loyalThatDo yX1_loyalThatDo, Cond.code yX1_loyalThatDo cX1_loyalThatDo 4 (some .int), Cond.methodLink RL 92 yL_told, Cond.static yL_told, Cond.codeWith yL_told cL_told 5 (some .int) [(0, 10, 13, 19)], Cond.methodLink RL 39 yX0_told, Cond.instanceMethod yX0_told, Cond.selects RX0 yX0_told yX0_told, Cond.code yX0_told cX0_told 3 (some .int), Cond.methodLink RX0 102 yX0_toldOf, Cond.instanceMethod yX0_toldOf, Cond.selects RX0 yX0_toldOf yX0_toldOf, Cond.code yX0_toldOf cX0_toldOf 3 (some .int), Cond.methodLink RL 94 yX1_told, Cond.instanceMethod yX1_told, Cond.selects RX1 yX1_told yX1_told]
def wsL_law0_r13 : List Cond := [Cond.code yX1_told cX1_told 3 (some .int), Cond.methodLink RX1 99 yX1_generalTold, Cond.instanceMethod yX1_generalTold, Cond.selects RX1 yX1_generalTold yX1_generalTold, Cond.code yX1_generalTold cX1_generalTold 3 (some .int), Cond.methodLink RL 95 yL_hears, Cond.static yL_hears, Cond.codeWith yL_hears cL_hears 6 (some .int) [(0, 12, 15, 19), (0, 12, 19, 25)], Cond.methodLink RL 42 yX0_hears, Cond.instanceMethod yX0_hears, Cond.selects RX0 yX0_hears yX0_hears, Cond.code yX0_hears cX0_hears 4 (some .int), Cond.methodLink RL 98 yX1_hears, Cond.instanceMethod yX1_hears, Cond.selects RX1 yX1_hears yX1_hears, Cond.code yX1_hears cX1_hears 4 (some .int), Cond.methodLink RL 99 yL_would, Cond.static yL_would, Cond.codeWith yL_would cL_would 6 (some .int) [(0, 12, 15, 19), (0, 12, 19, 25)], Cond.methodLink RL 46 yX0_would, Cond.instanceMethod yX0_would, Cond.selects RX0 yX0_would yX0_would, Cond.code yX0_would cX0_would 4 (some .int), Cond.methodLink RL 101 yX1_would]
def wsL_law0_r14 : List Cond := [Cond.instanceMethod yX1_would, Cond.selects RX1 yX1_would yX1_would, Cond.code yX1_would cX1_would 4 (some .int), Cond.methodLink RL 102 yL_agrees, Cond.static yL_agrees, Cond.codeWith yL_agrees cL_agrees 5 (some .int) [(0, 17, 20, 19), (0, 17, 24, 25)], Cond.methodLink RL 49 yX0_agrees, Cond.instanceMethod yX0_agrees, Cond.selects RX0 yX0_agrees yX0_agrees, Cond.code yX0_agrees cX0_agrees 3 (some .boolean), Cond.methodLink RX0 118 yX0_loyalAgree, Cond.instanceMethod yX0_loyalAgree, Cond.selects RX0 yX0_loyalAgree yX0_loyalAgree, Cond.code yX0_loyalAgree cX0_loyalAgree 7 (some .boolean), Cond.methodLink RL 104 yX1_agrees, Cond.instanceMethod yX1_agrees, Cond.selects RX1 yX1_agrees yX1_agrees, Cond.code yX1_agrees cX1_agrees 3 (some .boolean), Cond.methodLink RX1 102 yX1_isAgreed, Cond.instanceMethod yX1_isAgreed, Cond.selects RX1 yX1_isAgreed yX1_isAgreed, Cond.code yX1_isAgreed cX1_isAgreed 7 (some .boolean), Cond.methodLink RL 105 yL_messengers, Cond.static yL_messengers]
def wsL_law0_r15 : List Cond := [Cond.codeWith yL_messengers cL_messengers 4 (some .int) [(0, 9, 12, 25)], Cond.methodLink RL 53 yX0_messengers, Cond.instanceMethod yX0_messengers, Cond.selects RX0 yX0_messengers yX0_messengers, Cond.code yX0_messengers cX0_messengers 2 (some .int), Cond.methodLink RL 107 yX1_messengers, Cond.instanceMethod yX1_messengers, Cond.selects RX1 yX1_messengers yX1_messengers, Cond.code yX1_messengers cX1_messengers 2 (some .int), Cond.methodLink RL 108 yX0_needs, Cond.instanceMethod yX0_needs, Cond.selects RX0 yX0_needs yX0_needs, Cond.code yX0_needs cX0_needs 2 (some .int), Cond.methodLink RX0 125 yX0_alwaysAgree, Cond.instanceMethod yX0_alwaysAgree, Cond.selects RX0 yX0_alwaysAgree yX0_alwaysAgree, Cond.code yX0_alwaysAgree cX0_alwaysAgree 4 (some .boolean), Cond.methodLink RL 111 yX1_needs, Cond.instanceMethod yX1_needs, Cond.selects RX1 yX1_needs yX1_needs, Cond.code yX1_needs cX1_needs 2 (some .int), Cond.methodLink RX1 105 yX1_doesFor, Cond.instanceMethod yX1_doesFor, Cond.selects RX1 yX1_doesFor yX1_doesFor]
def wsL_law0_r16 : List Cond := [Cond.code yX1_doesFor cX1_doesFor 3 (some .boolean), Cond.methodLink RL 112 yL_found, Cond.static yL_found, Cond.codeWith yL_found cL_found 4 (some .int) [(0, 9, 12, 19)], Cond.methodLink RL 56 yX0_found, Cond.instanceMethod yX0_found, Cond.selects RX0 yX0_found yX0_found, Cond.code yX0_found cX0_found 4 (some .int), Cond.methodLink RX0 129 yX0_hearsLie, Cond.instanceMethod yX0_hearsLie, Cond.selects RX0 yX0_hearsLie yX0_hearsLie, Cond.code yX0_hearsLie cX0_hearsLie 4 (some .boolean), Cond.methodLink RL 114 yX1_found, Cond.instanceMethod yX1_found, Cond.selects RX1 yX1_found yX1_found, Cond.code yX1_found cX1_found 4 (some .int), Cond.methodLink RL 115 yX0_mean, Cond.instanceMethod yX0_mean, Cond.selects RX0 yX0_mean yX0_mean, Cond.code yX0_mean cX0_mean 1 (some .double), Cond.methodLink RL 119 yX1_mean, Cond.instanceMethod yX1_mean, Cond.selects RX1 yX1_mean yX1_mean, Cond.code yX1_mean cX1_mean 6 (some .double)]
def wsL_law0_r17 : List Cond := [Cond.methodLink RL 120 yX0_digest, Cond.instanceMethod yX0_digest, Cond.selects RX0 yX0_digest yX0_digest, Cond.code yX0_digest cX0_digest 5 (some .long), Cond.constantLong RX0 139 (1429), Cond.methodLink RX0 141 yX0_mixed, Cond.static yX0_mixed, Cond.code yX0_mixed cX0_mixed 4 (some .long), Cond.constantLong RX0 197 (31), Cond.methodLink RL 124 yX1_digest, Cond.instanceMethod yX1_digest, Cond.selects RX1 yX1_digest yX1_digest, Cond.code yX1_digest cX1_digest 5 (some .long), Cond.constantLong RX1 108 (1429), Cond.constantLong RX1 110 (31)]
def wsL_law0 : List Cond := (wsL_law0_r1 ++ (wsL_law0_r2 ++ (wsL_law0_r3 ++ (wsL_law0_r4 ++ (wsL_law0_r5 ++ (wsL_law0_r6 ++ (wsL_law0_r7 ++ (wsL_law0_r8 ++ (wsL_law0_r9 ++ (wsL_law0_r10 ++ (wsL_law0_r11 ++ (wsL_law0_r12 ++ (wsL_law0_r13 ++ (wsL_law0_r14 ++ (wsL_law0_r15 ++ (wsL_law0_r16 ++ wsL_law0_r17)))))))))))))))) ++ wsX00 ++ wsX10 ++ ([] : List Cond)
def wsL_law : List Cond := wsL_law0 ++ (vx_atS RX0 53 "java/lang/IllegalStateException" ["java/lang/RuntimeException", "java/lang/Exception"]).filter goodWord ++ (vx_atS RX0 64 "java/lang/IndexOutOfBoundsException" ["java/lang/RuntimeException", "java/lang/Exception"]).filter goodWord ++ (vx_atS RX0 109 "java/lang/IllegalArgumentException" ["java/lang/RuntimeException", "java/lang/Exception"]).filter goodWord
end
section
set_option maxRecDepth 20000 in
theorem wsL_law_c1 : ∀ w ∈ wsL_law0_r1, w ∈ lw_tbl := fun w h => (goodIn_p wsL_law0_r1 [48, 51] (by decide +kernel) (by decide +kernel) w h).1
set_option maxRecDepth 20000 in
theorem wsL_law_c2 : ∀ w ∈ wsL_law0_r2, w ∈ lw_tbl := fun w h => (goodIn_p wsL_law0_r2 [431, 199] (by decide +kernel) (by decide +kernel) w h).1
set_option maxRecDepth 20000 in
theorem wsL_law_c3 : ∀ w ∈ wsL_law0_r3, w ∈ lw_tbl := fun w h => (goodIn_p wsL_law0_r3 [478, 482, 474] (by decide +kernel) (by decide +kernel) w h).1
set_option maxRecDepth 20000 in
theorem wsL_law_c4 : ∀ w ∈ wsL_law0_r4, w ∈ lw_tbl := fun w h => (goodIn_p wsL_law0_r4 [275, 279, 133, 486, 490, 493] (by decide +kernel) (by decide +kernel) w h).1
set_option maxRecDepth 20000 in
theorem wsL_law_c5 : ∀ w ∈ wsL_law0_r5, w ∈ lw_tbl := fun w h => (goodIn_p wsL_law0_r5 [304, 307, 497, 330] (by decide +kernel) (by decide +kernel) w h).1
set_option maxRecDepth 20000 in
theorem wsL_law_c6 : ∀ w ∈ wsL_law0_r6, w ∈ lw_tbl := fun w h => (goodIn_p wsL_law0_r6 [333, 125, 129, 137, 140, 143, 146] (by decide +kernel) (by decide +kernel) w h).1
set_option maxRecDepth 20000 in
theorem wsL_law_c7 : ∀ w ∈ wsL_law0_r7, w ∈ lw_tbl := fun w h => (goodIn_p wsL_law0_r7 [150, 154, 338, 341, 158] (by decide +kernel) (by decide +kernel) w h).1
set_option maxRecDepth 20000 in
theorem wsL_law_c8 : ∀ w ∈ wsL_law0_r8, w ∈ lw_tbl := fun w h => (goodIn_p wsL_law0_r8 [345, 501, 505, 509, 513] (by decide +kernel) (by decide +kernel) w h).1
set_option maxRecDepth 20000 in
theorem wsL_law_c9 : ∀ w ∈ wsL_law0_r9, w ∈ lw_tbl := fun w h => (goodIn_p wsL_law0_r9 [522, 517, 526, 529, 352, 356] (by decide +kernel) (by decide +kernel) w h).1
set_option maxRecDepth 20000 in
theorem wsL_law_c10 : ∀ w ∈ wsL_law0_r10, w ∈ lw_tbl := fun w h => (goodIn_p wsL_law0_r10 [361, 533, 537, 369, 541] (by decide +kernel) (by decide +kernel) w h).1
set_option maxRecDepth 20000 in
theorem wsL_law_c11 : ∀ w ∈ wsL_law0_r11, w ∈ lw_tbl := fun w h => (goodIn_p wsL_law0_r11 [377, 171, 175, 179, 183] (by decide +kernel) (by decide +kernel) w h).1
set_option maxRecDepth 20000 in
theorem wsL_law_c12 : ∀ w ∈ wsL_law0_r12, w ∈ lw_tbl := fun w h => (goodIn_p wsL_law0_r12 [545, 549, 553, 385, 191] (by decide +kernel) (by decide +kernel) w h).1
set_option maxRecDepth 20000 in
theorem wsL_law_c13 : ∀ w ∈ wsL_law0_r13, w ∈ lw_tbl := fun w h => (goodIn_p wsL_law0_r13 [557, 561, 393, 565, 401] (by decide +kernel) (by decide +kernel) w h).1
set_option maxRecDepth 20000 in
theorem wsL_law_c14 : ∀ w ∈ wsL_law0_r14, w ∈ lw_tbl := fun w h => (goodIn_p wsL_law0_r14 [569, 408, 121, 573, 577] (by decide +kernel) (by decide +kernel) w h).1
set_option maxRecDepth 20000 in
theorem wsL_law_c15 : ∀ w ∈ wsL_law0_r15, w ∈ lw_tbl := fun w h => (goodIn_p wsL_law0_r15 [415, 581, 113, 117, 585] (by decide +kernel) (by decide +kernel) w h).1
set_option maxRecDepth 20000 in
theorem wsL_law_c16 : ∀ w ∈ wsL_law0_r16, w ∈ lw_tbl := fun w h => (goodIn_p wsL_law0_r16 [589, 422, 426, 593, 162, 597] (by decide +kernel) (by decide +kernel) w h).1
set_option maxRecDepth 20000 in
theorem wsL_law_c17 : ∀ w ∈ wsL_law0_r17, w ∈ lw_tbl := fun w h => (goodIn_p wsL_law0_r17 [166, 186, 601] (by decide +kernel) (by decide +kernel) w h).1
set_option maxRecDepth 20000 in
theorem wsL_law_f0 : ∀ w ∈ wsX00, w ∈ lw_tbl := by decide +kernel
set_option maxRecDepth 20000 in
theorem wsL_law_f1 : ∀ w ∈ wsX10, w ∈ lw_tbl := by decide +kernel
theorem wsL_law_in0 : ∀ w ∈ wsL_law0, w ∈ lw_tbl := List.forall_mem_append.mpr ⟨List.forall_mem_append.mpr ⟨List.forall_mem_append.mpr ⟨List.forall_mem_append.mpr ⟨wsL_law_c1, List.forall_mem_append.mpr ⟨wsL_law_c2, List.forall_mem_append.mpr ⟨wsL_law_c3, List.forall_mem_append.mpr ⟨wsL_law_c4, List.forall_mem_append.mpr ⟨wsL_law_c5, List.forall_mem_append.mpr ⟨wsL_law_c6, List.forall_mem_append.mpr ⟨wsL_law_c7, List.forall_mem_append.mpr ⟨wsL_law_c8, List.forall_mem_append.mpr ⟨wsL_law_c9, List.forall_mem_append.mpr ⟨wsL_law_c10, List.forall_mem_append.mpr ⟨wsL_law_c11, List.forall_mem_append.mpr ⟨wsL_law_c12, List.forall_mem_append.mpr ⟨wsL_law_c13, List.forall_mem_append.mpr ⟨wsL_law_c14, List.forall_mem_append.mpr ⟨wsL_law_c15, List.forall_mem_append.mpr ⟨wsL_law_c16, wsL_law_c17⟩⟩⟩⟩⟩⟩⟩⟩⟩⟩⟩⟩⟩⟩⟩⟩, wsL_law_f0⟩, wsL_law_f1⟩, fun _ h => absurd h List.not_mem_nil⟩
theorem wsL_law_x0 : ∀ w ∈ (vx_atS RX0 53 "java/lang/IllegalStateException" ["java/lang/RuntimeException", "java/lang/Exception"]).filter goodWord, w ∈ lw_tbl := by decide +kernel
theorem wsL_law_x1 : ∀ w ∈ (vx_atS RX0 64 "java/lang/IndexOutOfBoundsException" ["java/lang/RuntimeException", "java/lang/Exception"]).filter goodWord, w ∈ lw_tbl := by decide +kernel
theorem wsL_law_x2 : ∀ w ∈ (vx_atS RX0 109 "java/lang/IllegalArgumentException" ["java/lang/RuntimeException", "java/lang/Exception"]).filter goodWord, w ∈ lw_tbl := by decide +kernel
theorem wsL_law_in : ∀ w ∈ wsL_law, w ∈ lw_tbl := fun w h => (List.mem_append.mp h).elim (fun h => (List.mem_append.mp h).elim (fun h => (List.mem_append.mp h).elim (fun h => wsL_law_in0 w h) (fun h => wsL_law_x0 w h)) (fun h => wsL_law_x1 w h)) (fun h => wsL_law_x2 w h)
theorem inlX0 : ∀ w ∈ wsX00, w ∈ wsL_law := fun _ h => List.mem_append_left _ (List.mem_append_left _ (List.mem_append_left _ (List.mem_append_left _ (List.mem_append_left _ (List.mem_append_right _ h)))))
theorem inX0 : ∀ w ∈ wsX00, w ∈ lw_tbl := fun w h => wsL_law_in w (inlX0 w h)
theorem inlX1 : ∀ w ∈ wsX10, w ∈ wsL_law := fun _ h => List.mem_append_left _ (List.mem_append_left _ (List.mem_append_left _ (List.mem_append_left _ (List.mem_append_right _ h))))
theorem inX1 : ∀ w ∈ wsX10, w ∈ lw_tbl := fun w h => wsL_law_in w (inlX1 w h)
theorem inJ0 : ∀ w ∈ wsJ00, w ∈ lw_tbl := by decide +kernel
abbrev vwCl : List vw_C := [(RX0, TX0, 18), (RX1, TX1, 12)]
end
section
theorem dX0_init_0 : decode cX0_init 0 = .ok (.aload_n 0, 1) := by decide +kernel
theorem dX0_init_1 : decode cX0_init 1 = .ok (.invokespecial 1, 3) := by decide +kernel
theorem dX0_init_4 : decode cX0_init 4 = .ok (.aload_n 0, 1) := by decide +kernel
theorem dX0_init_5 : decode cX0_init 5 = .ok (.iconst 1, 1) := by decide +kernel
theorem dX0_init_6 : decode cX0_init 6 = .ok (.putfield 7, 3) := by decide +kernel
theorem dX0_init_9 : decode cX0_init 9 = .ok (.aload_n 0, 1) := by decide +kernel
theorem dX0_init_10 : decode cX0_init 10 = .ok (.bipush 7, 2) := by decide +kernel
theorem dX0_init_12 : decode cX0_init 12 = .ok (.newarray .int, 2) := by decide +kernel
theorem dX0_init_14 : decode cX0_init 14 = .ok (.putfield 13, 3) := by decide +kernel
theorem dX0_init_17 : decode cX0_init 17 = .ok (.aload_n 0, 1) := by decide +kernel
theorem dX0_init_18 : decode cX0_init 18 = .ok (.bipush 7, 2) := by decide +kernel
theorem dX0_init_20 : decode cX0_init 20 = .ok (.newarray .int, 2) := by decide +kernel
theorem dX0_init_22 : decode cX0_init 22 = .ok (.putfield 17, 3) := by decide +kernel
theorem dX0_init_25 : decode cX0_init 25 = .ok (.aload_n 0, 1) := by decide +kernel
theorem dX0_init_26 : decode cX0_init 26 = .ok (.bipush 7, 2) := by decide +kernel
theorem dX0_init_28 : decode cX0_init 28 = .ok (.newarray .int, 2) := by decide +kernel
theorem dX0_init_30 : decode cX0_init 30 = .ok (.putfield 20, 3) := by decide +kernel
theorem dX0_init_33 : decode cX0_init 33 = .ok (.aload_n 0, 1) := by decide +kernel
theorem dX0_init_34 : decode cX0_init 34 = .ok (.bipush 7, 2) := by decide +kernel
theorem dX0_init_36 : decode cX0_init 36 = .ok (.newarray .int, 2) := by decide +kernel
theorem dX0_init_38 : decode cX0_init 38 = .ok (.putfield 23, 3) := by decide +kernel
theorem dX0_init_41 : decode cX0_init 41 = .ok (.aload_n 0, 1) := by decide +kernel
theorem dX0_init_42 : decode cX0_init 42 = .ok (.bipush 7, 2) := by decide +kernel
theorem dX0_init_44 : decode cX0_init 44 = .ok (.newarray .int, 2) := by decide +kernel
theorem dX0_init_46 : decode cX0_init 46 = .ok (.putfield 26, 3) := by decide +kernel
theorem dX0_init_49 : decode cX0_init 49 = .ok (.aload_n 0, 1) := by decide +kernel
theorem dX0_init_50 : decode cX0_init 50 = .ok (.bipush 7, 2) := by decide +kernel
theorem dX0_init_52 : decode cX0_init 52 = .ok (.bipush 7, 2) := by decide +kernel
theorem dX0_init_54 : decode cX0_init 54 = .ok (.multianewarray 29 2, 4) := by decide +kernel
theorem dX0_init_58 : decode cX0_init 58 = .ok (.putfield 31, 3) := by decide +kernel
theorem dX0_init_61 : decode cX0_init 61 = .ok (.aload_n 0, 1) := by decide +kernel
theorem dX0_init_62 : decode cX0_init 62 = .ok (.iconst 4, 1) := by decide +kernel
theorem dX0_init_63 : decode cX0_init 63 = .ok (.bipush 7, 2) := by decide +kernel
theorem dX0_init_65 : decode cX0_init 65 = .ok (.multianewarray 29 2, 4) := by decide +kernel
theorem dX0_init_69 : decode cX0_init 69 = .ok (.putfield 34, 3) := by decide +kernel
theorem dX0_init_72 : decode cX0_init 72 = .ok (.aload_n 0, 1) := by decide +kernel
theorem dX0_init_73 : decode cX0_init 73 = .ok (.iconst 4, 1) := by decide +kernel
theorem dX0_init_74 : decode cX0_init 74 = .ok (.bipush 7, 2) := by decide +kernel
theorem dX0_init_76 : decode cX0_init 76 = .ok (.multianewarray 29 2, 4) := by decide +kernel
theorem dX0_init_80 : decode cX0_init 80 = .ok (.putfield 37, 3) := by decide +kernel
theorem dX0_init_83 : decode cX0_init 83 = .ok (.aload_n 0, 1) := by decide +kernel
theorem dX0_init_84 : decode cX0_init 84 = .ok (.iconst 4, 1) := by decide +kernel
theorem dX0_init_85 : decode cX0_init 85 = .ok (.bipush 7, 2) := by decide +kernel
theorem dX0_init_87 : decode cX0_init 87 = .ok (.multianewarray 29 2, 4) := by decide +kernel
theorem dX0_init_91 : decode cX0_init 91 = .ok (.putfield 40, 3) := by decide +kernel
theorem dX0_init_94 : decode cX0_init 94 = .ok (.aload_n 0, 1) := by decide +kernel
theorem dX0_init_95 : decode cX0_init 95 = .ok (.bipush 7, 2) := by decide +kernel
theorem dX0_init_97 : decode cX0_init 97 = .ok (.bipush 7, 2) := by decide +kernel
theorem dX0_init_99 : decode cX0_init 99 = .ok (.multianewarray 29 2, 4) := by decide +kernel
theorem dX0_init_103 : decode cX0_init 103 = .ok (.putfield 43, 3) := by decide +kernel
theorem dX0_init_106 : decode cX0_init 106 = .ok (.return_, 1) := by decide +kernel
theorem dX0_come_0 : decode cX0_come 0 = .ok (.aload_n 0, 1) := by decide +kernel
theorem dX0_come_1 : decode cX0_come 1 = .ok (.getfield 46, 3) := by decide +kernel
theorem dX0_come_4 : decode cX0_come 4 = .ok (.bipush 7, 2) := by decide +kernel
theorem dX0_come_6 : decode cX0_come 6 = .ok (.if_icmp .lt 13, 3) := by decide +kernel
theorem dX0_come_9 : decode cX0_come 9 = .ok (.new 49, 3) := by decide +kernel
theorem dX0_come_12 : decode cX0_come 12 = .ok (.dup, 1) := by decide +kernel
theorem dX0_come_13 : decode cX0_come 13 = .ok (.ldc 51, 2) := by decide +kernel
theorem dX0_come_15 : decode cX0_come 15 = .ok (.invokespecial 53, 3) := by decide +kernel
theorem dX0_come_18 : decode cX0_come 18 = .ok (.athrow, 1) := by decide +kernel
theorem dX0_come_19 : decode cX0_come 19 = .ok (.aload_n 0, 1) := by decide +kernel
theorem dX0_come_20 : decode cX0_come 20 = .ok (.getfield 46, 3) := by decide +kernel
theorem dX0_come_23 : decode cX0_come 23 = .ok (.istore_n 1, 1) := by decide +kernel
theorem dX0_come_24 : decode cX0_come 24 = .ok (.aload_n 0, 1) := by decide +kernel
theorem dX0_come_25 : decode cX0_come 25 = .ok (.iload_n 1, 1) := by decide +kernel
theorem dX0_come_26 : decode cX0_come 26 = .ok (.iconst 1, 1) := by decide +kernel
theorem dX0_come_27 : decode cX0_come 27 = .ok (.iadd, 1) := by decide +kernel
theorem dX0_come_28 : decode cX0_come 28 = .ok (.putfield 46, 3) := by decide +kernel
theorem dX0_come_31 : decode cX0_come 31 = .ok (.iload_n 1, 1) := by decide +kernel
theorem dX0_come_32 : decode cX0_come 32 = .ok (.ireturn, 1) := by decide +kernel
set_option maxRecDepth 20000 in
theorem ggX0_setKind_X0_requireGeneral : GoodIn wsX0_setKind wsX0_requireGeneral := goodIn_ca (goodIn_r _ [8, 1, 2, 9, 10, 11, 7, 12, 13, 14, 15, 16, 17, 18, 19, 20, 21, 22, 23, 24, 25, 26, 27, 28, 29, 30, 31] (by decide +kernel) (by decide +kernel)) (goodIn_sub (fun _ h => List.mem_cons_of_mem _ (List.mem_append_right _ h)) (by decide +kernel))
set_option maxRecDepth 20000 in
theorem gX0_setKind_X0_requireGeneral : GoodIn wsX0_setKind (wsV RX0 56 RX0 yX0_requireGeneral wsX0_requireGeneral) := goodIn_app (goodIn_of _ (by decide +kernel)) ggX0_setKind_X0_requireGeneral
theorem dX0_setKind_0 : decode cX0_setKind 0 = .ok (.aload_n 0, 1) := by decide +kernel
theorem dX0_setKind_1 : decode cX0_setKind 1 = .ok (.iload_n 1, 1) := by decide +kernel
theorem dX0_setKind_2 : decode cX0_setKind 2 = .ok (.invokevirtual 56, 3) := by decide +kernel
theorem dX0_setKind_5 : decode cX0_setKind 5 = .ok (.iload_n 2, 1) := by decide +kernel
theorem dX0_setKind_6 : decode cX0_setKind 6 = .ok (.ifCond .lt 8, 3) := by decide +kernel
theorem dX0_setKind_9 : decode cX0_setKind 9 = .ok (.iload_n 2, 1) := by decide +kernel
theorem dX0_setKind_10 : decode cX0_setKind 10 = .ok (.iconst 4, 1) := by decide +kernel
theorem dX0_setKind_11 : decode cX0_setKind 11 = .ok (.if_icmp .le 13, 3) := by decide +kernel
theorem dX0_setKind_14 : decode cX0_setKind 14 = .ok (.new 60, 3) := by decide +kernel
theorem dX0_setKind_17 : decode cX0_setKind 17 = .ok (.dup, 1) := by decide +kernel
theorem dX0_setKind_18 : decode cX0_setKind 18 = .ok (.ldc 62, 2) := by decide +kernel
theorem dX0_setKind_20 : decode cX0_setKind 20 = .ok (.invokespecial 64, 3) := by decide +kernel
theorem dX0_setKind_23 : decode cX0_setKind 23 = .ok (.athrow, 1) := by decide +kernel
theorem dX0_setKind_24 : decode cX0_setKind 24 = .ok (.aload_n 0, 1) := by decide +kernel
theorem dX0_setKind_25 : decode cX0_setKind 25 = .ok (.getfield 13, 3) := by decide +kernel
theorem dX0_setKind_28 : decode cX0_setKind 28 = .ok (.iload_n 1, 1) := by decide +kernel
theorem dX0_setKind_29 : decode cX0_setKind 29 = .ok (.iaload, 1) := by decide +kernel
theorem dX0_setKind_30 : decode cX0_setKind 30 = .ok (.istore_n 3, 1) := by decide +kernel
theorem dX0_setKind_31 : decode cX0_setKind 31 = .ok (.aload_n 0, 1) := by decide +kernel
theorem dX0_setKind_32 : decode cX0_setKind 32 = .ok (.getfield 13, 3) := by decide +kernel
theorem dX0_setKind_35 : decode cX0_setKind 35 = .ok (.iload_n 1, 1) := by decide +kernel
theorem dX0_setKind_36 : decode cX0_setKind 36 = .ok (.iload_n 2, 1) := by decide +kernel
theorem dX0_setKind_37 : decode cX0_setKind 37 = .ok (.iastore, 1) := by decide +kernel
theorem dX0_setKind_38 : decode cX0_setKind 38 = .ok (.iload_n 3, 1) := by decide +kernel
theorem dX0_setKind_39 : decode cX0_setKind 39 = .ok (.ireturn, 1) := by decide +kernel
set_option maxRecDepth 20000 in
theorem ggX0_setRounds_X0_requireRounds : GoodIn wsX0_setRounds wsX0_requireRounds := goodIn_ca (goodIn_r _ [5, 6, 7] (by decide +kernel) (by decide +kernel)) (goodIn_sub (fun _ h => List.mem_cons_of_mem _ (List.mem_append_right _ h)) (by decide +kernel))
set_option maxRecDepth 20000 in
theorem gX0_setRounds_X0_requireRounds : GoodIn wsX0_setRounds (va_wsS RX0 65 yX0_requireRounds wsX0_requireRounds) := goodIn_app (goodIn_of _ (by decide +kernel)) ggX0_setRounds_X0_requireRounds
theorem dX0_setRounds_0 : decode cX0_setRounds 0 = .ok (.iload_n 1, 1) := by decide +kernel
theorem dX0_setRounds_1 : decode cX0_setRounds 1 = .ok (.invokestatic 65, 3) := by decide +kernel
theorem dX0_setRounds_4 : decode cX0_setRounds 4 = .ok (.aload_n 0, 1) := by decide +kernel
theorem dX0_setRounds_5 : decode cX0_setRounds 5 = .ok (.getfield 7, 3) := by decide +kernel
theorem dX0_setRounds_8 : decode cX0_setRounds 8 = .ok (.istore_n 2, 1) := by decide +kernel
theorem dX0_setRounds_9 : decode cX0_setRounds 9 = .ok (.aload_n 0, 1) := by decide +kernel
theorem dX0_setRounds_10 : decode cX0_setRounds 10 = .ok (.iload_n 1, 1) := by decide +kernel
theorem dX0_setRounds_11 : decode cX0_setRounds 11 = .ok (.putfield 7, 3) := by decide +kernel
theorem dX0_setRounds_14 : decode cX0_setRounds 14 = .ok (.iload_n 2, 1) := by decide +kernel
theorem dX0_setRounds_15 : decode cX0_setRounds 15 = .ok (.ireturn, 1) := by decide +kernel
set_option maxRecDepth 20000 in
theorem ggX0_hold_X0_requireGeneral : GoodIn wsX0_hold wsX0_requireGeneral := goodIn_ca (goodIn_r _ [6, 7, 8, 9, 10, 11, 5, 12, 13, 79, 80, 81, 82, 83, 84, 85, 86, 87, 88, 89, 90, 91, 92, 93, 94, 95, 96] (by decide +kernel) (by decide +kernel)) (goodIn_sub (fun _ h => List.mem_cons_of_mem _ (List.mem_append_left _ (List.mem_append_right _ h))) (by decide +kernel))
set_option maxRecDepth 20000 in
theorem gX0_hold_X0_requireGeneral : GoodIn wsX0_hold (wsV RX0 56 RX0 yX0_requireGeneral wsX0_requireGeneral) := goodIn_app (goodIn_of _ (by decide +kernel)) ggX0_hold_X0_requireGeneral
theorem dX0_hold_0 : decode cX0_hold 0 = .ok (.aload_n 0, 1) := by decide +kernel
theorem dX0_hold_1 : decode cX0_hold 1 = .ok (.iload_n 1, 1) := by decide +kernel
theorem dX0_hold_2 : decode cX0_hold 2 = .ok (.invokevirtual 56, 3) := by decide +kernel
theorem dX0_hold_5 : decode cX0_hold 5 = .ok (.iload_n 2, 1) := by decide +kernel
theorem dX0_hold_6 : decode cX0_hold 6 = .ok (.invokestatic 68, 3) := by decide +kernel
theorem dX0_hold_9 : decode cX0_hold 9 = .ok (.aload_n 0, 1) := by decide +kernel
theorem dX0_hold_10 : decode cX0_hold 10 = .ok (.iload_n 1, 1) := by decide +kernel
theorem dX0_hold_11 : decode cX0_hold 11 = .ok (.iload_n 2, 1) := by decide +kernel
theorem dX0_hold_12 : decode cX0_hold 12 = .ok (.aload_n 0, 1) := by decide +kernel
theorem dX0_hold_13 : decode cX0_hold 13 = .ok (.getfield 7, 3) := by decide +kernel
theorem dX0_hold_16 : decode cX0_hold 16 = .ok (.invokevirtual 71, 3) := by decide +kernel
theorem dX0_hold_19 : decode cX0_hold 19 = .ok (.aload_n 0, 1) := by decide +kernel
theorem dX0_hold_20 : decode cX0_hold 20 = .ok (.iload_n 1, 1) := by decide +kernel
theorem dX0_hold_21 : decode cX0_hold 21 = .ok (.iload_n 2, 1) := by decide +kernel
theorem dX0_hold_22 : decode cX0_hold 22 = .ok (.invokevirtual 75, 3) := by decide +kernel
theorem dX0_hold_25 : decode cX0_hold 25 = .ok (.aload_n 0, 1) := by decide +kernel
theorem dX0_hold_26 : decode cX0_hold 26 = .ok (.iload_n 1, 1) := by decide +kernel
theorem dX0_hold_27 : decode cX0_hold 27 = .ok (.iload_n 2, 1) := by decide +kernel
theorem dX0_hold_28 : decode cX0_hold 28 = .ok (.invokevirtual 79, 3) := by decide +kernel
theorem dX0_hold_31 : decode cX0_hold 31 = .ok (.ireturn, 1) := by decide +kernel
set_option maxRecDepth 20000 in
theorem ggX0_does_X0_requirePresent : GoodIn wsX0_does wsX0_requirePresent := goodIn_ca (goodIn_r _ [6, 7, 8, 9, 10, 11, 12, 13, 5, 14, 15, 16, 17, 18, 19, 26, 27, 28, 29, 30, 31, 32, 33, 34, 35, 36, 37, 38, 39, 40, 41, 42, 43] (by decide +kernel) (by decide +kernel)) (goodIn_sub (fun _ h => List.mem_cons_of_mem _ (List.mem_append_left _ (List.mem_append_right _ h))) (by decide +kernel))
set_option maxRecDepth 20000 in
theorem gX0_does_X0_requirePresent : GoodIn wsX0_does (wsV RX0 83 RX0 yX0_requirePresent wsX0_requirePresent) := goodIn_app (goodIn_of _ (by decide +kernel)) ggX0_does_X0_requirePresent
theorem dX0_does_0 : decode cX0_does 0 = .ok (.aload_n 0, 1) := by decide +kernel
theorem dX0_does_1 : decode cX0_does 1 = .ok (.iload_n 1, 1) := by decide +kernel
theorem dX0_does_2 : decode cX0_does 2 = .ok (.invokevirtual 83, 3) := by decide +kernel
theorem dX0_does_5 : decode cX0_does 5 = .ok (.aload_n 0, 1) := by decide +kernel
theorem dX0_does_6 : decode cX0_does 6 = .ok (.invokevirtual 86, 3) := by decide +kernel
theorem dX0_does_9 : decode cX0_does 9 = .ok (.aload_n 0, 1) := by decide +kernel
theorem dX0_does_10 : decode cX0_does 10 = .ok (.getfield 26, 3) := by decide +kernel
theorem dX0_does_13 : decode cX0_does 13 = .ok (.iload_n 1, 1) := by decide +kernel
theorem dX0_does_14 : decode cX0_does 14 = .ok (.iaload, 1) := by decide +kernel
theorem dX0_does_15 : decode cX0_does 15 = .ok (.ireturn, 1) := by decide +kernel
set_option maxRecDepth 20000 in
theorem ggX0_took_X0_requirePresent : GoodIn wsX0_took wsX0_requirePresent := goodIn_ca (goodIn_r _ [9, 10, 11, 12, 13, 14, 15, 16, 8, 17, 18, 19, 20, 21, 22, 27, 28, 29, 30, 31, 32, 33, 34, 35, 36, 37, 38, 39, 40, 41, 42, 43, 44] (by decide +kernel) (by decide +kernel)) (goodIn_sub (fun _ h => List.mem_cons_of_mem _ (List.mem_append_right _ h)) (by decide +kernel))
set_option maxRecDepth 20000 in
theorem gX0_took_X0_requirePresent : GoodIn wsX0_took (wsV RX0 83 RX0 yX0_requirePresent wsX0_requirePresent) := goodIn_app (goodIn_of _ (by decide +kernel)) ggX0_took_X0_requirePresent
theorem dX0_took_0 : decode cX0_took 0 = .ok (.aload_n 0, 1) := by decide +kernel
theorem dX0_took_1 : decode cX0_took 1 = .ok (.iload_n 1, 1) := by decide +kernel
theorem dX0_took_2 : decode cX0_took 2 = .ok (.invokevirtual 83, 3) := by decide +kernel
theorem dX0_took_5 : decode cX0_took 5 = .ok (.aload_n 0, 1) := by decide +kernel
theorem dX0_took_6 : decode cX0_took 6 = .ok (.iload_n 2, 1) := by decide +kernel
theorem dX0_took_7 : decode cX0_took 7 = .ok (.invokevirtual 83, 3) := by decide +kernel
theorem dX0_took_10 : decode cX0_took 10 = .ok (.aload_n 0, 1) := by decide +kernel
theorem dX0_took_11 : decode cX0_took 11 = .ok (.invokevirtual 86, 3) := by decide +kernel
theorem dX0_took_14 : decode cX0_took 14 = .ok (.iload_n 1, 1) := by decide +kernel
theorem dX0_took_15 : decode cX0_took 15 = .ok (.aload_n 0, 1) := by decide +kernel
theorem dX0_took_16 : decode cX0_took 16 = .ok (.getfield 89, 3) := by decide +kernel
theorem dX0_took_19 : decode cX0_took 19 = .ok (.if_icmp .ne 13, 3) := by decide +kernel
theorem dX0_took_22 : decode cX0_took 22 = .ok (.new 49, 3) := by decide +kernel
theorem dX0_took_25 : decode cX0_took 25 = .ok (.dup, 1) := by decide +kernel
theorem dX0_took_26 : decode cX0_took 26 = .ok (.ldc 92, 2) := by decide +kernel
theorem dX0_took_28 : decode cX0_took 28 = .ok (.invokespecial 53, 3) := by decide +kernel
theorem dX0_took_31 : decode cX0_took 31 = .ok (.athrow, 1) := by decide +kernel
theorem dX0_took_32 : decode cX0_took 32 = .ok (.aload_n 0, 1) := by decide +kernel
theorem dX0_took_33 : decode cX0_took 33 = .ok (.getfield 31, 3) := by decide +kernel
theorem dX0_took_36 : decode cX0_took 36 = .ok (.iload_n 1, 1) := by decide +kernel
theorem dX0_took_37 : decode cX0_took 37 = .ok (.aaload, 1) := by decide +kernel
theorem dX0_took_38 : decode cX0_took 38 = .ok (.iload_n 2, 1) := by decide +kernel
theorem dX0_took_39 : decode cX0_took 39 = .ok (.iaload, 1) := by decide +kernel
theorem dX0_took_40 : decode cX0_took 40 = .ok (.ireturn, 1) := by decide +kernel
set_option maxRecDepth 20000 in
theorem ggX0_count_X0_counted : GoodIn wsX0_count wsX0_counted := goodIn_r _ [7, 8, 9, 10, 11, 12, 13, 6, 14, 15, 16, 17, 18, 19, 20, 21, 22, 23, 24, 25, 26, 27, 28, 29, 30, 31, 32, 33, 34, 35, 36, 37, 38, 39, 40, 41, 42, 43, 44, 45, 46] (by decide +kernel) (by decide +kernel)
set_option maxRecDepth 20000 in
theorem gX0_count_X0_counted : GoodIn wsX0_count (wsV RX0 96 RX0 yX0_counted wsX0_counted) := goodIn_app (goodIn_of _ (by decide +kernel)) ggX0_count_X0_counted
theorem dX0_count_0 : decode cX0_count 0 = .ok (.iload_n 1, 1) := by decide +kernel
theorem dX0_count_1 : decode cX0_count 1 = .ok (.ifCond .lt 9, 3) := by decide +kernel
theorem dX0_count_4 : decode cX0_count 4 = .ok (.iload_n 1, 1) := by decide +kernel
theorem dX0_count_5 : decode cX0_count 5 = .ok (.bipush 8, 2) := by decide +kernel
theorem dX0_count_7 : decode cX0_count 7 = .ok (.if_icmp .le 13, 3) := by decide +kernel
theorem dX0_count_10 : decode cX0_count 10 = .ok (.new 60, 3) := by decide +kernel
theorem dX0_count_13 : decode cX0_count 13 = .ok (.dup, 1) := by decide +kernel
theorem dX0_count_14 : decode cX0_count 14 = .ok (.ldc 94, 2) := by decide +kernel
theorem dX0_count_16 : decode cX0_count 16 = .ok (.invokespecial 64, 3) := by decide +kernel
theorem dX0_count_19 : decode cX0_count 19 = .ok (.athrow, 1) := by decide +kernel
theorem dX0_count_20 : decode cX0_count 20 = .ok (.aload_n 0, 1) := by decide +kernel
theorem dX0_count_21 : decode cX0_count 21 = .ok (.iload_n 1, 1) := by decide +kernel
theorem dX0_count_22 : decode cX0_count 22 = .ok (.invokevirtual 96, 3) := by decide +kernel
theorem dX0_count_25 : decode cX0_count 25 = .ok (.ireturn, 1) := by decide +kernel
set_option maxRecDepth 20000 in
theorem ggX0_told_X0_requireGeneral : GoodIn wsX0_told wsX0_requireGeneral := goodIn_ca (goodIn_r _ [7, 1, 2, 8, 9, 10, 6, 11, 12, 21, 22, 23, 24, 25, 26, 27, 28, 29, 30, 31, 32, 33, 34, 35, 36, 37, 38] (by decide +kernel) (by decide +kernel)) (goodIn_sub (fun _ h => List.mem_cons_of_mem _ (List.mem_append_right _ h)) (by decide +kernel))
set_option maxRecDepth 20000 in
theorem gX0_told_X0_requireGeneral : GoodIn wsX0_told (wsV RX0 56 RX0 yX0_requireGeneral wsX0_requireGeneral) := goodIn_app (goodIn_of _ (by decide +kernel)) ggX0_told_X0_requireGeneral
theorem dX0_told_0 : decode cX0_told 0 = .ok (.aload_n 0, 1) := by decide +kernel
theorem dX0_told_1 : decode cX0_told 1 = .ok (.iload_n 1, 1) := by decide +kernel
theorem dX0_told_2 : decode cX0_told 2 = .ok (.invokevirtual 56, 3) := by decide +kernel
theorem dX0_told_5 : decode cX0_told 5 = .ok (.iload_n 2, 1) := by decide +kernel
theorem dX0_told_6 : decode cX0_told 6 = .ok (.ifCond .lt 8, 3) := by decide +kernel
theorem dX0_told_9 : decode cX0_told 9 = .ok (.iload_n 2, 1) := by decide +kernel
theorem dX0_told_10 : decode cX0_told 10 = .ok (.iconst 3, 1) := by decide +kernel
theorem dX0_told_11 : decode cX0_told 11 = .ok (.if_icmp .le 13, 3) := by decide +kernel
theorem dX0_told_14 : decode cX0_told 14 = .ok (.new 60, 3) := by decide +kernel
theorem dX0_told_17 : decode cX0_told 17 = .ok (.dup, 1) := by decide +kernel
theorem dX0_told_18 : decode cX0_told 18 = .ok (.ldc 100, 2) := by decide +kernel
theorem dX0_told_20 : decode cX0_told 20 = .ok (.invokespecial 64, 3) := by decide +kernel
theorem dX0_told_23 : decode cX0_told 23 = .ok (.athrow, 1) := by decide +kernel
theorem dX0_told_24 : decode cX0_told 24 = .ok (.aload_n 0, 1) := by decide +kernel
theorem dX0_told_25 : decode cX0_told 25 = .ok (.iload_n 1, 1) := by decide +kernel
theorem dX0_told_26 : decode cX0_told 26 = .ok (.iload_n 2, 1) := by decide +kernel
theorem dX0_told_27 : decode cX0_told 27 = .ok (.invokevirtual 102, 3) := by decide +kernel
theorem dX0_told_30 : decode cX0_told 30 = .ok (.ireturn, 1) := by decide +kernel
set_option maxRecDepth 20000 in
theorem ggX0_hears_X0_requireGeneral : GoodIn wsX0_hears wsX0_requireGeneral := goodIn_ca (goodIn_r _ [8, 9, 10, 11, 12, 13, 7, 14, 15, 22, 23, 24, 25, 26, 27, 28, 29, 30, 31, 32, 33, 34, 35, 36, 37, 38, 39] (by decide +kernel) (by decide +kernel)) (goodIn_sub (fun _ h => List.mem_cons_of_mem _ (List.mem_append_right _ h)) (by decide +kernel))
set_option maxRecDepth 20000 in
theorem gX0_hears_X0_requireGeneral : GoodIn wsX0_hears (wsV RX0 56 RX0 yX0_requireGeneral wsX0_requireGeneral) := goodIn_app (goodIn_of _ (by decide +kernel)) ggX0_hears_X0_requireGeneral
theorem dX0_hears_0 : decode cX0_hears 0 = .ok (.aload_n 0, 1) := by decide +kernel
theorem dX0_hears_1 : decode cX0_hears 1 = .ok (.iload_n 1, 1) := by decide +kernel
theorem dX0_hears_2 : decode cX0_hears 2 = .ok (.invokevirtual 56, 3) := by decide +kernel
theorem dX0_hears_5 : decode cX0_hears 5 = .ok (.aload_n 0, 1) := by decide +kernel
theorem dX0_hears_6 : decode cX0_hears 6 = .ok (.iload_n 2, 1) := by decide +kernel
theorem dX0_hears_7 : decode cX0_hears 7 = .ok (.invokevirtual 56, 3) := by decide +kernel
theorem dX0_hears_10 : decode cX0_hears 10 = .ok (.iload_n 1, 1) := by decide +kernel
theorem dX0_hears_11 : decode cX0_hears 11 = .ok (.iload_n 2, 1) := by decide +kernel
theorem dX0_hears_12 : decode cX0_hears 12 = .ok (.if_icmp .ne 13, 3) := by decide +kernel
theorem dX0_hears_15 : decode cX0_hears 15 = .ok (.new 105, 3) := by decide +kernel
theorem dX0_hears_18 : decode cX0_hears 18 = .ok (.dup, 1) := by decide +kernel
theorem dX0_hears_19 : decode cX0_hears 19 = .ok (.ldc 107, 2) := by decide +kernel
theorem dX0_hears_21 : decode cX0_hears 21 = .ok (.invokespecial 109, 3) := by decide +kernel
theorem dX0_hears_24 : decode cX0_hears 24 = .ok (.athrow, 1) := by decide +kernel
theorem dX0_hears_25 : decode cX0_hears 25 = .ok (.iload_n 3, 1) := by decide +kernel
theorem dX0_hears_26 : decode cX0_hears 26 = .ok (.invokestatic 68, 3) := by decide +kernel
theorem dX0_hears_29 : decode cX0_hears 29 = .ok (.aload_n 0, 1) := by decide +kernel
theorem dX0_hears_30 : decode cX0_hears 30 = .ok (.getfield 13, 3) := by decide +kernel
theorem dX0_hears_33 : decode cX0_hears 33 = .ok (.iload_n 1, 1) := by decide +kernel
theorem dX0_hears_34 : decode cX0_hears 34 = .ok (.iaload, 1) := by decide +kernel
theorem dX0_hears_35 : decode cX0_hears 35 = .ok (.iload_n 1, 1) := by decide +kernel
theorem dX0_hears_36 : decode cX0_hears 36 = .ok (.iload_n 2, 1) := by decide +kernel
theorem dX0_hears_37 : decode cX0_hears 37 = .ok (.iload_n 3, 1) := by decide +kernel
theorem dX0_hears_38 : decode cX0_hears 38 = .ok (.invokestatic 110, 3) := by decide +kernel
theorem dX0_hears_41 : decode cX0_hears 41 = .ok (.ireturn, 1) := by decide +kernel
set_option maxRecDepth 20000 in
theorem ggX0_would_X0_requireGeneral : GoodIn wsX0_would wsX0_requireGeneral := goodIn_ca (goodIn_r _ [6, 7, 8, 9, 10, 11, 5, 12, 13, 57, 58, 59, 60, 61, 62, 63, 64, 65, 66, 67, 68, 69, 70, 71, 72, 73, 74] (by decide +kernel) (by decide +kernel)) (goodIn_sub (fun _ h => List.mem_cons_of_mem _ (List.mem_append_left _ (List.mem_append_right _ h))) (by decide +kernel))
set_option maxRecDepth 20000 in
theorem gX0_would_X0_requireGeneral : GoodIn wsX0_would (wsV RX0 56 RX0 yX0_requireGeneral wsX0_requireGeneral) := goodIn_app (goodIn_of _ (by decide +kernel)) ggX0_would_X0_requireGeneral
theorem dX0_would_0 : decode cX0_would 0 = .ok (.aload_n 0, 1) := by decide +kernel
theorem dX0_would_1 : decode cX0_would 1 = .ok (.iload_n 1, 1) := by decide +kernel
theorem dX0_would_2 : decode cX0_would 2 = .ok (.invokevirtual 56, 3) := by decide +kernel
theorem dX0_would_5 : decode cX0_would 5 = .ok (.aload_n 0, 1) := by decide +kernel
theorem dX0_would_6 : decode cX0_would 6 = .ok (.iload_n 3, 1) := by decide +kernel
theorem dX0_would_7 : decode cX0_would 7 = .ok (.invokevirtual 56, 3) := by decide +kernel
theorem dX0_would_10 : decode cX0_would 10 = .ok (.iload_n 2, 1) := by decide +kernel
theorem dX0_would_11 : decode cX0_would 11 = .ok (.invokestatic 68, 3) := by decide +kernel
theorem dX0_would_14 : decode cX0_would 14 = .ok (.aload_n 0, 1) := by decide +kernel
theorem dX0_would_15 : decode cX0_would 15 = .ok (.iload_n 1, 1) := by decide +kernel
theorem dX0_would_16 : decode cX0_would 16 = .ok (.iload_n 2, 1) := by decide +kernel
theorem dX0_would_17 : decode cX0_would 17 = .ok (.aload_n 0, 1) := by decide +kernel
theorem dX0_would_18 : decode cX0_would 18 = .ok (.getfield 7, 3) := by decide +kernel
theorem dX0_would_21 : decode cX0_would 21 = .ok (.invokevirtual 71, 3) := by decide +kernel
theorem dX0_would_24 : decode cX0_would 24 = .ok (.aload_n 0, 1) := by decide +kernel
theorem dX0_would_25 : decode cX0_would 25 = .ok (.iload_n 3, 1) := by decide +kernel
theorem dX0_would_26 : decode cX0_would 26 = .ok (.iload_n 1, 1) := by decide +kernel
theorem dX0_would_27 : decode cX0_would 27 = .ok (.iload_n 2, 1) := by decide +kernel
theorem dX0_would_28 : decode cX0_would 28 = .ok (.invokevirtual 114, 3) := by decide +kernel
theorem dX0_would_31 : decode cX0_would 31 = .ok (.ireturn, 1) := by decide +kernel
set_option maxRecDepth 20000 in
theorem ggX0_agrees_X0_requireGeneral : GoodIn wsX0_agrees wsX0_requireGeneral := goodIn_ca (goodIn_r _ [6, 7, 8, 9, 10, 11, 5, 12, 13, 61, 62, 63, 64, 65, 66, 67, 68, 69, 70, 71, 72, 73, 74, 75, 76, 77, 78] (by decide +kernel) (by decide +kernel)) (goodIn_sub (fun _ h => List.mem_cons_of_mem _ (List.mem_append_left _ (List.mem_append_right _ h))) (by decide +kernel))
set_option maxRecDepth 20000 in
theorem gX0_agrees_X0_requireGeneral : GoodIn wsX0_agrees (wsV RX0 56 RX0 yX0_requireGeneral wsX0_requireGeneral) := goodIn_app (goodIn_of _ (by decide +kernel)) ggX0_agrees_X0_requireGeneral
theorem dX0_agrees_0 : decode cX0_agrees 0 = .ok (.aload_n 0, 1) := by decide +kernel
theorem dX0_agrees_1 : decode cX0_agrees 1 = .ok (.iload_n 1, 1) := by decide +kernel
theorem dX0_agrees_2 : decode cX0_agrees 2 = .ok (.invokevirtual 56, 3) := by decide +kernel
theorem dX0_agrees_5 : decode cX0_agrees 5 = .ok (.iload_n 2, 1) := by decide +kernel
theorem dX0_agrees_6 : decode cX0_agrees 6 = .ok (.invokestatic 68, 3) := by decide +kernel
theorem dX0_agrees_9 : decode cX0_agrees 9 = .ok (.aload_n 0, 1) := by decide +kernel
theorem dX0_agrees_10 : decode cX0_agrees 10 = .ok (.iload_n 1, 1) := by decide +kernel
theorem dX0_agrees_11 : decode cX0_agrees 11 = .ok (.iload_n 2, 1) := by decide +kernel
theorem dX0_agrees_12 : decode cX0_agrees 12 = .ok (.aload_n 0, 1) := by decide +kernel
theorem dX0_agrees_13 : decode cX0_agrees 13 = .ok (.getfield 7, 3) := by decide +kernel
theorem dX0_agrees_16 : decode cX0_agrees 16 = .ok (.invokevirtual 118, 3) := by decide +kernel
theorem dX0_agrees_19 : decode cX0_agrees 19 = .ok (.ireturn, 1) := by decide +kernel
set_option maxRecDepth 20000 in
theorem ggX0_messengers_X0_requireRounds : GoodIn wsX0_messengers wsX0_requireRounds := goodIn_ca (goodIn_r _ [5, 6, 7] (by decide +kernel) (by decide +kernel)) (goodIn_sub (fun _ h => List.mem_cons_of_mem _ (List.mem_append_right _ h)) (by decide +kernel))
set_option maxRecDepth 20000 in
theorem gX0_messengers_X0_requireRounds : GoodIn wsX0_messengers (va_wsS RX0 65 yX0_requireRounds wsX0_requireRounds) := goodIn_app (goodIn_of _ (by decide +kernel)) ggX0_messengers_X0_requireRounds
set_option maxRecDepth 20000 in
theorem ggX0_messengers_X0_messengersAmong : GoodIn wsX0_messengers wsX0_messengersAmong := goodIn_r _ [10] (by decide +kernel) (by decide +kernel)
set_option maxRecDepth 20000 in
theorem gX0_messengers_X0_messengersAmong : GoodIn wsX0_messengers (va_wsS RX0 122 yX0_messengersAmong wsX0_messengersAmong) := goodIn_app (goodIn_of _ (by decide +kernel)) ggX0_messengers_X0_messengersAmong
theorem dX0_messengers_0 : decode cX0_messengers 0 = .ok (.iload_n 1, 1) := by decide +kernel
theorem dX0_messengers_1 : decode cX0_messengers 1 = .ok (.invokestatic 65, 3) := by decide +kernel
theorem dX0_messengers_4 : decode cX0_messengers 4 = .ok (.aload_n 0, 1) := by decide +kernel
theorem dX0_messengers_5 : decode cX0_messengers 5 = .ok (.getfield 46, 3) := by decide +kernel
theorem dX0_messengers_8 : decode cX0_messengers 8 = .ok (.iload_n 1, 1) := by decide +kernel
theorem dX0_messengers_9 : decode cX0_messengers 9 = .ok (.invokestatic 122, 3) := by decide +kernel
theorem dX0_messengers_12 : decode cX0_messengers 12 = .ok (.ireturn, 1) := by decide +kernel
set_option maxRecDepth 20000 in
theorem ggX0_needs_X0_alwaysAgree : GoodIn wsX0_needs wsX0_alwaysAgree := goodIn_r _ [5, 6, 7, 8, 9, 4, 10, 11, 12, 13, 14, 15, 16, 17, 18, 19, 20, 21, 22, 23, 24, 25, 26, 27, 28, 29, 30, 31, 32, 33, 34, 35, 36, 37, 38, 39, 40, 41, 42, 43, 44, 45, 46, 47, 48, 49, 50, 51, 52, 53, 54, 55, 56, 57, 58, 59, 60, 61, 62, 63, 64, 65, 66, 67, 68, 69, 70] (by decide +kernel) (by decide +kernel)
set_option maxRecDepth 20000 in
theorem gX0_needs_X0_alwaysAgree : GoodIn wsX0_needs (wsV RX0 125 RX0 yX0_alwaysAgree wsX0_alwaysAgree) := goodIn_app (goodIn_of _ (by decide +kernel)) ggX0_needs_X0_alwaysAgree
theorem dX0_needs_0 : decode cX0_needs 0 = .ok (.iconst 0, 1) := by decide +kernel
theorem dX0_needs_1 : decode cX0_needs 1 = .ok (.istore_n 1, 1) := by decide +kernel
theorem dX0_needs_2 : decode cX0_needs 2 = .ok (.iload_n 1, 1) := by decide +kernel
theorem dX0_needs_3 : decode cX0_needs 3 = .ok (.iconst 3, 1) := by decide +kernel
theorem dX0_needs_4 : decode cX0_needs 4 = .ok (.if_icmp .gt 19, 3) := by decide +kernel
theorem dX0_needs_7 : decode cX0_needs 7 = .ok (.aload_n 0, 1) := by decide +kernel
theorem dX0_needs_8 : decode cX0_needs 8 = .ok (.iload_n 1, 1) := by decide +kernel
theorem dX0_needs_9 : decode cX0_needs 9 = .ok (.invokevirtual 125, 3) := by decide +kernel
theorem dX0_needs_12 : decode cX0_needs 12 = .ok (.ifCond .eq 5, 3) := by decide +kernel
theorem dX0_needs_15 : decode cX0_needs 15 = .ok (.iload_n 1, 1) := by decide +kernel
theorem dX0_needs_16 : decode cX0_needs 16 = .ok (.ireturn, 1) := by decide +kernel
theorem dX0_needs_17 : decode cX0_needs 17 = .ok (.iinc 1 1, 3) := by decide +kernel
theorem dX0_needs_20 : decode cX0_needs 20 = .ok (.goto (-18), 3) := by decide +kernel
theorem dX0_needs_23 : decode cX0_needs 23 = .ok (.iconst (-1), 1) := by decide +kernel
theorem dX0_needs_24 : decode cX0_needs 24 = .ok (.ireturn, 1) := by decide +kernel
set_option maxRecDepth 20000 in
theorem ggX0_found_X0_requireGeneral : GoodIn wsX0_found wsX0_requireGeneral := goodIn_ca (goodIn_r _ [6, 7, 8, 9, 10, 11, 5, 12, 1, 21, 22, 23, 24, 25, 26, 27, 28, 29, 30, 31, 32, 33, 34, 35, 36, 37, 38] (by decide +kernel) (by decide +kernel)) (goodIn_sub (fun _ h => List.mem_cons_of_mem _ (List.mem_append_right _ h)) (by decide +kernel))
set_option maxRecDepth 20000 in
theorem gX0_found_X0_requireGeneral : GoodIn wsX0_found (wsV RX0 56 RX0 yX0_requireGeneral wsX0_requireGeneral) := goodIn_app (goodIn_of _ (by decide +kernel)) ggX0_found_X0_requireGeneral
theorem dX0_found_0 : decode cX0_found 0 = .ok (.aload_n 0, 1) := by decide +kernel
theorem dX0_found_1 : decode cX0_found 1 = .ok (.iload_n 1, 1) := by decide +kernel
theorem dX0_found_2 : decode cX0_found 2 = .ok (.invokevirtual 56, 3) := by decide +kernel
theorem dX0_found_5 : decode cX0_found 5 = .ok (.iconst 0, 1) := by decide +kernel
theorem dX0_found_6 : decode cX0_found 6 = .ok (.istore_n 2, 1) := by decide +kernel
theorem dX0_found_7 : decode cX0_found 7 = .ok (.iconst 0, 1) := by decide +kernel
theorem dX0_found_8 : decode cX0_found 8 = .ok (.istore_n 3, 1) := by decide +kernel
theorem dX0_found_9 : decode cX0_found 9 = .ok (.iload_n 3, 1) := by decide +kernel
theorem dX0_found_10 : decode cX0_found 10 = .ok (.aload_n 0, 1) := by decide +kernel
theorem dX0_found_11 : decode cX0_found 11 = .ok (.getfield 46, 3) := by decide +kernel
theorem dX0_found_14 : decode cX0_found 14 = .ok (.if_icmp .ge 26, 3) := by decide +kernel
theorem dX0_found_17 : decode cX0_found 17 = .ok (.iload_n 3, 1) := by decide +kernel
theorem dX0_found_18 : decode cX0_found 18 = .ok (.iload_n 1, 1) := by decide +kernel
theorem dX0_found_19 : decode cX0_found 19 = .ok (.if_icmp .eq 15, 3) := by decide +kernel
theorem dX0_found_22 : decode cX0_found 22 = .ok (.aload_n 0, 1) := by decide +kernel
theorem dX0_found_23 : decode cX0_found 23 = .ok (.iload_n 1, 1) := by decide +kernel
theorem dX0_found_24 : decode cX0_found 24 = .ok (.iload_n 3, 1) := by decide +kernel
theorem dX0_found_25 : decode cX0_found 25 = .ok (.invokevirtual 129, 3) := by decide +kernel
theorem dX0_found_28 : decode cX0_found 28 = .ok (.ifCond .eq 6, 3) := by decide +kernel
theorem dX0_found_31 : decode cX0_found 31 = .ok (.iinc 2 1, 3) := by decide +kernel
theorem dX0_found_34 : decode cX0_found 34 = .ok (.iinc 3 1, 3) := by decide +kernel
theorem dX0_found_37 : decode cX0_found 37 = .ok (.goto (-28), 3) := by decide +kernel
theorem dX0_found_40 : decode cX0_found 40 = .ok (.iload_n 2, 1) := by decide +kernel
theorem dX0_found_41 : decode cX0_found 41 = .ok (.ireturn, 1) := by decide +kernel
theorem dX0_mean_0 : decode cX0_mean 0 = .ok (.aload_n 0, 1) := by decide +kernel
theorem dX0_mean_1 : decode cX0_mean 1 = .ok (.getfield 133, 3) := by decide +kernel
theorem dX0_mean_4 : decode cX0_mean 4 = .ok (.ifCond .ne 7, 3) := by decide +kernel
theorem dX0_mean_7 : decode cX0_mean 7 = .ok (.dconst 0, 1) := by decide +kernel
theorem dX0_mean_8 : decode cX0_mean 8 = .ok (.goto 14, 3) := by decide +kernel
theorem dX0_mean_11 : decode cX0_mean 11 = .ok (.aload_n 0, 1) := by decide +kernel
theorem dX0_mean_12 : decode cX0_mean 12 = .ok (.getfield 136, 3) := by decide +kernel
theorem dX0_mean_15 : decode cX0_mean 15 = .ok (.i2d, 1) := by decide +kernel
theorem dX0_mean_16 : decode cX0_mean 16 = .ok (.aload_n 0, 1) := by decide +kernel
theorem dX0_mean_17 : decode cX0_mean 17 = .ok (.getfield 133, 3) := by decide +kernel
theorem dX0_mean_20 : decode cX0_mean 20 = .ok (.i2d, 1) := by decide +kernel
theorem dX0_mean_21 : decode cX0_mean 21 = .ok (.ddiv, 1) := by decide +kernel
theorem dX0_mean_22 : decode cX0_mean 22 = .ok (.dreturn, 1) := by decide +kernel
set_option maxRecDepth 20000 in
theorem ggX0_digest_X0_counted : GoodIn wsX0_digest wsX0_counted := goodIn_r _ [10, 2, 5, 11, 12, 13, 14, 9, 15, 16, 17, 18, 19, 20, 21, 22, 23, 24, 25, 26, 27, 3, 4, 84, 85, 86, 87, 88, 89, 90, 91, 92, 93, 94, 95, 96, 97, 98, 99, 100, 101] (by decide +kernel) (by decide +kernel)
set_option maxRecDepth 20000 in
theorem gX0_digest_X0_counted : GoodIn wsX0_digest (wsV RX0 96 RX0 yX0_counted wsX0_counted) := goodIn_app (goodIn_of _ (by decide +kernel)) ggX0_digest_X0_counted
set_option maxRecDepth 20000 in
theorem ggX0_digest_X0_mixed : GoodIn wsX0_digest wsX0_mixed := goodIn_r _ [30, 31] (by decide +kernel) (by decide +kernel)
set_option maxRecDepth 20000 in
theorem gX0_digest_X0_mixed : GoodIn wsX0_digest (va_wsS RX0 141 yX0_mixed wsX0_mixed) := goodIn_app (goodIn_of _ (by decide +kernel)) ggX0_digest_X0_mixed
theorem dX0_digest_0 : decode cX0_digest 0 = .ok (.ldc2_w 139, 3) := by decide +kernel
theorem dX0_digest_3 : decode cX0_digest 3 = .ok (.lstore_n 1, 1) := by decide +kernel
theorem dX0_digest_4 : decode cX0_digest 4 = .ok (.iconst 0, 1) := by decide +kernel
theorem dX0_digest_5 : decode cX0_digest 5 = .ok (.istore_n 3, 1) := by decide +kernel
theorem dX0_digest_6 : decode cX0_digest 6 = .ok (.iload_n 3, 1) := by decide +kernel
theorem dX0_digest_7 : decode cX0_digest 7 = .ok (.bipush 8, 2) := by decide +kernel
theorem dX0_digest_9 : decode cX0_digest 9 = .ok (.if_icmp .gt 20, 3) := by decide +kernel
theorem dX0_digest_12 : decode cX0_digest 12 = .ok (.lload_n 1, 1) := by decide +kernel
theorem dX0_digest_13 : decode cX0_digest 13 = .ok (.aload_n 0, 1) := by decide +kernel
theorem dX0_digest_14 : decode cX0_digest 14 = .ok (.iload_n 3, 1) := by decide +kernel
theorem dX0_digest_15 : decode cX0_digest 15 = .ok (.invokevirtual 96, 3) := by decide +kernel
theorem dX0_digest_18 : decode cX0_digest 18 = .ok (.i2l, 1) := by decide +kernel
theorem dX0_digest_19 : decode cX0_digest 19 = .ok (.invokestatic 141, 3) := by decide +kernel
theorem dX0_digest_22 : decode cX0_digest 22 = .ok (.lstore_n 1, 1) := by decide +kernel
theorem dX0_digest_23 : decode cX0_digest 23 = .ok (.iinc 3 1, 3) := by decide +kernel
theorem dX0_digest_26 : decode cX0_digest 26 = .ok (.goto (-20), 3) := by decide +kernel
theorem dX0_digest_29 : decode cX0_digest 29 = .ok (.iconst 0, 1) := by decide +kernel
theorem dX0_digest_30 : decode cX0_digest 30 = .ok (.istore_n 3, 1) := by decide +kernel
theorem dX0_digest_31 : decode cX0_digest 31 = .ok (.iload_n 3, 1) := by decide +kernel
theorem dX0_digest_32 : decode cX0_digest 32 = .ok (.aload_n 0, 1) := by decide +kernel
theorem dX0_digest_33 : decode cX0_digest 33 = .ok (.getfield 46, 3) := by decide +kernel
theorem dX0_digest_36 : decode cX0_digest 36 = .ok (.if_icmp .ge 37, 3) := by decide +kernel
theorem dX0_digest_39 : decode cX0_digest 39 = .ok (.iconst 0, 1) := by decide +kernel
theorem dX0_digest_40 : decode cX0_digest 40 = .ok (.istore 4, 2) := by decide +kernel
theorem dX0_digest_42 : decode cX0_digest 42 = .ok (.iload 4, 2) := by decide +kernel
theorem dX0_digest_44 : decode cX0_digest 44 = .ok (.iconst 3, 1) := by decide +kernel
theorem dX0_digest_45 : decode cX0_digest 45 = .ok (.if_icmp .gt 22, 3) := by decide +kernel
theorem dX0_digest_48 : decode cX0_digest 48 = .ok (.lload_n 1, 1) := by decide +kernel
theorem dX0_digest_49 : decode cX0_digest 49 = .ok (.aload_n 0, 1) := by decide +kernel
theorem dX0_digest_50 : decode cX0_digest 50 = .ok (.iload_n 3, 1) := by decide +kernel
theorem dX0_digest_51 : decode cX0_digest 51 = .ok (.iload 4, 2) := by decide +kernel
theorem dX0_digest_53 : decode cX0_digest 53 = .ok (.invokevirtual 102, 3) := by decide +kernel
theorem dX0_digest_56 : decode cX0_digest 56 = .ok (.i2l, 1) := by decide +kernel
theorem dX0_digest_57 : decode cX0_digest 57 = .ok (.invokestatic 141, 3) := by decide +kernel
theorem dX0_digest_60 : decode cX0_digest 60 = .ok (.lstore_n 1, 1) := by decide +kernel
theorem dX0_digest_61 : decode cX0_digest 61 = .ok (.iinc 4 1, 3) := by decide +kernel
theorem dX0_digest_64 : decode cX0_digest 64 = .ok (.goto (-22), 3) := by decide +kernel
theorem dX0_digest_67 : decode cX0_digest 67 = .ok (.iinc 3 1, 3) := by decide +kernel
theorem dX0_digest_70 : decode cX0_digest 70 = .ok (.goto (-39), 3) := by decide +kernel
theorem dX0_digest_73 : decode cX0_digest 73 = .ok (.iconst 0, 1) := by decide +kernel
theorem dX0_digest_74 : decode cX0_digest 74 = .ok (.istore_n 3, 1) := by decide +kernel
theorem dX0_digest_75 : decode cX0_digest 75 = .ok (.iload_n 3, 1) := by decide +kernel
theorem dX0_digest_76 : decode cX0_digest 76 = .ok (.aload_n 0, 1) := by decide +kernel
theorem dX0_digest_77 : decode cX0_digest 77 = .ok (.getfield 145, 3) := by decide +kernel
theorem dX0_digest_80 : decode cX0_digest 80 = .ok (.if_icmp .ge 21, 3) := by decide +kernel
theorem dX0_digest_83 : decode cX0_digest 83 = .ok (.lload_n 1, 1) := by decide +kernel
theorem dX0_digest_84 : decode cX0_digest 84 = .ok (.aload_n 0, 1) := by decide +kernel
theorem dX0_digest_85 : decode cX0_digest 85 = .ok (.getfield 26, 3) := by decide +kernel
theorem dX0_digest_88 : decode cX0_digest 88 = .ok (.iload_n 3, 1) := by decide +kernel
theorem dX0_digest_89 : decode cX0_digest 89 = .ok (.iaload, 1) := by decide +kernel
theorem dX0_digest_90 : decode cX0_digest 90 = .ok (.i2l, 1) := by decide +kernel
theorem dX0_digest_91 : decode cX0_digest 91 = .ok (.invokestatic 141, 3) := by decide +kernel
theorem dX0_digest_94 : decode cX0_digest 94 = .ok (.lstore_n 1, 1) := by decide +kernel
theorem dX0_digest_95 : decode cX0_digest 95 = .ok (.iinc 3 1, 3) := by decide +kernel
theorem dX0_digest_98 : decode cX0_digest 98 = .ok (.goto (-23), 3) := by decide +kernel
theorem dX0_digest_101 : decode cX0_digest 101 = .ok (.iconst 0, 1) := by decide +kernel
theorem dX0_digest_102 : decode cX0_digest 102 = .ok (.istore_n 3, 1) := by decide +kernel
theorem dX0_digest_103 : decode cX0_digest 103 = .ok (.iload_n 3, 1) := by decide +kernel
theorem dX0_digest_104 : decode cX0_digest 104 = .ok (.aload_n 0, 1) := by decide +kernel
theorem dX0_digest_105 : decode cX0_digest 105 = .ok (.getfield 46, 3) := by decide +kernel
theorem dX0_digest_108 : decode cX0_digest 108 = .ok (.if_icmp .ge 48, 3) := by decide +kernel
theorem dX0_digest_111 : decode cX0_digest 111 = .ok (.iconst 0, 1) := by decide +kernel
theorem dX0_digest_112 : decode cX0_digest 112 = .ok (.istore 4, 2) := by decide +kernel
theorem dX0_digest_114 : decode cX0_digest 114 = .ok (.iload 4, 2) := by decide +kernel
theorem dX0_digest_116 : decode cX0_digest 116 = .ok (.iconst 1, 1) := by decide +kernel
theorem dX0_digest_117 : decode cX0_digest 117 = .ok (.if_icmp .gt 33, 3) := by decide +kernel
theorem dX0_digest_120 : decode cX0_digest 120 = .ok (.lload_n 1, 1) := by decide +kernel
theorem dX0_digest_121 : decode cX0_digest 121 = .ok (.aload_n 0, 1) := by decide +kernel
theorem dX0_digest_122 : decode cX0_digest 122 = .ok (.iload_n 3, 1) := by decide +kernel
theorem dX0_digest_123 : decode cX0_digest 123 = .ok (.iload 4, 2) := by decide +kernel
theorem dX0_digest_125 : decode cX0_digest 125 = .ok (.aload_n 0, 1) := by decide +kernel
theorem dX0_digest_126 : decode cX0_digest 126 = .ok (.getfield 7, 3) := by decide +kernel
theorem dX0_digest_129 : decode cX0_digest 129 = .ok (.invokevirtual 118, 3) := by decide +kernel
theorem dX0_digest_132 : decode cX0_digest 132 = .ok (.ifCond .eq 7, 3) := by decide +kernel
theorem dX0_digest_135 : decode cX0_digest 135 = .ok (.lconst 1, 1) := by decide +kernel
theorem dX0_digest_136 : decode cX0_digest 136 = .ok (.goto 4, 3) := by decide +kernel
theorem dX0_digest_139 : decode cX0_digest 139 = .ok (.lconst 0, 1) := by decide +kernel
theorem dX0_digest_140 : decode cX0_digest 140 = .ok (.invokestatic 141, 3) := by decide +kernel
theorem dX0_digest_143 : decode cX0_digest 143 = .ok (.lstore_n 1, 1) := by decide +kernel
theorem dX0_digest_144 : decode cX0_digest 144 = .ok (.iinc 4 1, 3) := by decide +kernel
theorem dX0_digest_147 : decode cX0_digest 147 = .ok (.goto (-33), 3) := by decide +kernel
theorem dX0_digest_150 : decode cX0_digest 150 = .ok (.iinc 3 1, 3) := by decide +kernel
theorem dX0_digest_153 : decode cX0_digest 153 = .ok (.goto (-50), 3) := by decide +kernel
theorem dX0_digest_156 : decode cX0_digest 156 = .ok (.lload_n 1, 1) := by decide +kernel
theorem dX0_digest_157 : decode cX0_digest 157 = .ok (.lreturn, 1) := by decide +kernel
theorem dX0_isGeneral_0 : decode cX0_isGeneral 0 = .ok (.iload_n 1, 1) := by decide +kernel
theorem dX0_isGeneral_1 : decode cX0_isGeneral 1 = .ok (.ifCond .lt 15, 3) := by decide +kernel
theorem dX0_isGeneral_4 : decode cX0_isGeneral 4 = .ok (.iload_n 1, 1) := by decide +kernel
theorem dX0_isGeneral_5 : decode cX0_isGeneral 5 = .ok (.aload_n 0, 1) := by decide +kernel
theorem dX0_isGeneral_6 : decode cX0_isGeneral 6 = .ok (.getfield 46, 3) := by decide +kernel
theorem dX0_isGeneral_9 : decode cX0_isGeneral 9 = .ok (.if_icmp .ge 7, 3) := by decide +kernel
theorem dX0_isGeneral_12 : decode cX0_isGeneral 12 = .ok (.iconst 1, 1) := by decide +kernel
theorem dX0_isGeneral_13 : decode cX0_isGeneral 13 = .ok (.goto 4, 3) := by decide +kernel
theorem dX0_isGeneral_16 : decode cX0_isGeneral 16 = .ok (.iconst 0, 1) := by decide +kernel
theorem dX0_isGeneral_17 : decode cX0_isGeneral 17 = .ok (.ireturn, 1) := by decide +kernel
set_option maxRecDepth 20000 in
theorem ggX0_requireGeneral_X0_isGeneral : GoodIn wsX0_requireGeneral wsX0_isGeneral := goodIn_r _ [7, 8, 9, 10, 11, 12, 13, 14, 15, 16, 17, 18, 19, 20, 21, 22, 23, 24, 25, 26] (by decide +kernel) (by decide +kernel)
set_option maxRecDepth 20000 in
theorem gX0_requireGeneral_X0_isGeneral : GoodIn wsX0_requireGeneral (wsV RX0 148 RX0 yX0_isGeneral wsX0_isGeneral) := goodIn_app (goodIn_of _ (by decide +kernel)) ggX0_requireGeneral_X0_isGeneral
theorem dX0_requireGeneral_0 : decode cX0_requireGeneral 0 = .ok (.aload_n 0, 1) := by decide +kernel
theorem dX0_requireGeneral_1 : decode cX0_requireGeneral 1 = .ok (.iload_n 1, 1) := by decide +kernel
theorem dX0_requireGeneral_2 : decode cX0_requireGeneral 2 = .ok (.invokevirtual 148, 3) := by decide +kernel
theorem dX0_requireGeneral_5 : decode cX0_requireGeneral 5 = .ok (.ifCond .ne 13, 3) := by decide +kernel
theorem dX0_requireGeneral_8 : decode cX0_requireGeneral 8 = .ok (.new 60, 3) := by decide +kernel
theorem dX0_requireGeneral_11 : decode cX0_requireGeneral 11 = .ok (.dup, 1) := by decide +kernel
theorem dX0_requireGeneral_12 : decode cX0_requireGeneral 12 = .ok (.ldc 151, 2) := by decide +kernel
theorem dX0_requireGeneral_14 : decode cX0_requireGeneral 14 = .ok (.invokespecial 64, 3) := by decide +kernel
theorem dX0_requireGeneral_17 : decode cX0_requireGeneral 17 = .ok (.athrow, 1) := by decide +kernel
theorem dX0_requireGeneral_18 : decode cX0_requireGeneral 18 = .ok (.return_, 1) := by decide +kernel
set_option maxRecDepth 20000 in
theorem ggX0_requirePresent_X0_requireGeneral : GoodIn wsX0_requirePresent wsX0_requireGeneral := goodIn_ca (goodIn_r _ [9, 1, 2, 10, 11, 12, 8, 13, 14, 15, 16, 17, 18, 19, 20, 21, 22, 23, 24, 25, 26, 27, 28, 29, 30, 31, 32] (by decide +kernel) (by decide +kernel)) (goodIn_sub (fun _ h => List.mem_cons_of_mem _ (List.mem_append_right _ h)) (by decide +kernel))
set_option maxRecDepth 20000 in
theorem gX0_requirePresent_X0_requireGeneral : GoodIn wsX0_requirePresent (wsV RX0 56 RX0 yX0_requireGeneral wsX0_requireGeneral) := goodIn_app (goodIn_of _ (by decide +kernel)) ggX0_requirePresent_X0_requireGeneral
theorem dX0_requirePresent_0 : decode cX0_requirePresent 0 = .ok (.aload_n 0, 1) := by decide +kernel
theorem dX0_requirePresent_1 : decode cX0_requirePresent 1 = .ok (.iload_n 1, 1) := by decide +kernel
theorem dX0_requirePresent_2 : decode cX0_requirePresent 2 = .ok (.invokevirtual 56, 3) := by decide +kernel
theorem dX0_requirePresent_5 : decode cX0_requirePresent 5 = .ok (.aload_n 0, 1) := by decide +kernel
theorem dX0_requirePresent_6 : decode cX0_requirePresent 6 = .ok (.getfield 133, 3) := by decide +kernel
theorem dX0_requirePresent_9 : decode cX0_requirePresent 9 = .ok (.ifCond .le 21, 3) := by decide +kernel
theorem dX0_requirePresent_12 : decode cX0_requirePresent 12 = .ok (.iload_n 1, 1) := by decide +kernel
theorem dX0_requirePresent_13 : decode cX0_requirePresent 13 = .ok (.aload_n 0, 1) := by decide +kernel
theorem dX0_requirePresent_14 : decode cX0_requirePresent 14 = .ok (.getfield 145, 3) := by decide +kernel
theorem dX0_requirePresent_17 : decode cX0_requirePresent 17 = .ok (.if_icmp .lt 13, 3) := by decide +kernel
theorem dX0_requirePresent_20 : decode cX0_requirePresent 20 = .ok (.new 60, 3) := by decide +kernel
theorem dX0_requirePresent_23 : decode cX0_requirePresent 23 = .ok (.dup, 1) := by decide +kernel
theorem dX0_requirePresent_24 : decode cX0_requirePresent 24 = .ok (.ldc 153, 2) := by decide +kernel
theorem dX0_requirePresent_26 : decode cX0_requirePresent 26 = .ok (.invokespecial 64, 3) := by decide +kernel
theorem dX0_requirePresent_29 : decode cX0_requirePresent 29 = .ok (.athrow, 1) := by decide +kernel
theorem dX0_requirePresent_30 : decode cX0_requirePresent 30 = .ok (.return_, 1) := by decide +kernel
theorem dX0_requireRounds_0 : decode cX0_requireRounds 0 = .ok (.iload_n 0, 1) := by decide +kernel
theorem dX0_requireRounds_1 : decode cX0_requireRounds 1 = .ok (.ifCond .lt 8, 3) := by decide +kernel
theorem dX0_requireRounds_4 : decode cX0_requireRounds 4 = .ok (.iload_n 0, 1) := by decide +kernel
theorem dX0_requireRounds_5 : decode cX0_requireRounds 5 = .ok (.iconst 3, 1) := by decide +kernel
theorem dX0_requireRounds_6 : decode cX0_requireRounds 6 = .ok (.if_icmp .le 13, 3) := by decide +kernel
theorem dX0_requireRounds_9 : decode cX0_requireRounds 9 = .ok (.new 105, 3) := by decide +kernel
theorem dX0_requireRounds_12 : decode cX0_requireRounds 12 = .ok (.dup, 1) := by decide +kernel
theorem dX0_requireRounds_13 : decode cX0_requireRounds 13 = .ok (.ldc 159, 2) := by decide +kernel
theorem dX0_requireRounds_15 : decode cX0_requireRounds 15 = .ok (.invokespecial 109, 3) := by decide +kernel
theorem dX0_requireRounds_18 : decode cX0_requireRounds 18 = .ok (.athrow, 1) := by decide +kernel
theorem dX0_requireRounds_19 : decode cX0_requireRounds 19 = .ok (.return_, 1) := by decide +kernel
theorem dX0_alwaysAgree_0 : decode cX0_alwaysAgree 0 = .ok (.iconst 0, 1) := by decide +kernel
theorem dX0_alwaysAgree_1 : decode cX0_alwaysAgree 1 = .ok (.istore_n 2, 1) := by decide +kernel
theorem dX0_alwaysAgree_2 : decode cX0_alwaysAgree 2 = .ok (.iload_n 2, 1) := by decide +kernel
theorem dX0_alwaysAgree_3 : decode cX0_alwaysAgree 3 = .ok (.aload_n 0, 1) := by decide +kernel
theorem dX0_alwaysAgree_4 : decode cX0_alwaysAgree 4 = .ok (.getfield 46, 3) := by decide +kernel
theorem dX0_alwaysAgree_7 : decode cX0_alwaysAgree 7 = .ok (.if_icmp .ge 34, 3) := by decide +kernel
theorem dX0_alwaysAgree_10 : decode cX0_alwaysAgree 10 = .ok (.iconst 0, 1) := by decide +kernel
theorem dX0_alwaysAgree_11 : decode cX0_alwaysAgree 11 = .ok (.istore_n 3, 1) := by decide +kernel
theorem dX0_alwaysAgree_12 : decode cX0_alwaysAgree 12 = .ok (.iload_n 3, 1) := by decide +kernel
theorem dX0_alwaysAgree_13 : decode cX0_alwaysAgree 13 = .ok (.iconst 1, 1) := by decide +kernel
theorem dX0_alwaysAgree_14 : decode cX0_alwaysAgree 14 = .ok (.if_icmp .gt 21, 3) := by decide +kernel
theorem dX0_alwaysAgree_17 : decode cX0_alwaysAgree 17 = .ok (.aload_n 0, 1) := by decide +kernel
theorem dX0_alwaysAgree_18 : decode cX0_alwaysAgree 18 = .ok (.iload_n 2, 1) := by decide +kernel
theorem dX0_alwaysAgree_19 : decode cX0_alwaysAgree 19 = .ok (.iload_n 3, 1) := by decide +kernel
theorem dX0_alwaysAgree_20 : decode cX0_alwaysAgree 20 = .ok (.iload_n 1, 1) := by decide +kernel
theorem dX0_alwaysAgree_21 : decode cX0_alwaysAgree 21 = .ok (.invokevirtual 118, 3) := by decide +kernel
theorem dX0_alwaysAgree_24 : decode cX0_alwaysAgree 24 = .ok (.ifCond .ne 5, 3) := by decide +kernel
theorem dX0_alwaysAgree_27 : decode cX0_alwaysAgree 27 = .ok (.iconst 0, 1) := by decide +kernel
theorem dX0_alwaysAgree_28 : decode cX0_alwaysAgree 28 = .ok (.ireturn, 1) := by decide +kernel
theorem dX0_alwaysAgree_29 : decode cX0_alwaysAgree 29 = .ok (.iinc 3 1, 3) := by decide +kernel
theorem dX0_alwaysAgree_32 : decode cX0_alwaysAgree 32 = .ok (.goto (-20), 3) := by decide +kernel
theorem dX0_alwaysAgree_35 : decode cX0_alwaysAgree 35 = .ok (.iinc 2 1, 3) := by decide +kernel
theorem dX0_alwaysAgree_38 : decode cX0_alwaysAgree 38 = .ok (.goto (-36), 3) := by decide +kernel
theorem dX0_alwaysAgree_41 : decode cX0_alwaysAgree 41 = .ok (.iconst 1, 1) := by decide +kernel
theorem dX0_alwaysAgree_42 : decode cX0_alwaysAgree 42 = .ok (.ireturn, 1) := by decide +kernel
theorem dX0_messengersAmong_0 : decode cX0_messengersAmong 0 = .ok (.iconst 1, 1) := by decide +kernel
theorem dX0_messengersAmong_1 : decode cX0_messengersAmong 1 = .ok (.istore_n 2, 1) := by decide +kernel
theorem dX0_messengersAmong_2 : decode cX0_messengersAmong 2 = .ok (.iconst 0, 1) := by decide +kernel
theorem dX0_messengersAmong_3 : decode cX0_messengersAmong 3 = .ok (.istore_n 3, 1) := by decide +kernel
theorem dX0_messengersAmong_4 : decode cX0_messengersAmong 4 = .ok (.iconst 0, 1) := by decide +kernel
theorem dX0_messengersAmong_5 : decode cX0_messengersAmong 5 = .ok (.istore 4, 2) := by decide +kernel
theorem dX0_messengersAmong_7 : decode cX0_messengersAmong 7 = .ok (.iload 4, 2) := by decide +kernel
theorem dX0_messengersAmong_9 : decode cX0_messengersAmong 9 = .ok (.iload_n 1, 1) := by decide +kernel
theorem dX0_messengersAmong_10 : decode cX0_messengersAmong 10 = .ok (.if_icmp .gt 30, 3) := by decide +kernel
theorem dX0_messengersAmong_13 : decode cX0_messengersAmong 13 = .ok (.iload 4, 2) := by decide +kernel
theorem dX0_messengersAmong_15 : decode cX0_messengersAmong 15 = .ok (.iload_n 0, 1) := by decide +kernel
theorem dX0_messengersAmong_16 : decode cX0_messengersAmong 16 = .ok (.iconst 1, 1) := by decide +kernel
theorem dX0_messengersAmong_17 : decode cX0_messengersAmong 17 = .ok (.isub, 1) := by decide +kernel
theorem dX0_messengersAmong_18 : decode cX0_messengersAmong 18 = .ok (.if_icmp .ge 22, 3) := by decide +kernel
theorem dX0_messengersAmong_21 : decode cX0_messengersAmong 21 = .ok (.iload_n 2, 1) := by decide +kernel
theorem dX0_messengersAmong_22 : decode cX0_messengersAmong 22 = .ok (.iload_n 0, 1) := by decide +kernel
theorem dX0_messengersAmong_23 : decode cX0_messengersAmong 23 = .ok (.iconst 1, 1) := by decide +kernel
theorem dX0_messengersAmong_24 : decode cX0_messengersAmong 24 = .ok (.isub, 1) := by decide +kernel
theorem dX0_messengersAmong_25 : decode cX0_messengersAmong 25 = .ok (.iload 4, 2) := by decide +kernel
theorem dX0_messengersAmong_27 : decode cX0_messengersAmong 27 = .ok (.isub, 1) := by decide +kernel
theorem dX0_messengersAmong_28 : decode cX0_messengersAmong 28 = .ok (.imul, 1) := by decide +kernel
theorem dX0_messengersAmong_29 : decode cX0_messengersAmong 29 = .ok (.istore_n 2, 1) := by decide +kernel
theorem dX0_messengersAmong_30 : decode cX0_messengersAmong 30 = .ok (.iload_n 3, 1) := by decide +kernel
theorem dX0_messengersAmong_31 : decode cX0_messengersAmong 31 = .ok (.iload_n 2, 1) := by decide +kernel
theorem dX0_messengersAmong_32 : decode cX0_messengersAmong 32 = .ok (.iadd, 1) := by decide +kernel
theorem dX0_messengersAmong_33 : decode cX0_messengersAmong 33 = .ok (.istore_n 3, 1) := by decide +kernel
theorem dX0_messengersAmong_34 : decode cX0_messengersAmong 34 = .ok (.iinc 4 1, 3) := by decide +kernel
theorem dX0_messengersAmong_37 : decode cX0_messengersAmong 37 = .ok (.goto (-30), 3) := by decide +kernel
theorem dX0_messengersAmong_40 : decode cX0_messengersAmong 40 = .ok (.iload_n 3, 1) := by decide +kernel
theorem dX0_messengersAmong_41 : decode cX0_messengersAmong 41 = .ok (.ireturn, 1) := by decide +kernel
set_option maxRecDepth 20000 in
theorem ggX0_counted_X0_liarsNow : GoodIn wsX0_counted wsX0_liarsNow := goodIn_r _ [8, 1, 9, 23, 24, 25, 26, 27, 28, 29, 30, 31, 32, 33, 34, 35, 36, 37, 38, 39, 40] (by decide +kernel) (by decide +kernel)
set_option maxRecDepth 20000 in
theorem gX0_counted_X0_liarsNow : GoodIn wsX0_counted (wsV RX0 187 RX0 yX0_liarsNow wsX0_liarsNow) := goodIn_app (goodIn_of _ (by decide +kernel)) ggX0_counted_X0_liarsNow
theorem dX0_counted_0 : decode cX0_counted 0 = .ok (.iload_n 1, 1) := by decide +kernel
theorem dX0_counted_1 : decode cX0_counted 1 = .ok (.tableswitch 51 0 3 #[31, 36, 41, 46], 31) := by decide +kernel
theorem dX0_counted_32 : decode cX0_counted 32 = .ok (.aload_n 0, 1) := by decide +kernel
theorem dX0_counted_33 : decode cX0_counted 33 = .ok (.getfield 46, 3) := by decide +kernel
theorem dX0_counted_36 : decode cX0_counted 36 = .ok (.ireturn, 1) := by decide +kernel
theorem dX0_counted_37 : decode cX0_counted 37 = .ok (.aload_n 0, 1) := by decide +kernel
theorem dX0_counted_38 : decode cX0_counted 38 = .ok (.getfield 7, 3) := by decide +kernel
theorem dX0_counted_41 : decode cX0_counted 41 = .ok (.ireturn, 1) := by decide +kernel
theorem dX0_counted_42 : decode cX0_counted 42 = .ok (.aload_n 0, 1) := by decide +kernel
theorem dX0_counted_43 : decode cX0_counted 43 = .ok (.invokevirtual 187, 3) := by decide +kernel
theorem dX0_counted_46 : decode cX0_counted 46 = .ok (.ireturn, 1) := by decide +kernel
theorem dX0_counted_47 : decode cX0_counted 47 = .ok (.aload_n 0, 1) := by decide +kernel
theorem dX0_counted_48 : decode cX0_counted 48 = .ok (.getfield 133, 3) := by decide +kernel
theorem dX0_counted_51 : decode cX0_counted 51 = .ok (.ireturn, 1) := by decide +kernel
theorem dX0_counted_52 : decode cX0_counted 52 = .ok (.aload_n 0, 1) := by decide +kernel
theorem dX0_counted_53 : decode cX0_counted 53 = .ok (.getfield 133, 3) := by decide +kernel
theorem dX0_counted_56 : decode cX0_counted 56 = .ok (.ifCond .ne 7, 3) := by decide +kernel
theorem dX0_counted_59 : decode cX0_counted 59 = .ok (.iconst (-1), 1) := by decide +kernel
theorem dX0_counted_60 : decode cX0_counted 60 = .ok (.goto 8, 3) := by decide +kernel
theorem dX0_counted_63 : decode cX0_counted 63 = .ok (.aload_n 0, 1) := by decide +kernel
theorem dX0_counted_64 : decode cX0_counted 64 = .ok (.iload_n 1, 1) := by decide +kernel
theorem dX0_counted_65 : decode cX0_counted 65 = .ok (.invokevirtual 191, 3) := by decide +kernel
theorem dX0_counted_68 : decode cX0_counted 68 = .ok (.ireturn, 1) := by decide +kernel
theorem dX0_liarsNow_0 : decode cX0_liarsNow 0 = .ok (.iconst 0, 1) := by decide +kernel
theorem dX0_liarsNow_1 : decode cX0_liarsNow 1 = .ok (.istore_n 1, 1) := by decide +kernel
theorem dX0_liarsNow_2 : decode cX0_liarsNow 2 = .ok (.iconst 0, 1) := by decide +kernel
theorem dX0_liarsNow_3 : decode cX0_liarsNow 3 = .ok (.istore_n 2, 1) := by decide +kernel
theorem dX0_liarsNow_4 : decode cX0_liarsNow 4 = .ok (.iload_n 2, 1) := by decide +kernel
theorem dX0_liarsNow_5 : decode cX0_liarsNow 5 = .ok (.aload_n 0, 1) := by decide +kernel
theorem dX0_liarsNow_6 : decode cX0_liarsNow 6 = .ok (.getfield 46, 3) := by decide +kernel
theorem dX0_liarsNow_9 : decode cX0_liarsNow 9 = .ok (.if_icmp .ge 21, 3) := by decide +kernel
theorem dX0_liarsNow_12 : decode cX0_liarsNow 12 = .ok (.aload_n 0, 1) := by decide +kernel
theorem dX0_liarsNow_13 : decode cX0_liarsNow 13 = .ok (.getfield 13, 3) := by decide +kernel
theorem dX0_liarsNow_16 : decode cX0_liarsNow 16 = .ok (.iload_n 2, 1) := by decide +kernel
theorem dX0_liarsNow_17 : decode cX0_liarsNow 17 = .ok (.iaload, 1) := by decide +kernel
theorem dX0_liarsNow_18 : decode cX0_liarsNow 18 = .ok (.ifCond .eq 6, 3) := by decide +kernel
theorem dX0_liarsNow_21 : decode cX0_liarsNow 21 = .ok (.iinc 1 1, 3) := by decide +kernel
theorem dX0_liarsNow_24 : decode cX0_liarsNow 24 = .ok (.iinc 2 1, 3) := by decide +kernel
theorem dX0_liarsNow_27 : decode cX0_liarsNow 27 = .ok (.goto (-23), 3) := by decide +kernel
theorem dX0_liarsNow_30 : decode cX0_liarsNow 30 = .ok (.iload_n 1, 1) := by decide +kernel
theorem dX0_liarsNow_31 : decode cX0_liarsNow 31 = .ok (.ireturn, 1) := by decide +kernel
theorem dX0_mixed_0 : decode cX0_mixed 0 = .ok (.lload_n 0, 1) := by decide +kernel
theorem dX0_mixed_1 : decode cX0_mixed 1 = .ok (.ldc2_w 197, 3) := by decide +kernel
theorem dX0_mixed_4 : decode cX0_mixed 4 = .ok (.lmul, 1) := by decide +kernel
theorem dX0_mixed_5 : decode cX0_mixed 5 = .ok (.lload_n 2, 1) := by decide +kernel
theorem dX0_mixed_6 : decode cX0_mixed 6 = .ok (.ladd, 1) := by decide +kernel
theorem dX0_mixed_7 : decode cX0_mixed 7 = .ok (.lreturn, 1) := by decide +kernel
end
section
theorem dX1_init_0 : decode cX1_init 0 = .ok (.aload_n 0, 1) := by decide +kernel
theorem dX1_init_1 : decode cX1_init 1 = .ok (.invokespecial 1, 3) := by decide +kernel
theorem dX1_init_4 : decode cX1_init 4 = .ok (.aload_n 0, 1) := by decide +kernel
theorem dX1_init_5 : decode cX1_init 5 = .ok (.iconst 1, 1) := by decide +kernel
theorem dX1_init_6 : decode cX1_init 6 = .ok (.putfield 7, 3) := by decide +kernel
theorem dX1_init_9 : decode cX1_init 9 = .ok (.aload_n 0, 1) := by decide +kernel
theorem dX1_init_10 : decode cX1_init 10 = .ok (.bipush 7, 2) := by decide +kernel
theorem dX1_init_12 : decode cX1_init 12 = .ok (.newarray .int, 2) := by decide +kernel
theorem dX1_init_14 : decode cX1_init 14 = .ok (.putfield 13, 3) := by decide +kernel
theorem dX1_init_17 : decode cX1_init 17 = .ok (.aload_n 0, 1) := by decide +kernel
theorem dX1_init_18 : decode cX1_init 18 = .ok (.bipush 7, 2) := by decide +kernel
theorem dX1_init_20 : decode cX1_init 20 = .ok (.iconst 3, 1) := by decide +kernel
theorem dX1_init_21 : decode cX1_init 21 = .ok (.multianewarray 17 2, 4) := by decide +kernel
theorem dX1_init_25 : decode cX1_init 25 = .ok (.putfield 19, 3) := by decide +kernel
theorem dX1_init_28 : decode cX1_init 28 = .ok (.aload_n 0, 1) := by decide +kernel
theorem dX1_init_29 : decode cX1_init 29 = .ok (.iconst (-1), 1) := by decide +kernel
theorem dX1_init_30 : decode cX1_init 30 = .ok (.putfield 22, 3) := by decide +kernel
theorem dX1_init_33 : decode cX1_init 33 = .ok (.aload_n 0, 1) := by decide +kernel
theorem dX1_init_34 : decode cX1_init 34 = .ok (.iconst (-1), 1) := by decide +kernel
theorem dX1_init_35 : decode cX1_init 35 = .ok (.putfield 25, 3) := by decide +kernel
theorem dX1_init_38 : decode cX1_init 38 = .ok (.aload_n 0, 1) := by decide +kernel
theorem dX1_init_39 : decode cX1_init 39 = .ok (.iconst (-1), 1) := by decide +kernel
theorem dX1_init_40 : decode cX1_init 40 = .ok (.putfield 28, 3) := by decide +kernel
theorem dX1_init_43 : decode cX1_init 43 = .ok (.aload_n 0, 1) := by decide +kernel
theorem dX1_init_44 : decode cX1_init 44 = .ok (.bipush 7, 2) := by decide +kernel
theorem dX1_init_46 : decode cX1_init 46 = .ok (.newarray .int, 2) := by decide +kernel
theorem dX1_init_48 : decode cX1_init 48 = .ok (.putfield 31, 3) := by decide +kernel
theorem dX1_init_51 : decode cX1_init 51 = .ok (.aload_n 0, 1) := by decide +kernel
theorem dX1_init_52 : decode cX1_init 52 = .ok (.bipush 7, 2) := by decide +kernel
theorem dX1_init_54 : decode cX1_init 54 = .ok (.bipush 7, 2) := by decide +kernel
theorem dX1_init_56 : decode cX1_init 56 = .ok (.multianewarray 17 2, 4) := by decide +kernel
theorem dX1_init_60 : decode cX1_init 60 = .ok (.putfield 34, 3) := by decide +kernel
theorem dX1_init_63 : decode cX1_init 63 = .ok (.return_, 1) := by decide +kernel
theorem dX1_thrown_0 : decode cX1_thrown 0 = .ok (.aload_n 0, 1) := by decide +kernel
theorem dX1_thrown_1 : decode cX1_thrown 1 = .ok (.getfield 37, 3) := by decide +kernel
theorem dX1_thrown_4 : decode cX1_thrown 4 = .ok (.ireturn, 1) := by decide +kernel
theorem dX1_no_0 : decode cX1_no 0 = .ok (.aload_n 0, 1) := by decide +kernel
theorem dX1_no_1 : decode cX1_no 1 = .ok (.iload_n 1, 1) := by decide +kernel
theorem dX1_no_2 : decode cX1_no 2 = .ok (.putfield 37, 3) := by decide +kernel
theorem dX1_no_5 : decode cX1_no 5 = .ok (.iconst 0, 1) := by decide +kernel
theorem dX1_no_6 : decode cX1_no 6 = .ok (.ireturn, 1) := by decide +kernel
theorem dX1_isIn_0 : decode cX1_isIn 0 = .ok (.iload_n 0, 1) := by decide +kernel
theorem dX1_isIn_1 : decode cX1_isIn 1 = .ok (.iload_n 1, 1) := by decide +kernel
theorem dX1_isIn_2 : decode cX1_isIn 2 = .ok (.if_icmp .lt 12, 3) := by decide +kernel
theorem dX1_isIn_5 : decode cX1_isIn 5 = .ok (.iload_n 0, 1) := by decide +kernel
theorem dX1_isIn_6 : decode cX1_isIn 6 = .ok (.iload_n 2, 1) := by decide +kernel
theorem dX1_isIn_7 : decode cX1_isIn 7 = .ok (.if_icmp .gt 7, 3) := by decide +kernel
theorem dX1_isIn_10 : decode cX1_isIn 10 = .ok (.iconst 1, 1) := by decide +kernel
theorem dX1_isIn_11 : decode cX1_isIn 11 = .ok (.goto 4, 3) := by decide +kernel
theorem dX1_isIn_14 : decode cX1_isIn 14 = .ok (.iconst 0, 1) := by decide +kernel
theorem dX1_isIn_15 : decode cX1_isIn 15 = .ok (.ireturn, 1) := by decide +kernel
set_option maxRecDepth 20000 in
theorem ggX1_isGeneral_X1_isIn : GoodIn wsX1_isGeneral wsX1_isIn := goodIn_r _ [5] (by decide +kernel) (by decide +kernel)
set_option maxRecDepth 20000 in
theorem gX1_isGeneral_X1_isIn : GoodIn wsX1_isGeneral (va_wsS RX1 43 yX1_isIn wsX1_isIn) := goodIn_app (goodIn_of _ (by decide +kernel)) ggX1_isGeneral_X1_isIn
theorem dX1_isGeneral_0 : decode cX1_isGeneral 0 = .ok (.iload_n 1, 1) := by decide +kernel
theorem dX1_isGeneral_1 : decode cX1_isGeneral 1 = .ok (.iconst 0, 1) := by decide +kernel
theorem dX1_isGeneral_2 : decode cX1_isGeneral 2 = .ok (.aload_n 0, 1) := by decide +kernel
theorem dX1_isGeneral_3 : decode cX1_isGeneral 3 = .ok (.getfield 40, 3) := by decide +kernel
theorem dX1_isGeneral_6 : decode cX1_isGeneral 6 = .ok (.iconst 1, 1) := by decide +kernel
theorem dX1_isGeneral_7 : decode cX1_isGeneral 7 = .ok (.isub, 1) := by decide +kernel
theorem dX1_isGeneral_8 : decode cX1_isGeneral 8 = .ok (.invokestatic 43, 3) := by decide +kernel
theorem dX1_isGeneral_11 : decode cX1_isGeneral 11 = .ok (.ireturn, 1) := by decide +kernel
set_option maxRecDepth 20000 in
theorem ggX1_runners_X1_runners : GoodIn wsX1_runners wsX1_runners := goodIn_r _ [0, 1, 2, 3] (by decide +kernel) (by decide +kernel)
set_option maxRecDepth 20000 in
theorem gX1_runners_X1_runners : GoodIn wsX1_runners (va_wsS RX1 64 yX1_runners wsX1_runners) := goodIn_app (goodIn_of _ (by decide +kernel)) ggX1_runners_X1_runners
theorem dX1_runners_0 : decode cX1_runners 0 = .ok (.iload_n 0, 1) := by decide +kernel
theorem dX1_runners_1 : decode cX1_runners 1 = .ok (.iconst 2, 1) := by decide +kernel
theorem dX1_runners_2 : decode cX1_runners 2 = .ok (.if_icmp .ge 5, 3) := by decide +kernel
theorem dX1_runners_5 : decode cX1_runners 5 = .ok (.iconst 0, 1) := by decide +kernel
theorem dX1_runners_6 : decode cX1_runners 6 = .ok (.ireturn, 1) := by decide +kernel
theorem dX1_runners_7 : decode cX1_runners 7 = .ok (.iload_n 1, 1) := by decide +kernel
theorem dX1_runners_8 : decode cX1_runners 8 = .ok (.ifCond .ne 9, 3) := by decide +kernel
theorem dX1_runners_11 : decode cX1_runners 11 = .ok (.iload_n 0, 1) := by decide +kernel
theorem dX1_runners_12 : decode cX1_runners 12 = .ok (.iconst 1, 1) := by decide +kernel
theorem dX1_runners_13 : decode cX1_runners 13 = .ok (.isub, 1) := by decide +kernel
theorem dX1_runners_14 : decode cX1_runners 14 = .ok (.goto 18, 3) := by decide +kernel
theorem dX1_runners_17 : decode cX1_runners 17 = .ok (.iload_n 0, 1) := by decide +kernel
theorem dX1_runners_18 : decode cX1_runners 18 = .ok (.iconst 1, 1) := by decide +kernel
theorem dX1_runners_19 : decode cX1_runners 19 = .ok (.isub, 1) := by decide +kernel
theorem dX1_runners_20 : decode cX1_runners 20 = .ok (.iconst 1, 1) := by decide +kernel
theorem dX1_runners_21 : decode cX1_runners 21 = .ok (.iload_n 0, 1) := by decide +kernel
theorem dX1_runners_22 : decode cX1_runners 22 = .ok (.iconst 1, 1) := by decide +kernel
theorem dX1_runners_23 : decode cX1_runners 23 = .ok (.isub, 1) := by decide +kernel
theorem dX1_runners_24 : decode cX1_runners 24 = .ok (.iload_n 1, 1) := by decide +kernel
theorem dX1_runners_25 : decode cX1_runners 25 = .ok (.iconst 1, 1) := by decide +kernel
theorem dX1_runners_26 : decode cX1_runners 26 = .ok (.isub, 1) := by decide +kernel
theorem dX1_runners_27 : decode cX1_runners 27 = .ok (.invokestatic 64, 3) := by decide +kernel
theorem dX1_runners_30 : decode cX1_runners 30 = .ok (.iadd, 1) := by decide +kernel
theorem dX1_runners_31 : decode cX1_runners 31 = .ok (.imul, 1) := by decide +kernel
theorem dX1_runners_32 : decode cX1_runners 32 = .ok (.ireturn, 1) := by decide +kernel
set_option maxRecDepth 20000 in
theorem ggX1_come_X1_no : GoodIn wsX1_come wsX1_no := goodIn_r _ [7, 1, 8, 9, 10, 11, 12, 13, 14, 15, 16, 17, 18, 19] (by decide +kernel) (by decide +kernel)
set_option maxRecDepth 20000 in
theorem gX1_come_X1_no : GoodIn wsX1_come (wsV RX1 72 RX1 yX1_no wsX1_no) := goodIn_app (goodIn_of _ (by decide +kernel)) ggX1_come_X1_no
theorem dX1_come_0 : decode cX1_come 0 = .ok (.aload_n 0, 1) := by decide +kernel
theorem dX1_come_1 : decode cX1_come 1 = .ok (.iconst 0, 1) := by decide +kernel
theorem dX1_come_2 : decode cX1_come 2 = .ok (.putfield 37, 3) := by decide +kernel
theorem dX1_come_5 : decode cX1_come 5 = .ok (.aload_n 0, 1) := by decide +kernel
theorem dX1_come_6 : decode cX1_come 6 = .ok (.getfield 40, 3) := by decide +kernel
theorem dX1_come_9 : decode cX1_come 9 = .ok (.bipush 7, 2) := by decide +kernel
theorem dX1_come_11 : decode cX1_come 11 = .ok (.if_icmp .ne 9, 3) := by decide +kernel
theorem dX1_come_14 : decode cX1_come 14 = .ok (.aload_n 0, 1) := by decide +kernel
theorem dX1_come_15 : decode cX1_come 15 = .ok (.iconst 1, 1) := by decide +kernel
theorem dX1_come_16 : decode cX1_come 16 = .ok (.invokevirtual 72, 3) := by decide +kernel
theorem dX1_come_19 : decode cX1_come 19 = .ok (.ireturn, 1) := by decide +kernel
theorem dX1_come_20 : decode cX1_come 20 = .ok (.aload_n 0, 1) := by decide +kernel
theorem dX1_come_21 : decode cX1_come 21 = .ok (.dup, 1) := by decide +kernel
theorem dX1_come_22 : decode cX1_come 22 = .ok (.getfield 40, 3) := by decide +kernel
theorem dX1_come_25 : decode cX1_come 25 = .ok (.iconst 1, 1) := by decide +kernel
theorem dX1_come_26 : decode cX1_come 26 = .ok (.iadd, 1) := by decide +kernel
theorem dX1_come_27 : decode cX1_come 27 = .ok (.putfield 40, 3) := by decide +kernel
theorem dX1_come_30 : decode cX1_come 30 = .ok (.aload_n 0, 1) := by decide +kernel
theorem dX1_come_31 : decode cX1_come 31 = .ok (.getfield 40, 3) := by decide +kernel
theorem dX1_come_34 : decode cX1_come 34 = .ok (.iconst 1, 1) := by decide +kernel
theorem dX1_come_35 : decode cX1_come 35 = .ok (.isub, 1) := by decide +kernel
theorem dX1_come_36 : decode cX1_come 36 = .ok (.ireturn, 1) := by decide +kernel
set_option maxRecDepth 20000 in
theorem ggX1_setKind_X1_isGeneral : GoodIn wsX1_setKind wsX1_isGeneral := goodIn_r _ [7, 8, 9, 10, 6, 11, 16, 17, 18, 19, 20, 21, 22, 23, 24, 25, 26, 27] (by decide +kernel) (by decide +kernel)
set_option maxRecDepth 20000 in
theorem gX1_setKind_X1_isGeneral : GoodIn wsX1_setKind (wsV RX1 76 RX1 yX1_isGeneral wsX1_isGeneral) := goodIn_app (goodIn_of _ (by decide +kernel)) ggX1_setKind_X1_isGeneral
set_option maxRecDepth 20000 in
theorem ggX1_setKind_X1_isIn : GoodIn wsX1_setKind wsX1_isIn := goodIn_r _ [11] (by decide +kernel) (by decide +kernel)
set_option maxRecDepth 20000 in
theorem gX1_setKind_X1_isIn : GoodIn wsX1_setKind (va_wsS RX1 43 yX1_isIn wsX1_isIn) := goodIn_app (goodIn_of _ (by decide +kernel)) ggX1_setKind_X1_isIn
set_option maxRecDepth 20000 in
theorem ggX1_setKind_X1_no : GoodIn wsX1_setKind wsX1_no := goodIn_r _ [15, 1, 16, 17, 18, 19, 20, 21, 22, 23, 24, 25, 26, 27] (by decide +kernel) (by decide +kernel)
set_option maxRecDepth 20000 in
theorem gX1_setKind_X1_no : GoodIn wsX1_setKind (wsV RX1 72 RX1 yX1_no wsX1_no) := goodIn_app (goodIn_of _ (by decide +kernel)) ggX1_setKind_X1_no
theorem dX1_setKind_0 : decode cX1_setKind 0 = .ok (.aload_n 0, 1) := by decide +kernel
theorem dX1_setKind_1 : decode cX1_setKind 1 = .ok (.iconst 0, 1) := by decide +kernel
theorem dX1_setKind_2 : decode cX1_setKind 2 = .ok (.putfield 37, 3) := by decide +kernel
theorem dX1_setKind_5 : decode cX1_setKind 5 = .ok (.aload_n 0, 1) := by decide +kernel
theorem dX1_setKind_6 : decode cX1_setKind 6 = .ok (.iload_n 1, 1) := by decide +kernel
theorem dX1_setKind_7 : decode cX1_setKind 7 = .ok (.invokevirtual 76, 3) := by decide +kernel
theorem dX1_setKind_10 : decode cX1_setKind 10 = .ok (.ifCond .eq 12, 3) := by decide +kernel
theorem dX1_setKind_13 : decode cX1_setKind 13 = .ok (.iload_n 2, 1) := by decide +kernel
theorem dX1_setKind_14 : decode cX1_setKind 14 = .ok (.iconst 0, 1) := by decide +kernel
theorem dX1_setKind_15 : decode cX1_setKind 15 = .ok (.iconst 4, 1) := by decide +kernel
theorem dX1_setKind_16 : decode cX1_setKind 16 = .ok (.invokestatic 43, 3) := by decide +kernel
theorem dX1_setKind_19 : decode cX1_setKind 19 = .ok (.ifCond .ne 9, 3) := by decide +kernel
theorem dX1_setKind_22 : decode cX1_setKind 22 = .ok (.aload_n 0, 1) := by decide +kernel
theorem dX1_setKind_23 : decode cX1_setKind 23 = .ok (.iconst 1, 1) := by decide +kernel
theorem dX1_setKind_24 : decode cX1_setKind 24 = .ok (.invokevirtual 72, 3) := by decide +kernel
theorem dX1_setKind_27 : decode cX1_setKind 27 = .ok (.ireturn, 1) := by decide +kernel
theorem dX1_setKind_28 : decode cX1_setKind 28 = .ok (.aload_n 0, 1) := by decide +kernel
theorem dX1_setKind_29 : decode cX1_setKind 29 = .ok (.getfield 13, 3) := by decide +kernel
theorem dX1_setKind_32 : decode cX1_setKind 32 = .ok (.iload_n 1, 1) := by decide +kernel
theorem dX1_setKind_33 : decode cX1_setKind 33 = .ok (.iaload, 1) := by decide +kernel
theorem dX1_setKind_34 : decode cX1_setKind 34 = .ok (.istore_n 3, 1) := by decide +kernel
theorem dX1_setKind_35 : decode cX1_setKind 35 = .ok (.aload_n 0, 1) := by decide +kernel
theorem dX1_setKind_36 : decode cX1_setKind 36 = .ok (.getfield 13, 3) := by decide +kernel
theorem dX1_setKind_39 : decode cX1_setKind 39 = .ok (.iload_n 1, 1) := by decide +kernel
theorem dX1_setKind_40 : decode cX1_setKind 40 = .ok (.iload_n 2, 1) := by decide +kernel
theorem dX1_setKind_41 : decode cX1_setKind 41 = .ok (.iastore, 1) := by decide +kernel
theorem dX1_setKind_42 : decode cX1_setKind 42 = .ok (.iload_n 3, 1) := by decide +kernel
theorem dX1_setKind_43 : decode cX1_setKind 43 = .ok (.ireturn, 1) := by decide +kernel
set_option maxRecDepth 20000 in
theorem ggX1_setRounds_X1_isIn : GoodIn wsX1_setRounds wsX1_isIn := goodIn_r _ [6] (by decide +kernel) (by decide +kernel)
set_option maxRecDepth 20000 in
theorem gX1_setRounds_X1_isIn : GoodIn wsX1_setRounds (va_wsS RX1 43 yX1_isIn wsX1_isIn) := goodIn_app (goodIn_of _ (by decide +kernel)) ggX1_setRounds_X1_isIn
set_option maxRecDepth 20000 in
theorem ggX1_setRounds_X1_no : GoodIn wsX1_setRounds wsX1_no := goodIn_r _ [10, 1, 11, 12, 13, 14, 15, 16, 17, 18, 19, 20, 21, 22] (by decide +kernel) (by decide +kernel)
set_option maxRecDepth 20000 in
theorem gX1_setRounds_X1_no : GoodIn wsX1_setRounds (wsV RX1 72 RX1 yX1_no wsX1_no) := goodIn_app (goodIn_of _ (by decide +kernel)) ggX1_setRounds_X1_no
theorem dX1_setRounds_0 : decode cX1_setRounds 0 = .ok (.aload_n 0, 1) := by decide +kernel
theorem dX1_setRounds_1 : decode cX1_setRounds 1 = .ok (.iconst 0, 1) := by decide +kernel
theorem dX1_setRounds_2 : decode cX1_setRounds 2 = .ok (.putfield 37, 3) := by decide +kernel
theorem dX1_setRounds_5 : decode cX1_setRounds 5 = .ok (.iload_n 1, 1) := by decide +kernel
theorem dX1_setRounds_6 : decode cX1_setRounds 6 = .ok (.iconst 0, 1) := by decide +kernel
theorem dX1_setRounds_7 : decode cX1_setRounds 7 = .ok (.iconst 3, 1) := by decide +kernel
theorem dX1_setRounds_8 : decode cX1_setRounds 8 = .ok (.invokestatic 43, 3) := by decide +kernel
theorem dX1_setRounds_11 : decode cX1_setRounds 11 = .ok (.ifCond .ne 9, 3) := by decide +kernel
theorem dX1_setRounds_14 : decode cX1_setRounds 14 = .ok (.aload_n 0, 1) := by decide +kernel
theorem dX1_setRounds_15 : decode cX1_setRounds 15 = .ok (.iconst 1, 1) := by decide +kernel
theorem dX1_setRounds_16 : decode cX1_setRounds 16 = .ok (.invokevirtual 72, 3) := by decide +kernel
theorem dX1_setRounds_19 : decode cX1_setRounds 19 = .ok (.ireturn, 1) := by decide +kernel
theorem dX1_setRounds_20 : decode cX1_setRounds 20 = .ok (.aload_n 0, 1) := by decide +kernel
theorem dX1_setRounds_21 : decode cX1_setRounds 21 = .ok (.getfield 7, 3) := by decide +kernel
theorem dX1_setRounds_24 : decode cX1_setRounds 24 = .ok (.istore_n 2, 1) := by decide +kernel
theorem dX1_setRounds_25 : decode cX1_setRounds 25 = .ok (.aload_n 0, 1) := by decide +kernel
theorem dX1_setRounds_26 : decode cX1_setRounds 26 = .ok (.iload_n 1, 1) := by decide +kernel
theorem dX1_setRounds_27 : decode cX1_setRounds 27 = .ok (.putfield 7, 3) := by decide +kernel
theorem dX1_setRounds_30 : decode cX1_setRounds 30 = .ok (.iload_n 2, 1) := by decide +kernel
theorem dX1_setRounds_31 : decode cX1_setRounds 31 = .ok (.ireturn, 1) := by decide +kernel
set_option maxRecDepth 20000 in
theorem ggX1_hold_X1_isGeneral : GoodIn wsX1_hold wsX1_isGeneral := goodIn_r _ [15, 3, 16, 17, 14, 18, 54, 55, 56, 57, 58, 59, 60, 61, 62, 63, 64, 65] (by decide +kernel) (by decide +kernel)
set_option maxRecDepth 20000 in
theorem gX1_hold_X1_isGeneral : GoodIn wsX1_hold (wsV RX1 76 RX1 yX1_isGeneral wsX1_isGeneral) := goodIn_app (goodIn_of _ (by decide +kernel)) ggX1_hold_X1_isGeneral
set_option maxRecDepth 20000 in
theorem ggX1_hold_X1_no : GoodIn wsX1_hold wsX1_no := goodIn_r _ [22, 1, 54, 55, 56, 57, 58, 59, 60, 61, 62, 63, 64, 65] (by decide +kernel) (by decide +kernel)
set_option maxRecDepth 20000 in
theorem gX1_hold_X1_no : GoodIn wsX1_hold (wsV RX1 72 RX1 yX1_no wsX1_no) := goodIn_app (goodIn_of _ (by decide +kernel)) ggX1_hold_X1_no
set_option maxRecDepth 20000 in
theorem ggX1_hold_X1_isIn : GoodIn wsX1_hold wsX1_isIn := goodIn_r _ [18] (by decide +kernel) (by decide +kernel)
set_option maxRecDepth 20000 in
theorem gX1_hold_X1_isIn : GoodIn wsX1_hold (va_wsS RX1 43 yX1_isIn wsX1_isIn) := goodIn_app (goodIn_of _ (by decide +kernel)) ggX1_hold_X1_isIn
set_option maxRecDepth 20000 in
theorem ggX1_hold_X1_runners : GoodIn wsX1_hold wsX1_runners := goodIn_r _ [53, 51, 52, 14] (by decide +kernel) (by decide +kernel)
set_option maxRecDepth 20000 in
theorem gX1_hold_X1_runners : GoodIn wsX1_hold (va_wsS RX1 64 yX1_runners wsX1_runners) := goodIn_app (goodIn_of _ (by decide +kernel)) ggX1_hold_X1_runners
theorem dX1_hold_0 : decode cX1_hold 0 = .ok (.aload_n 0, 1) := by decide +kernel
theorem dX1_hold_1 : decode cX1_hold 1 = .ok (.iconst 0, 1) := by decide +kernel
theorem dX1_hold_2 : decode cX1_hold 2 = .ok (.putfield 37, 3) := by decide +kernel
theorem dX1_hold_5 : decode cX1_hold 5 = .ok (.aload_n 0, 1) := by decide +kernel
theorem dX1_hold_6 : decode cX1_hold 6 = .ok (.iload_n 1, 1) := by decide +kernel
theorem dX1_hold_7 : decode cX1_hold 7 = .ok (.invokevirtual 76, 3) := by decide +kernel
theorem dX1_hold_10 : decode cX1_hold 10 = .ok (.ifCond .ne 9, 3) := by decide +kernel
theorem dX1_hold_13 : decode cX1_hold 13 = .ok (.aload_n 0, 1) := by decide +kernel
theorem dX1_hold_14 : decode cX1_hold 14 = .ok (.iconst 1, 1) := by decide +kernel
theorem dX1_hold_15 : decode cX1_hold 15 = .ok (.invokevirtual 72, 3) := by decide +kernel
theorem dX1_hold_18 : decode cX1_hold 18 = .ok (.ireturn, 1) := by decide +kernel
theorem dX1_hold_19 : decode cX1_hold 19 = .ok (.iload_n 2, 1) := by decide +kernel
theorem dX1_hold_20 : decode cX1_hold 20 = .ok (.iconst 0, 1) := by decide +kernel
theorem dX1_hold_21 : decode cX1_hold 21 = .ok (.iconst 1, 1) := by decide +kernel
theorem dX1_hold_22 : decode cX1_hold 22 = .ok (.invokestatic 43, 3) := by decide +kernel
theorem dX1_hold_25 : decode cX1_hold 25 = .ok (.ifCond .ne 9, 3) := by decide +kernel
theorem dX1_hold_28 : decode cX1_hold 28 = .ok (.aload_n 0, 1) := by decide +kernel
theorem dX1_hold_29 : decode cX1_hold 29 = .ok (.iconst 2, 1) := by decide +kernel
theorem dX1_hold_30 : decode cX1_hold 30 = .ok (.invokevirtual 72, 3) := by decide +kernel
theorem dX1_hold_33 : decode cX1_hold 33 = .ok (.ireturn, 1) := by decide +kernel
theorem dX1_hold_34 : decode cX1_hold 34 = .ok (.aload_n 0, 1) := by decide +kernel
theorem dX1_hold_35 : decode cX1_hold 35 = .ok (.iload_n 1, 1) := by decide +kernel
theorem dX1_hold_36 : decode cX1_hold 36 = .ok (.iload_n 2, 1) := by decide +kernel
theorem dX1_hold_37 : decode cX1_hold 37 = .ok (.aload_n 0, 1) := by decide +kernel
theorem dX1_hold_38 : decode cX1_hold 38 = .ok (.getfield 7, 3) := by decide +kernel
theorem dX1_hold_41 : decode cX1_hold 41 = .ok (.invokevirtual 68, 3) := by decide +kernel
theorem dX1_hold_44 : decode cX1_hold 44 = .ok (.astore_n 3, 1) := by decide +kernel
theorem dX1_hold_45 : decode cX1_hold 45 = .ok (.aload_n 0, 1) := by decide +kernel
theorem dX1_hold_46 : decode cX1_hold 46 = .ok (.iload_n 1, 1) := by decide +kernel
theorem dX1_hold_47 : decode cX1_hold 47 = .ok (.iload_n 2, 1) := by decide +kernel
theorem dX1_hold_48 : decode cX1_hold 48 = .ok (.invokevirtual 80, 3) := by decide +kernel
theorem dX1_hold_51 : decode cX1_hold 51 = .ok (.aload_n 0, 1) := by decide +kernel
theorem dX1_hold_52 : decode cX1_hold 52 = .ok (.aload_n 0, 1) := by decide +kernel
theorem dX1_hold_53 : decode cX1_hold 53 = .ok (.getfield 40, 3) := by decide +kernel
theorem dX1_hold_56 : decode cX1_hold 56 = .ok (.putfield 84, 3) := by decide +kernel
theorem dX1_hold_59 : decode cX1_hold 59 = .ok (.aload_n 0, 1) := by decide +kernel
theorem dX1_hold_60 : decode cX1_hold 60 = .ok (.iload_n 1, 1) := by decide +kernel
theorem dX1_hold_61 : decode cX1_hold 61 = .ok (.putfield 22, 3) := by decide +kernel
theorem dX1_hold_64 : decode cX1_hold 64 = .ok (.aload_n 0, 1) := by decide +kernel
theorem dX1_hold_65 : decode cX1_hold 65 = .ok (.iload_n 2, 1) := by decide +kernel
theorem dX1_hold_66 : decode cX1_hold 66 = .ok (.putfield 25, 3) := by decide +kernel
theorem dX1_hold_69 : decode cX1_hold 69 = .ok (.aload_n 0, 1) := by decide +kernel
theorem dX1_hold_70 : decode cX1_hold 70 = .ok (.aload_n 0, 1) := by decide +kernel
theorem dX1_hold_71 : decode cX1_hold 71 = .ok (.getfield 40, 3) := by decide +kernel
theorem dX1_hold_74 : decode cX1_hold 74 = .ok (.aload_n 0, 1) := by decide +kernel
theorem dX1_hold_75 : decode cX1_hold 75 = .ok (.getfield 7, 3) := by decide +kernel
theorem dX1_hold_78 : decode cX1_hold 78 = .ok (.invokestatic 64, 3) := by decide +kernel
theorem dX1_hold_81 : decode cX1_hold 81 = .ok (.putfield 28, 3) := by decide +kernel
theorem dX1_hold_84 : decode cX1_hold 84 = .ok (.aload_n 0, 1) := by decide +kernel
theorem dX1_hold_85 : decode cX1_hold 85 = .ok (.dup, 1) := by decide +kernel
theorem dX1_hold_86 : decode cX1_hold 86 = .ok (.getfield 87, 3) := by decide +kernel
theorem dX1_hold_89 : decode cX1_hold 89 = .ok (.iconst 1, 1) := by decide +kernel
theorem dX1_hold_90 : decode cX1_hold 90 = .ok (.iadd, 1) := by decide +kernel
theorem dX1_hold_91 : decode cX1_hold 91 = .ok (.putfield 87, 3) := by decide +kernel
theorem dX1_hold_94 : decode cX1_hold 94 = .ok (.aload_n 0, 1) := by decide +kernel
theorem dX1_hold_95 : decode cX1_hold 95 = .ok (.getfield 19, 3) := by decide +kernel
theorem dX1_hold_98 : decode cX1_hold 98 = .ok (.iload_n 1, 1) := by decide +kernel
theorem dX1_hold_99 : decode cX1_hold 99 = .ok (.aaload, 1) := by decide +kernel
theorem dX1_hold_100 : decode cX1_hold 100 = .ok (.iconst 1, 1) := by decide +kernel
theorem dX1_hold_101 : decode cX1_hold 101 = .ok (.dup2, 1) := by decide +kernel
theorem dX1_hold_102 : decode cX1_hold 102 = .ok (.iaload, 1) := by decide +kernel
theorem dX1_hold_103 : decode cX1_hold 103 = .ok (.iconst 1, 1) := by decide +kernel
theorem dX1_hold_104 : decode cX1_hold 104 = .ok (.iadd, 1) := by decide +kernel
theorem dX1_hold_105 : decode cX1_hold 105 = .ok (.iastore, 1) := by decide +kernel
theorem dX1_hold_106 : decode cX1_hold 106 = .ok (.iconst 0, 1) := by decide +kernel
theorem dX1_hold_107 : decode cX1_hold 107 = .ok (.istore 4, 2) := by decide +kernel
theorem dX1_hold_109 : decode cX1_hold 109 = .ok (.iconst 0, 1) := by decide +kernel
theorem dX1_hold_110 : decode cX1_hold 110 = .ok (.istore 5, 2) := by decide +kernel
theorem dX1_hold_112 : decode cX1_hold 112 = .ok (.iload 5, 2) := by decide +kernel
theorem dX1_hold_114 : decode cX1_hold 114 = .ok (.aload_n 0, 1) := by decide +kernel
theorem dX1_hold_115 : decode cX1_hold 115 = .ok (.getfield 40, 3) := by decide +kernel
theorem dX1_hold_118 : decode cX1_hold 118 = .ok (.if_icmp .ge 70, 3) := by decide +kernel
theorem dX1_hold_121 : decode cX1_hold 121 = .ok (.aload_n 0, 1) := by decide +kernel
theorem dX1_hold_122 : decode cX1_hold 122 = .ok (.getfield 31, 3) := by decide +kernel
theorem dX1_hold_125 : decode cX1_hold 125 = .ok (.iload 5, 2) := by decide +kernel
theorem dX1_hold_127 : decode cX1_hold 127 = .ok (.aload_n 3, 1) := by decide +kernel
theorem dX1_hold_128 : decode cX1_hold 128 = .ok (.iload 5, 2) := by decide +kernel
theorem dX1_hold_130 : decode cX1_hold 130 = .ok (.iaload, 1) := by decide +kernel
theorem dX1_hold_131 : decode cX1_hold 131 = .ok (.iastore, 1) := by decide +kernel
theorem dX1_hold_132 : decode cX1_hold 132 = .ok (.iload 4, 2) := by decide +kernel
theorem dX1_hold_134 : decode cX1_hold 134 = .ok (.aload_n 3, 1) := by decide +kernel
theorem dX1_hold_135 : decode cX1_hold 135 = .ok (.iload 5, 2) := by decide +kernel
theorem dX1_hold_137 : decode cX1_hold 137 = .ok (.iaload, 1) := by decide +kernel
theorem dX1_hold_138 : decode cX1_hold 138 = .ok (.iadd, 1) := by decide +kernel
theorem dX1_hold_139 : decode cX1_hold 139 = .ok (.istore 4, 2) := by decide +kernel
theorem dX1_hold_141 : decode cX1_hold 141 = .ok (.aload_n 0, 1) := by decide +kernel
theorem dX1_hold_142 : decode cX1_hold 142 = .ok (.getfield 19, 3) := by decide +kernel
theorem dX1_hold_145 : decode cX1_hold 145 = .ok (.iload 5, 2) := by decide +kernel
theorem dX1_hold_147 : decode cX1_hold 147 = .ok (.aaload, 1) := by decide +kernel
theorem dX1_hold_148 : decode cX1_hold 148 = .ok (.iconst 0, 1) := by decide +kernel
theorem dX1_hold_149 : decode cX1_hold 149 = .ok (.dup2, 1) := by decide +kernel
theorem dX1_hold_150 : decode cX1_hold 150 = .ok (.iaload, 1) := by decide +kernel
theorem dX1_hold_151 : decode cX1_hold 151 = .ok (.aload_n 3, 1) := by decide +kernel
theorem dX1_hold_152 : decode cX1_hold 152 = .ok (.iload 5, 2) := by decide +kernel
theorem dX1_hold_154 : decode cX1_hold 154 = .ok (.iaload, 1) := by decide +kernel
theorem dX1_hold_155 : decode cX1_hold 155 = .ok (.iadd, 1) := by decide +kernel
theorem dX1_hold_156 : decode cX1_hold 156 = .ok (.iastore, 1) := by decide +kernel
theorem dX1_hold_157 : decode cX1_hold 157 = .ok (.aload_n 0, 1) := by decide +kernel
theorem dX1_hold_158 : decode cX1_hold 158 = .ok (.getfield 19, 3) := by decide +kernel
theorem dX1_hold_161 : decode cX1_hold 161 = .ok (.iload 5, 2) := by decide +kernel
theorem dX1_hold_163 : decode cX1_hold 163 = .ok (.aaload, 1) := by decide +kernel
theorem dX1_hold_164 : decode cX1_hold 164 = .ok (.iconst 2, 1) := by decide +kernel
theorem dX1_hold_165 : decode cX1_hold 165 = .ok (.dup2, 1) := by decide +kernel
theorem dX1_hold_166 : decode cX1_hold 166 = .ok (.iaload, 1) := by decide +kernel
theorem dX1_hold_167 : decode cX1_hold 167 = .ok (.aload_n 3, 1) := by decide +kernel
theorem dX1_hold_168 : decode cX1_hold 168 = .ok (.iload 5, 2) := by decide +kernel
theorem dX1_hold_170 : decode cX1_hold 170 = .ok (.iaload, 1) := by decide +kernel
theorem dX1_hold_171 : decode cX1_hold 171 = .ok (.iload_n 2, 1) := by decide +kernel
theorem dX1_hold_172 : decode cX1_hold 172 = .ok (.if_icmp .ne 7, 3) := by decide +kernel
theorem dX1_hold_175 : decode cX1_hold 175 = .ok (.iconst 0, 1) := by decide +kernel
theorem dX1_hold_176 : decode cX1_hold 176 = .ok (.goto 4, 3) := by decide +kernel
theorem dX1_hold_179 : decode cX1_hold 179 = .ok (.iconst 1, 1) := by decide +kernel
theorem dX1_hold_180 : decode cX1_hold 180 = .ok (.iadd, 1) := by decide +kernel
theorem dX1_hold_181 : decode cX1_hold 181 = .ok (.iastore, 1) := by decide +kernel
theorem dX1_hold_182 : decode cX1_hold 182 = .ok (.iinc 5 1, 3) := by decide +kernel
theorem dX1_hold_185 : decode cX1_hold 185 = .ok (.goto (-73), 3) := by decide +kernel
theorem dX1_hold_188 : decode cX1_hold 188 = .ok (.iload 4, 2) := by decide +kernel
theorem dX1_hold_190 : decode cX1_hold 190 = .ok (.ireturn, 1) := by decide +kernel
set_option maxRecDepth 20000 in
theorem ggX1_wasThere_X1_isGeneral : GoodIn wsX1_wasThere wsX1_isGeneral := goodIn_r _ [7, 8, 9, 10, 6, 11, 12, 13, 14, 15, 16, 17, 18, 19, 20, 21, 22, 23] (by decide +kernel) (by decide +kernel)
set_option maxRecDepth 20000 in
theorem gX1_wasThere_X1_isGeneral : GoodIn wsX1_wasThere (wsV RX1 76 RX1 yX1_isGeneral wsX1_isGeneral) := goodIn_app (goodIn_of _ (by decide +kernel)) ggX1_wasThere_X1_isGeneral
theorem dX1_wasThere_0 : decode cX1_wasThere 0 = .ok (.aload_n 0, 1) := by decide +kernel
theorem dX1_wasThere_1 : decode cX1_wasThere 1 = .ok (.iload_n 1, 1) := by decide +kernel
theorem dX1_wasThere_2 : decode cX1_wasThere 2 = .ok (.invokevirtual 76, 3) := by decide +kernel
theorem dX1_wasThere_5 : decode cX1_wasThere 5 = .ok (.ifCond .eq 22, 3) := by decide +kernel
theorem dX1_wasThere_8 : decode cX1_wasThere 8 = .ok (.aload_n 0, 1) := by decide +kernel
theorem dX1_wasThere_9 : decode cX1_wasThere 9 = .ok (.getfield 87, 3) := by decide +kernel
theorem dX1_wasThere_12 : decode cX1_wasThere 12 = .ok (.ifCond .eq 11, 3) := by decide +kernel
theorem dX1_wasThere_15 : decode cX1_wasThere 15 = .ok (.iload_n 1, 1) := by decide +kernel
theorem dX1_wasThere_16 : decode cX1_wasThere 16 = .ok (.aload_n 0, 1) := by decide +kernel
theorem dX1_wasThere_17 : decode cX1_wasThere 17 = .ok (.getfield 84, 3) := by decide +kernel
theorem dX1_wasThere_20 : decode cX1_wasThere 20 = .ok (.if_icmp .ge 7, 3) := by decide +kernel
theorem dX1_wasThere_23 : decode cX1_wasThere 23 = .ok (.iconst 1, 1) := by decide +kernel
theorem dX1_wasThere_24 : decode cX1_wasThere 24 = .ok (.goto 4, 3) := by decide +kernel
theorem dX1_wasThere_27 : decode cX1_wasThere 27 = .ok (.iconst 0, 1) := by decide +kernel
theorem dX1_wasThere_28 : decode cX1_wasThere 28 = .ok (.ireturn, 1) := by decide +kernel
set_option maxRecDepth 20000 in
theorem ggX1_does_X1_wasThere : GoodIn wsX1_does wsX1_wasThere := goodIn_r _ [8, 2, 9, 10, 11, 12, 7, 13, 14, 15, 16, 17, 22, 23, 24, 25, 26, 27, 28, 29, 30, 31, 32, 33] (by decide +kernel) (by decide +kernel)
set_option maxRecDepth 20000 in
theorem gX1_does_X1_wasThere : GoodIn wsX1_does (wsV RX1 90 RX1 yX1_wasThere wsX1_wasThere) := goodIn_app (goodIn_of _ (by decide +kernel)) ggX1_does_X1_wasThere
set_option maxRecDepth 20000 in
theorem ggX1_does_X1_no : GoodIn wsX1_does wsX1_no := goodIn_r _ [21, 1, 22, 23, 24, 25, 26, 27, 28, 29, 30, 31, 32, 33] (by decide +kernel) (by decide +kernel)
set_option maxRecDepth 20000 in
theorem gX1_does_X1_no : GoodIn wsX1_does (wsV RX1 72 RX1 yX1_no wsX1_no) := goodIn_app (goodIn_of _ (by decide +kernel)) ggX1_does_X1_no
theorem dX1_does_0 : decode cX1_does 0 = .ok (.aload_n 0, 1) := by decide +kernel
theorem dX1_does_1 : decode cX1_does 1 = .ok (.iconst 0, 1) := by decide +kernel
theorem dX1_does_2 : decode cX1_does 2 = .ok (.putfield 37, 3) := by decide +kernel
theorem dX1_does_5 : decode cX1_does 5 = .ok (.aload_n 0, 1) := by decide +kernel
theorem dX1_does_6 : decode cX1_does 6 = .ok (.iload_n 1, 1) := by decide +kernel
theorem dX1_does_7 : decode cX1_does 7 = .ok (.invokevirtual 90, 3) := by decide +kernel
theorem dX1_does_10 : decode cX1_does 10 = .ok (.ifCond .ne 9, 3) := by decide +kernel
theorem dX1_does_13 : decode cX1_does 13 = .ok (.aload_n 0, 1) := by decide +kernel
theorem dX1_does_14 : decode cX1_does 14 = .ok (.iconst 1, 1) := by decide +kernel
theorem dX1_does_15 : decode cX1_does 15 = .ok (.invokevirtual 72, 3) := by decide +kernel
theorem dX1_does_18 : decode cX1_does 18 = .ok (.ireturn, 1) := by decide +kernel
theorem dX1_does_19 : decode cX1_does 19 = .ok (.aload_n 0, 1) := by decide +kernel
theorem dX1_does_20 : decode cX1_does 20 = .ok (.getfield 87, 3) := by decide +kernel
theorem dX1_does_23 : decode cX1_does 23 = .ok (.ifCond .ne 11, 3) := by decide +kernel
theorem dX1_does_26 : decode cX1_does 26 = .ok (.aload_n 0, 1) := by decide +kernel
theorem dX1_does_27 : decode cX1_does 27 = .ok (.iconst 2, 1) := by decide +kernel
theorem dX1_does_28 : decode cX1_does 28 = .ok (.invokevirtual 72, 3) := by decide +kernel
theorem dX1_does_31 : decode cX1_does 31 = .ok (.goto 9, 3) := by decide +kernel
theorem dX1_does_34 : decode cX1_does 34 = .ok (.aload_n 0, 1) := by decide +kernel
theorem dX1_does_35 : decode cX1_does 35 = .ok (.getfield 31, 3) := by decide +kernel
theorem dX1_does_38 : decode cX1_does 38 = .ok (.iload_n 1, 1) := by decide +kernel
theorem dX1_does_39 : decode cX1_does 39 = .ok (.iaload, 1) := by decide +kernel
theorem dX1_does_40 : decode cX1_does 40 = .ok (.ireturn, 1) := by decide +kernel
set_option maxRecDepth 20000 in
theorem ggX1_took_X1_wasThere : GoodIn wsX1_took wsX1_wasThere := goodIn_r _ [9, 2, 10, 11, 12, 13, 8, 14, 15, 16, 17, 18, 23, 24, 25, 26, 27, 28, 29, 30, 31, 32, 33, 34] (by decide +kernel) (by decide +kernel)
set_option maxRecDepth 20000 in
theorem gX1_took_X1_wasThere : GoodIn wsX1_took (wsV RX1 90 RX1 yX1_wasThere wsX1_wasThere) := goodIn_app (goodIn_of _ (by decide +kernel)) ggX1_took_X1_wasThere
set_option maxRecDepth 20000 in
theorem ggX1_took_X1_no : GoodIn wsX1_took wsX1_no := goodIn_r _ [22, 1, 23, 24, 25, 26, 27, 28, 29, 30, 31, 32, 33, 34] (by decide +kernel) (by decide +kernel)
set_option maxRecDepth 20000 in
theorem gX1_took_X1_no : GoodIn wsX1_took (wsV RX1 72 RX1 yX1_no wsX1_no) := goodIn_app (goodIn_of _ (by decide +kernel)) ggX1_took_X1_no
theorem dX1_took_0 : decode cX1_took 0 = .ok (.aload_n 0, 1) := by decide +kernel
theorem dX1_took_1 : decode cX1_took 1 = .ok (.iconst 0, 1) := by decide +kernel
theorem dX1_took_2 : decode cX1_took 2 = .ok (.putfield 37, 3) := by decide +kernel
theorem dX1_took_5 : decode cX1_took 5 = .ok (.aload_n 0, 1) := by decide +kernel
theorem dX1_took_6 : decode cX1_took 6 = .ok (.iload_n 1, 1) := by decide +kernel
theorem dX1_took_7 : decode cX1_took 7 = .ok (.invokevirtual 90, 3) := by decide +kernel
theorem dX1_took_10 : decode cX1_took 10 = .ok (.ifCond .eq 11, 3) := by decide +kernel
theorem dX1_took_13 : decode cX1_took 13 = .ok (.aload_n 0, 1) := by decide +kernel
theorem dX1_took_14 : decode cX1_took 14 = .ok (.iload_n 2, 1) := by decide +kernel
theorem dX1_took_15 : decode cX1_took 15 = .ok (.invokevirtual 90, 3) := by decide +kernel
theorem dX1_took_18 : decode cX1_took 18 = .ok (.ifCond .ne 9, 3) := by decide +kernel
theorem dX1_took_21 : decode cX1_took 21 = .ok (.aload_n 0, 1) := by decide +kernel
theorem dX1_took_22 : decode cX1_took 22 = .ok (.iconst 1, 1) := by decide +kernel
theorem dX1_took_23 : decode cX1_took 23 = .ok (.invokevirtual 72, 3) := by decide +kernel
theorem dX1_took_26 : decode cX1_took 26 = .ok (.ireturn, 1) := by decide +kernel
theorem dX1_took_27 : decode cX1_took 27 = .ok (.aload_n 0, 1) := by decide +kernel
theorem dX1_took_28 : decode cX1_took 28 = .ok (.getfield 87, 3) := by decide +kernel
theorem dX1_took_31 : decode cX1_took 31 = .ok (.ifCond .eq 11, 3) := by decide +kernel
theorem dX1_took_34 : decode cX1_took 34 = .ok (.iload_n 1, 1) := by decide +kernel
theorem dX1_took_35 : decode cX1_took 35 = .ok (.aload_n 0, 1) := by decide +kernel
theorem dX1_took_36 : decode cX1_took 36 = .ok (.getfield 22, 3) := by decide +kernel
theorem dX1_took_39 : decode cX1_took 39 = .ok (.if_icmp .ne 11, 3) := by decide +kernel
theorem dX1_took_42 : decode cX1_took 42 = .ok (.aload_n 0, 1) := by decide +kernel
theorem dX1_took_43 : decode cX1_took 43 = .ok (.iconst 2, 1) := by decide +kernel
theorem dX1_took_44 : decode cX1_took 44 = .ok (.invokevirtual 72, 3) := by decide +kernel
theorem dX1_took_47 : decode cX1_took 47 = .ok (.goto 11, 3) := by decide +kernel
theorem dX1_took_50 : decode cX1_took 50 = .ok (.aload_n 0, 1) := by decide +kernel
theorem dX1_took_51 : decode cX1_took 51 = .ok (.getfield 34, 3) := by decide +kernel
theorem dX1_took_54 : decode cX1_took 54 = .ok (.iload_n 1, 1) := by decide +kernel
theorem dX1_took_55 : decode cX1_took 55 = .ok (.aaload, 1) := by decide +kernel
theorem dX1_took_56 : decode cX1_took 56 = .ok (.iload_n 2, 1) := by decide +kernel
theorem dX1_took_57 : decode cX1_took 57 = .ok (.iaload, 1) := by decide +kernel
theorem dX1_took_58 : decode cX1_took 58 = .ok (.ireturn, 1) := by decide +kernel
theorem dX1_loyalThatDo_0 : decode cX1_loyalThatDo 0 = .ok (.iconst 0, 1) := by decide +kernel
theorem dX1_loyalThatDo_1 : decode cX1_loyalThatDo 1 = .ok (.istore_n 2, 1) := by decide +kernel
theorem dX1_loyalThatDo_2 : decode cX1_loyalThatDo 2 = .ok (.iconst 0, 1) := by decide +kernel
theorem dX1_loyalThatDo_3 : decode cX1_loyalThatDo 3 = .ok (.istore_n 3, 1) := by decide +kernel
theorem dX1_loyalThatDo_4 : decode cX1_loyalThatDo 4 = .ok (.iload_n 3, 1) := by decide +kernel
theorem dX1_loyalThatDo_5 : decode cX1_loyalThatDo 5 = .ok (.aload_n 0, 1) := by decide +kernel
theorem dX1_loyalThatDo_6 : decode cX1_loyalThatDo 6 = .ok (.getfield 84, 3) := by decide +kernel
theorem dX1_loyalThatDo_9 : decode cX1_loyalThatDo 9 = .ok (.if_icmp .ge 36, 3) := by decide +kernel
theorem dX1_loyalThatDo_12 : decode cX1_loyalThatDo 12 = .ok (.iload_n 2, 1) := by decide +kernel
theorem dX1_loyalThatDo_13 : decode cX1_loyalThatDo 13 = .ok (.aload_n 0, 1) := by decide +kernel
theorem dX1_loyalThatDo_14 : decode cX1_loyalThatDo 14 = .ok (.getfield 13, 3) := by decide +kernel
theorem dX1_loyalThatDo_17 : decode cX1_loyalThatDo 17 = .ok (.iload_n 3, 1) := by decide +kernel
theorem dX1_loyalThatDo_18 : decode cX1_loyalThatDo 18 = .ok (.iaload, 1) := by decide +kernel
theorem dX1_loyalThatDo_19 : decode cX1_loyalThatDo 19 = .ok (.ifCond .ne 17, 3) := by decide +kernel
theorem dX1_loyalThatDo_22 : decode cX1_loyalThatDo 22 = .ok (.aload_n 0, 1) := by decide +kernel
theorem dX1_loyalThatDo_23 : decode cX1_loyalThatDo 23 = .ok (.getfield 31, 3) := by decide +kernel
theorem dX1_loyalThatDo_26 : decode cX1_loyalThatDo 26 = .ok (.iload_n 3, 1) := by decide +kernel
theorem dX1_loyalThatDo_27 : decode cX1_loyalThatDo 27 = .ok (.iaload, 1) := by decide +kernel
theorem dX1_loyalThatDo_28 : decode cX1_loyalThatDo 28 = .ok (.iload_n 1, 1) := by decide +kernel
theorem dX1_loyalThatDo_29 : decode cX1_loyalThatDo 29 = .ok (.if_icmp .ne 7, 3) := by decide +kernel
theorem dX1_loyalThatDo_32 : decode cX1_loyalThatDo 32 = .ok (.iconst 1, 1) := by decide +kernel
theorem dX1_loyalThatDo_33 : decode cX1_loyalThatDo 33 = .ok (.goto 4, 3) := by decide +kernel
theorem dX1_loyalThatDo_36 : decode cX1_loyalThatDo 36 = .ok (.iconst 0, 1) := by decide +kernel
theorem dX1_loyalThatDo_37 : decode cX1_loyalThatDo 37 = .ok (.iadd, 1) := by decide +kernel
theorem dX1_loyalThatDo_38 : decode cX1_loyalThatDo 38 = .ok (.istore_n 2, 1) := by decide +kernel
theorem dX1_loyalThatDo_39 : decode cX1_loyalThatDo 39 = .ok (.iinc 3 1, 3) := by decide +kernel
theorem dX1_loyalThatDo_42 : decode cX1_loyalThatDo 42 = .ok (.goto (-38), 3) := by decide +kernel
theorem dX1_loyalThatDo_45 : decode cX1_loyalThatDo 45 = .ok (.aload_n 0, 1) := by decide +kernel
theorem dX1_loyalThatDo_46 : decode cX1_loyalThatDo 46 = .ok (.getfield 87, 3) := by decide +kernel
theorem dX1_loyalThatDo_49 : decode cX1_loyalThatDo 49 = .ok (.ifCond .ne 7, 3) := by decide +kernel
theorem dX1_loyalThatDo_52 : decode cX1_loyalThatDo 52 = .ok (.iconst (-1), 1) := by decide +kernel
theorem dX1_loyalThatDo_53 : decode cX1_loyalThatDo 53 = .ok (.goto 4, 3) := by decide +kernel
theorem dX1_loyalThatDo_56 : decode cX1_loyalThatDo 56 = .ok (.iload_n 2, 1) := by decide +kernel
theorem dX1_loyalThatDo_57 : decode cX1_loyalThatDo 57 = .ok (.ireturn, 1) := by decide +kernel
set_option maxRecDepth 20000 in
theorem ggX1_counted_X1_loyalThatDo : GoodIn wsX1_counted wsX1_loyalThatDo := goodIn_r _ [13, 14, 1, 15, 5, 16, 17, 18, 19, 20, 21, 22, 23, 24, 25, 26, 27] (by decide +kernel) (by decide +kernel)
set_option maxRecDepth 20000 in
theorem gX1_counted_X1_loyalThatDo : GoodIn wsX1_counted (wsV RX1 93 RX1 yX1_loyalThatDo wsX1_loyalThatDo) := goodIn_app (goodIn_of _ (by decide +kernel)) ggX1_counted_X1_loyalThatDo
theorem dX1_counted_0 : decode cX1_counted 0 = .ok (.iconst 0, 1) := by decide +kernel
theorem dX1_counted_1 : decode cX1_counted 1 = .ok (.istore_n 2, 1) := by decide +kernel
theorem dX1_counted_2 : decode cX1_counted 2 = .ok (.aload_n 0, 1) := by decide +kernel
theorem dX1_counted_3 : decode cX1_counted 3 = .ok (.getfield 13, 3) := by decide +kernel
theorem dX1_counted_6 : decode cX1_counted 6 = .ok (.astore_n 3, 1) := by decide +kernel
theorem dX1_counted_7 : decode cX1_counted 7 = .ok (.aload_n 3, 1) := by decide +kernel
theorem dX1_counted_8 : decode cX1_counted 8 = .ok (.arraylength, 1) := by decide +kernel
theorem dX1_counted_9 : decode cX1_counted 9 = .ok (.istore 4, 2) := by decide +kernel
theorem dX1_counted_11 : decode cX1_counted 11 = .ok (.iconst 0, 1) := by decide +kernel
theorem dX1_counted_12 : decode cX1_counted 12 = .ok (.istore 5, 2) := by decide +kernel
theorem dX1_counted_14 : decode cX1_counted 14 = .ok (.iload 5, 2) := by decide +kernel
theorem dX1_counted_16 : decode cX1_counted 16 = .ok (.iload 4, 2) := by decide +kernel
theorem dX1_counted_18 : decode cX1_counted 18 = .ok (.if_icmp .ge 28, 3) := by decide +kernel
theorem dX1_counted_21 : decode cX1_counted 21 = .ok (.aload_n 3, 1) := by decide +kernel
theorem dX1_counted_22 : decode cX1_counted 22 = .ok (.iload 5, 2) := by decide +kernel
theorem dX1_counted_24 : decode cX1_counted 24 = .ok (.iaload, 1) := by decide +kernel
theorem dX1_counted_25 : decode cX1_counted 25 = .ok (.istore 6, 2) := by decide +kernel
theorem dX1_counted_27 : decode cX1_counted 27 = .ok (.iload_n 2, 1) := by decide +kernel
theorem dX1_counted_28 : decode cX1_counted 28 = .ok (.iload 6, 2) := by decide +kernel
theorem dX1_counted_30 : decode cX1_counted 30 = .ok (.ifCond .ne 7, 3) := by decide +kernel
theorem dX1_counted_33 : decode cX1_counted 33 = .ok (.iconst 0, 1) := by decide +kernel
theorem dX1_counted_34 : decode cX1_counted 34 = .ok (.goto 4, 3) := by decide +kernel
theorem dX1_counted_37 : decode cX1_counted 37 = .ok (.iconst 1, 1) := by decide +kernel
theorem dX1_counted_38 : decode cX1_counted 38 = .ok (.iadd, 1) := by decide +kernel
theorem dX1_counted_39 : decode cX1_counted 39 = .ok (.istore_n 2, 1) := by decide +kernel
theorem dX1_counted_40 : decode cX1_counted 40 = .ok (.iinc 5 1, 3) := by decide +kernel
theorem dX1_counted_43 : decode cX1_counted 43 = .ok (.goto (-29), 3) := by decide +kernel
theorem dX1_counted_46 : decode cX1_counted 46 = .ok (.bipush 9, 2) := by decide +kernel
theorem dX1_counted_48 : decode cX1_counted 48 = .ok (.newarray .int, 2) := by decide +kernel
theorem dX1_counted_50 : decode cX1_counted 50 = .ok (.dup, 1) := by decide +kernel
theorem dX1_counted_51 : decode cX1_counted 51 = .ok (.iconst 0, 1) := by decide +kernel
theorem dX1_counted_52 : decode cX1_counted 52 = .ok (.aload_n 0, 1) := by decide +kernel
theorem dX1_counted_53 : decode cX1_counted 53 = .ok (.getfield 40, 3) := by decide +kernel
theorem dX1_counted_56 : decode cX1_counted 56 = .ok (.iastore, 1) := by decide +kernel
theorem dX1_counted_57 : decode cX1_counted 57 = .ok (.dup, 1) := by decide +kernel
theorem dX1_counted_58 : decode cX1_counted 58 = .ok (.iconst 1, 1) := by decide +kernel
theorem dX1_counted_59 : decode cX1_counted 59 = .ok (.aload_n 0, 1) := by decide +kernel
theorem dX1_counted_60 : decode cX1_counted 60 = .ok (.getfield 7, 3) := by decide +kernel
theorem dX1_counted_63 : decode cX1_counted 63 = .ok (.iastore, 1) := by decide +kernel
theorem dX1_counted_64 : decode cX1_counted 64 = .ok (.dup, 1) := by decide +kernel
theorem dX1_counted_65 : decode cX1_counted 65 = .ok (.iconst 2, 1) := by decide +kernel
theorem dX1_counted_66 : decode cX1_counted 66 = .ok (.iload_n 2, 1) := by decide +kernel
theorem dX1_counted_67 : decode cX1_counted 67 = .ok (.iastore, 1) := by decide +kernel
theorem dX1_counted_68 : decode cX1_counted 68 = .ok (.dup, 1) := by decide +kernel
theorem dX1_counted_69 : decode cX1_counted 69 = .ok (.iconst 3, 1) := by decide +kernel
theorem dX1_counted_70 : decode cX1_counted 70 = .ok (.aload_n 0, 1) := by decide +kernel
theorem dX1_counted_71 : decode cX1_counted 71 = .ok (.getfield 87, 3) := by decide +kernel
theorem dX1_counted_74 : decode cX1_counted 74 = .ok (.iastore, 1) := by decide +kernel
theorem dX1_counted_75 : decode cX1_counted 75 = .ok (.dup, 1) := by decide +kernel
theorem dX1_counted_76 : decode cX1_counted 76 = .ok (.iconst 4, 1) := by decide +kernel
theorem dX1_counted_77 : decode cX1_counted 77 = .ok (.aload_n 0, 1) := by decide +kernel
theorem dX1_counted_78 : decode cX1_counted 78 = .ok (.getfield 28, 3) := by decide +kernel
theorem dX1_counted_81 : decode cX1_counted 81 = .ok (.iastore, 1) := by decide +kernel
theorem dX1_counted_82 : decode cX1_counted 82 = .ok (.dup, 1) := by decide +kernel
theorem dX1_counted_83 : decode cX1_counted 83 = .ok (.iconst 5, 1) := by decide +kernel
theorem dX1_counted_84 : decode cX1_counted 84 = .ok (.aload_n 0, 1) := by decide +kernel
theorem dX1_counted_85 : decode cX1_counted 85 = .ok (.iconst 1, 1) := by decide +kernel
theorem dX1_counted_86 : decode cX1_counted 86 = .ok (.invokevirtual 93, 3) := by decide +kernel
theorem dX1_counted_89 : decode cX1_counted 89 = .ok (.iastore, 1) := by decide +kernel
theorem dX1_counted_90 : decode cX1_counted 90 = .ok (.dup, 1) := by decide +kernel
theorem dX1_counted_91 : decode cX1_counted 91 = .ok (.bipush 6, 2) := by decide +kernel
theorem dX1_counted_93 : decode cX1_counted 93 = .ok (.aload_n 0, 1) := by decide +kernel
theorem dX1_counted_94 : decode cX1_counted 94 = .ok (.iconst 0, 1) := by decide +kernel
theorem dX1_counted_95 : decode cX1_counted 95 = .ok (.invokevirtual 93, 3) := by decide +kernel
theorem dX1_counted_98 : decode cX1_counted 98 = .ok (.iastore, 1) := by decide +kernel
theorem dX1_counted_99 : decode cX1_counted 99 = .ok (.dup, 1) := by decide +kernel
theorem dX1_counted_100 : decode cX1_counted 100 = .ok (.bipush 7, 2) := by decide +kernel
theorem dX1_counted_102 : decode cX1_counted 102 = .ok (.aload_n 0, 1) := by decide +kernel
theorem dX1_counted_103 : decode cX1_counted 103 = .ok (.getfield 22, 3) := by decide +kernel
theorem dX1_counted_106 : decode cX1_counted 106 = .ok (.iastore, 1) := by decide +kernel
theorem dX1_counted_107 : decode cX1_counted 107 = .ok (.dup, 1) := by decide +kernel
theorem dX1_counted_108 : decode cX1_counted 108 = .ok (.bipush 8, 2) := by decide +kernel
theorem dX1_counted_110 : decode cX1_counted 110 = .ok (.aload_n 0, 1) := by decide +kernel
theorem dX1_counted_111 : decode cX1_counted 111 = .ok (.getfield 25, 3) := by decide +kernel
theorem dX1_counted_114 : decode cX1_counted 114 = .ok (.iastore, 1) := by decide +kernel
theorem dX1_counted_115 : decode cX1_counted 115 = .ok (.astore_n 3, 1) := by decide +kernel
theorem dX1_counted_116 : decode cX1_counted 116 = .ok (.aload_n 3, 1) := by decide +kernel
theorem dX1_counted_117 : decode cX1_counted 117 = .ok (.iload_n 1, 1) := by decide +kernel
theorem dX1_counted_118 : decode cX1_counted 118 = .ok (.iaload, 1) := by decide +kernel
theorem dX1_counted_119 : decode cX1_counted 119 = .ok (.ireturn, 1) := by decide +kernel
set_option maxRecDepth 20000 in
theorem ggX1_count_X1_isIn : GoodIn wsX1_count wsX1_isIn := goodIn_r _ [5] (by decide +kernel) (by decide +kernel)
set_option maxRecDepth 20000 in
theorem gX1_count_X1_isIn : GoodIn wsX1_count (va_wsS RX1 43 yX1_isIn wsX1_isIn) := goodIn_app (goodIn_of _ (by decide +kernel)) ggX1_count_X1_isIn
set_option maxRecDepth 20000 in
theorem ggX1_count_X1_counted : GoodIn wsX1_count wsX1_counted := goodIn_r _ [9, 10, 11, 12, 13, 14, 15, 16, 17, 18, 19, 20, 4, 21, 22, 23, 28, 29, 30, 31, 32, 33, 34, 35, 36, 37, 38, 39] (by decide +kernel) (by decide +kernel)
set_option maxRecDepth 20000 in
theorem gX1_count_X1_counted : GoodIn wsX1_count (wsV RX1 96 RX1 yX1_counted wsX1_counted) := goodIn_app (goodIn_of _ (by decide +kernel)) ggX1_count_X1_counted
set_option maxRecDepth 20000 in
theorem ggX1_count_X1_no : GoodIn wsX1_count wsX1_no := goodIn_r _ [27, 1, 28, 29, 30, 31, 32, 33, 34, 35, 36, 37, 38, 39] (by decide +kernel) (by decide +kernel)
set_option maxRecDepth 20000 in
theorem gX1_count_X1_no : GoodIn wsX1_count (wsV RX1 72 RX1 yX1_no wsX1_no) := goodIn_app (goodIn_of _ (by decide +kernel)) ggX1_count_X1_no
theorem dX1_count_0 : decode cX1_count 0 = .ok (.aload_n 0, 1) := by decide +kernel
theorem dX1_count_1 : decode cX1_count 1 = .ok (.iconst 0, 1) := by decide +kernel
theorem dX1_count_2 : decode cX1_count 2 = .ok (.putfield 37, 3) := by decide +kernel
theorem dX1_count_5 : decode cX1_count 5 = .ok (.iload_n 1, 1) := by decide +kernel
theorem dX1_count_6 : decode cX1_count 6 = .ok (.iconst 0, 1) := by decide +kernel
theorem dX1_count_7 : decode cX1_count 7 = .ok (.bipush 8, 2) := by decide +kernel
theorem dX1_count_9 : decode cX1_count 9 = .ok (.invokestatic 43, 3) := by decide +kernel
theorem dX1_count_12 : decode cX1_count 12 = .ok (.ifCond .eq 11, 3) := by decide +kernel
theorem dX1_count_15 : decode cX1_count 15 = .ok (.aload_n 0, 1) := by decide +kernel
theorem dX1_count_16 : decode cX1_count 16 = .ok (.iload_n 1, 1) := by decide +kernel
theorem dX1_count_17 : decode cX1_count 17 = .ok (.invokevirtual 96, 3) := by decide +kernel
theorem dX1_count_20 : decode cX1_count 20 = .ok (.goto 8, 3) := by decide +kernel
theorem dX1_count_23 : decode cX1_count 23 = .ok (.aload_n 0, 1) := by decide +kernel
theorem dX1_count_24 : decode cX1_count 24 = .ok (.iconst 1, 1) := by decide +kernel
theorem dX1_count_25 : decode cX1_count 25 = .ok (.invokevirtual 72, 3) := by decide +kernel
theorem dX1_count_28 : decode cX1_count 28 = .ok (.ireturn, 1) := by decide +kernel
set_option maxRecDepth 20000 in
theorem ggX1_told_X1_isGeneral : GoodIn wsX1_told wsX1_isGeneral := goodIn_r _ [6, 7, 8, 9, 5, 10, 21, 22, 23, 24, 25, 26, 27, 28, 29, 30, 31, 32] (by decide +kernel) (by decide +kernel)
set_option maxRecDepth 20000 in
theorem gX1_told_X1_isGeneral : GoodIn wsX1_told (wsV RX1 76 RX1 yX1_isGeneral wsX1_isGeneral) := goodIn_app (goodIn_of _ (by decide +kernel)) ggX1_told_X1_isGeneral
set_option maxRecDepth 20000 in
theorem ggX1_told_X1_isIn : GoodIn wsX1_told wsX1_isIn := goodIn_r _ [10] (by decide +kernel) (by decide +kernel)
set_option maxRecDepth 20000 in
theorem gX1_told_X1_isIn : GoodIn wsX1_told (va_wsS RX1 43 yX1_isIn wsX1_isIn) := goodIn_app (goodIn_of _ (by decide +kernel)) ggX1_told_X1_isIn
set_option maxRecDepth 20000 in
theorem ggX1_told_X1_no : GoodIn wsX1_told wsX1_no := goodIn_r _ [20, 1, 21, 22, 23, 24, 25, 26, 27, 28, 29, 30, 31, 32] (by decide +kernel) (by decide +kernel)
set_option maxRecDepth 20000 in
theorem gX1_told_X1_no : GoodIn wsX1_told (wsV RX1 72 RX1 yX1_no wsX1_no) := goodIn_app (goodIn_of _ (by decide +kernel)) ggX1_told_X1_no
theorem dX1_told_0 : decode cX1_told 0 = .ok (.aload_n 0, 1) := by decide +kernel
theorem dX1_told_1 : decode cX1_told 1 = .ok (.iconst 0, 1) := by decide +kernel
theorem dX1_told_2 : decode cX1_told 2 = .ok (.putfield 37, 3) := by decide +kernel
theorem dX1_told_5 : decode cX1_told 5 = .ok (.aload_n 0, 1) := by decide +kernel
theorem dX1_told_6 : decode cX1_told 6 = .ok (.iload_n 1, 1) := by decide +kernel
theorem dX1_told_7 : decode cX1_told 7 = .ok (.invokevirtual 76, 3) := by decide +kernel
theorem dX1_told_10 : decode cX1_told 10 = .ok (.ifCond .eq 21, 3) := by decide +kernel
theorem dX1_told_13 : decode cX1_told 13 = .ok (.iload_n 2, 1) := by decide +kernel
theorem dX1_told_14 : decode cX1_told 14 = .ok (.iconst 0, 1) := by decide +kernel
theorem dX1_told_15 : decode cX1_told 15 = .ok (.iconst 3, 1) := by decide +kernel
theorem dX1_told_16 : decode cX1_told 16 = .ok (.invokestatic 43, 3) := by decide +kernel
theorem dX1_told_19 : decode cX1_told 19 = .ok (.ifCond .eq 12, 3) := by decide +kernel
theorem dX1_told_22 : decode cX1_told 22 = .ok (.aload_n 0, 1) := by decide +kernel
theorem dX1_told_23 : decode cX1_told 23 = .ok (.iload_n 1, 1) := by decide +kernel
theorem dX1_told_24 : decode cX1_told 24 = .ok (.iload_n 2, 1) := by decide +kernel
theorem dX1_told_25 : decode cX1_told 25 = .ok (.invokevirtual 99, 3) := by decide +kernel
theorem dX1_told_28 : decode cX1_told 28 = .ok (.goto 8, 3) := by decide +kernel
theorem dX1_told_31 : decode cX1_told 31 = .ok (.aload_n 0, 1) := by decide +kernel
theorem dX1_told_32 : decode cX1_told 32 = .ok (.iconst 1, 1) := by decide +kernel
theorem dX1_told_33 : decode cX1_told 33 = .ok (.invokevirtual 72, 3) := by decide +kernel
theorem dX1_told_36 : decode cX1_told 36 = .ok (.ireturn, 1) := by decide +kernel
set_option maxRecDepth 20000 in
theorem ggX1_hears_X1_isGeneral : GoodIn wsX1_hears wsX1_isGeneral := goodIn_r _ [6, 7, 8, 9, 5, 10, 20, 21, 22, 23, 24, 25, 26, 27, 28, 29, 30, 31] (by decide +kernel) (by decide +kernel)
set_option maxRecDepth 20000 in
theorem gX1_hears_X1_isGeneral : GoodIn wsX1_hears (wsV RX1 76 RX1 yX1_isGeneral wsX1_isGeneral) := goodIn_app (goodIn_of _ (by decide +kernel)) ggX1_hears_X1_isGeneral
set_option maxRecDepth 20000 in
theorem ggX1_hears_X1_no : GoodIn wsX1_hears wsX1_no := goodIn_r _ [14, 1, 20, 21, 22, 23, 24, 25, 26, 27, 28, 29, 30, 31] (by decide +kernel) (by decide +kernel)
set_option maxRecDepth 20000 in
theorem gX1_hears_X1_no : GoodIn wsX1_hears (wsV RX1 72 RX1 yX1_no wsX1_no) := goodIn_app (goodIn_of _ (by decide +kernel)) ggX1_hears_X1_no
set_option maxRecDepth 20000 in
theorem ggX1_hears_X1_isIn : GoodIn wsX1_hears wsX1_isIn := goodIn_r _ [10] (by decide +kernel) (by decide +kernel)
set_option maxRecDepth 20000 in
theorem gX1_hears_X1_isIn : GoodIn wsX1_hears (va_wsS RX1 43 yX1_isIn wsX1_isIn) := goodIn_app (goodIn_of _ (by decide +kernel)) ggX1_hears_X1_isIn
theorem dX1_hears_0 : decode cX1_hears 0 = .ok (.aload_n 0, 1) := by decide +kernel
theorem dX1_hears_1 : decode cX1_hears 1 = .ok (.iconst 0, 1) := by decide +kernel
theorem dX1_hears_2 : decode cX1_hears 2 = .ok (.putfield 37, 3) := by decide +kernel
theorem dX1_hears_5 : decode cX1_hears 5 = .ok (.aload_n 0, 1) := by decide +kernel
theorem dX1_hears_6 : decode cX1_hears 6 = .ok (.iload_n 1, 1) := by decide +kernel
theorem dX1_hears_7 : decode cX1_hears 7 = .ok (.invokevirtual 76, 3) := by decide +kernel
theorem dX1_hears_10 : decode cX1_hears 10 = .ok (.ifCond .eq 11, 3) := by decide +kernel
theorem dX1_hears_13 : decode cX1_hears 13 = .ok (.aload_n 0, 1) := by decide +kernel
theorem dX1_hears_14 : decode cX1_hears 14 = .ok (.iload_n 2, 1) := by decide +kernel
theorem dX1_hears_15 : decode cX1_hears 15 = .ok (.invokevirtual 76, 3) := by decide +kernel
theorem dX1_hears_18 : decode cX1_hears 18 = .ok (.ifCond .ne 9, 3) := by decide +kernel
theorem dX1_hears_21 : decode cX1_hears 21 = .ok (.aload_n 0, 1) := by decide +kernel
theorem dX1_hears_22 : decode cX1_hears 22 = .ok (.iconst 1, 1) := by decide +kernel
theorem dX1_hears_23 : decode cX1_hears 23 = .ok (.invokevirtual 72, 3) := by decide +kernel
theorem dX1_hears_26 : decode cX1_hears 26 = .ok (.ireturn, 1) := by decide +kernel
theorem dX1_hears_27 : decode cX1_hears 27 = .ok (.iload_n 1, 1) := by decide +kernel
theorem dX1_hears_28 : decode cX1_hears 28 = .ok (.iload_n 2, 1) := by decide +kernel
theorem dX1_hears_29 : decode cX1_hears 29 = .ok (.if_icmp .eq 22, 3) := by decide +kernel
theorem dX1_hears_32 : decode cX1_hears 32 = .ok (.iload_n 3, 1) := by decide +kernel
theorem dX1_hears_33 : decode cX1_hears 33 = .ok (.iconst 0, 1) := by decide +kernel
theorem dX1_hears_34 : decode cX1_hears 34 = .ok (.iconst 1, 1) := by decide +kernel
theorem dX1_hears_35 : decode cX1_hears 35 = .ok (.invokestatic 43, 3) := by decide +kernel
theorem dX1_hears_38 : decode cX1_hears 38 = .ok (.ifCond .eq 13, 3) := by decide +kernel
theorem dX1_hears_41 : decode cX1_hears 41 = .ok (.aload_n 0, 1) := by decide +kernel
theorem dX1_hears_42 : decode cX1_hears 42 = .ok (.iload_n 1, 1) := by decide +kernel
theorem dX1_hears_43 : decode cX1_hears 43 = .ok (.iload_n 2, 1) := by decide +kernel
theorem dX1_hears_44 : decode cX1_hears 44 = .ok (.iload_n 3, 1) := by decide +kernel
theorem dX1_hears_45 : decode cX1_hears 45 = .ok (.invokevirtual 48, 3) := by decide +kernel
theorem dX1_hears_48 : decode cX1_hears 48 = .ok (.goto 8, 3) := by decide +kernel
theorem dX1_hears_51 : decode cX1_hears 51 = .ok (.aload_n 0, 1) := by decide +kernel
theorem dX1_hears_52 : decode cX1_hears 52 = .ok (.iconst 2, 1) := by decide +kernel
theorem dX1_hears_53 : decode cX1_hears 53 = .ok (.invokevirtual 72, 3) := by decide +kernel
theorem dX1_hears_56 : decode cX1_hears 56 = .ok (.ireturn, 1) := by decide +kernel
set_option maxRecDepth 20000 in
theorem ggX1_would_X1_isGeneral : GoodIn wsX1_would wsX1_isGeneral := goodIn_r _ [7, 8, 9, 10, 6, 11, 39, 40, 41, 42, 43, 44, 45, 46, 47, 48, 49, 50] (by decide +kernel) (by decide +kernel)
set_option maxRecDepth 20000 in
theorem gX1_would_X1_isGeneral : GoodIn wsX1_would (wsV RX1 76 RX1 yX1_isGeneral wsX1_isGeneral) := goodIn_app (goodIn_of _ (by decide +kernel)) ggX1_would_X1_isGeneral
set_option maxRecDepth 20000 in
theorem ggX1_would_X1_no : GoodIn wsX1_would wsX1_no := goodIn_r _ [15, 1, 39, 40, 41, 42, 43, 44, 45, 46, 47, 48, 49, 50] (by decide +kernel) (by decide +kernel)
set_option maxRecDepth 20000 in
theorem gX1_would_X1_no : GoodIn wsX1_would (wsV RX1 72 RX1 yX1_no wsX1_no) := goodIn_app (goodIn_of _ (by decide +kernel)) ggX1_would_X1_no
set_option maxRecDepth 20000 in
theorem ggX1_would_X1_isIn : GoodIn wsX1_would wsX1_isIn := goodIn_r _ [11] (by decide +kernel) (by decide +kernel)
set_option maxRecDepth 20000 in
theorem gX1_would_X1_isIn : GoodIn wsX1_would (va_wsS RX1 43 yX1_isIn wsX1_isIn) := goodIn_app (goodIn_of _ (by decide +kernel)) ggX1_would_X1_isIn
theorem dX1_would_0 : decode cX1_would 0 = .ok (.aload_n 0, 1) := by decide +kernel
theorem dX1_would_1 : decode cX1_would 1 = .ok (.iconst 0, 1) := by decide +kernel
theorem dX1_would_2 : decode cX1_would 2 = .ok (.putfield 37, 3) := by decide +kernel
theorem dX1_would_5 : decode cX1_would 5 = .ok (.aload_n 0, 1) := by decide +kernel
theorem dX1_would_6 : decode cX1_would 6 = .ok (.iload_n 1, 1) := by decide +kernel
theorem dX1_would_7 : decode cX1_would 7 = .ok (.invokevirtual 76, 3) := by decide +kernel
theorem dX1_would_10 : decode cX1_would 10 = .ok (.ifCond .eq 11, 3) := by decide +kernel
theorem dX1_would_13 : decode cX1_would 13 = .ok (.aload_n 0, 1) := by decide +kernel
theorem dX1_would_14 : decode cX1_would 14 = .ok (.iload_n 3, 1) := by decide +kernel
theorem dX1_would_15 : decode cX1_would 15 = .ok (.invokevirtual 76, 3) := by decide +kernel
theorem dX1_would_18 : decode cX1_would 18 = .ok (.ifCond .ne 9, 3) := by decide +kernel
theorem dX1_would_21 : decode cX1_would 21 = .ok (.aload_n 0, 1) := by decide +kernel
theorem dX1_would_22 : decode cX1_would 22 = .ok (.iconst 1, 1) := by decide +kernel
theorem dX1_would_23 : decode cX1_would 23 = .ok (.invokevirtual 72, 3) := by decide +kernel
theorem dX1_would_26 : decode cX1_would 26 = .ok (.ireturn, 1) := by decide +kernel
theorem dX1_would_27 : decode cX1_would 27 = .ok (.iload_n 2, 1) := by decide +kernel
theorem dX1_would_28 : decode cX1_would 28 = .ok (.iconst 0, 1) := by decide +kernel
theorem dX1_would_29 : decode cX1_would 29 = .ok (.iconst 1, 1) := by decide +kernel
theorem dX1_would_30 : decode cX1_would 30 = .ok (.invokestatic 43, 3) := by decide +kernel
theorem dX1_would_33 : decode cX1_would 33 = .ok (.ifCond .eq 18, 3) := by decide +kernel
theorem dX1_would_36 : decode cX1_would 36 = .ok (.aload_n 0, 1) := by decide +kernel
theorem dX1_would_37 : decode cX1_would 37 = .ok (.iload_n 1, 1) := by decide +kernel
theorem dX1_would_38 : decode cX1_would 38 = .ok (.iload_n 2, 1) := by decide +kernel
theorem dX1_would_39 : decode cX1_would 39 = .ok (.aload_n 0, 1) := by decide +kernel
theorem dX1_would_40 : decode cX1_would 40 = .ok (.getfield 7, 3) := by decide +kernel
theorem dX1_would_43 : decode cX1_would 43 = .ok (.invokevirtual 68, 3) := by decide +kernel
theorem dX1_would_46 : decode cX1_would 46 = .ok (.iload_n 3, 1) := by decide +kernel
theorem dX1_would_47 : decode cX1_would 47 = .ok (.iaload, 1) := by decide +kernel
theorem dX1_would_48 : decode cX1_would 48 = .ok (.goto 8, 3) := by decide +kernel
theorem dX1_would_51 : decode cX1_would 51 = .ok (.aload_n 0, 1) := by decide +kernel
theorem dX1_would_52 : decode cX1_would 52 = .ok (.iconst 2, 1) := by decide +kernel
theorem dX1_would_53 : decode cX1_would 53 = .ok (.invokevirtual 72, 3) := by decide +kernel
theorem dX1_would_56 : decode cX1_would 56 = .ok (.ireturn, 1) := by decide +kernel
set_option maxRecDepth 20000 in
theorem ggX1_agrees_X1_isGeneral : GoodIn wsX1_agrees wsX1_isGeneral := goodIn_r _ [7, 8, 9, 10, 6, 11, 39, 40, 41, 42, 43, 44, 45, 46, 47, 48, 49, 50] (by decide +kernel) (by decide +kernel)
set_option maxRecDepth 20000 in
theorem gX1_agrees_X1_isGeneral : GoodIn wsX1_agrees (wsV RX1 76 RX1 yX1_isGeneral wsX1_isGeneral) := goodIn_app (goodIn_of _ (by decide +kernel)) ggX1_agrees_X1_isGeneral
set_option maxRecDepth 20000 in
theorem ggX1_agrees_X1_isIn : GoodIn wsX1_agrees wsX1_isIn := goodIn_r _ [11] (by decide +kernel) (by decide +kernel)
set_option maxRecDepth 20000 in
theorem gX1_agrees_X1_isIn : GoodIn wsX1_agrees (va_wsS RX1 43 yX1_isIn wsX1_isIn) := goodIn_app (goodIn_of _ (by decide +kernel)) ggX1_agrees_X1_isIn
theorem dX1_agrees_0 : decode cX1_agrees 0 = .ok (.aload_n 0, 1) := by decide +kernel
theorem dX1_agrees_1 : decode cX1_agrees 1 = .ok (.aload_n 0, 1) := by decide +kernel
theorem dX1_agrees_2 : decode cX1_agrees 2 = .ok (.iload_n 1, 1) := by decide +kernel
theorem dX1_agrees_3 : decode cX1_agrees 3 = .ok (.invokevirtual 76, 3) := by decide +kernel
theorem dX1_agrees_6 : decode cX1_agrees 6 = .ok (.ifCond .ne 7, 3) := by decide +kernel
theorem dX1_agrees_9 : decode cX1_agrees 9 = .ok (.iconst 1, 1) := by decide +kernel
theorem dX1_agrees_10 : decode cX1_agrees 10 = .ok (.goto 17, 3) := by decide +kernel
theorem dX1_agrees_13 : decode cX1_agrees 13 = .ok (.iload_n 2, 1) := by decide +kernel
theorem dX1_agrees_14 : decode cX1_agrees 14 = .ok (.iconst 0, 1) := by decide +kernel
theorem dX1_agrees_15 : decode cX1_agrees 15 = .ok (.iconst 1, 1) := by decide +kernel
theorem dX1_agrees_16 : decode cX1_agrees 16 = .ok (.invokestatic 43, 3) := by decide +kernel
theorem dX1_agrees_19 : decode cX1_agrees 19 = .ok (.ifCond .eq 7, 3) := by decide +kernel
theorem dX1_agrees_22 : decode cX1_agrees 22 = .ok (.iconst 0, 1) := by decide +kernel
theorem dX1_agrees_23 : decode cX1_agrees 23 = .ok (.goto 4, 3) := by decide +kernel
theorem dX1_agrees_26 : decode cX1_agrees 26 = .ok (.iconst 2, 1) := by decide +kernel
theorem dX1_agrees_27 : decode cX1_agrees 27 = .ok (.putfield 37, 3) := by decide +kernel
theorem dX1_agrees_30 : decode cX1_agrees 30 = .ok (.aload_n 0, 1) := by decide +kernel
theorem dX1_agrees_31 : decode cX1_agrees 31 = .ok (.getfield 37, 3) := by decide +kernel
theorem dX1_agrees_34 : decode cX1_agrees 34 = .ok (.ifCond .ne 20, 3) := by decide +kernel
theorem dX1_agrees_37 : decode cX1_agrees 37 = .ok (.aload_n 0, 1) := by decide +kernel
theorem dX1_agrees_38 : decode cX1_agrees 38 = .ok (.iload_n 1, 1) := by decide +kernel
theorem dX1_agrees_39 : decode cX1_agrees 39 = .ok (.iload_n 2, 1) := by decide +kernel
theorem dX1_agrees_40 : decode cX1_agrees 40 = .ok (.aload_n 0, 1) := by decide +kernel
theorem dX1_agrees_41 : decode cX1_agrees 41 = .ok (.getfield 7, 3) := by decide +kernel
theorem dX1_agrees_44 : decode cX1_agrees 44 = .ok (.invokevirtual 102, 3) := by decide +kernel
theorem dX1_agrees_47 : decode cX1_agrees 47 = .ok (.ifCond .eq 7, 3) := by decide +kernel
theorem dX1_agrees_50 : decode cX1_agrees 50 = .ok (.iconst 1, 1) := by decide +kernel
theorem dX1_agrees_51 : decode cX1_agrees 51 = .ok (.goto 4, 3) := by decide +kernel
theorem dX1_agrees_54 : decode cX1_agrees 54 = .ok (.iconst 0, 1) := by decide +kernel
theorem dX1_agrees_55 : decode cX1_agrees 55 = .ok (.ireturn, 1) := by decide +kernel
set_option maxRecDepth 20000 in
theorem ggX1_messengers_X1_isIn : GoodIn wsX1_messengers wsX1_isIn := goodIn_r _ [6] (by decide +kernel) (by decide +kernel)
set_option maxRecDepth 20000 in
theorem gX1_messengers_X1_isIn : GoodIn wsX1_messengers (va_wsS RX1 43 yX1_isIn wsX1_isIn) := goodIn_app (goodIn_of _ (by decide +kernel)) ggX1_messengers_X1_isIn
set_option maxRecDepth 20000 in
theorem ggX1_messengers_X1_runners : GoodIn wsX1_messengers wsX1_runners := goodIn_r _ [9, 7, 8, 5] (by decide +kernel) (by decide +kernel)
set_option maxRecDepth 20000 in
theorem gX1_messengers_X1_runners : GoodIn wsX1_messengers (va_wsS RX1 64 yX1_runners wsX1_runners) := goodIn_app (goodIn_of _ (by decide +kernel)) ggX1_messengers_X1_runners
set_option maxRecDepth 20000 in
theorem ggX1_messengers_X1_no : GoodIn wsX1_messengers wsX1_no := goodIn_r _ [13, 1, 14, 15, 16, 17, 18, 19, 20, 21, 22, 23, 24, 25] (by decide +kernel) (by decide +kernel)
set_option maxRecDepth 20000 in
theorem gX1_messengers_X1_no : GoodIn wsX1_messengers (wsV RX1 72 RX1 yX1_no wsX1_no) := goodIn_app (goodIn_of _ (by decide +kernel)) ggX1_messengers_X1_no
theorem dX1_messengers_0 : decode cX1_messengers 0 = .ok (.aload_n 0, 1) := by decide +kernel
theorem dX1_messengers_1 : decode cX1_messengers 1 = .ok (.iconst 0, 1) := by decide +kernel
theorem dX1_messengers_2 : decode cX1_messengers 2 = .ok (.putfield 37, 3) := by decide +kernel
theorem dX1_messengers_5 : decode cX1_messengers 5 = .ok (.iload_n 1, 1) := by decide +kernel
theorem dX1_messengers_6 : decode cX1_messengers 6 = .ok (.iconst 0, 1) := by decide +kernel
theorem dX1_messengers_7 : decode cX1_messengers 7 = .ok (.iconst 3, 1) := by decide +kernel
theorem dX1_messengers_8 : decode cX1_messengers 8 = .ok (.invokestatic 43, 3) := by decide +kernel
theorem dX1_messengers_11 : decode cX1_messengers 11 = .ok (.ifCond .eq 14, 3) := by decide +kernel
theorem dX1_messengers_14 : decode cX1_messengers 14 = .ok (.aload_n 0, 1) := by decide +kernel
theorem dX1_messengers_15 : decode cX1_messengers 15 = .ok (.getfield 40, 3) := by decide +kernel
theorem dX1_messengers_18 : decode cX1_messengers 18 = .ok (.iload_n 1, 1) := by decide +kernel
theorem dX1_messengers_19 : decode cX1_messengers 19 = .ok (.invokestatic 64, 3) := by decide +kernel
theorem dX1_messengers_22 : decode cX1_messengers 22 = .ok (.goto 8, 3) := by decide +kernel
theorem dX1_messengers_25 : decode cX1_messengers 25 = .ok (.aload_n 0, 1) := by decide +kernel
theorem dX1_messengers_26 : decode cX1_messengers 26 = .ok (.iconst 1, 1) := by decide +kernel
theorem dX1_messengers_27 : decode cX1_messengers 27 = .ok (.invokevirtual 72, 3) := by decide +kernel
theorem dX1_messengers_30 : decode cX1_messengers 30 = .ok (.ireturn, 1) := by decide +kernel
theorem dX1_doesFor_0 : decode cX1_doesFor 0 = .ok (.iconst 0, 1) := by decide +kernel
theorem dX1_doesFor_1 : decode cX1_doesFor 1 = .ok (.istore_n 2, 1) := by decide +kernel
theorem dX1_doesFor_2 : decode cX1_doesFor 2 = .ok (.iload_n 2, 1) := by decide +kernel
theorem dX1_doesFor_3 : decode cX1_doesFor 3 = .ok (.aload_n 0, 1) := by decide +kernel
theorem dX1_doesFor_4 : decode cX1_doesFor 4 = .ok (.getfield 40, 3) := by decide +kernel
theorem dX1_doesFor_7 : decode cX1_doesFor 7 = .ok (.if_icmp .ge 31, 3) := by decide +kernel
theorem dX1_doesFor_10 : decode cX1_doesFor 10 = .ok (.aload_n 0, 1) := by decide +kernel
theorem dX1_doesFor_11 : decode cX1_doesFor 11 = .ok (.iload_n 2, 1) := by decide +kernel
theorem dX1_doesFor_12 : decode cX1_doesFor 12 = .ok (.iconst 0, 1) := by decide +kernel
theorem dX1_doesFor_13 : decode cX1_doesFor 13 = .ok (.iload_n 1, 1) := by decide +kernel
theorem dX1_doesFor_14 : decode cX1_doesFor 14 = .ok (.invokevirtual 102, 3) := by decide +kernel
theorem dX1_doesFor_17 : decode cX1_doesFor 17 = .ok (.ifCond .eq 13, 3) := by decide +kernel
theorem dX1_doesFor_20 : decode cX1_doesFor 20 = .ok (.aload_n 0, 1) := by decide +kernel
theorem dX1_doesFor_21 : decode cX1_doesFor 21 = .ok (.iload_n 2, 1) := by decide +kernel
theorem dX1_doesFor_22 : decode cX1_doesFor 22 = .ok (.iconst 1, 1) := by decide +kernel
theorem dX1_doesFor_23 : decode cX1_doesFor 23 = .ok (.iload_n 1, 1) := by decide +kernel
theorem dX1_doesFor_24 : decode cX1_doesFor 24 = .ok (.invokevirtual 102, 3) := by decide +kernel
theorem dX1_doesFor_27 : decode cX1_doesFor 27 = .ok (.ifCond .ne 5, 3) := by decide +kernel
theorem dX1_doesFor_30 : decode cX1_doesFor 30 = .ok (.iconst 0, 1) := by decide +kernel
theorem dX1_doesFor_31 : decode cX1_doesFor 31 = .ok (.ireturn, 1) := by decide +kernel
theorem dX1_doesFor_32 : decode cX1_doesFor 32 = .ok (.iinc 2 1, 3) := by decide +kernel
theorem dX1_doesFor_35 : decode cX1_doesFor 35 = .ok (.goto (-33), 3) := by decide +kernel
theorem dX1_doesFor_38 : decode cX1_doesFor 38 = .ok (.iconst 1, 1) := by decide +kernel
theorem dX1_doesFor_39 : decode cX1_doesFor 39 = .ok (.ireturn, 1) := by decide +kernel
set_option maxRecDepth 20000 in
theorem ggX1_needs_X1_doesFor : GoodIn wsX1_needs wsX1_doesFor := goodIn_r _ [6, 7, 8, 9, 10, 5, 11, 12, 13, 14, 15, 16, 17, 18, 19, 20, 21, 22, 23, 24, 25, 26, 27, 28, 29, 30, 31, 32, 33, 34, 35, 36, 37, 38, 39, 40, 41, 42, 43, 44, 45, 46] (by decide +kernel) (by decide +kernel)
set_option maxRecDepth 20000 in
theorem gX1_needs_X1_doesFor : GoodIn wsX1_needs (wsV RX1 105 RX1 yX1_doesFor wsX1_doesFor) := goodIn_app (goodIn_of _ (by decide +kernel)) ggX1_needs_X1_doesFor
theorem dX1_needs_0 : decode cX1_needs 0 = .ok (.aload_n 0, 1) := by decide +kernel
theorem dX1_needs_1 : decode cX1_needs 1 = .ok (.iconst 0, 1) := by decide +kernel
theorem dX1_needs_2 : decode cX1_needs 2 = .ok (.putfield 37, 3) := by decide +kernel
theorem dX1_needs_5 : decode cX1_needs 5 = .ok (.iconst 0, 1) := by decide +kernel
theorem dX1_needs_6 : decode cX1_needs 6 = .ok (.istore_n 1, 1) := by decide +kernel
theorem dX1_needs_7 : decode cX1_needs 7 = .ok (.iload_n 1, 1) := by decide +kernel
theorem dX1_needs_8 : decode cX1_needs 8 = .ok (.iconst 3, 1) := by decide +kernel
theorem dX1_needs_9 : decode cX1_needs 9 = .ok (.if_icmp .gt 19, 3) := by decide +kernel
theorem dX1_needs_12 : decode cX1_needs 12 = .ok (.aload_n 0, 1) := by decide +kernel
theorem dX1_needs_13 : decode cX1_needs 13 = .ok (.iload_n 1, 1) := by decide +kernel
theorem dX1_needs_14 : decode cX1_needs 14 = .ok (.invokevirtual 105, 3) := by decide +kernel
theorem dX1_needs_17 : decode cX1_needs 17 = .ok (.ifCond .eq 5, 3) := by decide +kernel
theorem dX1_needs_20 : decode cX1_needs 20 = .ok (.iload_n 1, 1) := by decide +kernel
theorem dX1_needs_21 : decode cX1_needs 21 = .ok (.ireturn, 1) := by decide +kernel
theorem dX1_needs_22 : decode cX1_needs 22 = .ok (.iinc 1 1, 3) := by decide +kernel
theorem dX1_needs_25 : decode cX1_needs 25 = .ok (.goto (-18), 3) := by decide +kernel
theorem dX1_needs_28 : decode cX1_needs 28 = .ok (.iconst (-1), 1) := by decide +kernel
theorem dX1_needs_29 : decode cX1_needs 29 = .ok (.ireturn, 1) := by decide +kernel
set_option maxRecDepth 20000 in
theorem ggX1_found_X1_isGeneral : GoodIn wsX1_found wsX1_isGeneral := goodIn_r _ [7, 2, 8, 9, 6, 10, 20, 21, 22, 23, 24, 25, 26, 27, 28, 29, 30, 31] (by decide +kernel) (by decide +kernel)
set_option maxRecDepth 20000 in
theorem gX1_found_X1_isGeneral : GoodIn wsX1_found (wsV RX1 76 RX1 yX1_isGeneral wsX1_isGeneral) := goodIn_app (goodIn_of _ (by decide +kernel)) ggX1_found_X1_isGeneral
set_option maxRecDepth 20000 in
theorem ggX1_found_X1_no : GoodIn wsX1_found wsX1_no := goodIn_r _ [14, 1, 20, 21, 22, 23, 24, 25, 26, 27, 28, 29, 30, 31] (by decide +kernel) (by decide +kernel)
set_option maxRecDepth 20000 in
theorem gX1_found_X1_no : GoodIn wsX1_found (wsV RX1 72 RX1 yX1_no wsX1_no) := goodIn_app (goodIn_of _ (by decide +kernel)) ggX1_found_X1_no
theorem dX1_found_0 : decode cX1_found 0 = .ok (.aload_n 0, 1) := by decide +kernel
theorem dX1_found_1 : decode cX1_found 1 = .ok (.iconst 0, 1) := by decide +kernel
theorem dX1_found_2 : decode cX1_found 2 = .ok (.putfield 37, 3) := by decide +kernel
theorem dX1_found_5 : decode cX1_found 5 = .ok (.aload_n 0, 1) := by decide +kernel
theorem dX1_found_6 : decode cX1_found 6 = .ok (.iload_n 1, 1) := by decide +kernel
theorem dX1_found_7 : decode cX1_found 7 = .ok (.invokevirtual 76, 3) := by decide +kernel
theorem dX1_found_10 : decode cX1_found 10 = .ok (.ifCond .ne 9, 3) := by decide +kernel
theorem dX1_found_13 : decode cX1_found 13 = .ok (.aload_n 0, 1) := by decide +kernel
theorem dX1_found_14 : decode cX1_found 14 = .ok (.iconst 1, 1) := by decide +kernel
theorem dX1_found_15 : decode cX1_found 15 = .ok (.invokevirtual 72, 3) := by decide +kernel
theorem dX1_found_18 : decode cX1_found 18 = .ok (.ireturn, 1) := by decide +kernel
theorem dX1_found_19 : decode cX1_found 19 = .ok (.iconst 0, 1) := by decide +kernel
theorem dX1_found_20 : decode cX1_found 20 = .ok (.istore_n 2, 1) := by decide +kernel
theorem dX1_found_21 : decode cX1_found 21 = .ok (.iconst 0, 1) := by decide +kernel
theorem dX1_found_22 : decode cX1_found 22 = .ok (.istore_n 3, 1) := by decide +kernel
theorem dX1_found_23 : decode cX1_found 23 = .ok (.iload_n 3, 1) := by decide +kernel
theorem dX1_found_24 : decode cX1_found 24 = .ok (.aload_n 0, 1) := by decide +kernel
theorem dX1_found_25 : decode cX1_found 25 = .ok (.getfield 40, 3) := by decide +kernel
theorem dX1_found_28 : decode cX1_found 28 = .ok (.if_icmp .ge 43, 3) := by decide +kernel
theorem dX1_found_31 : decode cX1_found 31 = .ok (.iload_n 2, 1) := by decide +kernel
theorem dX1_found_32 : decode cX1_found 32 = .ok (.iload_n 3, 1) := by decide +kernel
theorem dX1_found_33 : decode cX1_found 33 = .ok (.iload_n 1, 1) := by decide +kernel
theorem dX1_found_34 : decode cX1_found 34 = .ok (.if_icmp .eq 28, 3) := by decide +kernel
theorem dX1_found_37 : decode cX1_found 37 = .ok (.aload_n 0, 1) := by decide +kernel
theorem dX1_found_38 : decode cX1_found 38 = .ok (.iload_n 1, 1) := by decide +kernel
theorem dX1_found_39 : decode cX1_found 39 = .ok (.iload_n 3, 1) := by decide +kernel
theorem dX1_found_40 : decode cX1_found 40 = .ok (.iconst 0, 1) := by decide +kernel
theorem dX1_found_41 : decode cX1_found 41 = .ok (.invokevirtual 48, 3) := by decide +kernel
theorem dX1_found_44 : decode cX1_found 44 = .ok (.ifCond .ne 14, 3) := by decide +kernel
theorem dX1_found_47 : decode cX1_found 47 = .ok (.aload_n 0, 1) := by decide +kernel
theorem dX1_found_48 : decode cX1_found 48 = .ok (.iload_n 1, 1) := by decide +kernel
theorem dX1_found_49 : decode cX1_found 49 = .ok (.iload_n 3, 1) := by decide +kernel
theorem dX1_found_50 : decode cX1_found 50 = .ok (.iconst 1, 1) := by decide +kernel
theorem dX1_found_51 : decode cX1_found 51 = .ok (.invokevirtual 48, 3) := by decide +kernel
theorem dX1_found_54 : decode cX1_found 54 = .ok (.iconst 1, 1) := by decide +kernel
theorem dX1_found_55 : decode cX1_found 55 = .ok (.if_icmp .eq 7, 3) := by decide +kernel
theorem dX1_found_58 : decode cX1_found 58 = .ok (.iconst 1, 1) := by decide +kernel
theorem dX1_found_59 : decode cX1_found 59 = .ok (.goto 4, 3) := by decide +kernel
theorem dX1_found_62 : decode cX1_found 62 = .ok (.iconst 0, 1) := by decide +kernel
theorem dX1_found_63 : decode cX1_found 63 = .ok (.iadd, 1) := by decide +kernel
theorem dX1_found_64 : decode cX1_found 64 = .ok (.istore_n 2, 1) := by decide +kernel
theorem dX1_found_65 : decode cX1_found 65 = .ok (.iinc 3 1, 3) := by decide +kernel
theorem dX1_found_68 : decode cX1_found 68 = .ok (.goto (-45), 3) := by decide +kernel
theorem dX1_found_71 : decode cX1_found 71 = .ok (.iload_n 2, 1) := by decide +kernel
theorem dX1_found_72 : decode cX1_found 72 = .ok (.ireturn, 1) := by decide +kernel
theorem dX1_mean_0 : decode cX1_mean 0 = .ok (.aload_n 0, 1) := by decide +kernel
theorem dX1_mean_1 : decode cX1_mean 1 = .ok (.iconst 0, 1) := by decide +kernel
theorem dX1_mean_2 : decode cX1_mean 2 = .ok (.putfield 37, 3) := by decide +kernel
theorem dX1_mean_5 : decode cX1_mean 5 = .ok (.iconst 0, 1) := by decide +kernel
theorem dX1_mean_6 : decode cX1_mean 6 = .ok (.istore_n 1, 1) := by decide +kernel
theorem dX1_mean_7 : decode cX1_mean 7 = .ok (.aload_n 0, 1) := by decide +kernel
theorem dX1_mean_8 : decode cX1_mean 8 = .ok (.getfield 19, 3) := by decide +kernel
theorem dX1_mean_11 : decode cX1_mean 11 = .ok (.astore_n 2, 1) := by decide +kernel
theorem dX1_mean_12 : decode cX1_mean 12 = .ok (.aload_n 2, 1) := by decide +kernel
theorem dX1_mean_13 : decode cX1_mean 13 = .ok (.arraylength, 1) := by decide +kernel
theorem dX1_mean_14 : decode cX1_mean 14 = .ok (.istore_n 3, 1) := by decide +kernel
theorem dX1_mean_15 : decode cX1_mean 15 = .ok (.iconst 0, 1) := by decide +kernel
theorem dX1_mean_16 : decode cX1_mean 16 = .ok (.istore 4, 2) := by decide +kernel
theorem dX1_mean_18 : decode cX1_mean 18 = .ok (.iload 4, 2) := by decide +kernel
theorem dX1_mean_20 : decode cX1_mean 20 = .ok (.iload_n 3, 1) := by decide +kernel
theorem dX1_mean_21 : decode cX1_mean 21 = .ok (.if_icmp .ge 22, 3) := by decide +kernel
theorem dX1_mean_24 : decode cX1_mean 24 = .ok (.aload_n 2, 1) := by decide +kernel
theorem dX1_mean_25 : decode cX1_mean 25 = .ok (.iload 4, 2) := by decide +kernel
theorem dX1_mean_27 : decode cX1_mean 27 = .ok (.aaload, 1) := by decide +kernel
theorem dX1_mean_28 : decode cX1_mean 28 = .ok (.astore 5, 2) := by decide +kernel
theorem dX1_mean_30 : decode cX1_mean 30 = .ok (.iload_n 1, 1) := by decide +kernel
theorem dX1_mean_31 : decode cX1_mean 31 = .ok (.aload 5, 2) := by decide +kernel
theorem dX1_mean_33 : decode cX1_mean 33 = .ok (.iconst 0, 1) := by decide +kernel
theorem dX1_mean_34 : decode cX1_mean 34 = .ok (.iaload, 1) := by decide +kernel
theorem dX1_mean_35 : decode cX1_mean 35 = .ok (.iadd, 1) := by decide +kernel
theorem dX1_mean_36 : decode cX1_mean 36 = .ok (.istore_n 1, 1) := by decide +kernel
theorem dX1_mean_37 : decode cX1_mean 37 = .ok (.iinc 4 1, 3) := by decide +kernel
theorem dX1_mean_40 : decode cX1_mean 40 = .ok (.goto (-22), 3) := by decide +kernel
theorem dX1_mean_43 : decode cX1_mean 43 = .ok (.aload_n 0, 1) := by decide +kernel
theorem dX1_mean_44 : decode cX1_mean 44 = .ok (.getfield 87, 3) := by decide +kernel
theorem dX1_mean_47 : decode cX1_mean 47 = .ok (.ifCond .ne 7, 3) := by decide +kernel
theorem dX1_mean_50 : decode cX1_mean 50 = .ok (.dconst 0, 1) := by decide +kernel
theorem dX1_mean_51 : decode cX1_mean 51 = .ok (.goto 11, 3) := by decide +kernel
theorem dX1_mean_54 : decode cX1_mean 54 = .ok (.iload_n 1, 1) := by decide +kernel
theorem dX1_mean_55 : decode cX1_mean 55 = .ok (.i2d, 1) := by decide +kernel
theorem dX1_mean_56 : decode cX1_mean 56 = .ok (.aload_n 0, 1) := by decide +kernel
theorem dX1_mean_57 : decode cX1_mean 57 = .ok (.getfield 87, 3) := by decide +kernel
theorem dX1_mean_60 : decode cX1_mean 60 = .ok (.i2d, 1) := by decide +kernel
theorem dX1_mean_61 : decode cX1_mean 61 = .ok (.ddiv, 1) := by decide +kernel
theorem dX1_mean_62 : decode cX1_mean 62 = .ok (.dreturn, 1) := by decide +kernel
set_option maxRecDepth 20000 in
theorem ggX1_digest_X1_counted : GoodIn wsX1_digest wsX1_counted := goodIn_r _ [12, 13, 14, 4, 7, 15, 16, 17, 18, 19, 20, 21, 11, 22, 5, 6, 53, 54, 55, 56, 57, 58, 59, 60, 61, 62, 63, 64] (by decide +kernel) (by decide +kernel)
set_option maxRecDepth 20000 in
theorem gX1_digest_X1_counted : GoodIn wsX1_digest (wsV RX1 96 RX1 yX1_counted wsX1_counted) := goodIn_app (goodIn_of _ (by decide +kernel)) ggX1_digest_X1_counted
theorem dX1_digest_0 : decode cX1_digest 0 = .ok (.aload_n 0, 1) := by decide +kernel
theorem dX1_digest_1 : decode cX1_digest 1 = .ok (.iconst 0, 1) := by decide +kernel
theorem dX1_digest_2 : decode cX1_digest 2 = .ok (.putfield 37, 3) := by decide +kernel
theorem dX1_digest_5 : decode cX1_digest 5 = .ok (.ldc2_w 108, 3) := by decide +kernel
theorem dX1_digest_8 : decode cX1_digest 8 = .ok (.lstore_n 1, 1) := by decide +kernel
theorem dX1_digest_9 : decode cX1_digest 9 = .ok (.iconst 0, 1) := by decide +kernel
theorem dX1_digest_10 : decode cX1_digest 10 = .ok (.istore_n 3, 1) := by decide +kernel
theorem dX1_digest_11 : decode cX1_digest 11 = .ok (.iload_n 3, 1) := by decide +kernel
theorem dX1_digest_12 : decode cX1_digest 12 = .ok (.bipush 8, 2) := by decide +kernel
theorem dX1_digest_14 : decode cX1_digest 14 = .ok (.if_icmp .gt 22, 3) := by decide +kernel
theorem dX1_digest_17 : decode cX1_digest 17 = .ok (.lload_n 1, 1) := by decide +kernel
theorem dX1_digest_18 : decode cX1_digest 18 = .ok (.ldc2_w 110, 3) := by decide +kernel
theorem dX1_digest_21 : decode cX1_digest 21 = .ok (.lmul, 1) := by decide +kernel
theorem dX1_digest_22 : decode cX1_digest 22 = .ok (.aload_n 0, 1) := by decide +kernel
theorem dX1_digest_23 : decode cX1_digest 23 = .ok (.iload_n 3, 1) := by decide +kernel
theorem dX1_digest_24 : decode cX1_digest 24 = .ok (.invokevirtual 96, 3) := by decide +kernel
theorem dX1_digest_27 : decode cX1_digest 27 = .ok (.i2l, 1) := by decide +kernel
theorem dX1_digest_28 : decode cX1_digest 28 = .ok (.ladd, 1) := by decide +kernel
theorem dX1_digest_29 : decode cX1_digest 29 = .ok (.lstore_n 1, 1) := by decide +kernel
theorem dX1_digest_30 : decode cX1_digest 30 = .ok (.iinc 3 1, 3) := by decide +kernel
theorem dX1_digest_33 : decode cX1_digest 33 = .ok (.goto (-22), 3) := by decide +kernel
theorem dX1_digest_36 : decode cX1_digest 36 = .ok (.iconst 0, 1) := by decide +kernel
theorem dX1_digest_37 : decode cX1_digest 37 = .ok (.istore_n 3, 1) := by decide +kernel
theorem dX1_digest_38 : decode cX1_digest 38 = .ok (.iload_n 3, 1) := by decide +kernel
theorem dX1_digest_39 : decode cX1_digest 39 = .ok (.aload_n 0, 1) := by decide +kernel
theorem dX1_digest_40 : decode cX1_digest 40 = .ok (.getfield 40, 3) := by decide +kernel
theorem dX1_digest_43 : decode cX1_digest 43 = .ok (.if_icmp .ge 39, 3) := by decide +kernel
theorem dX1_digest_46 : decode cX1_digest 46 = .ok (.iconst 0, 1) := by decide +kernel
theorem dX1_digest_47 : decode cX1_digest 47 = .ok (.istore 4, 2) := by decide +kernel
theorem dX1_digest_49 : decode cX1_digest 49 = .ok (.iload 4, 2) := by decide +kernel
theorem dX1_digest_51 : decode cX1_digest 51 = .ok (.iconst 3, 1) := by decide +kernel
theorem dX1_digest_52 : decode cX1_digest 52 = .ok (.if_icmp .gt 24, 3) := by decide +kernel
theorem dX1_digest_55 : decode cX1_digest 55 = .ok (.lload_n 1, 1) := by decide +kernel
theorem dX1_digest_56 : decode cX1_digest 56 = .ok (.ldc2_w 110, 3) := by decide +kernel
theorem dX1_digest_59 : decode cX1_digest 59 = .ok (.lmul, 1) := by decide +kernel
theorem dX1_digest_60 : decode cX1_digest 60 = .ok (.aload_n 0, 1) := by decide +kernel
theorem dX1_digest_61 : decode cX1_digest 61 = .ok (.iload_n 3, 1) := by decide +kernel
theorem dX1_digest_62 : decode cX1_digest 62 = .ok (.iload 4, 2) := by decide +kernel
theorem dX1_digest_64 : decode cX1_digest 64 = .ok (.invokevirtual 99, 3) := by decide +kernel
theorem dX1_digest_67 : decode cX1_digest 67 = .ok (.i2l, 1) := by decide +kernel
theorem dX1_digest_68 : decode cX1_digest 68 = .ok (.ladd, 1) := by decide +kernel
theorem dX1_digest_69 : decode cX1_digest 69 = .ok (.lstore_n 1, 1) := by decide +kernel
theorem dX1_digest_70 : decode cX1_digest 70 = .ok (.iinc 4 1, 3) := by decide +kernel
theorem dX1_digest_73 : decode cX1_digest 73 = .ok (.goto (-24), 3) := by decide +kernel
theorem dX1_digest_76 : decode cX1_digest 76 = .ok (.iinc 3 1, 3) := by decide +kernel
theorem dX1_digest_79 : decode cX1_digest 79 = .ok (.goto (-41), 3) := by decide +kernel
theorem dX1_digest_82 : decode cX1_digest 82 = .ok (.iconst 0, 1) := by decide +kernel
theorem dX1_digest_83 : decode cX1_digest 83 = .ok (.istore_n 3, 1) := by decide +kernel
theorem dX1_digest_84 : decode cX1_digest 84 = .ok (.iload_n 3, 1) := by decide +kernel
theorem dX1_digest_85 : decode cX1_digest 85 = .ok (.aload_n 0, 1) := by decide +kernel
theorem dX1_digest_86 : decode cX1_digest 86 = .ok (.getfield 84, 3) := by decide +kernel
theorem dX1_digest_89 : decode cX1_digest 89 = .ok (.if_icmp .ge 23, 3) := by decide +kernel
theorem dX1_digest_92 : decode cX1_digest 92 = .ok (.lload_n 1, 1) := by decide +kernel
theorem dX1_digest_93 : decode cX1_digest 93 = .ok (.ldc2_w 110, 3) := by decide +kernel
theorem dX1_digest_96 : decode cX1_digest 96 = .ok (.lmul, 1) := by decide +kernel
theorem dX1_digest_97 : decode cX1_digest 97 = .ok (.aload_n 0, 1) := by decide +kernel
theorem dX1_digest_98 : decode cX1_digest 98 = .ok (.getfield 31, 3) := by decide +kernel
theorem dX1_digest_101 : decode cX1_digest 101 = .ok (.iload_n 3, 1) := by decide +kernel
theorem dX1_digest_102 : decode cX1_digest 102 = .ok (.iaload, 1) := by decide +kernel
theorem dX1_digest_103 : decode cX1_digest 103 = .ok (.i2l, 1) := by decide +kernel
theorem dX1_digest_104 : decode cX1_digest 104 = .ok (.ladd, 1) := by decide +kernel
theorem dX1_digest_105 : decode cX1_digest 105 = .ok (.lstore_n 1, 1) := by decide +kernel
theorem dX1_digest_106 : decode cX1_digest 106 = .ok (.iinc 3 1, 3) := by decide +kernel
theorem dX1_digest_109 : decode cX1_digest 109 = .ok (.goto (-25), 3) := by decide +kernel
theorem dX1_digest_112 : decode cX1_digest 112 = .ok (.iconst 0, 1) := by decide +kernel
theorem dX1_digest_113 : decode cX1_digest 113 = .ok (.istore_n 3, 1) := by decide +kernel
theorem dX1_digest_114 : decode cX1_digest 114 = .ok (.iload_n 3, 1) := by decide +kernel
theorem dX1_digest_115 : decode cX1_digest 115 = .ok (.aload_n 0, 1) := by decide +kernel
theorem dX1_digest_116 : decode cX1_digest 116 = .ok (.getfield 40, 3) := by decide +kernel
theorem dX1_digest_119 : decode cX1_digest 119 = .ok (.if_icmp .ge 51, 3) := by decide +kernel
theorem dX1_digest_122 : decode cX1_digest 122 = .ok (.iconst 0, 1) := by decide +kernel
theorem dX1_digest_123 : decode cX1_digest 123 = .ok (.istore 4, 2) := by decide +kernel
theorem dX1_digest_125 : decode cX1_digest 125 = .ok (.iload 4, 2) := by decide +kernel
theorem dX1_digest_127 : decode cX1_digest 127 = .ok (.iconst 2, 1) := by decide +kernel
theorem dX1_digest_128 : decode cX1_digest 128 = .ok (.if_icmp .ge 36, 3) := by decide +kernel
theorem dX1_digest_131 : decode cX1_digest 131 = .ok (.lload_n 1, 1) := by decide +kernel
theorem dX1_digest_132 : decode cX1_digest 132 = .ok (.ldc2_w 110, 3) := by decide +kernel
theorem dX1_digest_135 : decode cX1_digest 135 = .ok (.lmul, 1) := by decide +kernel
theorem dX1_digest_136 : decode cX1_digest 136 = .ok (.aload_n 0, 1) := by decide +kernel
theorem dX1_digest_137 : decode cX1_digest 137 = .ok (.iload_n 3, 1) := by decide +kernel
theorem dX1_digest_138 : decode cX1_digest 138 = .ok (.iload 4, 2) := by decide +kernel
theorem dX1_digest_140 : decode cX1_digest 140 = .ok (.aload_n 0, 1) := by decide +kernel
theorem dX1_digest_141 : decode cX1_digest 141 = .ok (.getfield 7, 3) := by decide +kernel
theorem dX1_digest_144 : decode cX1_digest 144 = .ok (.invokevirtual 102, 3) := by decide +kernel
theorem dX1_digest_147 : decode cX1_digest 147 = .ok (.ifCond .eq 7, 3) := by decide +kernel
theorem dX1_digest_150 : decode cX1_digest 150 = .ok (.iconst 1, 1) := by decide +kernel
theorem dX1_digest_151 : decode cX1_digest 151 = .ok (.goto 4, 3) := by decide +kernel
theorem dX1_digest_154 : decode cX1_digest 154 = .ok (.iconst 0, 1) := by decide +kernel
theorem dX1_digest_155 : decode cX1_digest 155 = .ok (.i2l, 1) := by decide +kernel
theorem dX1_digest_156 : decode cX1_digest 156 = .ok (.ladd, 1) := by decide +kernel
theorem dX1_digest_157 : decode cX1_digest 157 = .ok (.lstore_n 1, 1) := by decide +kernel
theorem dX1_digest_158 : decode cX1_digest 158 = .ok (.iinc 4 1, 3) := by decide +kernel
theorem dX1_digest_161 : decode cX1_digest 161 = .ok (.goto (-36), 3) := by decide +kernel
theorem dX1_digest_164 : decode cX1_digest 164 = .ok (.iinc 3 1, 3) := by decide +kernel
theorem dX1_digest_167 : decode cX1_digest 167 = .ok (.goto (-53), 3) := by decide +kernel
theorem dX1_digest_170 : decode cX1_digest 170 = .ok (.lload_n 1, 1) := by decide +kernel
theorem dX1_digest_171 : decode cX1_digest 171 = .ok (.lreturn, 1) := by decide +kernel
end
section
set_option maxRecDepth 20000 in
theorem ggL_come_X0_come : GoodIn wsL_come wsX0_come := goodIn_ca (goodIn_r _ [6, 7, 8, 9, 10, 11, 12, 13, 14, 15, 16, 17, 18, 19, 20, 21, 22, 23, 24, 25, 26, 27] (by decide +kernel) (by decide +kernel)) (goodIn_sub (fun _ h => List.mem_cons_of_mem _ (List.mem_append_right _ h)) (by decide +kernel))
set_option maxRecDepth 20000 in
theorem gL_come_X0_come : GoodIn wsL_come (wsV RL 7 RX0 yX0_come wsX0_come) := goodIn_app (goodIn_of _ (by decide +kernel)) ggL_come_X0_come
theorem dL_come_0 : decode cL_come 0 = .ok (.aload_n 1, 1) := by decide +kernel
theorem dL_come_1 : decode cL_come 1 = .ok (.iconst 0, 1) := by decide +kernel
theorem dL_come_2 : decode cL_come 2 = .ok (.aload_n 0, 1) := by decide +kernel
theorem dL_come_3 : decode cL_come 3 = .ok (.invokevirtual 7, 3) := by decide +kernel
theorem dL_come_6 : decode cL_come 6 = .ok (.i2l, 1) := by decide +kernel
theorem dL_come_7 : decode cL_come 7 = .ok (.lastore, 1) := by decide +kernel
theorem dL_come_8 : decode cL_come 8 = .ok (.goto 6, 3) := by decide +kernel
theorem dL_come_11 : decode cL_come 11 = .ok (.astore_n 2, 1) := by decide +kernel
theorem dL_come_12 : decode cL_come 12 = .ok (.iconst 1, 1) := by decide +kernel
theorem dL_come_13 : decode cL_come 13 = .ok (.ireturn, 1) := by decide +kernel
theorem dL_come_14 : decode cL_come 14 = .ok (.iconst 0, 1) := by decide +kernel
theorem dL_come_15 : decode cL_come 15 = .ok (.ireturn, 1) := by decide +kernel
set_option maxRecDepth 20000 in
theorem ggL_setKind_X0_setKind : GoodIn wsL_setKind wsX0_setKind := goodIn_ca (goodIn_r _ [6, 7, 8, 9, 10, 11, 12, 5, 13, 14, 15, 16, 17, 18, 19, 20, 21, 22, 23, 24, 25, 26, 27, 28, 29, 30, 31, 32, 33, 34, 35, 36] (by decide +kernel) (by decide +kernel)) (goodIn_sub (fun _ h => List.mem_cons_of_mem _ (List.mem_append_right _ h)) (by decide +kernel))
set_option maxRecDepth 20000 in
theorem gL_setKind_X0_setKind : GoodIn wsL_setKind (wsV RL 15 RX0 yX0_setKind wsX0_setKind) := goodIn_app (goodIn_of _ (by decide +kernel)) ggL_setKind_X0_setKind
theorem dL_setKind_0 : decode cL_setKind 0 = .ok (.aload_n 3, 1) := by decide +kernel
theorem dL_setKind_1 : decode cL_setKind 1 = .ok (.iconst 0, 1) := by decide +kernel
theorem dL_setKind_2 : decode cL_setKind 2 = .ok (.aload_n 0, 1) := by decide +kernel
theorem dL_setKind_3 : decode cL_setKind 3 = .ok (.iload_n 1, 1) := by decide +kernel
theorem dL_setKind_4 : decode cL_setKind 4 = .ok (.iload_n 2, 1) := by decide +kernel
theorem dL_setKind_5 : decode cL_setKind 5 = .ok (.invokevirtual 15, 3) := by decide +kernel
theorem dL_setKind_8 : decode cL_setKind 8 = .ok (.i2l, 1) := by decide +kernel
theorem dL_setKind_9 : decode cL_setKind 9 = .ok (.lastore, 1) := by decide +kernel
theorem dL_setKind_10 : decode cL_setKind 10 = .ok (.goto 7, 3) := by decide +kernel
theorem dL_setKind_13 : decode cL_setKind 13 = .ok (.astore 4, 2) := by decide +kernel
theorem dL_setKind_15 : decode cL_setKind 15 = .ok (.iconst 1, 1) := by decide +kernel
theorem dL_setKind_16 : decode cL_setKind 16 = .ok (.ireturn, 1) := by decide +kernel
theorem dL_setKind_17 : decode cL_setKind 17 = .ok (.iconst 0, 1) := by decide +kernel
theorem dL_setKind_18 : decode cL_setKind 18 = .ok (.ireturn, 1) := by decide +kernel
set_option maxRecDepth 20000 in
theorem ggL_setRounds_X0_setRounds : GoodIn wsL_setRounds wsX0_setRounds := goodIn_ca (goodIn_r _ [6, 7, 8, 9, 5, 10, 11, 12, 13, 14, 15, 16, 17, 18, 19, 20, 21, 22, 23, 24, 25, 26, 27, 28, 29, 30] (by decide +kernel) (by decide +kernel)) (goodIn_sub (fun _ h => List.mem_cons_of_mem _ (List.mem_append_right _ h)) (by decide +kernel))
set_option maxRecDepth 20000 in
theorem gL_setRounds_X0_setRounds : GoodIn wsL_setRounds (wsV RL 21 RX0 yX0_setRounds wsX0_setRounds) := goodIn_app (goodIn_of _ (by decide +kernel)) ggL_setRounds_X0_setRounds
theorem dL_setRounds_0 : decode cL_setRounds 0 = .ok (.aload_n 2, 1) := by decide +kernel
theorem dL_setRounds_1 : decode cL_setRounds 1 = .ok (.iconst 0, 1) := by decide +kernel
theorem dL_setRounds_2 : decode cL_setRounds 2 = .ok (.aload_n 0, 1) := by decide +kernel
theorem dL_setRounds_3 : decode cL_setRounds 3 = .ok (.iload_n 1, 1) := by decide +kernel
theorem dL_setRounds_4 : decode cL_setRounds 4 = .ok (.invokevirtual 21, 3) := by decide +kernel
theorem dL_setRounds_7 : decode cL_setRounds 7 = .ok (.i2l, 1) := by decide +kernel
theorem dL_setRounds_8 : decode cL_setRounds 8 = .ok (.lastore, 1) := by decide +kernel
theorem dL_setRounds_9 : decode cL_setRounds 9 = .ok (.goto 6, 3) := by decide +kernel
theorem dL_setRounds_12 : decode cL_setRounds 12 = .ok (.astore_n 3, 1) := by decide +kernel
theorem dL_setRounds_13 : decode cL_setRounds 13 = .ok (.iconst 1, 1) := by decide +kernel
theorem dL_setRounds_14 : decode cL_setRounds 14 = .ok (.ireturn, 1) := by decide +kernel
theorem dL_setRounds_15 : decode cL_setRounds 15 = .ok (.iconst 0, 1) := by decide +kernel
theorem dL_setRounds_16 : decode cL_setRounds 16 = .ok (.ireturn, 1) := by decide +kernel
set_option maxRecDepth 20000 in
theorem ggL_hold_X0_hold : GoodIn wsL_hold wsX0_hold := goodIn_ca (goodIn_ca (goodIn_r _ [7, 8, 9, 10, 11, 6, 12, 13, 14, 15, 16, 17, 18, 19, 20, 21, 22, 23, 24, 25, 26, 27, 28, 29, 30, 31, 32, 33, 34, 35, 36, 37, 38, 39, 40, 41, 42, 43, 44, 45, 46, 47, 48, 49, 50, 51, 52, 53, 54, 55, 56, 57, 58, 59, 60, 61, 62, 63, 64, 65, 66, 67, 68, 69, 70, 71, 72, 73, 74, 75, 76, 77, 78, 79, 80, 81, 82, 83, 84, 85, 86, 87, 88, 89, 90, 91, 92, 93, 94, 95, 96, 97, 98, 99, 100, 101, 102] (by decide +kernel) (by decide +kernel)) (goodIn_sub (fun _ h => List.mem_cons_of_mem _ (List.mem_append_left _ (List.mem_append_right _ h))) (by decide +kernel))) (goodIn_sub (fun _ h => List.mem_cons_of_mem _ (List.mem_append_right _ h)) (by decide +kernel))
set_option maxRecDepth 20000 in
theorem gL_hold_X0_hold : GoodIn wsL_hold (wsV RL 27 RX0 yX0_hold wsX0_hold) := goodIn_app (goodIn_of _ (by decide +kernel)) ggL_hold_X0_hold
theorem dL_hold_0 : decode cL_hold 0 = .ok (.aload_n 3, 1) := by decide +kernel
theorem dL_hold_1 : decode cL_hold 1 = .ok (.iconst 0, 1) := by decide +kernel
theorem dL_hold_2 : decode cL_hold 2 = .ok (.aload_n 0, 1) := by decide +kernel
theorem dL_hold_3 : decode cL_hold 3 = .ok (.iload_n 1, 1) := by decide +kernel
theorem dL_hold_4 : decode cL_hold 4 = .ok (.iload_n 2, 1) := by decide +kernel
theorem dL_hold_5 : decode cL_hold 5 = .ok (.invokevirtual 27, 3) := by decide +kernel
theorem dL_hold_8 : decode cL_hold 8 = .ok (.i2l, 1) := by decide +kernel
theorem dL_hold_9 : decode cL_hold 9 = .ok (.lastore, 1) := by decide +kernel
theorem dL_hold_10 : decode cL_hold 10 = .ok (.goto 11, 3) := by decide +kernel
theorem dL_hold_13 : decode cL_hold 13 = .ok (.astore 4, 2) := by decide +kernel
theorem dL_hold_15 : decode cL_hold 15 = .ok (.iconst 1, 1) := by decide +kernel
theorem dL_hold_16 : decode cL_hold 16 = .ok (.ireturn, 1) := by decide +kernel
theorem dL_hold_17 : decode cL_hold 17 = .ok (.astore 4, 2) := by decide +kernel
theorem dL_hold_19 : decode cL_hold 19 = .ok (.iconst 2, 1) := by decide +kernel
theorem dL_hold_20 : decode cL_hold 20 = .ok (.ireturn, 1) := by decide +kernel
theorem dL_hold_21 : decode cL_hold 21 = .ok (.iconst 0, 1) := by decide +kernel
theorem dL_hold_22 : decode cL_hold 22 = .ok (.ireturn, 1) := by decide +kernel
set_option maxRecDepth 20000 in
theorem ggL_does_X0_does : GoodIn wsL_does wsX0_does := goodIn_ca (goodIn_ca (goodIn_r _ [7, 8, 9, 10, 11, 6, 12, 13, 14, 15, 16, 17, 18, 19, 20, 21, 22, 23, 24, 25, 26, 27, 28, 29, 30, 31, 32, 33, 34, 35, 36, 37, 38, 39, 40, 41, 42, 43, 44, 45, 46, 47, 48, 49] (by decide +kernel) (by decide +kernel)) (goodIn_sub (fun _ h => List.mem_cons_of_mem _ (List.mem_append_left _ (List.mem_append_right _ h))) (by decide +kernel))) (goodIn_sub (fun _ h => List.mem_cons_of_mem _ (List.mem_append_right _ h)) (by decide +kernel))
set_option maxRecDepth 20000 in
theorem gL_does_X0_does : GoodIn wsL_does (wsV RL 30 RX0 yX0_does wsX0_does) := goodIn_app (goodIn_of _ (by decide +kernel)) ggL_does_X0_does
theorem dL_does_0 : decode cL_does 0 = .ok (.aload_n 2, 1) := by decide +kernel
theorem dL_does_1 : decode cL_does 1 = .ok (.iconst 0, 1) := by decide +kernel
theorem dL_does_2 : decode cL_does 2 = .ok (.aload_n 0, 1) := by decide +kernel
theorem dL_does_3 : decode cL_does 3 = .ok (.iload_n 1, 1) := by decide +kernel
theorem dL_does_4 : decode cL_does 4 = .ok (.invokevirtual 30, 3) := by decide +kernel
theorem dL_does_7 : decode cL_does 7 = .ok (.i2l, 1) := by decide +kernel
theorem dL_does_8 : decode cL_does 8 = .ok (.lastore, 1) := by decide +kernel
theorem dL_does_9 : decode cL_does 9 = .ok (.goto 9, 3) := by decide +kernel
theorem dL_does_12 : decode cL_does 12 = .ok (.astore_n 3, 1) := by decide +kernel
theorem dL_does_13 : decode cL_does 13 = .ok (.iconst 1, 1) := by decide +kernel
theorem dL_does_14 : decode cL_does 14 = .ok (.ireturn, 1) := by decide +kernel
theorem dL_does_15 : decode cL_does 15 = .ok (.astore_n 3, 1) := by decide +kernel
theorem dL_does_16 : decode cL_does 16 = .ok (.iconst 2, 1) := by decide +kernel
theorem dL_does_17 : decode cL_does 17 = .ok (.ireturn, 1) := by decide +kernel
theorem dL_does_18 : decode cL_does 18 = .ok (.iconst 0, 1) := by decide +kernel
theorem dL_does_19 : decode cL_does 19 = .ok (.ireturn, 1) := by decide +kernel
set_option maxRecDepth 20000 in
theorem ggL_took_X0_took : GoodIn wsL_took wsX0_took := goodIn_ca (goodIn_ca (goodIn_r _ [7, 8, 9, 10, 11, 12, 13, 14, 6, 15, 16, 17, 18, 19, 20, 21, 22, 23, 24, 25, 26, 27, 28, 29, 30, 31, 32, 33, 34, 35, 36, 37, 38, 39, 40, 41, 42, 43, 44, 45, 46, 47, 48, 49, 50] (by decide +kernel) (by decide +kernel)) (goodIn_sub (fun _ h => List.mem_cons_of_mem _ (List.mem_append_left _ (List.mem_append_right _ h))) (by decide +kernel))) (goodIn_sub (fun _ h => List.mem_cons_of_mem _ (List.mem_append_right _ h)) (by decide +kernel))
set_option maxRecDepth 20000 in
theorem gL_took_X0_took : GoodIn wsL_took (wsV RL 33 RX0 yX0_took wsX0_took) := goodIn_app (goodIn_of _ (by decide +kernel)) ggL_took_X0_took
theorem dL_took_0 : decode cL_took 0 = .ok (.aload_n 3, 1) := by decide +kernel
theorem dL_took_1 : decode cL_took 1 = .ok (.iconst 0, 1) := by decide +kernel
theorem dL_took_2 : decode cL_took 2 = .ok (.aload_n 0, 1) := by decide +kernel
theorem dL_took_3 : decode cL_took 3 = .ok (.iload_n 1, 1) := by decide +kernel
theorem dL_took_4 : decode cL_took 4 = .ok (.iload_n 2, 1) := by decide +kernel
theorem dL_took_5 : decode cL_took 5 = .ok (.invokevirtual 33, 3) := by decide +kernel
theorem dL_took_8 : decode cL_took 8 = .ok (.i2l, 1) := by decide +kernel
theorem dL_took_9 : decode cL_took 9 = .ok (.lastore, 1) := by decide +kernel
theorem dL_took_10 : decode cL_took 10 = .ok (.goto 11, 3) := by decide +kernel
theorem dL_took_13 : decode cL_took 13 = .ok (.astore 4, 2) := by decide +kernel
theorem dL_took_15 : decode cL_took 15 = .ok (.iconst 1, 1) := by decide +kernel
theorem dL_took_16 : decode cL_took 16 = .ok (.ireturn, 1) := by decide +kernel
theorem dL_took_17 : decode cL_took 17 = .ok (.astore 4, 2) := by decide +kernel
theorem dL_took_19 : decode cL_took 19 = .ok (.iconst 2, 1) := by decide +kernel
theorem dL_took_20 : decode cL_took 20 = .ok (.ireturn, 1) := by decide +kernel
theorem dL_took_21 : decode cL_took 21 = .ok (.iconst 0, 1) := by decide +kernel
theorem dL_took_22 : decode cL_took 22 = .ok (.ireturn, 1) := by decide +kernel
set_option maxRecDepth 20000 in
theorem ggL_count_X0_count : GoodIn wsL_count wsX0_count := goodIn_ca (goodIn_r _ [6, 7, 8, 9, 10, 11, 5, 12, 13, 14, 15, 16, 17, 18, 19, 20, 21, 22, 23, 24, 25, 26, 27, 28, 29, 30, 31, 32, 33, 34, 35, 36, 37, 38, 39, 40, 41, 42, 43, 44, 45, 46, 47, 48, 49, 50, 51] (by decide +kernel) (by decide +kernel)) (goodIn_sub (fun _ h => List.mem_cons_of_mem _ (List.mem_append_right _ h)) (by decide +kernel))
set_option maxRecDepth 20000 in
theorem gL_count_X0_count : GoodIn wsL_count (wsV RL 36 RX0 yX0_count wsX0_count) := goodIn_app (goodIn_of _ (by decide +kernel)) ggL_count_X0_count
theorem dL_count_0 : decode cL_count 0 = .ok (.aload_n 2, 1) := by decide +kernel
theorem dL_count_1 : decode cL_count 1 = .ok (.iconst 0, 1) := by decide +kernel
theorem dL_count_2 : decode cL_count 2 = .ok (.aload_n 0, 1) := by decide +kernel
theorem dL_count_3 : decode cL_count 3 = .ok (.iload_n 1, 1) := by decide +kernel
theorem dL_count_4 : decode cL_count 4 = .ok (.invokevirtual 36, 3) := by decide +kernel
theorem dL_count_7 : decode cL_count 7 = .ok (.i2l, 1) := by decide +kernel
theorem dL_count_8 : decode cL_count 8 = .ok (.lastore, 1) := by decide +kernel
theorem dL_count_9 : decode cL_count 9 = .ok (.goto 6, 3) := by decide +kernel
theorem dL_count_12 : decode cL_count 12 = .ok (.astore_n 3, 1) := by decide +kernel
theorem dL_count_13 : decode cL_count 13 = .ok (.iconst 1, 1) := by decide +kernel
theorem dL_count_14 : decode cL_count 14 = .ok (.ireturn, 1) := by decide +kernel
theorem dL_count_15 : decode cL_count 15 = .ok (.iconst 0, 1) := by decide +kernel
theorem dL_count_16 : decode cL_count 16 = .ok (.ireturn, 1) := by decide +kernel
set_option maxRecDepth 20000 in
theorem ggL_told_X0_told : GoodIn wsL_told wsX0_told := goodIn_ca (goodIn_r _ [6, 7, 8, 9, 10, 11, 5, 12, 13, 14, 15, 16, 17, 18, 19, 20, 21, 22, 23, 24, 25, 26, 27, 28, 29, 30, 31, 32, 33, 34, 35, 36, 37, 38, 39, 40, 41, 42, 43] (by decide +kernel) (by decide +kernel)) (goodIn_sub (fun _ h => List.mem_cons_of_mem _ (List.mem_append_right _ h)) (by decide +kernel))
set_option maxRecDepth 20000 in
theorem gL_told_X0_told : GoodIn wsL_told (wsV RL 39 RX0 yX0_told wsX0_told) := goodIn_app (goodIn_of _ (by decide +kernel)) ggL_told_X0_told
theorem dL_told_0 : decode cL_told 0 = .ok (.aload_n 3, 1) := by decide +kernel
theorem dL_told_1 : decode cL_told 1 = .ok (.iconst 0, 1) := by decide +kernel
theorem dL_told_2 : decode cL_told 2 = .ok (.aload_n 0, 1) := by decide +kernel
theorem dL_told_3 : decode cL_told 3 = .ok (.iload_n 1, 1) := by decide +kernel
theorem dL_told_4 : decode cL_told 4 = .ok (.iload_n 2, 1) := by decide +kernel
theorem dL_told_5 : decode cL_told 5 = .ok (.invokevirtual 39, 3) := by decide +kernel
theorem dL_told_8 : decode cL_told 8 = .ok (.i2l, 1) := by decide +kernel
theorem dL_told_9 : decode cL_told 9 = .ok (.lastore, 1) := by decide +kernel
theorem dL_told_10 : decode cL_told 10 = .ok (.goto 7, 3) := by decide +kernel
theorem dL_told_13 : decode cL_told 13 = .ok (.astore 4, 2) := by decide +kernel
theorem dL_told_15 : decode cL_told 15 = .ok (.iconst 1, 1) := by decide +kernel
theorem dL_told_16 : decode cL_told 16 = .ok (.ireturn, 1) := by decide +kernel
theorem dL_told_17 : decode cL_told 17 = .ok (.iconst 0, 1) := by decide +kernel
theorem dL_told_18 : decode cL_told 18 = .ok (.ireturn, 1) := by decide +kernel
set_option maxRecDepth 20000 in
theorem ggL_hears_X0_hears : GoodIn wsL_hears wsX0_hears := goodIn_ca (goodIn_ca (goodIn_r _ [7, 8, 9, 10, 11, 12, 13, 6, 14, 15, 16, 17, 18, 19, 20, 21, 22, 23, 24, 25, 26, 27, 28, 29, 30, 31, 32, 33, 34, 35, 36, 37, 38, 39, 40, 41, 42, 43, 44, 45] (by decide +kernel) (by decide +kernel)) (goodIn_sub (fun _ h => List.mem_cons_of_mem _ (List.mem_append_left _ (List.mem_append_right _ h))) (by decide +kernel))) (goodIn_sub (fun _ h => List.mem_cons_of_mem _ (List.mem_append_right _ h)) (by decide +kernel))
set_option maxRecDepth 20000 in
theorem gL_hears_X0_hears : GoodIn wsL_hears (wsV RL 42 RX0 yX0_hears wsX0_hears) := goodIn_app (goodIn_of _ (by decide +kernel)) ggL_hears_X0_hears
theorem dL_hears_0 : decode cL_hears 0 = .ok (.aload 4, 2) := by decide +kernel
theorem dL_hears_2 : decode cL_hears 2 = .ok (.iconst 0, 1) := by decide +kernel
theorem dL_hears_3 : decode cL_hears 3 = .ok (.aload_n 0, 1) := by decide +kernel
theorem dL_hears_4 : decode cL_hears 4 = .ok (.iload_n 1, 1) := by decide +kernel
theorem dL_hears_5 : decode cL_hears 5 = .ok (.iload_n 2, 1) := by decide +kernel
theorem dL_hears_6 : decode cL_hears 6 = .ok (.iload_n 3, 1) := by decide +kernel
theorem dL_hears_7 : decode cL_hears 7 = .ok (.invokevirtual 42, 3) := by decide +kernel
theorem dL_hears_10 : decode cL_hears 10 = .ok (.i2l, 1) := by decide +kernel
theorem dL_hears_11 : decode cL_hears 11 = .ok (.lastore, 1) := by decide +kernel
theorem dL_hears_12 : decode cL_hears 12 = .ok (.goto 11, 3) := by decide +kernel
theorem dL_hears_15 : decode cL_hears 15 = .ok (.astore 5, 2) := by decide +kernel
theorem dL_hears_17 : decode cL_hears 17 = .ok (.iconst 1, 1) := by decide +kernel
theorem dL_hears_18 : decode cL_hears 18 = .ok (.ireturn, 1) := by decide +kernel
theorem dL_hears_19 : decode cL_hears 19 = .ok (.astore 5, 2) := by decide +kernel
theorem dL_hears_21 : decode cL_hears 21 = .ok (.iconst 2, 1) := by decide +kernel
theorem dL_hears_22 : decode cL_hears 22 = .ok (.ireturn, 1) := by decide +kernel
theorem dL_hears_23 : decode cL_hears 23 = .ok (.iconst 0, 1) := by decide +kernel
theorem dL_hears_24 : decode cL_hears 24 = .ok (.ireturn, 1) := by decide +kernel
set_option maxRecDepth 20000 in
theorem ggL_would_X0_would : GoodIn wsL_would wsX0_would := goodIn_ca (goodIn_ca (goodIn_r _ [7, 8, 9, 10, 11, 6, 12, 13, 14, 15, 16, 17, 18, 19, 20, 21, 22, 23, 24, 25, 26, 27, 28, 29, 30, 31, 32, 33, 34, 35, 36, 37, 38, 39, 40, 41, 42, 43, 44, 45, 46, 47, 48, 49, 50, 51, 52, 53, 54, 55, 56, 57, 58, 59, 60, 61, 62, 63, 64, 65, 66, 67, 68, 69, 70, 71, 72, 73, 74, 75, 76, 77, 78, 79, 80] (by decide +kernel) (by decide +kernel)) (goodIn_sub (fun _ h => List.mem_cons_of_mem _ (List.mem_append_left _ (List.mem_append_right _ h))) (by decide +kernel))) (goodIn_sub (fun _ h => List.mem_cons_of_mem _ (List.mem_append_right _ h)) (by decide +kernel))
set_option maxRecDepth 20000 in
theorem gL_would_X0_would : GoodIn wsL_would (wsV RL 46 RX0 yX0_would wsX0_would) := goodIn_app (goodIn_of _ (by decide +kernel)) ggL_would_X0_would
theorem dL_would_0 : decode cL_would 0 = .ok (.aload 4, 2) := by decide +kernel
theorem dL_would_2 : decode cL_would 2 = .ok (.iconst 0, 1) := by decide +kernel
theorem dL_would_3 : decode cL_would 3 = .ok (.aload_n 0, 1) := by decide +kernel
theorem dL_would_4 : decode cL_would 4 = .ok (.iload_n 1, 1) := by decide +kernel
theorem dL_would_5 : decode cL_would 5 = .ok (.iload_n 2, 1) := by decide +kernel
theorem dL_would_6 : decode cL_would 6 = .ok (.iload_n 3, 1) := by decide +kernel
theorem dL_would_7 : decode cL_would 7 = .ok (.invokevirtual 46, 3) := by decide +kernel
theorem dL_would_10 : decode cL_would 10 = .ok (.i2l, 1) := by decide +kernel
theorem dL_would_11 : decode cL_would 11 = .ok (.lastore, 1) := by decide +kernel
theorem dL_would_12 : decode cL_would 12 = .ok (.goto 11, 3) := by decide +kernel
theorem dL_would_15 : decode cL_would 15 = .ok (.astore 5, 2) := by decide +kernel
theorem dL_would_17 : decode cL_would 17 = .ok (.iconst 1, 1) := by decide +kernel
theorem dL_would_18 : decode cL_would 18 = .ok (.ireturn, 1) := by decide +kernel
theorem dL_would_19 : decode cL_would 19 = .ok (.astore 5, 2) := by decide +kernel
theorem dL_would_21 : decode cL_would 21 = .ok (.iconst 2, 1) := by decide +kernel
theorem dL_would_22 : decode cL_would 22 = .ok (.ireturn, 1) := by decide +kernel
theorem dL_would_23 : decode cL_would 23 = .ok (.iconst 0, 1) := by decide +kernel
theorem dL_would_24 : decode cL_would 24 = .ok (.ireturn, 1) := by decide +kernel
set_option maxRecDepth 20000 in
theorem ggL_agrees_X0_agrees : GoodIn wsL_agrees wsX0_agrees := goodIn_ca (goodIn_ca (goodIn_r _ [7, 8, 9, 10, 11, 6, 12, 13, 14, 15, 16, 17, 18, 19, 20, 21, 22, 23, 24, 25, 26, 27, 28, 29, 30, 31, 32, 33, 34, 35, 36, 37, 38, 39, 40, 41, 42, 43, 44, 45, 46, 47, 48, 49, 50, 51, 52, 53, 54, 55, 56, 57, 58, 59, 60, 61, 62, 63, 64, 65, 66, 67, 68, 69, 70, 71, 72, 73, 74, 75, 76, 77, 78, 79, 80, 81, 82, 83, 84] (by decide +kernel) (by decide +kernel)) (goodIn_sub (fun _ h => List.mem_cons_of_mem _ (List.mem_append_left _ (List.mem_append_right _ h))) (by decide +kernel))) (goodIn_sub (fun _ h => List.mem_cons_of_mem _ (List.mem_append_right _ h)) (by decide +kernel))
set_option maxRecDepth 20000 in
theorem gL_agrees_X0_agrees : GoodIn wsL_agrees (wsV RL 49 RX0 yX0_agrees wsX0_agrees) := goodIn_app (goodIn_of _ (by decide +kernel)) ggL_agrees_X0_agrees
theorem dL_agrees_0 : decode cL_agrees 0 = .ok (.aload_n 3, 1) := by decide +kernel
theorem dL_agrees_1 : decode cL_agrees 1 = .ok (.iconst 0, 1) := by decide +kernel
theorem dL_agrees_2 : decode cL_agrees 2 = .ok (.aload_n 0, 1) := by decide +kernel
theorem dL_agrees_3 : decode cL_agrees 3 = .ok (.iload_n 1, 1) := by decide +kernel
theorem dL_agrees_4 : decode cL_agrees 4 = .ok (.iload_n 2, 1) := by decide +kernel
theorem dL_agrees_5 : decode cL_agrees 5 = .ok (.invokevirtual 49, 3) := by decide +kernel
theorem dL_agrees_8 : decode cL_agrees 8 = .ok (.ifCond .eq 7, 3) := by decide +kernel
theorem dL_agrees_11 : decode cL_agrees 11 = .ok (.lconst 1, 1) := by decide +kernel
theorem dL_agrees_12 : decode cL_agrees 12 = .ok (.goto 4, 3) := by decide +kernel
theorem dL_agrees_15 : decode cL_agrees 15 = .ok (.lconst 0, 1) := by decide +kernel
theorem dL_agrees_16 : decode cL_agrees 16 = .ok (.lastore, 1) := by decide +kernel
theorem dL_agrees_17 : decode cL_agrees 17 = .ok (.goto 11, 3) := by decide +kernel
theorem dL_agrees_20 : decode cL_agrees 20 = .ok (.astore 4, 2) := by decide +kernel
theorem dL_agrees_22 : decode cL_agrees 22 = .ok (.iconst 1, 1) := by decide +kernel
theorem dL_agrees_23 : decode cL_agrees 23 = .ok (.ireturn, 1) := by decide +kernel
theorem dL_agrees_24 : decode cL_agrees 24 = .ok (.astore 4, 2) := by decide +kernel
theorem dL_agrees_26 : decode cL_agrees 26 = .ok (.iconst 2, 1) := by decide +kernel
theorem dL_agrees_27 : decode cL_agrees 27 = .ok (.ireturn, 1) := by decide +kernel
theorem dL_agrees_28 : decode cL_agrees 28 = .ok (.iconst 0, 1) := by decide +kernel
theorem dL_agrees_29 : decode cL_agrees 29 = .ok (.ireturn, 1) := by decide +kernel
set_option maxRecDepth 20000 in
theorem ggL_messengers_X0_messengers : GoodIn wsL_messengers wsX0_messengers := goodIn_ca (goodIn_r _ [6, 7, 8, 9, 5, 10, 11, 12, 13, 14, 15, 16, 17, 18, 19, 20, 21, 22, 23, 24, 25, 26, 27, 28, 29, 30, 31, 32, 33] (by decide +kernel) (by decide +kernel)) (goodIn_sub (fun _ h => List.mem_cons_of_mem _ (List.mem_append_right _ h)) (by decide +kernel))
set_option maxRecDepth 20000 in
theorem gL_messengers_X0_messengers : GoodIn wsL_messengers (wsV RL 53 RX0 yX0_messengers wsX0_messengers) := goodIn_app (goodIn_of _ (by decide +kernel)) ggL_messengers_X0_messengers
theorem dL_messengers_0 : decode cL_messengers 0 = .ok (.aload_n 2, 1) := by decide +kernel
theorem dL_messengers_1 : decode cL_messengers 1 = .ok (.iconst 0, 1) := by decide +kernel
theorem dL_messengers_2 : decode cL_messengers 2 = .ok (.aload_n 0, 1) := by decide +kernel
theorem dL_messengers_3 : decode cL_messengers 3 = .ok (.iload_n 1, 1) := by decide +kernel
theorem dL_messengers_4 : decode cL_messengers 4 = .ok (.invokevirtual 53, 3) := by decide +kernel
theorem dL_messengers_7 : decode cL_messengers 7 = .ok (.i2l, 1) := by decide +kernel
theorem dL_messengers_8 : decode cL_messengers 8 = .ok (.lastore, 1) := by decide +kernel
theorem dL_messengers_9 : decode cL_messengers 9 = .ok (.goto 6, 3) := by decide +kernel
theorem dL_messengers_12 : decode cL_messengers 12 = .ok (.astore_n 3, 1) := by decide +kernel
theorem dL_messengers_13 : decode cL_messengers 13 = .ok (.iconst 1, 1) := by decide +kernel
theorem dL_messengers_14 : decode cL_messengers 14 = .ok (.ireturn, 1) := by decide +kernel
theorem dL_messengers_15 : decode cL_messengers 15 = .ok (.iconst 0, 1) := by decide +kernel
theorem dL_messengers_16 : decode cL_messengers 16 = .ok (.ireturn, 1) := by decide +kernel
set_option maxRecDepth 20000 in
theorem ggL_found_X0_found : GoodIn wsL_found wsX0_found := goodIn_ca (goodIn_r _ [6, 7, 8, 9, 10, 5, 11, 12, 13, 14, 15, 16, 17, 18, 19, 20, 21, 22, 23, 24, 25, 26, 27, 28, 29, 30, 31, 32, 33, 34, 35, 36, 37, 38, 39, 40, 41, 42, 43] (by decide +kernel) (by decide +kernel)) (goodIn_sub (fun _ h => List.mem_cons_of_mem _ (List.mem_append_right _ h)) (by decide +kernel))
set_option maxRecDepth 20000 in
theorem gL_found_X0_found : GoodIn wsL_found (wsV RL 56 RX0 yX0_found wsX0_found) := goodIn_app (goodIn_of _ (by decide +kernel)) ggL_found_X0_found
theorem dL_found_0 : decode cL_found 0 = .ok (.aload_n 2, 1) := by decide +kernel
theorem dL_found_1 : decode cL_found 1 = .ok (.iconst 0, 1) := by decide +kernel
theorem dL_found_2 : decode cL_found 2 = .ok (.aload_n 0, 1) := by decide +kernel
theorem dL_found_3 : decode cL_found 3 = .ok (.iload_n 1, 1) := by decide +kernel
theorem dL_found_4 : decode cL_found 4 = .ok (.invokevirtual 56, 3) := by decide +kernel
theorem dL_found_7 : decode cL_found 7 = .ok (.i2l, 1) := by decide +kernel
theorem dL_found_8 : decode cL_found 8 = .ok (.lastore, 1) := by decide +kernel
theorem dL_found_9 : decode cL_found 9 = .ok (.goto 6, 3) := by decide +kernel
theorem dL_found_12 : decode cL_found 12 = .ok (.astore_n 3, 1) := by decide +kernel
theorem dL_found_13 : decode cL_found 13 = .ok (.iconst 1, 1) := by decide +kernel
theorem dL_found_14 : decode cL_found 14 = .ok (.ireturn, 1) := by decide +kernel
theorem dL_found_15 : decode cL_found 15 = .ok (.iconst 0, 1) := by decide +kernel
theorem dL_found_16 : decode cL_found 16 = .ok (.ireturn, 1) := by decide +kernel
set_option maxRecDepth 20000 in
theorem ggL_law_X0_init : GoodIn wsL_law wsX0_init := goodIn_r _ [9, 10, 11, 12, 13, 14, 15, 16, 17, 18, 19, 20, 21, 22, 23, 24, 25, 399, 400, 401, 402, 403, 404, 405, 406, 407, 408, 409, 410, 411, 412, 413, 414, 415, 416] (by decide +kernel) (by decide +kernel)
set_option maxRecDepth 20000 in
theorem gL_law_X0_init : GoodIn wsL_law (wsX0_init) := ggL_law_X0_init
set_option maxRecDepth 20000 in
theorem ggL_law_X1_init : GoodIn wsL_law wsX1_init := goodIn_r _ [28, 29, 11, 12, 30, 14, 31, 32, 33, 34, 35, 36, 37, 38, 417, 418, 419, 420, 421, 422, 423, 424, 425, 426, 427, 428] (by decide +kernel) (by decide +kernel)
set_option maxRecDepth 20000 in
theorem gL_law_X1_init : GoodIn wsL_law (wsX1_init) := ggL_law_X1_init
set_option maxRecDepth 20000 in
theorem ggL_law_L_come : GoodIn wsL_law wsL_come := goodIn_ca (goodIn_r _ [42, 43, 44, 45, 46, 2, 47, 48, 49, 50, 399, 400, 401, 402, 403, 404, 405, 406, 407, 408, 409, 410, 411, 412, 413, 414, 415, 416] (by decide +kernel) (by decide +kernel)) (goodIn_sub (fun _ h => List.mem_append_left _ (List.mem_append_left _ (List.mem_append_right _ h))) (by decide +kernel))
set_option maxRecDepth 20000 in
theorem gL_law_L_come : GoodIn wsL_law (va_wsS RL 63 yL_come wsL_come) := goodIn_app (goodIn_of _ (by decide +kernel)) ggL_law_L_come
set_option maxRecDepth 20000 in
theorem ggL_law_X1_come : GoodIn wsL_law wsX1_come := goodIn_r _ [54, 55, 56, 57, 58, 59, 5, 60, 417, 418, 419, 420, 421, 422, 423, 424, 425, 426, 427, 428] (by decide +kernel) (by decide +kernel)
set_option maxRecDepth 20000 in
theorem gL_law_X1_come : GoodIn wsL_law (wsV RL 68 RX1 yX1_come wsX1_come) := goodIn_app (goodIn_of _ (by decide +kernel)) ggL_law_X1_come
set_option maxRecDepth 20000 in
theorem ggL_law_X1_thrown : GoodIn wsL_law wsX1_thrown := goodIn_r _ [64, 55, 417, 418, 419, 420, 421, 422, 423, 424, 425, 426, 427, 428] (by decide +kernel) (by decide +kernel)
set_option maxRecDepth 20000 in
theorem gL_law_X1_thrown : GoodIn wsL_law (wsV RL 69 RX1 yX1_thrown wsX1_thrown) := goodIn_app (goodIn_of _ (by decide +kernel)) ggL_law_X1_thrown
set_option maxRecDepth 20000 in
theorem ggL_law_L_setKind : GoodIn wsL_law wsL_setKind := goodIn_ca (goodIn_r _ [67, 68, 69, 70, 71, 2, 72, 73, 74, 15, 75, 76, 77, 78, 79, 80, 81, 82, 50, 399, 400, 401, 402, 403, 404, 405, 406, 407, 408, 409, 410, 411, 412, 413, 414, 415, 416] (by decide +kernel) (by decide +kernel)) (goodIn_sub (fun _ h => List.mem_append_left _ (List.mem_append_right _ h)) (by decide +kernel))
set_option maxRecDepth 20000 in
theorem gL_law_L_setKind : GoodIn wsL_law (va_wsS RL 72 yL_setKind wsL_setKind) := goodIn_app (goodIn_of _ (by decide +kernel)) ggL_law_L_setKind
set_option maxRecDepth 20000 in
theorem ggL_law_X1_setKind : GoodIn wsL_law wsX1_setKind := goodIn_r _ [86, 55, 31, 87, 88, 89, 5, 90, 56, 91, 92, 93, 57, 58, 59, 60, 417, 418, 419, 420, 421, 422, 423, 424, 425, 426, 427, 428] (by decide +kernel) (by decide +kernel)
set_option maxRecDepth 20000 in
theorem gL_law_X1_setKind : GoodIn wsL_law (wsV RL 75 RX1 yX1_setKind wsX1_setKind) := goodIn_app (goodIn_of _ (by decide +kernel)) ggL_law_X1_setKind
set_option maxRecDepth 20000 in
theorem ggL_law_L_setRounds : GoodIn wsL_law wsL_setRounds := goodIn_ca (goodIn_r _ [96, 97, 98, 99, 100, 2, 101, 13, 102, 103, 104, 105, 106, 399, 400, 401, 402, 403, 404, 405, 406, 407, 408, 409, 410, 411, 412, 413, 414, 415, 416] (by decide +kernel) (by decide +kernel)) (goodIn_sub (fun _ h => List.mem_append_right _ h) (by decide +kernel))
set_option maxRecDepth 20000 in
theorem gL_law_L_setRounds : GoodIn wsL_law (va_wsS RL 76 yL_setRounds wsL_setRounds) := goodIn_app (goodIn_of _ (by decide +kernel)) ggL_law_L_setRounds
set_option maxRecDepth 20000 in
theorem ggL_law_X1_setRounds : GoodIn wsL_law wsX1_setRounds := goodIn_r _ [110, 55, 30, 91, 92, 5, 93, 57, 58, 59, 60, 417, 418, 419, 420, 421, 422, 423, 424, 425, 426, 427, 428] (by decide +kernel) (by decide +kernel)
set_option maxRecDepth 20000 in
theorem gL_law_X1_setRounds : GoodIn wsL_law (wsV RL 79 RX1 yX1_setRounds wsX1_setRounds) := goodIn_app (goodIn_of _ (by decide +kernel)) ggL_law_X1_setRounds
set_option maxRecDepth 20000 in
theorem ggL_law_L_hold : GoodIn wsL_law wsL_hold := goodIn_ca (goodIn_ca (goodIn_r _ [113, 68, 97, 114, 115, 116, 2, 117, 13, 75, 76, 77, 78, 73, 74, 79, 80, 81, 82, 50, 118, 119, 120, 105, 106, 121, 122, 123, 124, 25, 22, 125, 126, 127, 128, 129, 130, 131, 132, 15, 23, 133, 134, 135, 136, 137, 138, 139, 140, 141, 142, 143, 144, 145, 24, 146, 147, 148, 149, 150, 151, 152, 153, 154, 155, 156, 157, 19, 21, 158, 159, 160, 161, 162, 163, 164, 165, 166, 167, 168, 16, 18, 17, 169, 170, 399, 400, 401, 402, 403, 404, 405, 406, 407, 408, 409, 410, 411, 412, 413, 414, 415, 416] (by decide +kernel) (by decide +kernel)) (goodIn_sub (fun _ h => List.mem_append_left _ (List.mem_append_right _ h)) (by decide +kernel))) (goodIn_sub (fun _ h => List.mem_append_right _ h) (by decide +kernel))
set_option maxRecDepth 20000 in
theorem gL_law_L_hold : GoodIn wsL_law (va_wsS RL 80 yL_hold wsL_hold) := goodIn_app (goodIn_of _ (by decide +kernel)) ggL_law_L_hold
set_option maxRecDepth 20000 in
theorem ggL_law_X1_hold : GoodIn wsL_law wsX1_hold := goodIn_r _ [174, 55, 30, 56, 175, 34, 35, 36, 176, 33, 37, 87, 88, 89, 5, 90, 91, 92, 93, 57, 58, 59, 60, 177, 178, 179, 180, 181, 182, 183, 184, 185, 186, 187, 188, 189, 14, 190, 191, 192, 193, 194, 195, 196, 31, 197, 198, 199, 200, 201, 38, 202, 203, 204, 417, 418, 419, 420, 421, 422, 423, 424, 425, 426, 427, 428] (by decide +kernel) (by decide +kernel)
set_option maxRecDepth 20000 in
theorem gL_law_X1_hold : GoodIn wsL_law (wsV RL 82 RX1 yX1_hold wsX1_hold) := goodIn_app (goodIn_of _ (by decide +kernel)) ggL_law_X1_hold
set_option maxRecDepth 20000 in
theorem ggL_law_L_does : GoodIn wsL_law wsL_does := goodIn_ca (goodIn_ca (goodIn_r _ [207, 68, 43, 208, 209, 210, 2, 211, 19, 212, 213, 214, 215, 73, 74, 169, 154, 75, 76, 77, 78, 79, 80, 81, 82, 50, 216, 217, 218, 219, 48, 49, 399, 400, 401, 402, 403, 404, 405, 406, 407, 408, 409, 410, 411, 412, 413, 414, 415, 416] (by decide +kernel) (by decide +kernel)) (goodIn_sub (fun _ h => List.mem_append_left _ (List.mem_append_right _ h)) (by decide +kernel))) (goodIn_sub (fun _ h => List.mem_append_left _ (List.mem_append_left _ (List.mem_append_right _ h))) (by decide +kernel))
set_option maxRecDepth 20000 in
theorem gL_law_L_does : GoodIn wsL_law (va_wsS RL 83 yL_does wsL_does) := goodIn_app (goodIn_of _ (by decide +kernel)) ggL_law_L_does
set_option maxRecDepth 20000 in
theorem ggL_law_X1_does : GoodIn wsL_law wsX1_does := goodIn_r _ [223, 55, 176, 37, 224, 225, 226, 5, 227, 175, 87, 88, 89, 90, 56, 91, 92, 93, 57, 58, 59, 60, 417, 418, 419, 420, 421, 422, 423, 424, 425, 426, 427, 428] (by decide +kernel) (by decide +kernel)
set_option maxRecDepth 20000 in
theorem gL_law_X1_does : GoodIn wsL_law (wsV RL 85 RX1 yX1_does wsX1_does) := goodIn_app (goodIn_of _ (by decide +kernel)) ggL_law_X1_does
set_option maxRecDepth 20000 in
theorem ggL_law_L_took : GoodIn wsL_law wsL_took := goodIn_ca (goodIn_ca (goodIn_r _ [230, 68, 43, 231, 232, 233, 2, 234, 48, 49, 155, 21, 212, 213, 214, 215, 73, 74, 169, 154, 75, 76, 77, 78, 79, 80, 81, 82, 50, 216, 217, 218, 219, 399, 400, 401, 402, 403, 404, 405, 406, 407, 408, 409, 410, 411, 412, 413, 414, 415, 416] (by decide +kernel) (by decide +kernel)) (goodIn_sub (fun _ h => List.mem_append_left _ (List.mem_append_left _ (List.mem_append_right _ h))) (by decide +kernel))) (goodIn_sub (fun _ h => List.mem_append_left _ (List.mem_append_right _ h)) (by decide +kernel))
set_option maxRecDepth 20000 in
theorem gL_law_L_took : GoodIn wsL_law (va_wsS RL 86 yL_took wsL_took) := goodIn_app (goodIn_of _ (by decide +kernel)) ggL_law_L_took
set_option maxRecDepth 20000 in
theorem ggL_law_X1_took : GoodIn wsL_law wsX1_took := goodIn_r _ [238, 55, 176, 34, 38, 224, 225, 226, 5, 227, 175, 87, 88, 89, 90, 56, 91, 92, 93, 57, 58, 59, 60, 417, 418, 419, 420, 421, 422, 423, 424, 425, 426, 427, 428] (by decide +kernel) (by decide +kernel)
set_option maxRecDepth 20000 in
theorem gL_law_X1_took : GoodIn wsL_law (wsV RL 88 RX1 yX1_took wsX1_took) := goodIn_app (goodIn_of _ (by decide +kernel)) ggL_law_X1_took
set_option maxRecDepth 20000 in
theorem ggL_law_L_count : GoodIn wsL_law wsL_count := goodIn_ca (goodIn_r _ [241, 68, 242, 243, 244, 2, 245, 73, 74, 246, 247, 248, 249, 50, 13, 169, 250, 251, 252, 253, 15, 254, 255, 256, 257, 157, 155, 156, 258, 259, 260, 261, 154, 19, 399, 400, 401, 402, 403, 404, 405, 406, 407, 408, 409, 410, 411, 412, 413, 414, 415, 416] (by decide +kernel) (by decide +kernel)) (goodIn_sub (fun _ h => List.mem_append_left _ (List.mem_append_right _ h)) (by decide +kernel))
set_option maxRecDepth 20000 in
theorem gL_law_L_count : GoodIn wsL_law (va_wsS RL 89 yL_count wsL_count) := goodIn_app (goodIn_of _ (by decide +kernel)) ggL_law_L_count
set_option maxRecDepth 20000 in
theorem ggL_law_X1_count : GoodIn wsL_law wsX1_count := goodIn_r _ [265, 55, 91, 92, 5, 93, 266, 267, 268, 269, 31, 14, 56, 30, 176, 36, 34, 35, 270, 271, 272, 273, 175, 37, 57, 58, 59, 60, 417, 418, 419, 420, 421, 422, 423, 424, 425, 426, 427, 428] (by decide +kernel) (by decide +kernel)
set_option maxRecDepth 20000 in
theorem gL_law_X1_count : GoodIn wsL_law (wsV RL 91 RX1 yX1_count wsX1_count) := goodIn_app (goodIn_of _ (by decide +kernel)) ggL_law_X1_count
set_option maxRecDepth 20000 in
theorem ggL_law_L_told : GoodIn wsL_law wsL_told := goodIn_ca (goodIn_r _ [276, 68, 277, 278, 279, 2, 280, 73, 74, 75, 76, 77, 78, 79, 80, 81, 82, 50, 281, 282, 283, 284, 15, 16, 17, 18, 399, 400, 401, 402, 403, 404, 405, 406, 407, 408, 409, 410, 411, 412, 413, 414, 415, 416] (by decide +kernel) (by decide +kernel)) (goodIn_sub (fun _ h => List.mem_append_left _ (List.mem_append_right _ h)) (by decide +kernel))
set_option maxRecDepth 20000 in
theorem gL_law_L_told : GoodIn wsL_law (va_wsS RL 92 yL_told wsL_told) := goodIn_app (goodIn_of _ (by decide +kernel)) ggL_law_L_told
set_option maxRecDepth 20000 in
theorem ggL_law_X1_told : GoodIn wsL_law wsX1_told := goodIn_r _ [288, 55, 87, 88, 89, 5, 90, 56, 91, 92, 93, 289, 290, 291, 292, 31, 33, 57, 58, 59, 60, 417, 418, 419, 420, 421, 422, 423, 424, 425, 426, 427, 428] (by decide +kernel) (by decide +kernel)
set_option maxRecDepth 20000 in
theorem gL_law_X1_told : GoodIn wsL_law (wsV RL 94 RX1 yX1_told wsX1_told) := goodIn_app (goodIn_of _ (by decide +kernel)) ggL_law_X1_told
set_option maxRecDepth 20000 in
theorem ggL_law_L_hears : GoodIn wsL_law wsL_hears := goodIn_ca (goodIn_ca (goodIn_r _ [295, 68, 97, 296, 297, 298, 2, 299, 105, 106, 15, 75, 76, 77, 78, 73, 74, 79, 80, 81, 82, 50, 118, 119, 120, 136, 137, 138, 399, 400, 401, 402, 403, 404, 405, 406, 407, 408, 409, 410, 411, 412, 413, 414, 415, 416] (by decide +kernel) (by decide +kernel)) (goodIn_sub (fun _ h => List.mem_append_right _ h) (by decide +kernel))) (goodIn_sub (fun _ h => List.mem_append_left _ (List.mem_append_right _ h)) (by decide +kernel))
set_option maxRecDepth 20000 in
theorem gL_law_L_hears : GoodIn wsL_law (va_wsS RL 95 yL_hears wsL_hears) := goodIn_app (goodIn_of _ (by decide +kernel)) ggL_law_L_hears
set_option maxRecDepth 20000 in
theorem ggL_law_X1_hears : GoodIn wsL_law wsX1_hears := goodIn_r _ [303, 55, 87, 88, 89, 5, 90, 56, 91, 92, 93, 57, 58, 59, 60, 193, 194, 195, 196, 31, 417, 418, 419, 420, 421, 422, 423, 424, 425, 426, 427, 428] (by decide +kernel) (by decide +kernel)
set_option maxRecDepth 20000 in
theorem gL_law_X1_hears : GoodIn wsL_law (wsV RL 98 RX1 yX1_hears wsX1_hears) := goodIn_app (goodIn_of _ (by decide +kernel)) ggL_law_X1_hears
set_option maxRecDepth 20000 in
theorem ggL_law_L_would : GoodIn wsL_law wsL_would := goodIn_ca (goodIn_ca (goodIn_r _ [306, 68, 97, 307, 308, 309, 2, 310, 13, 75, 76, 77, 78, 73, 74, 79, 80, 81, 82, 50, 118, 119, 120, 105, 106, 121, 122, 123, 124, 25, 22, 125, 126, 127, 128, 129, 130, 131, 132, 15, 23, 133, 134, 135, 136, 137, 138, 139, 140, 141, 142, 143, 144, 145, 24, 146, 147, 148, 149, 161, 162, 163, 164, 399, 400, 401, 402, 403, 404, 405, 406, 407, 408, 409, 410, 411, 412, 413, 414, 415, 416] (by decide +kernel) (by decide +kernel)) (goodIn_sub (fun _ h => List.mem_append_left _ (List.mem_append_right _ h)) (by decide +kernel))) (goodIn_sub (fun _ h => List.mem_append_right _ h) (by decide +kernel))
set_option maxRecDepth 20000 in
theorem gL_law_L_would : GoodIn wsL_law (va_wsS RL 99 yL_would wsL_would) := goodIn_app (goodIn_of _ (by decide +kernel)) ggL_law_L_would
set_option maxRecDepth 20000 in
theorem ggL_law_X1_would : GoodIn wsL_law wsX1_would := goodIn_r _ [314, 55, 30, 87, 88, 89, 5, 90, 56, 91, 92, 93, 57, 58, 59, 60, 177, 178, 179, 180, 181, 182, 183, 184, 185, 186, 187, 188, 189, 14, 190, 191, 192, 193, 194, 195, 196, 31, 197, 417, 418, 419, 420, 421, 422, 423, 424, 425, 426, 427, 428] (by decide +kernel) (by decide +kernel)
set_option maxRecDepth 20000 in
theorem gL_law_X1_would : GoodIn wsL_law (wsV RL 101 RX1 yX1_would wsX1_would) := goodIn_app (goodIn_of _ (by decide +kernel)) ggL_law_X1_would
set_option maxRecDepth 20000 in
theorem ggL_law_L_agrees : GoodIn wsL_law wsL_agrees := goodIn_ca (goodIn_ca (goodIn_r _ [317, 68, 97, 318, 319, 320, 2, 321, 13, 75, 76, 77, 78, 73, 74, 79, 80, 81, 82, 50, 118, 119, 120, 105, 106, 322, 323, 324, 325, 15, 121, 122, 123, 124, 25, 22, 125, 126, 127, 128, 129, 130, 131, 132, 23, 133, 134, 135, 136, 137, 138, 139, 140, 141, 142, 143, 144, 145, 24, 146, 147, 148, 149, 161, 162, 163, 164, 399, 400, 401, 402, 403, 404, 405, 406, 407, 408, 409, 410, 411, 412, 413, 414, 415, 416] (by decide +kernel) (by decide +kernel)) (goodIn_sub (fun _ h => List.mem_append_left _ (List.mem_append_right _ h)) (by decide +kernel))) (goodIn_sub (fun _ h => List.mem_append_right _ h) (by decide +kernel))
set_option maxRecDepth 20000 in
theorem gL_law_L_agrees : GoodIn wsL_law (va_wsS RL 102 yL_agrees wsL_agrees) := goodIn_app (goodIn_of _ (by decide +kernel)) ggL_law_L_agrees
set_option maxRecDepth 20000 in
theorem ggL_law_X1_agrees : GoodIn wsL_law wsX1_agrees := goodIn_r _ [329, 55, 30, 87, 88, 89, 5, 90, 56, 91, 92, 93, 330, 331, 332, 333, 31, 177, 178, 179, 180, 181, 182, 183, 184, 185, 186, 187, 188, 189, 14, 190, 191, 192, 193, 194, 195, 196, 197, 417, 418, 419, 420, 421, 422, 423, 424, 425, 426, 427, 428] (by decide +kernel) (by decide +kernel)
set_option maxRecDepth 20000 in
theorem gL_law_X1_agrees : GoodIn wsL_law (wsV RL 104 RX1 yX1_agrees wsX1_agrees) := goodIn_app (goodIn_of _ (by decide +kernel)) ggL_law_X1_agrees
set_option maxRecDepth 20000 in
theorem ggL_law_L_messengers : GoodIn wsL_law wsL_messengers := goodIn_ca (goodIn_r _ [336, 97, 337, 338, 339, 2, 340, 50, 102, 103, 104, 105, 106, 158, 159, 160, 399, 400, 401, 402, 403, 404, 405, 406, 407, 408, 409, 410, 411, 412, 413, 414, 415, 416] (by decide +kernel) (by decide +kernel)) (goodIn_sub (fun _ h => List.mem_append_right _ h) (by decide +kernel))
set_option maxRecDepth 20000 in
theorem gL_law_L_messengers : GoodIn wsL_law (va_wsS RL 105 yL_messengers wsL_messengers) := goodIn_app (goodIn_of _ (by decide +kernel)) ggL_law_L_messengers
set_option maxRecDepth 20000 in
theorem ggL_law_X1_messengers : GoodIn wsL_law wsX1_messengers := goodIn_r _ [344, 55, 56, 91, 92, 5, 93, 202, 203, 204, 57, 58, 59, 60, 417, 418, 419, 420, 421, 422, 423, 424, 425, 426, 427, 428] (by decide +kernel) (by decide +kernel)
set_option maxRecDepth 20000 in
theorem gL_law_X1_messengers : GoodIn wsL_law (wsV RL 107 RX1 yX1_messengers wsX1_messengers) := goodIn_app (goodIn_of _ (by decide +kernel)) ggL_law_X1_messengers
set_option maxRecDepth 20000 in
theorem ggL_law_X0_needs : GoodIn wsL_law wsX0_needs := goodIn_r _ [348, 349, 350, 351, 2, 352, 50, 322, 323, 324, 325, 15, 121, 122, 123, 124, 25, 22, 125, 126, 127, 128, 79, 80, 81, 82, 129, 130, 131, 132, 23, 133, 134, 135, 136, 137, 138, 139, 140, 141, 142, 143, 144, 145, 24, 146, 147, 148, 149, 161, 162, 163, 164, 399, 400, 401, 402, 403, 404, 405, 406, 407, 408, 409, 410, 411, 412, 413, 414, 415, 416] (by decide +kernel) (by decide +kernel)
set_option maxRecDepth 20000 in
theorem gL_law_X0_needs : GoodIn wsL_law (wsV RL 108 RX0 yX0_needs wsX0_needs) := goodIn_app (goodIn_of _ (by decide +kernel)) ggL_law_X0_needs
set_option maxRecDepth 20000 in
theorem ggL_law_X1_needs : GoodIn wsL_law wsX1_needs := goodIn_r _ [356, 55, 357, 358, 359, 5, 360, 56, 330, 331, 332, 333, 31, 177, 178, 179, 180, 181, 182, 183, 184, 185, 186, 187, 188, 189, 14, 190, 191, 192, 193, 194, 195, 196, 197, 417, 418, 419, 420, 421, 422, 423, 424, 425, 426, 427, 428] (by decide +kernel) (by decide +kernel)
set_option maxRecDepth 20000 in
theorem gL_law_X1_needs : GoodIn wsL_law (wsV RL 111 RX1 yX1_needs wsX1_needs) := goodIn_app (goodIn_of _ (by decide +kernel)) ggL_law_X1_needs
set_option maxRecDepth 20000 in
theorem ggL_law_L_found : GoodIn wsL_law wsL_found := goodIn_ca (goodIn_r _ [363, 68, 364, 365, 366, 2, 367, 50, 75, 76, 77, 78, 73, 74, 79, 80, 81, 82, 368, 369, 370, 371, 15, 136, 137, 138, 399, 400, 401, 402, 403, 404, 405, 406, 407, 408, 409, 410, 411, 412, 413, 414, 415, 416] (by decide +kernel) (by decide +kernel)) (goodIn_sub (fun _ h => List.mem_append_left _ (List.mem_append_right _ h)) (by decide +kernel))
set_option maxRecDepth 20000 in
theorem gL_law_L_found : GoodIn wsL_law (va_wsS RL 112 yL_found wsL_found) := goodIn_app (goodIn_of _ (by decide +kernel)) ggL_law_L_found
set_option maxRecDepth 20000 in
theorem ggL_law_X1_found : GoodIn wsL_law wsX1_found := goodIn_r _ [375, 55, 56, 87, 88, 89, 5, 90, 91, 92, 93, 57, 58, 59, 60, 193, 194, 195, 196, 31, 417, 418, 419, 420, 421, 422, 423, 424, 425, 426, 427, 428] (by decide +kernel) (by decide +kernel)
set_option maxRecDepth 20000 in
theorem gL_law_X1_found : GoodIn wsL_law (wsV RL 114 RX1 yX1_found wsX1_found) := goodIn_app (goodIn_of _ (by decide +kernel)) ggL_law_X1_found
set_option maxRecDepth 20000 in
theorem ggL_law_X0_mean : GoodIn wsL_law wsX0_mean := goodIn_r _ [379, 169, 170, 399, 400, 401, 402, 403, 404, 405, 406, 407, 408, 409, 410, 411, 412, 413, 414, 415, 416] (by decide +kernel) (by decide +kernel)
set_option maxRecDepth 20000 in
theorem gL_law_X0_mean : GoodIn wsL_law (wsV RL 115 RX0 yX0_mean wsX0_mean) := goodIn_app (goodIn_of _ (by decide +kernel)) ggL_law_X0_mean
set_option maxRecDepth 20000 in
theorem ggL_law_X1_mean : GoodIn wsL_law wsX1_mean := goodIn_r _ [383, 55, 33, 176, 417, 418, 419, 420, 421, 422, 423, 424, 425, 426, 427, 428] (by decide +kernel) (by decide +kernel)
set_option maxRecDepth 20000 in
theorem gL_law_X1_mean : GoodIn wsL_law (wsV RL 119 RX1 yX1_mean wsX1_mean) := goodIn_app (goodIn_of _ (by decide +kernel)) ggL_law_X1_mean
set_option maxRecDepth 20000 in
theorem ggL_law_X0_digest : GoodIn wsL_law wsX0_digest := goodIn_r _ [387, 388, 50, 154, 19, 13, 246, 247, 248, 2, 249, 169, 250, 251, 252, 253, 15, 254, 255, 256, 257, 157, 155, 156, 258, 259, 260, 261, 389, 390, 391, 392, 281, 282, 283, 284, 16, 17, 18, 322, 323, 324, 325, 121, 122, 123, 124, 25, 22, 125, 126, 127, 128, 79, 80, 81, 82, 129, 130, 131, 132, 23, 133, 134, 135, 136, 137, 138, 139, 140, 141, 142, 143, 144, 145, 24, 146, 147, 148, 149, 161, 162, 163, 164, 399, 400, 401, 402, 403, 404, 405, 406, 407, 408, 409, 410, 411, 412, 413, 414, 415, 416] (by decide +kernel) (by decide +kernel)
set_option maxRecDepth 20000 in
theorem gL_law_X0_digest : GoodIn wsL_law (wsV RL 120 RX0 yX0_digest wsX0_digest) := goodIn_app (goodIn_of _ (by decide +kernel)) ggL_law_X0_digest
set_option maxRecDepth 20000 in
theorem ggL_law_X1_digest : GoodIn wsL_law wsX1_digest := goodIn_r _ [396, 55, 397, 398, 56, 175, 37, 30, 266, 267, 268, 5, 269, 31, 14, 176, 36, 34, 35, 270, 271, 272, 273, 289, 290, 291, 292, 33, 330, 331, 332, 333, 177, 178, 179, 180, 181, 182, 183, 184, 185, 186, 187, 188, 189, 190, 191, 192, 193, 194, 195, 196, 197, 417, 418, 419, 420, 421, 422, 423, 424, 425, 426, 427, 428] (by decide +kernel) (by decide +kernel)
set_option maxRecDepth 20000 in
theorem gL_law_X1_digest : GoodIn wsL_law (wsV RL 124 RX1 yX1_digest wsX1_digest) := goodIn_app (goodIn_of _ (by decide +kernel)) ggL_law_X1_digest
theorem dL_law_0 : decode cL_law 0 = .ok (.new 8, 3) := by decide +kernel
theorem dL_law_3 : decode cL_law 3 = .ok (.dup, 1) := by decide +kernel
theorem dL_law_4 : decode cL_law 4 = .ok (.invokespecial 59, 3) := by decide +kernel
theorem dL_law_7 : decode cL_law 7 = .ok (.astore_n 1, 1) := by decide +kernel
theorem dL_law_8 : decode cL_law 8 = .ok (.new 60, 3) := by decide +kernel
theorem dL_law_11 : decode cL_law 11 = .ok (.dup, 1) := by decide +kernel
theorem dL_law_12 : decode cL_law 12 = .ok (.invokespecial 62, 3) := by decide +kernel
theorem dL_law_15 : decode cL_law 15 = .ok (.astore_n 2, 1) := by decide +kernel
theorem dL_law_16 : decode cL_law 16 = .ok (.iconst 1, 1) := by decide +kernel
theorem dL_law_17 : decode cL_law 17 = .ok (.newarray .long, 2) := by decide +kernel
theorem dL_law_19 : decode cL_law 19 = .ok (.astore_n 3, 1) := by decide +kernel
theorem dL_law_20 : decode cL_law 20 = .ok (.iconst 0, 1) := by decide +kernel
theorem dL_law_21 : decode cL_law 21 = .ok (.istore 4, 2) := by decide +kernel
theorem dL_law_23 : decode cL_law 23 = .ok (.iload 4, 2) := by decide +kernel
theorem dL_law_25 : decode cL_law 25 = .ok (.aload_n 0, 1) := by decide +kernel
theorem dL_law_26 : decode cL_law 26 = .ok (.arraylength, 1) := by decide +kernel
theorem dL_law_27 : decode cL_law 27 = .ok (.iconst 4, 1) := by decide +kernel
theorem dL_law_28 : decode cL_law 28 = .ok (.isub, 1) := by decide +kernel
theorem dL_law_29 : decode cL_law 29 = .ok (.if_icmp .gt 992, 3) := by decide +kernel
theorem dL_law_32 : decode cL_law 32 = .ok (.aload_n 0, 1) := by decide +kernel
theorem dL_law_33 : decode cL_law 33 = .ok (.iload 4, 2) := by decide +kernel
theorem dL_law_35 : decode cL_law 35 = .ok (.iaload, 1) := by decide +kernel
theorem dL_law_36 : decode cL_law 36 = .ok (.bipush 15, 2) := by decide +kernel
theorem dL_law_38 : decode cL_law 38 = .ok (.iand, 1) := by decide +kernel
theorem dL_law_39 : decode cL_law 39 = .ok (.tableswitch 976 0 15 #[77, 121, 189, 245, 313, 369, 437, 493, 561, 641, 721, 796, 852, 865, 921, 962], 77) := by decide +kernel
theorem dL_law_116 : decode cL_law 116 = .ok (.aload_n 1, 1) := by decide +kernel
theorem dL_law_117 : decode cL_law 117 = .ok (.aload_n 3, 1) := by decide +kernel
theorem dL_law_118 : decode cL_law 118 = .ok (.invokestatic 63, 3) := by decide +kernel
theorem dL_law_121 : decode cL_law 121 = .ok (.istore 5, 2) := by decide +kernel
theorem dL_law_123 : decode cL_law 123 = .ok (.aload_n 2, 1) := by decide +kernel
theorem dL_law_124 : decode cL_law 124 = .ok (.invokevirtual 68, 3) := by decide +kernel
theorem dL_law_127 : decode cL_law 127 = .ok (.istore 6, 2) := by decide +kernel
theorem dL_law_129 : decode cL_law 129 = .ok (.aload_n 2, 1) := by decide +kernel
theorem dL_law_130 : decode cL_law 130 = .ok (.invokevirtual 69, 3) := by decide +kernel
theorem dL_law_133 : decode cL_law 133 = .ok (.iload 5, 2) := by decide +kernel
theorem dL_law_135 : decode cL_law 135 = .ok (.if_icmp .eq 5, 3) := by decide +kernel
theorem dL_law_138 : decode cL_law 138 = .ok (.iconst 0, 1) := by decide +kernel
theorem dL_law_139 : decode cL_law 139 = .ok (.ireturn, 1) := by decide +kernel
theorem dL_law_140 : decode cL_law 140 = .ok (.iload 5, 2) := by decide +kernel
theorem dL_law_142 : decode cL_law 142 = .ok (.ifCond .ne 15, 3) := by decide +kernel
theorem dL_law_145 : decode cL_law 145 = .ok (.aload_n 3, 1) := by decide +kernel
theorem dL_law_146 : decode cL_law 146 = .ok (.iconst 0, 1) := by decide +kernel
theorem dL_law_147 : decode cL_law 147 = .ok (.laload, 1) := by decide +kernel
theorem dL_law_148 : decode cL_law 148 = .ok (.iload 6, 2) := by decide +kernel
theorem dL_law_150 : decode cL_law 150 = .ok (.i2l, 1) := by decide +kernel
theorem dL_law_151 : decode cL_law 151 = .ok (.lcmp, 1) := by decide +kernel
theorem dL_law_152 : decode cL_law 152 = .ok (.ifCond .eq 5, 3) := by decide +kernel
theorem dL_law_155 : decode cL_law 155 = .ok (.iconst 0, 1) := by decide +kernel
theorem dL_law_156 : decode cL_law 156 = .ok (.ireturn, 1) := by decide +kernel
theorem dL_law_157 : decode cL_law 157 = .ok (.goto 858, 3) := by decide +kernel
theorem dL_law_160 : decode cL_law 160 = .ok (.aload_n 1, 1) := by decide +kernel
theorem dL_law_161 : decode cL_law 161 = .ok (.aload_n 0, 1) := by decide +kernel
theorem dL_law_162 : decode cL_law 162 = .ok (.iload 4, 2) := by decide +kernel
theorem dL_law_164 : decode cL_law 164 = .ok (.iconst 1, 1) := by decide +kernel
theorem dL_law_165 : decode cL_law 165 = .ok (.iadd, 1) := by decide +kernel
theorem dL_law_166 : decode cL_law 166 = .ok (.iaload, 1) := by decide +kernel
theorem dL_law_167 : decode cL_law 167 = .ok (.aload_n 0, 1) := by decide +kernel
theorem dL_law_168 : decode cL_law 168 = .ok (.iload 4, 2) := by decide +kernel
theorem dL_law_170 : decode cL_law 170 = .ok (.iconst 2, 1) := by decide +kernel
theorem dL_law_171 : decode cL_law 171 = .ok (.iadd, 1) := by decide +kernel
theorem dL_law_172 : decode cL_law 172 = .ok (.iaload, 1) := by decide +kernel
theorem dL_law_173 : decode cL_law 173 = .ok (.aload_n 3, 1) := by decide +kernel
theorem dL_law_174 : decode cL_law 174 = .ok (.invokestatic 72, 3) := by decide +kernel
theorem dL_law_177 : decode cL_law 177 = .ok (.istore 5, 2) := by decide +kernel
theorem dL_law_179 : decode cL_law 179 = .ok (.aload_n 2, 1) := by decide +kernel
theorem dL_law_180 : decode cL_law 180 = .ok (.aload_n 0, 1) := by decide +kernel
theorem dL_law_181 : decode cL_law 181 = .ok (.iload 4, 2) := by decide +kernel
theorem dL_law_183 : decode cL_law 183 = .ok (.iconst 1, 1) := by decide +kernel
theorem dL_law_184 : decode cL_law 184 = .ok (.iadd, 1) := by decide +kernel
theorem dL_law_185 : decode cL_law 185 = .ok (.iaload, 1) := by decide +kernel
theorem dL_law_186 : decode cL_law 186 = .ok (.aload_n 0, 1) := by decide +kernel
theorem dL_law_187 : decode cL_law 187 = .ok (.iload 4, 2) := by decide +kernel
theorem dL_law_189 : decode cL_law 189 = .ok (.iconst 2, 1) := by decide +kernel
theorem dL_law_190 : decode cL_law 190 = .ok (.iadd, 1) := by decide +kernel
theorem dL_law_191 : decode cL_law 191 = .ok (.iaload, 1) := by decide +kernel
theorem dL_law_192 : decode cL_law 192 = .ok (.invokevirtual 75, 3) := by decide +kernel
theorem dL_law_195 : decode cL_law 195 = .ok (.istore 6, 2) := by decide +kernel
theorem dL_law_197 : decode cL_law 197 = .ok (.aload_n 2, 1) := by decide +kernel
theorem dL_law_198 : decode cL_law 198 = .ok (.invokevirtual 69, 3) := by decide +kernel
theorem dL_law_201 : decode cL_law 201 = .ok (.iload 5, 2) := by decide +kernel
theorem dL_law_203 : decode cL_law 203 = .ok (.if_icmp .eq 5, 3) := by decide +kernel
theorem dL_law_206 : decode cL_law 206 = .ok (.iconst 0, 1) := by decide +kernel
theorem dL_law_207 : decode cL_law 207 = .ok (.ireturn, 1) := by decide +kernel
theorem dL_law_208 : decode cL_law 208 = .ok (.iload 5, 2) := by decide +kernel
theorem dL_law_210 : decode cL_law 210 = .ok (.ifCond .ne 15, 3) := by decide +kernel
theorem dL_law_213 : decode cL_law 213 = .ok (.aload_n 3, 1) := by decide +kernel
theorem dL_law_214 : decode cL_law 214 = .ok (.iconst 0, 1) := by decide +kernel
theorem dL_law_215 : decode cL_law 215 = .ok (.laload, 1) := by decide +kernel
theorem dL_law_216 : decode cL_law 216 = .ok (.iload 6, 2) := by decide +kernel
theorem dL_law_218 : decode cL_law 218 = .ok (.i2l, 1) := by decide +kernel
theorem dL_law_219 : decode cL_law 219 = .ok (.lcmp, 1) := by decide +kernel
theorem dL_law_220 : decode cL_law 220 = .ok (.ifCond .eq 5, 3) := by decide +kernel
theorem dL_law_223 : decode cL_law 223 = .ok (.iconst 0, 1) := by decide +kernel
theorem dL_law_224 : decode cL_law 224 = .ok (.ireturn, 1) := by decide +kernel
theorem dL_law_225 : decode cL_law 225 = .ok (.goto 790, 3) := by decide +kernel
theorem dL_law_228 : decode cL_law 228 = .ok (.aload_n 1, 1) := by decide +kernel
theorem dL_law_229 : decode cL_law 229 = .ok (.aload_n 0, 1) := by decide +kernel
theorem dL_law_230 : decode cL_law 230 = .ok (.iload 4, 2) := by decide +kernel
theorem dL_law_232 : decode cL_law 232 = .ok (.iconst 1, 1) := by decide +kernel
theorem dL_law_233 : decode cL_law 233 = .ok (.iadd, 1) := by decide +kernel
theorem dL_law_234 : decode cL_law 234 = .ok (.iaload, 1) := by decide +kernel
theorem dL_law_235 : decode cL_law 235 = .ok (.aload_n 3, 1) := by decide +kernel
theorem dL_law_236 : decode cL_law 236 = .ok (.invokestatic 76, 3) := by decide +kernel
theorem dL_law_239 : decode cL_law 239 = .ok (.istore 5, 2) := by decide +kernel
theorem dL_law_241 : decode cL_law 241 = .ok (.aload_n 2, 1) := by decide +kernel
theorem dL_law_242 : decode cL_law 242 = .ok (.aload_n 0, 1) := by decide +kernel
theorem dL_law_243 : decode cL_law 243 = .ok (.iload 4, 2) := by decide +kernel
theorem dL_law_245 : decode cL_law 245 = .ok (.iconst 1, 1) := by decide +kernel
theorem dL_law_246 : decode cL_law 246 = .ok (.iadd, 1) := by decide +kernel
theorem dL_law_247 : decode cL_law 247 = .ok (.iaload, 1) := by decide +kernel
theorem dL_law_248 : decode cL_law 248 = .ok (.invokevirtual 79, 3) := by decide +kernel
theorem dL_law_251 : decode cL_law 251 = .ok (.istore 6, 2) := by decide +kernel
theorem dL_law_253 : decode cL_law 253 = .ok (.aload_n 2, 1) := by decide +kernel
theorem dL_law_254 : decode cL_law 254 = .ok (.invokevirtual 69, 3) := by decide +kernel
theorem dL_law_257 : decode cL_law 257 = .ok (.iload 5, 2) := by decide +kernel
theorem dL_law_259 : decode cL_law 259 = .ok (.if_icmp .eq 5, 3) := by decide +kernel
theorem dL_law_262 : decode cL_law 262 = .ok (.iconst 0, 1) := by decide +kernel
theorem dL_law_263 : decode cL_law 263 = .ok (.ireturn, 1) := by decide +kernel
theorem dL_law_264 : decode cL_law 264 = .ok (.iload 5, 2) := by decide +kernel
theorem dL_law_266 : decode cL_law 266 = .ok (.ifCond .ne 15, 3) := by decide +kernel
theorem dL_law_269 : decode cL_law 269 = .ok (.aload_n 3, 1) := by decide +kernel
theorem dL_law_270 : decode cL_law 270 = .ok (.iconst 0, 1) := by decide +kernel
theorem dL_law_271 : decode cL_law 271 = .ok (.laload, 1) := by decide +kernel
theorem dL_law_272 : decode cL_law 272 = .ok (.iload 6, 2) := by decide +kernel
theorem dL_law_274 : decode cL_law 274 = .ok (.i2l, 1) := by decide +kernel
theorem dL_law_275 : decode cL_law 275 = .ok (.lcmp, 1) := by decide +kernel
theorem dL_law_276 : decode cL_law 276 = .ok (.ifCond .eq 5, 3) := by decide +kernel
theorem dL_law_279 : decode cL_law 279 = .ok (.iconst 0, 1) := by decide +kernel
theorem dL_law_280 : decode cL_law 280 = .ok (.ireturn, 1) := by decide +kernel
theorem dL_law_281 : decode cL_law 281 = .ok (.goto 734, 3) := by decide +kernel
theorem dL_law_284 : decode cL_law 284 = .ok (.aload_n 1, 1) := by decide +kernel
theorem dL_law_285 : decode cL_law 285 = .ok (.aload_n 0, 1) := by decide +kernel
theorem dL_law_286 : decode cL_law 286 = .ok (.iload 4, 2) := by decide +kernel
theorem dL_law_288 : decode cL_law 288 = .ok (.iconst 1, 1) := by decide +kernel
theorem dL_law_289 : decode cL_law 289 = .ok (.iadd, 1) := by decide +kernel
theorem dL_law_290 : decode cL_law 290 = .ok (.iaload, 1) := by decide +kernel
theorem dL_law_291 : decode cL_law 291 = .ok (.aload_n 0, 1) := by decide +kernel
theorem dL_law_292 : decode cL_law 292 = .ok (.iload 4, 2) := by decide +kernel
theorem dL_law_294 : decode cL_law 294 = .ok (.iconst 2, 1) := by decide +kernel
theorem dL_law_295 : decode cL_law 295 = .ok (.iadd, 1) := by decide +kernel
theorem dL_law_296 : decode cL_law 296 = .ok (.iaload, 1) := by decide +kernel
theorem dL_law_297 : decode cL_law 297 = .ok (.aload_n 3, 1) := by decide +kernel
theorem dL_law_298 : decode cL_law 298 = .ok (.invokestatic 80, 3) := by decide +kernel
theorem dL_law_301 : decode cL_law 301 = .ok (.istore 5, 2) := by decide +kernel
theorem dL_law_303 : decode cL_law 303 = .ok (.aload_n 2, 1) := by decide +kernel
theorem dL_law_304 : decode cL_law 304 = .ok (.aload_n 0, 1) := by decide +kernel
theorem dL_law_305 : decode cL_law 305 = .ok (.iload 4, 2) := by decide +kernel
theorem dL_law_307 : decode cL_law 307 = .ok (.iconst 1, 1) := by decide +kernel
theorem dL_law_308 : decode cL_law 308 = .ok (.iadd, 1) := by decide +kernel
theorem dL_law_309 : decode cL_law 309 = .ok (.iaload, 1) := by decide +kernel
theorem dL_law_310 : decode cL_law 310 = .ok (.aload_n 0, 1) := by decide +kernel
theorem dL_law_311 : decode cL_law 311 = .ok (.iload 4, 2) := by decide +kernel
theorem dL_law_313 : decode cL_law 313 = .ok (.iconst 2, 1) := by decide +kernel
theorem dL_law_314 : decode cL_law 314 = .ok (.iadd, 1) := by decide +kernel
theorem dL_law_315 : decode cL_law 315 = .ok (.iaload, 1) := by decide +kernel
theorem dL_law_316 : decode cL_law 316 = .ok (.invokevirtual 82, 3) := by decide +kernel
theorem dL_law_319 : decode cL_law 319 = .ok (.istore 6, 2) := by decide +kernel
theorem dL_law_321 : decode cL_law 321 = .ok (.aload_n 2, 1) := by decide +kernel
theorem dL_law_322 : decode cL_law 322 = .ok (.invokevirtual 69, 3) := by decide +kernel
theorem dL_law_325 : decode cL_law 325 = .ok (.iload 5, 2) := by decide +kernel
theorem dL_law_327 : decode cL_law 327 = .ok (.if_icmp .eq 5, 3) := by decide +kernel
theorem dL_law_330 : decode cL_law 330 = .ok (.iconst 0, 1) := by decide +kernel
theorem dL_law_331 : decode cL_law 331 = .ok (.ireturn, 1) := by decide +kernel
theorem dL_law_332 : decode cL_law 332 = .ok (.iload 5, 2) := by decide +kernel
theorem dL_law_334 : decode cL_law 334 = .ok (.ifCond .ne 15, 3) := by decide +kernel
theorem dL_law_337 : decode cL_law 337 = .ok (.aload_n 3, 1) := by decide +kernel
theorem dL_law_338 : decode cL_law 338 = .ok (.iconst 0, 1) := by decide +kernel
theorem dL_law_339 : decode cL_law 339 = .ok (.laload, 1) := by decide +kernel
theorem dL_law_340 : decode cL_law 340 = .ok (.iload 6, 2) := by decide +kernel
theorem dL_law_342 : decode cL_law 342 = .ok (.i2l, 1) := by decide +kernel
theorem dL_law_343 : decode cL_law 343 = .ok (.lcmp, 1) := by decide +kernel
theorem dL_law_344 : decode cL_law 344 = .ok (.ifCond .eq 5, 3) := by decide +kernel
theorem dL_law_347 : decode cL_law 347 = .ok (.iconst 0, 1) := by decide +kernel
theorem dL_law_348 : decode cL_law 348 = .ok (.ireturn, 1) := by decide +kernel
theorem dL_law_349 : decode cL_law 349 = .ok (.goto 666, 3) := by decide +kernel
theorem dL_law_352 : decode cL_law 352 = .ok (.aload_n 1, 1) := by decide +kernel
theorem dL_law_353 : decode cL_law 353 = .ok (.aload_n 0, 1) := by decide +kernel
theorem dL_law_354 : decode cL_law 354 = .ok (.iload 4, 2) := by decide +kernel
theorem dL_law_356 : decode cL_law 356 = .ok (.iconst 1, 1) := by decide +kernel
theorem dL_law_357 : decode cL_law 357 = .ok (.iadd, 1) := by decide +kernel
theorem dL_law_358 : decode cL_law 358 = .ok (.iaload, 1) := by decide +kernel
theorem dL_law_359 : decode cL_law 359 = .ok (.aload_n 3, 1) := by decide +kernel
theorem dL_law_360 : decode cL_law 360 = .ok (.invokestatic 83, 3) := by decide +kernel
theorem dL_law_363 : decode cL_law 363 = .ok (.istore 5, 2) := by decide +kernel
theorem dL_law_365 : decode cL_law 365 = .ok (.aload_n 2, 1) := by decide +kernel
theorem dL_law_366 : decode cL_law 366 = .ok (.aload_n 0, 1) := by decide +kernel
theorem dL_law_367 : decode cL_law 367 = .ok (.iload 4, 2) := by decide +kernel
theorem dL_law_369 : decode cL_law 369 = .ok (.iconst 1, 1) := by decide +kernel
theorem dL_law_370 : decode cL_law 370 = .ok (.iadd, 1) := by decide +kernel
theorem dL_law_371 : decode cL_law 371 = .ok (.iaload, 1) := by decide +kernel
theorem dL_law_372 : decode cL_law 372 = .ok (.invokevirtual 85, 3) := by decide +kernel
theorem dL_law_375 : decode cL_law 375 = .ok (.istore 6, 2) := by decide +kernel
theorem dL_law_377 : decode cL_law 377 = .ok (.aload_n 2, 1) := by decide +kernel
theorem dL_law_378 : decode cL_law 378 = .ok (.invokevirtual 69, 3) := by decide +kernel
theorem dL_law_381 : decode cL_law 381 = .ok (.iload 5, 2) := by decide +kernel
theorem dL_law_383 : decode cL_law 383 = .ok (.if_icmp .eq 5, 3) := by decide +kernel
theorem dL_law_386 : decode cL_law 386 = .ok (.iconst 0, 1) := by decide +kernel
theorem dL_law_387 : decode cL_law 387 = .ok (.ireturn, 1) := by decide +kernel
theorem dL_law_388 : decode cL_law 388 = .ok (.iload 5, 2) := by decide +kernel
theorem dL_law_390 : decode cL_law 390 = .ok (.ifCond .ne 15, 3) := by decide +kernel
theorem dL_law_393 : decode cL_law 393 = .ok (.aload_n 3, 1) := by decide +kernel
theorem dL_law_394 : decode cL_law 394 = .ok (.iconst 0, 1) := by decide +kernel
theorem dL_law_395 : decode cL_law 395 = .ok (.laload, 1) := by decide +kernel
theorem dL_law_396 : decode cL_law 396 = .ok (.iload 6, 2) := by decide +kernel
theorem dL_law_398 : decode cL_law 398 = .ok (.i2l, 1) := by decide +kernel
theorem dL_law_399 : decode cL_law 399 = .ok (.lcmp, 1) := by decide +kernel
theorem dL_law_400 : decode cL_law 400 = .ok (.ifCond .eq 5, 3) := by decide +kernel
theorem dL_law_403 : decode cL_law 403 = .ok (.iconst 0, 1) := by decide +kernel
theorem dL_law_404 : decode cL_law 404 = .ok (.ireturn, 1) := by decide +kernel
theorem dL_law_405 : decode cL_law 405 = .ok (.goto 610, 3) := by decide +kernel
theorem dL_law_408 : decode cL_law 408 = .ok (.aload_n 1, 1) := by decide +kernel
theorem dL_law_409 : decode cL_law 409 = .ok (.aload_n 0, 1) := by decide +kernel
theorem dL_law_410 : decode cL_law 410 = .ok (.iload 4, 2) := by decide +kernel
theorem dL_law_412 : decode cL_law 412 = .ok (.iconst 1, 1) := by decide +kernel
theorem dL_law_413 : decode cL_law 413 = .ok (.iadd, 1) := by decide +kernel
theorem dL_law_414 : decode cL_law 414 = .ok (.iaload, 1) := by decide +kernel
theorem dL_law_415 : decode cL_law 415 = .ok (.aload_n 0, 1) := by decide +kernel
theorem dL_law_416 : decode cL_law 416 = .ok (.iload 4, 2) := by decide +kernel
theorem dL_law_418 : decode cL_law 418 = .ok (.iconst 2, 1) := by decide +kernel
theorem dL_law_419 : decode cL_law 419 = .ok (.iadd, 1) := by decide +kernel
theorem dL_law_420 : decode cL_law 420 = .ok (.iaload, 1) := by decide +kernel
theorem dL_law_421 : decode cL_law 421 = .ok (.aload_n 3, 1) := by decide +kernel
theorem dL_law_422 : decode cL_law 422 = .ok (.invokestatic 86, 3) := by decide +kernel
theorem dL_law_425 : decode cL_law 425 = .ok (.istore 5, 2) := by decide +kernel
theorem dL_law_427 : decode cL_law 427 = .ok (.aload_n 2, 1) := by decide +kernel
theorem dL_law_428 : decode cL_law 428 = .ok (.aload_n 0, 1) := by decide +kernel
theorem dL_law_429 : decode cL_law 429 = .ok (.iload 4, 2) := by decide +kernel
theorem dL_law_431 : decode cL_law 431 = .ok (.iconst 1, 1) := by decide +kernel
theorem dL_law_432 : decode cL_law 432 = .ok (.iadd, 1) := by decide +kernel
theorem dL_law_433 : decode cL_law 433 = .ok (.iaload, 1) := by decide +kernel
theorem dL_law_434 : decode cL_law 434 = .ok (.aload_n 0, 1) := by decide +kernel
theorem dL_law_435 : decode cL_law 435 = .ok (.iload 4, 2) := by decide +kernel
theorem dL_law_437 : decode cL_law 437 = .ok (.iconst 2, 1) := by decide +kernel
theorem dL_law_438 : decode cL_law 438 = .ok (.iadd, 1) := by decide +kernel
theorem dL_law_439 : decode cL_law 439 = .ok (.iaload, 1) := by decide +kernel
theorem dL_law_440 : decode cL_law 440 = .ok (.invokevirtual 88, 3) := by decide +kernel
theorem dL_law_443 : decode cL_law 443 = .ok (.istore 6, 2) := by decide +kernel
theorem dL_law_445 : decode cL_law 445 = .ok (.aload_n 2, 1) := by decide +kernel
theorem dL_law_446 : decode cL_law 446 = .ok (.invokevirtual 69, 3) := by decide +kernel
theorem dL_law_449 : decode cL_law 449 = .ok (.iload 5, 2) := by decide +kernel
theorem dL_law_451 : decode cL_law 451 = .ok (.if_icmp .eq 5, 3) := by decide +kernel
theorem dL_law_454 : decode cL_law 454 = .ok (.iconst 0, 1) := by decide +kernel
theorem dL_law_455 : decode cL_law 455 = .ok (.ireturn, 1) := by decide +kernel
theorem dL_law_456 : decode cL_law 456 = .ok (.iload 5, 2) := by decide +kernel
theorem dL_law_458 : decode cL_law 458 = .ok (.ifCond .ne 15, 3) := by decide +kernel
theorem dL_law_461 : decode cL_law 461 = .ok (.aload_n 3, 1) := by decide +kernel
theorem dL_law_462 : decode cL_law 462 = .ok (.iconst 0, 1) := by decide +kernel
theorem dL_law_463 : decode cL_law 463 = .ok (.laload, 1) := by decide +kernel
theorem dL_law_464 : decode cL_law 464 = .ok (.iload 6, 2) := by decide +kernel
theorem dL_law_466 : decode cL_law 466 = .ok (.i2l, 1) := by decide +kernel
theorem dL_law_467 : decode cL_law 467 = .ok (.lcmp, 1) := by decide +kernel
theorem dL_law_468 : decode cL_law 468 = .ok (.ifCond .eq 5, 3) := by decide +kernel
theorem dL_law_471 : decode cL_law 471 = .ok (.iconst 0, 1) := by decide +kernel
theorem dL_law_472 : decode cL_law 472 = .ok (.ireturn, 1) := by decide +kernel
theorem dL_law_473 : decode cL_law 473 = .ok (.goto 542, 3) := by decide +kernel
theorem dL_law_476 : decode cL_law 476 = .ok (.aload_n 1, 1) := by decide +kernel
theorem dL_law_477 : decode cL_law 477 = .ok (.aload_n 0, 1) := by decide +kernel
theorem dL_law_478 : decode cL_law 478 = .ok (.iload 4, 2) := by decide +kernel
theorem dL_law_480 : decode cL_law 480 = .ok (.iconst 1, 1) := by decide +kernel
theorem dL_law_481 : decode cL_law 481 = .ok (.iadd, 1) := by decide +kernel
theorem dL_law_482 : decode cL_law 482 = .ok (.iaload, 1) := by decide +kernel
theorem dL_law_483 : decode cL_law 483 = .ok (.aload_n 3, 1) := by decide +kernel
theorem dL_law_484 : decode cL_law 484 = .ok (.invokestatic 89, 3) := by decide +kernel
theorem dL_law_487 : decode cL_law 487 = .ok (.istore 5, 2) := by decide +kernel
theorem dL_law_489 : decode cL_law 489 = .ok (.aload_n 2, 1) := by decide +kernel
theorem dL_law_490 : decode cL_law 490 = .ok (.aload_n 0, 1) := by decide +kernel
theorem dL_law_491 : decode cL_law 491 = .ok (.iload 4, 2) := by decide +kernel
theorem dL_law_493 : decode cL_law 493 = .ok (.iconst 1, 1) := by decide +kernel
theorem dL_law_494 : decode cL_law 494 = .ok (.iadd, 1) := by decide +kernel
theorem dL_law_495 : decode cL_law 495 = .ok (.iaload, 1) := by decide +kernel
theorem dL_law_496 : decode cL_law 496 = .ok (.invokevirtual 91, 3) := by decide +kernel
theorem dL_law_499 : decode cL_law 499 = .ok (.istore 6, 2) := by decide +kernel
theorem dL_law_501 : decode cL_law 501 = .ok (.aload_n 2, 1) := by decide +kernel
theorem dL_law_502 : decode cL_law 502 = .ok (.invokevirtual 69, 3) := by decide +kernel
theorem dL_law_505 : decode cL_law 505 = .ok (.iload 5, 2) := by decide +kernel
theorem dL_law_507 : decode cL_law 507 = .ok (.if_icmp .eq 5, 3) := by decide +kernel
theorem dL_law_510 : decode cL_law 510 = .ok (.iconst 0, 1) := by decide +kernel
theorem dL_law_511 : decode cL_law 511 = .ok (.ireturn, 1) := by decide +kernel
theorem dL_law_512 : decode cL_law 512 = .ok (.iload 5, 2) := by decide +kernel
theorem dL_law_514 : decode cL_law 514 = .ok (.ifCond .ne 15, 3) := by decide +kernel
theorem dL_law_517 : decode cL_law 517 = .ok (.aload_n 3, 1) := by decide +kernel
theorem dL_law_518 : decode cL_law 518 = .ok (.iconst 0, 1) := by decide +kernel
theorem dL_law_519 : decode cL_law 519 = .ok (.laload, 1) := by decide +kernel
theorem dL_law_520 : decode cL_law 520 = .ok (.iload 6, 2) := by decide +kernel
theorem dL_law_522 : decode cL_law 522 = .ok (.i2l, 1) := by decide +kernel
theorem dL_law_523 : decode cL_law 523 = .ok (.lcmp, 1) := by decide +kernel
theorem dL_law_524 : decode cL_law 524 = .ok (.ifCond .eq 5, 3) := by decide +kernel
theorem dL_law_527 : decode cL_law 527 = .ok (.iconst 0, 1) := by decide +kernel
theorem dL_law_528 : decode cL_law 528 = .ok (.ireturn, 1) := by decide +kernel
theorem dL_law_529 : decode cL_law 529 = .ok (.goto 486, 3) := by decide +kernel
theorem dL_law_532 : decode cL_law 532 = .ok (.aload_n 1, 1) := by decide +kernel
theorem dL_law_533 : decode cL_law 533 = .ok (.aload_n 0, 1) := by decide +kernel
theorem dL_law_534 : decode cL_law 534 = .ok (.iload 4, 2) := by decide +kernel
theorem dL_law_536 : decode cL_law 536 = .ok (.iconst 1, 1) := by decide +kernel
theorem dL_law_537 : decode cL_law 537 = .ok (.iadd, 1) := by decide +kernel
theorem dL_law_538 : decode cL_law 538 = .ok (.iaload, 1) := by decide +kernel
theorem dL_law_539 : decode cL_law 539 = .ok (.aload_n 0, 1) := by decide +kernel
theorem dL_law_540 : decode cL_law 540 = .ok (.iload 4, 2) := by decide +kernel
theorem dL_law_542 : decode cL_law 542 = .ok (.iconst 2, 1) := by decide +kernel
theorem dL_law_543 : decode cL_law 543 = .ok (.iadd, 1) := by decide +kernel
theorem dL_law_544 : decode cL_law 544 = .ok (.iaload, 1) := by decide +kernel
theorem dL_law_545 : decode cL_law 545 = .ok (.aload_n 3, 1) := by decide +kernel
theorem dL_law_546 : decode cL_law 546 = .ok (.invokestatic 92, 3) := by decide +kernel
theorem dL_law_549 : decode cL_law 549 = .ok (.istore 5, 2) := by decide +kernel
theorem dL_law_551 : decode cL_law 551 = .ok (.aload_n 2, 1) := by decide +kernel
theorem dL_law_552 : decode cL_law 552 = .ok (.aload_n 0, 1) := by decide +kernel
theorem dL_law_553 : decode cL_law 553 = .ok (.iload 4, 2) := by decide +kernel
theorem dL_law_555 : decode cL_law 555 = .ok (.iconst 1, 1) := by decide +kernel
theorem dL_law_556 : decode cL_law 556 = .ok (.iadd, 1) := by decide +kernel
theorem dL_law_557 : decode cL_law 557 = .ok (.iaload, 1) := by decide +kernel
theorem dL_law_558 : decode cL_law 558 = .ok (.aload_n 0, 1) := by decide +kernel
theorem dL_law_559 : decode cL_law 559 = .ok (.iload 4, 2) := by decide +kernel
theorem dL_law_561 : decode cL_law 561 = .ok (.iconst 2, 1) := by decide +kernel
theorem dL_law_562 : decode cL_law 562 = .ok (.iadd, 1) := by decide +kernel
theorem dL_law_563 : decode cL_law 563 = .ok (.iaload, 1) := by decide +kernel
theorem dL_law_564 : decode cL_law 564 = .ok (.invokevirtual 94, 3) := by decide +kernel
theorem dL_law_567 : decode cL_law 567 = .ok (.istore 6, 2) := by decide +kernel
theorem dL_law_569 : decode cL_law 569 = .ok (.aload_n 2, 1) := by decide +kernel
theorem dL_law_570 : decode cL_law 570 = .ok (.invokevirtual 69, 3) := by decide +kernel
theorem dL_law_573 : decode cL_law 573 = .ok (.iload 5, 2) := by decide +kernel
theorem dL_law_575 : decode cL_law 575 = .ok (.if_icmp .eq 5, 3) := by decide +kernel
theorem dL_law_578 : decode cL_law 578 = .ok (.iconst 0, 1) := by decide +kernel
theorem dL_law_579 : decode cL_law 579 = .ok (.ireturn, 1) := by decide +kernel
theorem dL_law_580 : decode cL_law 580 = .ok (.iload 5, 2) := by decide +kernel
theorem dL_law_582 : decode cL_law 582 = .ok (.ifCond .ne 15, 3) := by decide +kernel
theorem dL_law_585 : decode cL_law 585 = .ok (.aload_n 3, 1) := by decide +kernel
theorem dL_law_586 : decode cL_law 586 = .ok (.iconst 0, 1) := by decide +kernel
theorem dL_law_587 : decode cL_law 587 = .ok (.laload, 1) := by decide +kernel
theorem dL_law_588 : decode cL_law 588 = .ok (.iload 6, 2) := by decide +kernel
theorem dL_law_590 : decode cL_law 590 = .ok (.i2l, 1) := by decide +kernel
theorem dL_law_591 : decode cL_law 591 = .ok (.lcmp, 1) := by decide +kernel
theorem dL_law_592 : decode cL_law 592 = .ok (.ifCond .eq 5, 3) := by decide +kernel
theorem dL_law_595 : decode cL_law 595 = .ok (.iconst 0, 1) := by decide +kernel
theorem dL_law_596 : decode cL_law 596 = .ok (.ireturn, 1) := by decide +kernel
theorem dL_law_597 : decode cL_law 597 = .ok (.goto 418, 3) := by decide +kernel
theorem dL_law_600 : decode cL_law 600 = .ok (.aload_n 1, 1) := by decide +kernel
theorem dL_law_601 : decode cL_law 601 = .ok (.aload_n 0, 1) := by decide +kernel
theorem dL_law_602 : decode cL_law 602 = .ok (.iload 4, 2) := by decide +kernel
theorem dL_law_604 : decode cL_law 604 = .ok (.iconst 1, 1) := by decide +kernel
theorem dL_law_605 : decode cL_law 605 = .ok (.iadd, 1) := by decide +kernel
theorem dL_law_606 : decode cL_law 606 = .ok (.iaload, 1) := by decide +kernel
theorem dL_law_607 : decode cL_law 607 = .ok (.aload_n 0, 1) := by decide +kernel
theorem dL_law_608 : decode cL_law 608 = .ok (.iload 4, 2) := by decide +kernel
theorem dL_law_610 : decode cL_law 610 = .ok (.iconst 2, 1) := by decide +kernel
theorem dL_law_611 : decode cL_law 611 = .ok (.iadd, 1) := by decide +kernel
theorem dL_law_612 : decode cL_law 612 = .ok (.iaload, 1) := by decide +kernel
theorem dL_law_613 : decode cL_law 613 = .ok (.aload_n 0, 1) := by decide +kernel
theorem dL_law_614 : decode cL_law 614 = .ok (.iload 4, 2) := by decide +kernel
theorem dL_law_616 : decode cL_law 616 = .ok (.iconst 3, 1) := by decide +kernel
theorem dL_law_617 : decode cL_law 617 = .ok (.iadd, 1) := by decide +kernel
theorem dL_law_618 : decode cL_law 618 = .ok (.iaload, 1) := by decide +kernel
theorem dL_law_619 : decode cL_law 619 = .ok (.aload_n 3, 1) := by decide +kernel
theorem dL_law_620 : decode cL_law 620 = .ok (.invokestatic 95, 3) := by decide +kernel
theorem dL_law_623 : decode cL_law 623 = .ok (.istore 5, 2) := by decide +kernel
theorem dL_law_625 : decode cL_law 625 = .ok (.aload_n 2, 1) := by decide +kernel
theorem dL_law_626 : decode cL_law 626 = .ok (.aload_n 0, 1) := by decide +kernel
theorem dL_law_627 : decode cL_law 627 = .ok (.iload 4, 2) := by decide +kernel
theorem dL_law_629 : decode cL_law 629 = .ok (.iconst 1, 1) := by decide +kernel
theorem dL_law_630 : decode cL_law 630 = .ok (.iadd, 1) := by decide +kernel
theorem dL_law_631 : decode cL_law 631 = .ok (.iaload, 1) := by decide +kernel
theorem dL_law_632 : decode cL_law 632 = .ok (.aload_n 0, 1) := by decide +kernel
theorem dL_law_633 : decode cL_law 633 = .ok (.iload 4, 2) := by decide +kernel
theorem dL_law_635 : decode cL_law 635 = .ok (.iconst 2, 1) := by decide +kernel
theorem dL_law_636 : decode cL_law 636 = .ok (.iadd, 1) := by decide +kernel
theorem dL_law_637 : decode cL_law 637 = .ok (.iaload, 1) := by decide +kernel
theorem dL_law_638 : decode cL_law 638 = .ok (.aload_n 0, 1) := by decide +kernel
theorem dL_law_639 : decode cL_law 639 = .ok (.iload 4, 2) := by decide +kernel
theorem dL_law_641 : decode cL_law 641 = .ok (.iconst 3, 1) := by decide +kernel
theorem dL_law_642 : decode cL_law 642 = .ok (.iadd, 1) := by decide +kernel
theorem dL_law_643 : decode cL_law 643 = .ok (.iaload, 1) := by decide +kernel
theorem dL_law_644 : decode cL_law 644 = .ok (.invokevirtual 98, 3) := by decide +kernel
theorem dL_law_647 : decode cL_law 647 = .ok (.istore 6, 2) := by decide +kernel
theorem dL_law_649 : decode cL_law 649 = .ok (.aload_n 2, 1) := by decide +kernel
theorem dL_law_650 : decode cL_law 650 = .ok (.invokevirtual 69, 3) := by decide +kernel
theorem dL_law_653 : decode cL_law 653 = .ok (.iload 5, 2) := by decide +kernel
theorem dL_law_655 : decode cL_law 655 = .ok (.if_icmp .eq 5, 3) := by decide +kernel
theorem dL_law_658 : decode cL_law 658 = .ok (.iconst 0, 1) := by decide +kernel
theorem dL_law_659 : decode cL_law 659 = .ok (.ireturn, 1) := by decide +kernel
theorem dL_law_660 : decode cL_law 660 = .ok (.iload 5, 2) := by decide +kernel
theorem dL_law_662 : decode cL_law 662 = .ok (.ifCond .ne 15, 3) := by decide +kernel
theorem dL_law_665 : decode cL_law 665 = .ok (.aload_n 3, 1) := by decide +kernel
theorem dL_law_666 : decode cL_law 666 = .ok (.iconst 0, 1) := by decide +kernel
theorem dL_law_667 : decode cL_law 667 = .ok (.laload, 1) := by decide +kernel
theorem dL_law_668 : decode cL_law 668 = .ok (.iload 6, 2) := by decide +kernel
theorem dL_law_670 : decode cL_law 670 = .ok (.i2l, 1) := by decide +kernel
theorem dL_law_671 : decode cL_law 671 = .ok (.lcmp, 1) := by decide +kernel
theorem dL_law_672 : decode cL_law 672 = .ok (.ifCond .eq 5, 3) := by decide +kernel
theorem dL_law_675 : decode cL_law 675 = .ok (.iconst 0, 1) := by decide +kernel
theorem dL_law_676 : decode cL_law 676 = .ok (.ireturn, 1) := by decide +kernel
theorem dL_law_677 : decode cL_law 677 = .ok (.goto 338, 3) := by decide +kernel
theorem dL_law_680 : decode cL_law 680 = .ok (.aload_n 1, 1) := by decide +kernel
theorem dL_law_681 : decode cL_law 681 = .ok (.aload_n 0, 1) := by decide +kernel
theorem dL_law_682 : decode cL_law 682 = .ok (.iload 4, 2) := by decide +kernel
theorem dL_law_684 : decode cL_law 684 = .ok (.iconst 1, 1) := by decide +kernel
theorem dL_law_685 : decode cL_law 685 = .ok (.iadd, 1) := by decide +kernel
theorem dL_law_686 : decode cL_law 686 = .ok (.iaload, 1) := by decide +kernel
theorem dL_law_687 : decode cL_law 687 = .ok (.aload_n 0, 1) := by decide +kernel
theorem dL_law_688 : decode cL_law 688 = .ok (.iload 4, 2) := by decide +kernel
theorem dL_law_690 : decode cL_law 690 = .ok (.iconst 2, 1) := by decide +kernel
theorem dL_law_691 : decode cL_law 691 = .ok (.iadd, 1) := by decide +kernel
theorem dL_law_692 : decode cL_law 692 = .ok (.iaload, 1) := by decide +kernel
theorem dL_law_693 : decode cL_law 693 = .ok (.aload_n 0, 1) := by decide +kernel
theorem dL_law_694 : decode cL_law 694 = .ok (.iload 4, 2) := by decide +kernel
theorem dL_law_696 : decode cL_law 696 = .ok (.iconst 3, 1) := by decide +kernel
theorem dL_law_697 : decode cL_law 697 = .ok (.iadd, 1) := by decide +kernel
theorem dL_law_698 : decode cL_law 698 = .ok (.iaload, 1) := by decide +kernel
theorem dL_law_699 : decode cL_law 699 = .ok (.aload_n 3, 1) := by decide +kernel
theorem dL_law_700 : decode cL_law 700 = .ok (.invokestatic 99, 3) := by decide +kernel
theorem dL_law_703 : decode cL_law 703 = .ok (.istore 5, 2) := by decide +kernel
theorem dL_law_705 : decode cL_law 705 = .ok (.aload_n 2, 1) := by decide +kernel
theorem dL_law_706 : decode cL_law 706 = .ok (.aload_n 0, 1) := by decide +kernel
theorem dL_law_707 : decode cL_law 707 = .ok (.iload 4, 2) := by decide +kernel
theorem dL_law_709 : decode cL_law 709 = .ok (.iconst 1, 1) := by decide +kernel
theorem dL_law_710 : decode cL_law 710 = .ok (.iadd, 1) := by decide +kernel
theorem dL_law_711 : decode cL_law 711 = .ok (.iaload, 1) := by decide +kernel
theorem dL_law_712 : decode cL_law 712 = .ok (.aload_n 0, 1) := by decide +kernel
theorem dL_law_713 : decode cL_law 713 = .ok (.iload 4, 2) := by decide +kernel
theorem dL_law_715 : decode cL_law 715 = .ok (.iconst 2, 1) := by decide +kernel
theorem dL_law_716 : decode cL_law 716 = .ok (.iadd, 1) := by decide +kernel
theorem dL_law_717 : decode cL_law 717 = .ok (.iaload, 1) := by decide +kernel
theorem dL_law_718 : decode cL_law 718 = .ok (.aload_n 0, 1) := by decide +kernel
theorem dL_law_719 : decode cL_law 719 = .ok (.iload 4, 2) := by decide +kernel
theorem dL_law_721 : decode cL_law 721 = .ok (.iconst 3, 1) := by decide +kernel
theorem dL_law_722 : decode cL_law 722 = .ok (.iadd, 1) := by decide +kernel
theorem dL_law_723 : decode cL_law 723 = .ok (.iaload, 1) := by decide +kernel
theorem dL_law_724 : decode cL_law 724 = .ok (.invokevirtual 101, 3) := by decide +kernel
theorem dL_law_727 : decode cL_law 727 = .ok (.istore 6, 2) := by decide +kernel
theorem dL_law_729 : decode cL_law 729 = .ok (.aload_n 2, 1) := by decide +kernel
theorem dL_law_730 : decode cL_law 730 = .ok (.invokevirtual 69, 3) := by decide +kernel
theorem dL_law_733 : decode cL_law 733 = .ok (.iload 5, 2) := by decide +kernel
theorem dL_law_735 : decode cL_law 735 = .ok (.if_icmp .eq 5, 3) := by decide +kernel
theorem dL_law_738 : decode cL_law 738 = .ok (.iconst 0, 1) := by decide +kernel
theorem dL_law_739 : decode cL_law 739 = .ok (.ireturn, 1) := by decide +kernel
theorem dL_law_740 : decode cL_law 740 = .ok (.iload 5, 2) := by decide +kernel
theorem dL_law_742 : decode cL_law 742 = .ok (.ifCond .ne 15, 3) := by decide +kernel
theorem dL_law_745 : decode cL_law 745 = .ok (.aload_n 3, 1) := by decide +kernel
theorem dL_law_746 : decode cL_law 746 = .ok (.iconst 0, 1) := by decide +kernel
theorem dL_law_747 : decode cL_law 747 = .ok (.laload, 1) := by decide +kernel
theorem dL_law_748 : decode cL_law 748 = .ok (.iload 6, 2) := by decide +kernel
theorem dL_law_750 : decode cL_law 750 = .ok (.i2l, 1) := by decide +kernel
theorem dL_law_751 : decode cL_law 751 = .ok (.lcmp, 1) := by decide +kernel
theorem dL_law_752 : decode cL_law 752 = .ok (.ifCond .eq 5, 3) := by decide +kernel
theorem dL_law_755 : decode cL_law 755 = .ok (.iconst 0, 1) := by decide +kernel
theorem dL_law_756 : decode cL_law 756 = .ok (.ireturn, 1) := by decide +kernel
theorem dL_law_757 : decode cL_law 757 = .ok (.goto 258, 3) := by decide +kernel
theorem dL_law_760 : decode cL_law 760 = .ok (.aload_n 1, 1) := by decide +kernel
theorem dL_law_761 : decode cL_law 761 = .ok (.aload_n 0, 1) := by decide +kernel
theorem dL_law_762 : decode cL_law 762 = .ok (.iload 4, 2) := by decide +kernel
theorem dL_law_764 : decode cL_law 764 = .ok (.iconst 1, 1) := by decide +kernel
theorem dL_law_765 : decode cL_law 765 = .ok (.iadd, 1) := by decide +kernel
theorem dL_law_766 : decode cL_law 766 = .ok (.iaload, 1) := by decide +kernel
theorem dL_law_767 : decode cL_law 767 = .ok (.aload_n 0, 1) := by decide +kernel
theorem dL_law_768 : decode cL_law 768 = .ok (.iload 4, 2) := by decide +kernel
theorem dL_law_770 : decode cL_law 770 = .ok (.iconst 2, 1) := by decide +kernel
theorem dL_law_771 : decode cL_law 771 = .ok (.iadd, 1) := by decide +kernel
theorem dL_law_772 : decode cL_law 772 = .ok (.iaload, 1) := by decide +kernel
theorem dL_law_773 : decode cL_law 773 = .ok (.aload_n 3, 1) := by decide +kernel
theorem dL_law_774 : decode cL_law 774 = .ok (.invokestatic 102, 3) := by decide +kernel
theorem dL_law_777 : decode cL_law 777 = .ok (.istore 5, 2) := by decide +kernel
theorem dL_law_779 : decode cL_law 779 = .ok (.aload_n 2, 1) := by decide +kernel
theorem dL_law_780 : decode cL_law 780 = .ok (.aload_n 0, 1) := by decide +kernel
theorem dL_law_781 : decode cL_law 781 = .ok (.iload 4, 2) := by decide +kernel
theorem dL_law_783 : decode cL_law 783 = .ok (.iconst 1, 1) := by decide +kernel
theorem dL_law_784 : decode cL_law 784 = .ok (.iadd, 1) := by decide +kernel
theorem dL_law_785 : decode cL_law 785 = .ok (.iaload, 1) := by decide +kernel
theorem dL_law_786 : decode cL_law 786 = .ok (.aload_n 0, 1) := by decide +kernel
theorem dL_law_787 : decode cL_law 787 = .ok (.iload 4, 2) := by decide +kernel
theorem dL_law_789 : decode cL_law 789 = .ok (.iconst 2, 1) := by decide +kernel
theorem dL_law_790 : decode cL_law 790 = .ok (.iadd, 1) := by decide +kernel
theorem dL_law_791 : decode cL_law 791 = .ok (.iaload, 1) := by decide +kernel
theorem dL_law_792 : decode cL_law 792 = .ok (.invokevirtual 104, 3) := by decide +kernel
theorem dL_law_795 : decode cL_law 795 = .ok (.istore 6, 2) := by decide +kernel
theorem dL_law_797 : decode cL_law 797 = .ok (.aload_n 2, 1) := by decide +kernel
theorem dL_law_798 : decode cL_law 798 = .ok (.invokevirtual 69, 3) := by decide +kernel
theorem dL_law_801 : decode cL_law 801 = .ok (.iload 5, 2) := by decide +kernel
theorem dL_law_803 : decode cL_law 803 = .ok (.if_icmp .eq 5, 3) := by decide +kernel
theorem dL_law_806 : decode cL_law 806 = .ok (.iconst 0, 1) := by decide +kernel
theorem dL_law_807 : decode cL_law 807 = .ok (.ireturn, 1) := by decide +kernel
theorem dL_law_808 : decode cL_law 808 = .ok (.iload 5, 2) := by decide +kernel
theorem dL_law_810 : decode cL_law 810 = .ok (.ifCond .ne 22, 3) := by decide +kernel
theorem dL_law_813 : decode cL_law 813 = .ok (.aload_n 3, 1) := by decide +kernel
theorem dL_law_814 : decode cL_law 814 = .ok (.iconst 0, 1) := by decide +kernel
theorem dL_law_815 : decode cL_law 815 = .ok (.laload, 1) := by decide +kernel
theorem dL_law_816 : decode cL_law 816 = .ok (.iload 6, 2) := by decide +kernel
theorem dL_law_818 : decode cL_law 818 = .ok (.ifCond .eq 7, 3) := by decide +kernel
theorem dL_law_821 : decode cL_law 821 = .ok (.lconst 1, 1) := by decide +kernel
theorem dL_law_822 : decode cL_law 822 = .ok (.goto 4, 3) := by decide +kernel
theorem dL_law_825 : decode cL_law 825 = .ok (.lconst 0, 1) := by decide +kernel
theorem dL_law_826 : decode cL_law 826 = .ok (.lcmp, 1) := by decide +kernel
theorem dL_law_827 : decode cL_law 827 = .ok (.ifCond .eq 5, 3) := by decide +kernel
theorem dL_law_830 : decode cL_law 830 = .ok (.iconst 0, 1) := by decide +kernel
theorem dL_law_831 : decode cL_law 831 = .ok (.ireturn, 1) := by decide +kernel
theorem dL_law_832 : decode cL_law 832 = .ok (.goto 183, 3) := by decide +kernel
theorem dL_law_835 : decode cL_law 835 = .ok (.aload_n 1, 1) := by decide +kernel
theorem dL_law_836 : decode cL_law 836 = .ok (.aload_n 0, 1) := by decide +kernel
theorem dL_law_837 : decode cL_law 837 = .ok (.iload 4, 2) := by decide +kernel
theorem dL_law_839 : decode cL_law 839 = .ok (.iconst 1, 1) := by decide +kernel
theorem dL_law_840 : decode cL_law 840 = .ok (.iadd, 1) := by decide +kernel
theorem dL_law_841 : decode cL_law 841 = .ok (.iaload, 1) := by decide +kernel
theorem dL_law_842 : decode cL_law 842 = .ok (.aload_n 3, 1) := by decide +kernel
theorem dL_law_843 : decode cL_law 843 = .ok (.invokestatic 105, 3) := by decide +kernel
theorem dL_law_846 : decode cL_law 846 = .ok (.istore 5, 2) := by decide +kernel
theorem dL_law_848 : decode cL_law 848 = .ok (.aload_n 2, 1) := by decide +kernel
theorem dL_law_849 : decode cL_law 849 = .ok (.aload_n 0, 1) := by decide +kernel
theorem dL_law_850 : decode cL_law 850 = .ok (.iload 4, 2) := by decide +kernel
theorem dL_law_852 : decode cL_law 852 = .ok (.iconst 1, 1) := by decide +kernel
theorem dL_law_853 : decode cL_law 853 = .ok (.iadd, 1) := by decide +kernel
theorem dL_law_854 : decode cL_law 854 = .ok (.iaload, 1) := by decide +kernel
theorem dL_law_855 : decode cL_law 855 = .ok (.invokevirtual 107, 3) := by decide +kernel
theorem dL_law_858 : decode cL_law 858 = .ok (.istore 6, 2) := by decide +kernel
theorem dL_law_860 : decode cL_law 860 = .ok (.aload_n 2, 1) := by decide +kernel
theorem dL_law_861 : decode cL_law 861 = .ok (.invokevirtual 69, 3) := by decide +kernel
theorem dL_law_864 : decode cL_law 864 = .ok (.iload 5, 2) := by decide +kernel
theorem dL_law_866 : decode cL_law 866 = .ok (.if_icmp .eq 5, 3) := by decide +kernel
theorem dL_law_869 : decode cL_law 869 = .ok (.iconst 0, 1) := by decide +kernel
theorem dL_law_870 : decode cL_law 870 = .ok (.ireturn, 1) := by decide +kernel
theorem dL_law_871 : decode cL_law 871 = .ok (.iload 5, 2) := by decide +kernel
theorem dL_law_873 : decode cL_law 873 = .ok (.ifCond .ne 15, 3) := by decide +kernel
theorem dL_law_876 : decode cL_law 876 = .ok (.aload_n 3, 1) := by decide +kernel
theorem dL_law_877 : decode cL_law 877 = .ok (.iconst 0, 1) := by decide +kernel
theorem dL_law_878 : decode cL_law 878 = .ok (.laload, 1) := by decide +kernel
theorem dL_law_879 : decode cL_law 879 = .ok (.iload 6, 2) := by decide +kernel
theorem dL_law_881 : decode cL_law 881 = .ok (.i2l, 1) := by decide +kernel
theorem dL_law_882 : decode cL_law 882 = .ok (.lcmp, 1) := by decide +kernel
theorem dL_law_883 : decode cL_law 883 = .ok (.ifCond .eq 5, 3) := by decide +kernel
theorem dL_law_886 : decode cL_law 886 = .ok (.iconst 0, 1) := by decide +kernel
theorem dL_law_887 : decode cL_law 887 = .ok (.ireturn, 1) := by decide +kernel
theorem dL_law_888 : decode cL_law 888 = .ok (.goto 127, 3) := by decide +kernel
theorem dL_law_891 : decode cL_law 891 = .ok (.aload_n 1, 1) := by decide +kernel
theorem dL_law_892 : decode cL_law 892 = .ok (.invokevirtual 108, 3) := by decide +kernel
theorem dL_law_895 : decode cL_law 895 = .ok (.aload_n 2, 1) := by decide +kernel
theorem dL_law_896 : decode cL_law 896 = .ok (.invokevirtual 111, 3) := by decide +kernel
theorem dL_law_899 : decode cL_law 899 = .ok (.if_icmp .eq 116, 3) := by decide +kernel
theorem dL_law_902 : decode cL_law 902 = .ok (.iconst 0, 1) := by decide +kernel
theorem dL_law_903 : decode cL_law 903 = .ok (.ireturn, 1) := by decide +kernel
theorem dL_law_904 : decode cL_law 904 = .ok (.aload_n 1, 1) := by decide +kernel
theorem dL_law_905 : decode cL_law 905 = .ok (.aload_n 0, 1) := by decide +kernel
theorem dL_law_906 : decode cL_law 906 = .ok (.iload 4, 2) := by decide +kernel
theorem dL_law_908 : decode cL_law 908 = .ok (.iconst 1, 1) := by decide +kernel
theorem dL_law_909 : decode cL_law 909 = .ok (.iadd, 1) := by decide +kernel
theorem dL_law_910 : decode cL_law 910 = .ok (.iaload, 1) := by decide +kernel
theorem dL_law_911 : decode cL_law 911 = .ok (.aload_n 3, 1) := by decide +kernel
theorem dL_law_912 : decode cL_law 912 = .ok (.invokestatic 112, 3) := by decide +kernel
theorem dL_law_915 : decode cL_law 915 = .ok (.istore 5, 2) := by decide +kernel
theorem dL_law_917 : decode cL_law 917 = .ok (.aload_n 2, 1) := by decide +kernel
theorem dL_law_918 : decode cL_law 918 = .ok (.aload_n 0, 1) := by decide +kernel
theorem dL_law_919 : decode cL_law 919 = .ok (.iload 4, 2) := by decide +kernel
theorem dL_law_921 : decode cL_law 921 = .ok (.iconst 1, 1) := by decide +kernel
theorem dL_law_922 : decode cL_law 922 = .ok (.iadd, 1) := by decide +kernel
theorem dL_law_923 : decode cL_law 923 = .ok (.iaload, 1) := by decide +kernel
theorem dL_law_924 : decode cL_law 924 = .ok (.invokevirtual 114, 3) := by decide +kernel
theorem dL_law_927 : decode cL_law 927 = .ok (.istore 6, 2) := by decide +kernel
theorem dL_law_929 : decode cL_law 929 = .ok (.aload_n 2, 1) := by decide +kernel
theorem dL_law_930 : decode cL_law 930 = .ok (.invokevirtual 69, 3) := by decide +kernel
theorem dL_law_933 : decode cL_law 933 = .ok (.iload 5, 2) := by decide +kernel
theorem dL_law_935 : decode cL_law 935 = .ok (.if_icmp .eq 5, 3) := by decide +kernel
theorem dL_law_938 : decode cL_law 938 = .ok (.iconst 0, 1) := by decide +kernel
theorem dL_law_939 : decode cL_law 939 = .ok (.ireturn, 1) := by decide +kernel
theorem dL_law_940 : decode cL_law 940 = .ok (.iload 5, 2) := by decide +kernel
theorem dL_law_942 : decode cL_law 942 = .ok (.ifCond .ne 15, 3) := by decide +kernel
theorem dL_law_945 : decode cL_law 945 = .ok (.aload_n 3, 1) := by decide +kernel
theorem dL_law_946 : decode cL_law 946 = .ok (.iconst 0, 1) := by decide +kernel
theorem dL_law_947 : decode cL_law 947 = .ok (.laload, 1) := by decide +kernel
theorem dL_law_948 : decode cL_law 948 = .ok (.iload 6, 2) := by decide +kernel
theorem dL_law_950 : decode cL_law 950 = .ok (.i2l, 1) := by decide +kernel
theorem dL_law_951 : decode cL_law 951 = .ok (.lcmp, 1) := by decide +kernel
theorem dL_law_952 : decode cL_law 952 = .ok (.ifCond .eq 5, 3) := by decide +kernel
theorem dL_law_955 : decode cL_law 955 = .ok (.iconst 0, 1) := by decide +kernel
theorem dL_law_956 : decode cL_law 956 = .ok (.ireturn, 1) := by decide +kernel
theorem dL_law_957 : decode cL_law 957 = .ok (.goto 58, 3) := by decide +kernel
theorem dL_law_960 : decode cL_law 960 = .ok (.aload_n 1, 1) := by decide +kernel
theorem dL_law_961 : decode cL_law 961 = .ok (.invokevirtual 115, 3) := by decide +kernel
theorem dL_law_964 : decode cL_law 964 = .ok (.dstore 5, 2) := by decide +kernel
theorem dL_law_966 : decode cL_law 966 = .ok (.aload_n 2, 1) := by decide +kernel
theorem dL_law_967 : decode cL_law 967 = .ok (.invokevirtual 119, 3) := by decide +kernel
theorem dL_law_970 : decode cL_law 970 = .ok (.dstore 7, 2) := by decide +kernel
theorem dL_law_972 : decode cL_law 972 = .ok (.dload 5, 2) := by decide +kernel
theorem dL_law_974 : decode cL_law 974 = .ok (.dload 7, 2) := by decide +kernel
theorem dL_law_976 : decode cL_law 976 = .ok (.dcmp .l, 1) := by decide +kernel
theorem dL_law_977 : decode cL_law 977 = .ok (.ifCond .eq 21, 3) := by decide +kernel
theorem dL_law_980 : decode cL_law 980 = .ok (.dload 5, 2) := by decide +kernel
theorem dL_law_982 : decode cL_law 982 = .ok (.dload 5, 2) := by decide +kernel
theorem dL_law_984 : decode cL_law 984 = .ok (.dcmp .l, 1) := by decide +kernel
theorem dL_law_985 : decode cL_law 985 = .ok (.ifCond .eq 11, 3) := by decide +kernel
theorem dL_law_988 : decode cL_law 988 = .ok (.dload 7, 2) := by decide +kernel
theorem dL_law_990 : decode cL_law 990 = .ok (.dload 7, 2) := by decide +kernel
theorem dL_law_992 : decode cL_law 992 = .ok (.dcmp .l, 1) := by decide +kernel
theorem dL_law_993 : decode cL_law 993 = .ok (.ifCond .ne 5, 3) := by decide +kernel
theorem dL_law_996 : decode cL_law 996 = .ok (.iconst 0, 1) := by decide +kernel
theorem dL_law_997 : decode cL_law 997 = .ok (.ireturn, 1) := by decide +kernel
theorem dL_law_998 : decode cL_law 998 = .ok (.goto 17, 3) := by decide +kernel
theorem dL_law_1001 : decode cL_law 1001 = .ok (.aload_n 1, 1) := by decide +kernel
theorem dL_law_1002 : decode cL_law 1002 = .ok (.invokevirtual 120, 3) := by decide +kernel
theorem dL_law_1005 : decode cL_law 1005 = .ok (.aload_n 2, 1) := by decide +kernel
theorem dL_law_1006 : decode cL_law 1006 = .ok (.invokevirtual 124, 3) := by decide +kernel
theorem dL_law_1009 : decode cL_law 1009 = .ok (.lcmp, 1) := by decide +kernel
theorem dL_law_1010 : decode cL_law 1010 = .ok (.ifCond .eq 5, 3) := by decide +kernel
theorem dL_law_1013 : decode cL_law 1013 = .ok (.iconst 0, 1) := by decide +kernel
theorem dL_law_1014 : decode cL_law 1014 = .ok (.ireturn, 1) := by decide +kernel
theorem dL_law_1015 : decode cL_law 1015 = .ok (.iinc 4 4, 3) := by decide +kernel
theorem dL_law_1018 : decode cL_law 1018 = .ok (.goto (-995), 3) := by decide +kernel
theorem dL_law_1021 : decode cL_law 1021 = .ok (.iconst 1, 1) := by decide +kernel
theorem dL_law_1022 : decode cL_law 1022 = .ok (.ireturn, 1) := by decide +kernel
end
section
/-! What every contract below speaks of: a start with its world, what a throw needs of the tables, an end with its world. -/
abbrev zE1 : String := "java/lang/IndexOutOfBoundsException"
abbrev zE2 : String := "java/lang/IllegalArgumentException"
/-- what throws and makings need beside the words: class tables, the texts of three messages, two statics of Throwable, arrays of arrays -/
def zx_Z (A : Nat → Prop) (U : State) (H : Heap) : Prop :=
  va_Nw (.castable "java/lang/IndexOutOfBoundsException" "java/lang/IndexOutOfBoundsException") U ∧ va_Nw (.castable "java/lang/IllegalArgumentException" "java/lang/IllegalArgumentException") U ∧
  va_Nw (.declares ⟨"java/lang/RuntimeException", "<init>", "(Ljava/lang/String;)V"⟩) U ∧ va_Nw (.declares ⟨"java/lang/Exception", "<init>", "(Ljava/lang/String;)V"⟩) U ∧ va_Nw (.declares ⟨"java/lang/Throwable", "<init>", "(Ljava/lang/String;)V"⟩) U ∧
  (∃ a : Nat, vk_R RX0 151 "no such general" a U) ∧ (∃ a : Nat, vk_R RX0 159 "no such rounds" a U) ∧ (∃ a : Nat, vk_R RX0 94 "no such count" a U) ∧
  vx_Zq Bundle.tN "UNASSIGNED_STACK" Bundle.steD A U H ∧ vx_Zq Bundle.tN "SUPPRESSED_SENTINEL" Bundle.listD A U H ∧ va_AOA .int U
theorem zx_Z.same {A : Nat → Prop} {u U : State} {H : Heap} (hv : U.vm = u.vm) (h : zx_Z A u H) : zx_Z A U H := by
  obtain ⟨h1, h2, h3, h4, h5, ⟨a1, h6⟩, ⟨a2, h7⟩, ⟨a3, h8⟩, h9, h10, h11⟩ := h
  have hal : u.vm.Alike U.vm := by rw [hv]; exact Vm.Alike.refl _
  exact ⟨va_Nw.same rfl hv.symm h1, va_Nw.same rfl hv.symm h2, va_Nw.same rfl hv.symm h3, va_Nw.same rfl hv.symm h4, va_Nw.same rfl hv.symm h5, ⟨a1, vk_R.same hv h6⟩, ⟨a2, vk_R.same hv h7⟩, ⟨a3, vk_R.same hv h8⟩, vx_Zq.moved hal h9, vx_Zq.moved hal h10, va_AOA.moved hal h11⟩
theorem zx_Z.warm {A : Nat → Prop} {s U : State} {H : Heap} (hW : s.WarmedH U.vm) (h : zx_Z A s H) : zx_Z A U H := by
  obtain ⟨h1, h2, h3, h4, h5, ⟨a1, h6⟩, ⟨a2, h7⟩, ⟨a3, h8⟩, h9, h10, h11⟩ := h
  exact ⟨va_Nw.warmC hW h1, va_Nw.warmC hW h2, va_Nw.warmD hW h3, va_Nw.warmD hW h4, va_Nw.warmD hW h5, ⟨a1, vk_R.warm hW h6⟩, ⟨a2, vk_R.warm hW h7⟩, ⟨a3, vk_R.warm hW h8⟩, vx_Zq.moved hW.alike h9, vx_Zq.moved hW.alike h10, va_AOA.moved hW.alike h11⟩
theorem zx_Z.kept {A B : Nat → Prop} {U : State} {H H1 : Heap} (h : zx_Z A U H) (hq : ∀ a : Nat, a < H.size → ¬ A a → H1[a]? = H[a]?) (hAB : ∀ q, B q → A q) : zx_Z B U H1 := by
  obtain ⟨h1, h2, h3, h4, h5, h6, h7, h8, h9, h10, h11⟩ := h
  exact ⟨h1, h2, h3, h4, h5, h6, h7, h8, vx_Zq.narrow (vx_Zq.kept h9 hq) hAB, vx_Zq.narrow (vx_Zq.kept h10 hq) hAB, h11⟩
/-- a start: the world ws, the heap sz cells high -/
def zx_pre (D : va_G) (ws : va_W) (tys : List (ClassId × FieldType)) (sz : Nat) (U : State) : Prop :=
  U.heap.size = sz ∧ va_P D vwCl ws U.heap ∧ va_K D vwCl tys U ∧ va_D (fun _ => True) ws ∧ zx_Z (va_A ws sz) U U.heap
/-- an end: the world ws -/
abbrev zx_at (D : va_G) (ws : va_W) (tys : List (ClassId × FieldType)) (A : Nat → Prop) (t : State) : Prop :=
  va_P D vwCl ws t.heap ∧ va_K D vwCl tys t ∧ va_D A ws
theorem zx_blind {D : va_G} {ws : va_W} {tys : List (ClassId × FieldType)} {sz : Nat} {av : List Value} : FrameBlind (va_Pc av (zx_pre D ws tys sz)) := fun a U g mk q => by
  obtain ⟨q0, q1, q2, q3, q4, q5⟩ := q
  exact ⟨q0, q1, q2, va_K.moved (u := U) (U := U.calling g mk a) (Vm.Alike.refl U.vm) q3, q4, zx_Z.same (u := U) (U := U.calling g mk a) rfl q5⟩
theorem zx_go {D : va_G} {ws : va_W} {tys : List (ClassId × FieldType)} {A : Nat → Prop} {s : State} {H : Heap} {locs : List Loc} (hP : va_P D vwCl ws H) (hK : va_K D vwCl tys s) (hD : va_D A ws) (hZ : zx_Z A s s.heap) (hS : va_S A s.heap H locs) (hF : ∀ q, va_A ws H.size q → A q) {U : State} (hU : U.heap = H) (hW : s.WarmedH U.vm) : zx_pre D ws tys H.size U := by
  refine ⟨by rw [hU], by rw [hU]; exact hP, va_K.moved hW.alike hK, hD.weaken (fun _ _ _ _ => trivial), ?_⟩
  rw [hU]
  exact zx_Z.warm hW (hZ.kept hS.2.1 hF)
theorem zx_nilP {D : va_G} {cl : List vw_C} {H : Heap} : va_P D cl [] H := fun k q h => by simp at h
theorem zx_nilD {A : Nat → Prop} : va_D A [] := ⟨fun i j p q h => by simp at h, fun k q h => by simp at h⟩
theorem zx_in {i : Int32} {n : Nat} (h : (decide (0 ≤ i.toInt) && decide (i.toInt < n)) = true) : vp_in i n := by
  simp only [Bool.and_eq_true, decide_eq_true_eq] at h
  exact vp_in_iff.mpr h
theorem zx_neg {v : Int32} (h1 : ¬ v < 0) (h2 : ¬ (-1) < v) : False := by
  have a1 := mt Int32.lt_iff_toInt_lt.mpr h1
  have a2 := mt Int32.lt_iff_toInt_lt.mpr h2
  have e0 : (0 : Int32).toInt = 0 := by decide
  have e1 : (-1 : Int32).toInt = -1 := by decide
  rw [e0] at a1
  rw [e1] at a2
  omega
theorem zx_nle {a b : Int32} (h : ¬ a ≤ b) : b < a := by
  have a1 := mt Int32.le_iff_toInt_le.mpr h
  exact Int32.lt_iff_toInt_lt.mpr (by omega)
theorem zx_le {a b : Int32} (h : a ≤ b) : ¬ b < a := fun q => by
  have a1 := Int32.le_iff_toInt_le.mp h
  have a2 := Int32.lt_iff_toInt_lt.mp q
  omega
/-- what count tells of a new camp -/
def zx_c (w : Int32) : Int32 := if w = 1 then 1 else if w = 0 ∨ w = 2 ∨ w = 3 then 0 else -1
end
section
set_option maxHeartbeats 4000000 in
set_option maxRecDepth 100000 in
/-- isGeneral of a new camp: nobody is -/
theorem c_X0_isGeneral (l : Launch) (dC : Nat → ClassId) (dI : Nat → Nat → Nat) (h0 : Nat) (v : Nat → Value) (p0 : Int32) (sz : Nat) : Met l yX0_isGeneral wsX0_isGeneral ({ frames := 8, cells := 0, slots := 0, locals := 120 }) (va_Pc [.ref h0, .int p0] (zx_pre (dC, dI) [(h0, .inr (0, [.int 0, .int 1, .int 0, .int 0, v 4, v 5, v 6, v 7, .int 0, .int 0, .int 0, .int 0, v 12, v 13, v 14, v 15, v 16, v 17]))] [] sz)) (va_Qi (fun (r : Int32) (u : Unit) => r = 0) (fun (u : Unit) => zx_at (dC, dI) [(h0, .inr (0, [.int 0, .int 1, .int 0, .int 0, v 4, v 5, v 6, v 7, .int 0, .int 0, .int 0, .int 0, v 12, v 13, v 14, v 15, v 16, v 17]))] [] (va_A [(h0, .inr (0, [.int 0, .int 1, .int 0, .int 0, v 4, v 5, v 6, v 7, .int 0, .int 0, .int 0, .int 0, v 12, v 13, v 14, v 15, v 16, v 17]))] sz)) (va_A [(h0, .inr (0, [.int 0, .int 1, .int 0, .int 0, v 4, v 5, v 6, v 7, .int 0, .int 0, .int 0, .int 0, v 12, v 13, v 14, v 15, v 16, v 17]))] sz)) 0 0 (va_A [(h0, .inr (0, [.int 0, .int 1, .int 0, .int 0, v 4, v 5, v 6, v 7, .int 0, .int 0, .int 0, .int 0, v 12, v 13, v 14, v 15, v 16, v 17]))] sz) := by
  refine Met.ofW (cc := cX0_isGeneral) (maxL := 2) (ret := (some .boolean)) (by decide) rfl ?_
  intro p e s m args below meth c s₁ B hml hv
  obtain ⟨rfl, hsz, hP, hK, hD0, hZ⟩ := hv
  have hx := B.exec
  have hb := B.bytes
  have hr := B.returns
  have hts := atoms_spec (ws := wsX0_isGeneral) B.pre
  have hown : s.vm.findClass RX0 = some m.cls := findClass_of_methodNamed B.named
  have hlocks := B.notSynchronized
  subst hsz
  have hD := hD0.self (sz := s.heap.size)
  generalize hAe : va_A [(h0, .inr (0, [.int 0, .int 1, .int 0, .int 0, v 4, v 5, v 6, v 7, .int 0, .int 0, .int 0, .int 0, v 12, v 13, v 14, v 15, v 16, v 17]))] s.heap.size = A at hD hZ ⊢
  have hA : ∀ q : Nat, s.heap.size ≤ q → A q := fun q h => by rw [← hAe]; exact Or.inr h
  have hS : va_S A s.heap s.heap [] := va_S.rf
  have hP : va_P (dC, dI) vwCl [(h0, .inr (0, [.int 0, .int 1, .int 0, .int 0, v 4, v 5, v 6, v 7, .int 0, .int 0, .int 0, .int 0, v 12, v 13, v 14, v 15, v 16, v 17]))] s.heap := hP
  have hl := lv_entry ([.ref h0, .int p0]) (n := 2) (Nat.le_of_ble_eq_true rfl)
  rw [lg_entry_eq]
  generalize (lg_sl ([.ref h0, .int p0]) ++ List.replicate (2 - (lg_sl ([.ref h0, .int p0])).length) Slot.unset).toArray = ls at hl ⊢
  have hl : lv_has ls 2 [(0, .ref h0), (1, .int p0)] := hl
  refine lv_iload_n hx hb dX0_isGeneral_0 rfl (lv_at hl 1 rfl) ?_
  refine lv_if_lt (tgt := 16) hx hb dX0_isGeneral_1 (by decide) (fun c1 => ?_) (fun c1 => ?_)
  · skip
    refine lv_iconst (v := 0) hx hb dX0_isGeneral_16 (by decide) ?_
    have hP9 := hP.sub (ws' := [(h0, .inr (0, [.int 0, .int 1, .int 0, .int 0, v 4, v 5, v 6, v 7, .int 0, .int 0, .int 0, .int 0, v 12, v 13, v 14, v 15, v 16, v 17]))]) [0] rfl
    have hD9 := hD.sub (ws' := [(h0, .inr (0, [.int 0, .int 1, .int 0, .int 0, v 4, v 5, v 6, v 7, .int 0, .int 0, .int 0, .int 0, v 12, v 13, v 14, v 15, v 16, v 17]))]) [0] (by decide) rfl
    have hK9 := hK.sub (tys' := []) [] rfl
    refine W.widen (k := 0) (n := 0) (by omega) (by omega) ?_
    exact W.zret (v := 0) hx hb hr rfl (fun t ht hW => ⟨⟨0, (), rfl, rfl, by rw [ht]; exact hP9, va_K.moved hW.alike hK9, hD9⟩, hS.F ht⟩) hS.2.2 dX0_isGeneral_17
  · skip
    refine lv_iload_n hx hb dX0_isGeneral_4 rfl (lv_at hl 1 rfl) ?_
    refine lv_aload_n hx hb dX0_isGeneral_5 rfl (lv_at hl 0 rfl) ?_
    refine va_get (D := (dC, dI)) (ci := 0) (v := .int 0) (C := RX0) (T := TX0) (N := 18) hx hb hts (by decide +kernel) hown hK hP 0 rfl rfl 0 (by decide) (hts (.fieldLink RX0 46 "LiarTents" "generals" "I") (by decide +kernel)) (fun _ h9 => h9) rfl dX0_isGeneral_6 ?_
    refine lv_icmp_ge (tgt := 16) hx hb dX0_isGeneral_9 (by decide) (fun c2 => ?_) (fun c2 => absurd (Int32.not_lt.mp c1) c2)
    refine lv_iconst (v := 0) hx hb dX0_isGeneral_16 (by decide) ?_
    have hP9 := hP.sub (ws' := [(h0, .inr (0, [.int 0, .int 1, .int 0, .int 0, v 4, v 5, v 6, v 7, .int 0, .int 0, .int 0, .int 0, v 12, v 13, v 14, v 15, v 16, v 17]))]) [0] rfl
    have hD9 := hD.sub (ws' := [(h0, .inr (0, [.int 0, .int 1, .int 0, .int 0, v 4, v 5, v 6, v 7, .int 0, .int 0, .int 0, .int 0, v 12, v 13, v 14, v 15, v 16, v 17]))]) [0] (by decide) rfl
    have hK9 := hK.sub (tys' := []) [] rfl
    refine W.widen (k := 0) (n := 0) (by omega) (by omega) ?_
    exact W.zret (v := 0) hx hb hr rfl (fun t ht hW => ⟨⟨0, (), rfl, rfl, by rw [ht]; exact hP9, va_K.moved hW.alike hK9, hD9⟩, hS.F ht⟩) hS.2.2 dX0_isGeneral_17
set_option maxHeartbeats 4000000 in
set_option maxRecDepth 100000 in
/-- requireGeneral of a new camp throws -/
theorem c_X0_requireGeneral (l : Launch) (hl9 : l.stackTraces = false) (dC : Nat → ClassId) (dI : Nat → Nat → Nat) (h0 : Nat) (v : Nat → Value) (p0 : Int32) (sz : Nat) : vx_Met l yX0_requireGeneral wsX0_requireGeneral ({ frames := 9, cells := 1, slots := 6, locals := 180 }) (va_Pc [.ref h0, .int p0] (zx_pre (dC, dI) [(h0, .inr (0, [.int 0, .int 1, .int 0, .int 0, v 4, v 5, v 6, v 7, .int 0, .int 0, .int 0, .int 0, v 12, v 13, v 14, v 15, v 16, v 17]))] [] sz)) (va_Qv (fun (u : Unit) => False) (fun (u : Unit) => zx_at (dC, dI) [(h0, .inr (0, [.int 0, .int 1, .int 0, .int 0, v 4, v 5, v 6, v 7, .int 0, .int 0, .int 0, .int 0, v 12, v 13, v 14, v 15, v 16, v 17]))] [] (va_A [(h0, .inr (0, [.int 0, .int 1, .int 0, .int 0, v 4, v 5, v 6, v 7, .int 0, .int 0, .int 0, .int 0, v 12, v 13, v 14, v 15, v 16, v 17]))] sz)) (va_A [(h0, .inr (0, [.int 0, .int 1, .int 0, .int 0, v 4, v 5, v 6, v 7, .int 0, .int 0, .int 0, .int 0, v 12, v 13, v 14, v 15, v 16, v 17]))] sz)) (vx_X (fun _ : Unit => True) (fun E _ _ => E = "java/lang/IndexOutOfBoundsException") (va_A [(h0, .inr (0, [.int 0, .int 1, .int 0, .int 0, v 4, v 5, v 6, v 7, .int 0, .int 0, .int 0, .int 0, v 12, v 13, v 14, v 15, v 16, v 17]))] sz)) 1 6 (va_A [(h0, .inr (0, [.int 0, .int 1, .int 0, .int 0, v 4, v 5, v 6, v 7, .int 0, .int 0, .int 0, .int 0, v 12, v 13, v 14, v 15, v 16, v 17]))] sz) := by
  refine vx_ofW (cc := cX0_requireGeneral) (maxL := 2) (ret := none) (by decide) rfl ?_
  intro p e s m args below meth c s₁ B hml hEx hv
  obtain ⟨rfl, hsz, hP, hK, hD0, hZ⟩ := hv
  have hx := B.exec
  have hb := B.bytes
  have hr := B.returns
  have hts := atoms_spec (ws := wsX0_requireGeneral) B.pre
  have hown : s.vm.findClass RX0 = some m.cls := findClass_of_methodNamed B.named
  have hlocks := B.notSynchronized
  subst hsz
  have hD := hD0.self (sz := s.heap.size)
  generalize hAe : va_A [(h0, .inr (0, [.int 0, .int 1, .int 0, .int 0, v 4, v 5, v 6, v 7, .int 0, .int 0, .int 0, .int 0, v 12, v 13, v 14, v 15, v 16, v 17]))] s.heap.size = A at hD hZ ⊢
  have hA : ∀ q : Nat, s.heap.size ≤ q → A q := fun q h => by rw [← hAe]; exact Or.inr h
  have hS : va_S A s.heap s.heap [] := va_S.rf
  have hP : va_P (dC, dI) vwCl [(h0, .inr (0, [.int 0, .int 1, .int 0, .int 0, v 4, v 5, v 6, v 7, .int 0, .int 0, .int 0, .int 0, v 12, v 13, v 14, v 15, v 16, v 17]))] s.heap := hP
  have hl := lv_entry ([.ref h0, .int p0]) (n := 2) (Nat.le_of_ble_eq_true rfl)
  rw [lg_entry_eq]
  generalize (lg_sl ([.ref h0, .int p0]) ++ List.replicate (2 - (lg_sl ([.ref h0, .int p0])).length) Slot.unset).toArray = ls at hl ⊢
  have hl : lv_has ls 2 [(0, .ref h0), (1, .int p0)] := hl
  refine lv_aload_n hx hb dX0_requireGeneral_0 rfl (lv_at hl 0 rfl) ?_
  refine lv_iload_n hx hb dX0_requireGeneral_1 rfl (lv_at hl 1 rfl) ?_
  have hPc := hP.sub (ws' := [(h0, .inr (0, [.int 0, .int 1, .int 0, .int 0, v 4, v 5, v 6, v 7, .int 0, .int 0, .int 0, .int 0, v 12, v 13, v 14, v 15, v 16, v 17]))]) [0] rfl
  have hDc := hD.sub (ws' := [(h0, .inr (0, [.int 0, .int 1, .int 0, .int 0, v 4, v 5, v 6, v 7, .int 0, .int 0, .int 0, .int 0, v 12, v 13, v 14, v 15, v 16, v 17]))]) [0] (by decide) rfl
  have hKc := hK.sub (tys' := []) [] rfl
  have hFc := va_free (wc := [(h0, .inr (0, [.int 0, .int 1, .int 0, .int 0, v 4, v 5, v 6, v 7, .int 0, .int 0, .int 0, .int 0, v 12, v 13, v 14, v 15, v 16, v 17]))]) hD hS hA [0] rfl
  refine va_calli (va_runV (As := [.int p0]) (rest := []) ⟨hx, hb, hml, hown, hts⟩ (c_X0_isGeneral l dC dI h0 v p0 s.heap.size) (cwV 1 hts gX0_requireGeneral_X0_isGeneral rfl rfl rfl (by decide +kernel) ⟨Nat.le_of_ble_eq_true rfl, Nat.le_of_ble_eq_true rfl⟩) ⟨zx_blind, va_recv hKc hPc (ci := 0) (q0 := 0) rfl rfl, fun U hU hW => ⟨rfl, zx_go hPc hKc hDc hZ hS hFc hU hW⟩⟩ rfl rfl hl.1 rfl (lv_room (Nat.le_of_ble_eq_true rfl)) dX0_requireGeneral_2 ⟨Nat.le_of_ble_eq_true rfl, Nat.le_of_ble_eq_true rfl⟩) hS (fun q _ h => hFc q h) hFc (fun r u t H1 locs ht hvm hw hB hz1 hk1 hS => ?_)
  obtain ⟨hP1, hK1, hD1⟩ := hB
  rw [ht] at hP1
  have hK1 := va_K.moved hvm.symm hK1
  try dsimp only at hw hP1 hD1 hK1
  obtain ⟨hP, hD⟩ := va_join (wr := []) (w1 := [(h0, .inr (0, [.int 0, .int 1, .int 0, .int 0, v 4, v 5, v 6, v 7, .int 0, .int 0, .int 0, .int 0, v 12, v 13, v 14, v 15, v 16, v 17]))]) hP hD [0] [] rfl rfl (by decide) (by decide) hk1 hFc hP1 hD1
  generalize H1 = H at hP hS ⊢
  have hP : va_P (dC, dI) vwCl [(h0, .inr (0, [.int 0, .int 1, .int 0, .int 0, v 4, v 5, v 6, v 7, .int 0, .int 0, .int 0, .int 0, v 12, v 13, v 14, v 15, v 16, v 17]))] H := hP
  have hD : va_D A [(h0, .inr (0, [.int 0, .int 1, .int 0, .int 0, v 4, v 5, v 6, v 7, .int 0, .int 0, .int 0, .int 0, v 12, v 13, v 14, v 15, v 16, v 17]))] := hD
  obtain rfl := hw
  refine lv_if_ne (tgt := 18) hx hb dX0_requireGeneral_5 (by decide) (fun c1 => absurd c1 (by decide)) (fun _ => ?_)
  obtain ⟨z1, z2, z3, z4, z5, ⟨a1, z6⟩, ⟨a2, z7⟩, ⟨a3, z8⟩, z9, z10, z11⟩ := id hZ
  exact vx_throwS (own := RX0) (cls := "java/lang/IndexOutOfBoundsException") (names := ["java/lang/RuntimeException", "java/lang/Exception"]) hx hb hl9 hown (by decide +kernel) (by decide +kernel) (hts (.classLink RX0 60 "java/lang/IndexOutOfBoundsException") (by decide +kernel)) (hts (.initialized "java/lang/IndexOutOfBoundsException") (by decide +kernel)) z6 (vx_hat (L := vx_atS RX0 64 "java/lang/IndexOutOfBoundsException" ["java/lang/RuntimeException", "java/lang/Exception"]) (B := [.castable "java/lang/IndexOutOfBoundsException" "java/lang/IndexOutOfBoundsException", .declares ⟨"java/lang/RuntimeException", "<init>", "(Ljava/lang/String;)V"⟩, .declares ⟨"java/lang/Exception", "<init>", "(Ljava/lang/String;)V"⟩, .declares ⟨"java/lang/Throwable", "<init>", "(Ljava/lang/String;)V"⟩]) (fun w hw => hts w ((by decide +kernel : ∀ w ∈ (vx_atS RX0 64 "java/lang/IndexOutOfBoundsException" ["java/lang/RuntimeException", "java/lang/Exception"]).filter goodWord, w ∈ wsX0_requireGeneral) w hw)) (by decide +kernel) (vx_c (va_Nw.use rfl z1) (vx_c (va_Nw.use rfl z3) (vx_c (va_Nw.use rfl z4) (vx_c (va_Nw.use rfl z5) vx_n))))) (by decide +kernel) z9 z10 hS (hl.1.trans hml.symm) dX0_requireGeneral_8 dX0_requireGeneral_11 dX0_requireGeneral_12 dX0_requireGeneral_14 dX0_requireGeneral_17 (fun x hx => (hEx x hx).elim) (Nat.le_of_ble_eq_true rfl) (Nat.le_of_ble_eq_true rfl) (Nat.le_of_ble_eq_true rfl) (Nat.le_of_ble_eq_true rfl) hlocks (fun t ha hsz hk => ⟨(), trivial, rfl, Nat.le_trans hS.1 hsz, fun q h1 h2 => (hk q (Nat.lt_of_lt_of_le h1 hS.1)).trans (hS.2.1 q h1 h2)⟩) hS.2.2 (Nat.le_of_ble_eq_true rfl) (Nat.le_of_ble_eq_true rfl)
set_option maxHeartbeats 4000000 in
set_option maxRecDepth 100000 in
/-- requirePresent of a new camp throws -/
theorem c_X0_requirePresent (l : Launch) (hl9 : l.stackTraces = false) (dC : Nat → ClassId) (dI : Nat → Nat → Nat) (h0 : Nat) (v : Nat → Value) (p0 : Int32) (sz : Nat) : vx_Met l yX0_requirePresent wsX0_requirePresent ({ frames := 10, cells := 1, slots := 6, locals := 240 }) (va_Pc [.ref h0, .int p0] (zx_pre (dC, dI) [(h0, .inr (0, [.int 0, .int 1, .int 0, .int 0, v 4, v 5, v 6, v 7, .int 0, .int 0, .int 0, .int 0, v 12, v 13, v 14, v 15, v 16, v 17]))] [] sz)) (va_Qv (fun (u : Unit) => False) (fun (u : Unit) => zx_at (dC, dI) [(h0, .inr (0, [.int 0, .int 1, .int 0, .int 0, v 4, v 5, v 6, v 7, .int 0, .int 0, .int 0, .int 0, v 12, v 13, v 14, v 15, v 16, v 17]))] [] (va_A [(h0, .inr (0, [.int 0, .int 1, .int 0, .int 0, v 4, v 5, v 6, v 7, .int 0, .int 0, .int 0, .int 0, v 12, v 13, v 14, v 15, v 16, v 17]))] sz)) (va_A [(h0, .inr (0, [.int 0, .int 1, .int 0, .int 0, v 4, v 5, v 6, v 7, .int 0, .int 0, .int 0, .int 0, v 12, v 13, v 14, v 15, v 16, v 17]))] sz)) (vx_X (fun _ : Unit => True) (fun E _ _ => E = "java/lang/IndexOutOfBoundsException") (va_A [(h0, .inr (0, [.int 0, .int 1, .int 0, .int 0, v 4, v 5, v 6, v 7, .int 0, .int 0, .int 0, .int 0, v 12, v 13, v 14, v 15, v 16, v 17]))] sz)) 1 6 (va_A [(h0, .inr (0, [.int 0, .int 1, .int 0, .int 0, v 4, v 5, v 6, v 7, .int 0, .int 0, .int 0, .int 0, v 12, v 13, v 14, v 15, v 16, v 17]))] sz) := by
  refine vx_ofW (cc := cX0_requirePresent) (maxL := 2) (ret := none) (by decide) rfl ?_
  intro p e s m args below meth c s₁ B hml hEx hv
  obtain ⟨rfl, hsz, hP, hK, hD0, hZ⟩ := hv
  have hx := B.exec
  have hb := B.bytes
  have hr := B.returns
  have hts := atoms_spec (ws := wsX0_requirePresent) B.pre
  have hown : s.vm.findClass RX0 = some m.cls := findClass_of_methodNamed B.named
  have hlocks := B.notSynchronized
  subst hsz
  have hD := hD0.self (sz := s.heap.size)
  generalize hAe : va_A [(h0, .inr (0, [.int 0, .int 1, .int 0, .int 0, v 4, v 5, v 6, v 7, .int 0, .int 0, .int 0, .int 0, v 12, v 13, v 14, v 15, v 16, v 17]))] s.heap.size = A at hD hZ ⊢
  have hA : ∀ q : Nat, s.heap.size ≤ q → A q := fun q h => by rw [← hAe]; exact Or.inr h
  have hS : va_S A s.heap s.heap [] := va_S.rf
  have hP : va_P (dC, dI) vwCl [(h0, .inr (0, [.int 0, .int 1, .int 0, .int 0, v 4, v 5, v 6, v 7, .int 0, .int 0, .int 0, .int 0, v 12, v 13, v 14, v 15, v 16, v 17]))] s.heap := hP
  have hl := lv_entry ([.ref h0, .int p0]) (n := 2) (Nat.le_of_ble_eq_true rfl)
  rw [lg_entry_eq]
  generalize (lg_sl ([.ref h0, .int p0]) ++ List.replicate (2 - (lg_sl ([.ref h0, .int p0])).length) Slot.unset).toArray = ls at hl ⊢
  have hl : lv_has ls 2 [(0, .ref h0), (1, .int p0)] := hl
  refine lv_aload_n hx hb dX0_requirePresent_0 rfl (lv_at hl 0 rfl) ?_
  refine lv_iload_n hx hb dX0_requirePresent_1 rfl (lv_at hl 1 rfl) ?_
  have hPc := hP.sub (ws' := [(h0, .inr (0, [.int 0, .int 1, .int 0, .int 0, v 4, v 5, v 6, v 7, .int 0, .int 0, .int 0, .int 0, v 12, v 13, v 14, v 15, v 16, v 17]))]) [0] rfl
  have hDc := hD.sub (ws' := [(h0, .inr (0, [.int 0, .int 1, .int 0, .int 0, v 4, v 5, v 6, v 7, .int 0, .int 0, .int 0, .int 0, v 12, v 13, v 14, v 15, v 16, v 17]))]) [0] (by decide) rfl
  have hKc := hK.sub (tys' := []) [] rfl
  have hFc := va_free (wc := [(h0, .inr (0, [.int 0, .int 1, .int 0, .int 0, v 4, v 5, v 6, v 7, .int 0, .int 0, .int 0, .int 0, v 12, v 13, v 14, v 15, v 16, v 17]))]) hD hS hA [0] rfl
  refine vx_callv (vx_runV (As := [.int p0]) (rest := []) ⟨hx, hb, hml, hown, hts⟩ (c_X0_requireGeneral l hl9 dC dI h0 v p0 s.heap.size) (cwV 1 hts gX0_requirePresent_X0_requireGeneral rfl rfl rfl (by decide +kernel) ⟨Nat.le_of_ble_eq_true rfl, Nat.le_of_ble_eq_true rfl⟩) ⟨zx_blind, va_recv hKc hPc (ci := 0) (q0 := 0) rfl rfl, fun U hU hW => ⟨rfl, zx_go hPc hKc hDc hZ hS hFc hU hW⟩⟩ rfl rfl hl.1 rfl (lv_room (Nat.le_of_ble_eq_true rfl)) dX0_requirePresent_2 ⟨Nat.le_of_ble_eq_true rfl, Nat.le_of_ble_eq_true rfl⟩) hS (fun q _ h => hFc q h) hFc (fun q _ h => hFc q h) (fun E ce q9 u t H1 locs ht hvm hw hB hz1 hk1 hS hce hcv hcl => ?_) (fun u t H1 locs ht hvm hw hB hz1 hk1 hS => ?_)
  · skip
    obtain rfl := hB
    exact vx_out (fun x hx => (hEx x hx).elim) hlocks hce hcv hcl (fun t ht ha => ⟨(), hw, rfl, hS.F ht⟩) hS.2.2 (Nat.le_of_ble_eq_true rfl) (Nat.le_of_ble_eq_true rfl)
  · skip
    exact hw.elim
set_option maxHeartbeats 4000000 in
set_option maxRecDepth 100000 in
/-- requireRounds -/
theorem c_X0_requireRounds (l : Launch) (hl9 : l.stackTraces = false) (dC : Nat → ClassId) (dI : Nat → Nat → Nat) (p0 : Int32) (sz : Nat) : vx_Met l yX0_requireRounds wsX0_requireRounds ({ frames := 9, cells := 1, slots := 6, locals := 180 }) (va_Pc [.int p0] (zx_pre (dC, dI) [] [] sz)) (va_Qv (fun (u : Unit) => ¬ p0 < 0 ∧ ¬ 3 < p0) (fun (u : Unit) => zx_at (dC, dI) [] [] (va_A [] sz)) (va_A [] sz)) (vx_X (fun _ : Unit => p0 < 0 ∨ 3 < p0) (fun E _ _ => E = "java/lang/IllegalArgumentException") (va_A [] sz)) 1 6 (va_A [] sz) := by
  refine vx_ofW (cc := cX0_requireRounds) (maxL := 1) (ret := none) (by decide) rfl ?_
  intro p e s m args below meth c s₁ B hml hEx hv
  obtain ⟨rfl, hsz, hP, hK, hD0, hZ⟩ := hv
  have hx := B.exec
  have hb := B.bytes
  have hr := B.returns
  have hts := atoms_spec (ws := wsX0_requireRounds) B.pre
  have hown : s.vm.findClass RX0 = some m.cls := findClass_of_methodNamed B.named
  have hlocks := B.notSynchronized
  subst hsz
  have hD := hD0.self (sz := s.heap.size)
  generalize hAe : va_A [] s.heap.size = A at hD hZ ⊢
  have hA : ∀ q : Nat, s.heap.size ≤ q → A q := fun q h => by rw [← hAe]; exact Or.inr h
  have hS : va_S A s.heap s.heap [] := va_S.rf
  have hP : va_P (dC, dI) vwCl [] s.heap := hP
  have hl := lv_entry ([.int p0]) (n := 1) (Nat.le_of_ble_eq_true rfl)
  rw [lg_entry_eq]
  generalize (lg_sl ([.int p0]) ++ List.replicate (1 - (lg_sl ([.int p0])).length) Slot.unset).toArray = ls at hl ⊢
  have hl : lv_has ls 1 [(0, .int p0)] := hl
  refine lv_iload_n hx hb dX0_requireRounds_0 rfl (lv_at hl 0 rfl) ?_
  refine lv_if_lt (tgt := 9) hx hb dX0_requireRounds_1 (by decide) (fun c1 => ?_) (fun c1 => ?_)
  · skip
    obtain ⟨z1, z2, z3, z4, z5, ⟨a1, z6⟩, ⟨a2, z7⟩, ⟨a3, z8⟩, z9, z10, z11⟩ := id hZ
    exact vx_throwS (own := RX0) (cls := "java/lang/IllegalArgumentException") (names := ["java/lang/RuntimeException", "java/lang/Exception"]) hx hb hl9 hown (by decide +kernel) (by decide +kernel) (hts (.classLink RX0 105 "java/lang/IllegalArgumentException") (by decide +kernel)) (hts (.initialized "java/lang/IllegalArgumentException") (by decide +kernel)) z7 (vx_hat (L := vx_atS RX0 109 "java/lang/IllegalArgumentException" ["java/lang/RuntimeException", "java/lang/Exception"]) (B := [.castable "java/lang/IllegalArgumentException" "java/lang/IllegalArgumentException", .declares ⟨"java/lang/RuntimeException", "<init>", "(Ljava/lang/String;)V"⟩, .declares ⟨"java/lang/Exception", "<init>", "(Ljava/lang/String;)V"⟩, .declares ⟨"java/lang/Throwable", "<init>", "(Ljava/lang/String;)V"⟩]) (fun w hw => hts w ((by decide +kernel : ∀ w ∈ (vx_atS RX0 109 "java/lang/IllegalArgumentException" ["java/lang/RuntimeException", "java/lang/Exception"]).filter goodWord, w ∈ wsX0_requireRounds) w hw)) (by decide +kernel) (vx_c (va_Nw.use rfl z2) (vx_c (va_Nw.use rfl z3) (vx_c (va_Nw.use rfl z4) (vx_c (va_Nw.use rfl z5) vx_n))))) (by decide +kernel) z9 z10 hS (hl.1.trans hml.symm) dX0_requireRounds_9 dX0_requireRounds_12 dX0_requireRounds_13 dX0_requireRounds_15 dX0_requireRounds_18 (fun x hx => (hEx x hx).elim) (Nat.le_of_ble_eq_true rfl) (Nat.le_of_ble_eq_true rfl) (Nat.le_of_ble_eq_true rfl) (Nat.le_of_ble_eq_true rfl) hlocks (fun t ha hsz hk => ⟨(), Or.inl c1, rfl, Nat.le_trans hS.1 hsz, fun q h1 h2 => (hk q (Nat.lt_of_lt_of_le h1 hS.1)).trans (hS.2.1 q h1 h2)⟩) hS.2.2 (Nat.le_of_ble_eq_true rfl) (Nat.le_of_ble_eq_true rfl)
  · skip
    refine lv_iload_n hx hb dX0_requireRounds_4 rfl (lv_at hl 0 rfl) ?_
    refine lv_iconst (v := 3) hx hb dX0_requireRounds_5 (by decide) ?_
    refine lv_icmp_le (tgt := 19) hx hb dX0_requireRounds_6 (by decide) (fun c2 => ?_) (fun c2 => ?_)
    · skip
      refine vx_ret ?_
      have hP9 := hP.sub (ws' := []) [] rfl
      have hD9 := hD.sub (ws' := []) [] (by decide) rfl
      have hK9 := hK.sub (tys' := []) [] rfl
      refine W.widen (k := 1) (n := 6) (by omega) (by omega) ?_
      exact W.vret hx hb hr (fun t ht hW => ⟨⟨(), rfl, ⟨c1, zx_le c2⟩, by rw [ht]; exact hP9, va_K.moved hW.alike hK9, hD9⟩, hS.F ht⟩) hS.2.2 dX0_requireRounds_19
    · skip
      obtain ⟨z1, z2, z3, z4, z5, ⟨a1, z6⟩, ⟨a2, z7⟩, ⟨a3, z8⟩, z9, z10, z11⟩ := id hZ
      exact vx_throwS (own := RX0) (cls := "java/lang/IllegalArgumentException") (names := ["java/lang/RuntimeException", "java/lang/Exception"]) hx hb hl9 hown (by decide +kernel) (by decide +kernel) (hts (.classLink RX0 105 "java/lang/IllegalArgumentException") (by decide +kernel)) (hts (.initialized "java/lang/IllegalArgumentException") (by decide +kernel)) z7 (vx_hat (L := vx_atS RX0 109 "java/lang/IllegalArgumentException" ["java/lang/RuntimeException", "java/lang/Exception"]) (B := [.castable "java/lang/IllegalArgumentException" "java/lang/IllegalArgumentException", .declares ⟨"java/lang/RuntimeException", "<init>", "(Ljava/lang/String;)V"⟩, .declares ⟨"java/lang/Exception", "<init>", "(Ljava/lang/String;)V"⟩, .declares ⟨"java/lang/Throwable", "<init>", "(Ljava/lang/String;)V"⟩]) (fun w hw => hts w ((by decide +kernel : ∀ w ∈ (vx_atS RX0 109 "java/lang/IllegalArgumentException" ["java/lang/RuntimeException", "java/lang/Exception"]).filter goodWord, w ∈ wsX0_requireRounds) w hw)) (by decide +kernel) (vx_c (va_Nw.use rfl z2) (vx_c (va_Nw.use rfl z3) (vx_c (va_Nw.use rfl z4) (vx_c (va_Nw.use rfl z5) vx_n))))) (by decide +kernel) z9 z10 hS (hl.1.trans hml.symm) dX0_requireRounds_9 dX0_requireRounds_12 dX0_requireRounds_13 dX0_requireRounds_15 dX0_requireRounds_18 (fun x hx => (hEx x hx).elim) (Nat.le_of_ble_eq_true rfl) (Nat.le_of_ble_eq_true rfl) (Nat.le_of_ble_eq_true rfl) (Nat.le_of_ble_eq_true rfl) hlocks (fun t ha hsz hk => ⟨(), Or.inr (zx_nle c2), rfl, Nat.le_trans hS.1 hsz, fun q h1 h2 => (hk q (Nat.lt_of_lt_of_le h1 hS.1)).trans (hS.2.1 q h1 h2)⟩) hS.2.2 (Nat.le_of_ble_eq_true rfl) (Nat.le_of_ble_eq_true rfl)
end
section
set_option maxHeartbeats 4000000 in
set_option maxRecDepth 100000 in
/-- setKind of a new camp throws -/
theorem c_X0_setKind (l : Launch) (hl9 : l.stackTraces = false) (dC : Nat → ClassId) (dI : Nat → Nat → Nat) (h0 : Nat) (v : Nat → Value) (p0 p1 : Int32) (sz : Nat) : vx_Met l yX0_setKind wsX0_setKind ({ frames := 11, cells := 1, slots := 6, locals := 300 }) (va_Pc [.ref h0, .int p0, .int p1] (zx_pre (dC, dI) [(h0, .inr (0, [.int 0, .int 1, .int 0, .int 0, v 4, v 5, v 6, v 7, .int 0, .int 0, .int 0, .int 0, v 12, v 13, v 14, v 15, v 16, v 17]))] [] sz)) (va_Qi (fun (r : Int32) (u : Unit) => False) (fun (u : Unit) => zx_at (dC, dI) [(h0, .inr (0, [.int 0, .int 1, .int 0, .int 0, v 4, v 5, v 6, v 7, .int 0, .int 0, .int 0, .int 0, v 12, v 13, v 14, v 15, v 16, v 17]))] [] (va_A [(h0, .inr (0, [.int 0, .int 1, .int 0, .int 0, v 4, v 5, v 6, v 7, .int 0, .int 0, .int 0, .int 0, v 12, v 13, v 14, v 15, v 16, v 17]))] sz)) (va_A [(h0, .inr (0, [.int 0, .int 1, .int 0, .int 0, v 4, v 5, v 6, v 7, .int 0, .int 0, .int 0, .int 0, v 12, v 13, v 14, v 15, v 16, v 17]))] sz)) (vx_X (fun _ : Unit => True) (fun E _ _ => E = "java/lang/IndexOutOfBoundsException") (va_A [(h0, .inr (0, [.int 0, .int 1, .int 0, .int 0, v 4, v 5, v 6, v 7, .int 0, .int 0, .int 0, .int 0, v 12, v 13, v 14, v 15, v 16, v 17]))] sz)) 1 6 (va_A [(h0, .inr (0, [.int 0, .int 1, .int 0, .int 0, v 4, v 5, v 6, v 7, .int 0, .int 0, .int 0, .int 0, v 12, v 13, v 14, v 15, v 16, v 17]))] sz) := by
  refine vx_ofW (cc := cX0_setKind) (maxL := 4) (ret := (some .int)) (by decide) rfl ?_
  intro p e s m args below meth c s₁ B hml hEx hv
  obtain ⟨rfl, hsz, hP, hK, hD0, hZ⟩ := hv
  have hx := B.exec
  have hb := B.bytes
  have hr := B.returns
  have hts := atoms_spec (ws := wsX0_setKind) B.pre
  have hown : s.vm.findClass RX0 = some m.cls := findClass_of_methodNamed B.named
  have hlocks := B.notSynchronized
  subst hsz
  have hD := hD0.self (sz := s.heap.size)
  generalize hAe : va_A [(h0, .inr (0, [.int 0, .int 1, .int 0, .int 0, v 4, v 5, v 6, v 7, .int 0, .int 0, .int 0, .int 0, v 12, v 13, v 14, v 15, v 16, v 17]))] s.heap.size = A at hD hZ ⊢
  have hA : ∀ q : Nat, s.heap.size ≤ q → A q := fun q h => by rw [← hAe]; exact Or.inr h
  have hS : va_S A s.heap s.heap [] := va_S.rf
  have hP : va_P (dC, dI) vwCl [(h0, .inr (0, [.int 0, .int 1, .int 0, .int 0, v 4, v 5, v 6, v 7, .int 0, .int 0, .int 0, .int 0, v 12, v 13, v 14, v 15, v 16, v 17]))] s.heap := hP
  have hl := lv_entry ([.ref h0, .int p0, .int p1]) (n := 4) (Nat.le_of_ble_eq_true rfl)
  rw [lg_entry_eq]
  generalize (lg_sl ([.ref h0, .int p0, .int p1]) ++ List.replicate (4 - (lg_sl ([.ref h0, .int p0, .int p1])).length) Slot.unset).toArray = ls at hl ⊢
  have hl : lv_has ls 4 [(0, .ref h0), (1, .int p0), (2, .int p1)] := hl
  refine lv_aload_n hx hb dX0_setKind_0 rfl (lv_at hl 0 rfl) ?_
  refine lv_iload_n hx hb dX0_setKind_1 rfl (lv_at hl 1 rfl) ?_
  have hPc := hP.sub (ws' := [(h0, .inr (0, [.int 0, .int 1, .int 0, .int 0, v 4, v 5, v 6, v 7, .int 0, .int 0, .int 0, .int 0, v 12, v 13, v 14, v 15, v 16, v 17]))]) [0] rfl
  have hDc := hD.sub (ws' := [(h0, .inr (0, [.int 0, .int 1, .int 0, .int 0, v 4, v 5, v 6, v 7, .int 0, .int 0, .int 0, .int 0, v 12, v 13, v 14, v 15, v 16, v 17]))]) [0] (by decide) rfl
  have hKc := hK.sub (tys' := []) [] rfl
  have hFc := va_free (wc := [(h0, .inr (0, [.int 0, .int 1, .int 0, .int 0, v 4, v 5, v 6, v 7, .int 0, .int 0, .int 0, .int 0, v 12, v 13, v 14, v 15, v 16, v 17]))]) hD hS hA [0] rfl
  refine vx_callv (vx_runV (As := [.int p0]) (rest := []) ⟨hx, hb, hml, hown, hts⟩ (c_X0_requireGeneral l hl9 dC dI h0 v p0 s.heap.size) (cwV 1 hts gX0_setKind_X0_requireGeneral rfl rfl rfl (by decide +kernel) ⟨Nat.le_of_ble_eq_true rfl, Nat.le_of_ble_eq_true rfl⟩) ⟨zx_blind, va_recv hKc hPc (ci := 0) (q0 := 0) rfl rfl, fun U hU hW => ⟨rfl, zx_go hPc hKc hDc hZ hS hFc hU hW⟩⟩ rfl rfl hl.1 rfl (lv_room (Nat.le_of_ble_eq_true rfl)) dX0_setKind_2 ⟨Nat.le_of_ble_eq_true rfl, Nat.le_of_ble_eq_true rfl⟩) hS (fun q _ h => hFc q h) hFc (fun q _ h => hFc q h) (fun E ce q9 u t H1 locs ht hvm hw hB hz1 hk1 hS hce hcv hcl => ?_) (fun u t H1 locs ht hvm hw hB hz1 hk1 hS => ?_)
  · skip
    obtain rfl := hB
    exact vx_out (fun x hx => (hEx x hx).elim) hlocks hce hcv hcl (fun t ht ha => ⟨(), hw, rfl, hS.F ht⟩) hS.2.2 (Nat.le_of_ble_eq_true rfl) (Nat.le_of_ble_eq_true rfl)
  · skip
    exact hw.elim
set_option maxHeartbeats 4000000 in
set_option maxRecDepth 100000 in
/-- hold of a new camp throws -/
theorem c_X0_hold (l : Launch) (hl9 : l.stackTraces = false) (dC : Nat → ClassId) (dI : Nat → Nat → Nat) (h0 : Nat) (v : Nat → Value) (p0 p1 : Int32) (sz : Nat) : vx_Met l yX0_hold wsX0_hold ({ frames := 11, cells := 1, slots := 6, locals := 300 }) (va_Pc [.ref h0, .int p0, .int p1] (zx_pre (dC, dI) [(h0, .inr (0, [.int 0, .int 1, .int 0, .int 0, v 4, v 5, v 6, v 7, .int 0, .int 0, .int 0, .int 0, v 12, v 13, v 14, v 15, v 16, v 17]))] [] sz)) (va_Qi (fun (r : Int32) (u : Unit) => False) (fun (u : Unit) => zx_at (dC, dI) [(h0, .inr (0, [.int 0, .int 1, .int 0, .int 0, v 4, v 5, v 6, v 7, .int 0, .int 0, .int 0, .int 0, v 12, v 13, v 14, v 15, v 16, v 17]))] [] (va_A [(h0, .inr (0, [.int 0, .int 1, .int 0, .int 0, v 4, v 5, v 6, v 7, .int 0, .int 0, .int 0, .int 0, v 12, v 13, v 14, v 15, v 16, v 17]))] sz)) (va_A [(h0, .inr (0, [.int 0, .int 1, .int 0, .int 0, v 4, v 5, v 6, v 7, .int 0, .int 0, .int 0, .int 0, v 12, v 13, v 14, v 15, v 16, v 17]))] sz)) (vx_X (fun _ : Unit => True) (fun E _ _ => E = "java/lang/IndexOutOfBoundsException") (va_A [(h0, .inr (0, [.int 0, .int 1, .int 0, .int 0, v 4, v 5, v 6, v 7, .int 0, .int 0, .int 0, .int 0, v 12, v 13, v 14, v 15, v 16, v 17]))] sz)) 1 6 (va_A [(h0, .inr (0, [.int 0, .int 1, .int 0, .int 0, v 4, v 5, v 6, v 7, .int 0, .int 0, .int 0, .int 0, v 12, v 13, v 14, v 15, v 16, v 17]))] sz) := by
  refine vx_ofW (cc := cX0_hold) (maxL := 3) (ret := (some .int)) (by decide) rfl ?_
  intro p e s m args below meth c s₁ B hml hEx hv
  obtain ⟨rfl, hsz, hP, hK, hD0, hZ⟩ := hv
  have hx := B.exec
  have hb := B.bytes
  have hr := B.returns
  have hts := atoms_spec (ws := wsX0_hold) B.pre
  have hown : s.vm.findClass RX0 = some m.cls := findClass_of_methodNamed B.named
  have hlocks := B.notSynchronized
  subst hsz
  have hD := hD0.self (sz := s.heap.size)
  generalize hAe : va_A [(h0, .inr (0, [.int 0, .int 1, .int 0, .int 0, v 4, v 5, v 6, v 7, .int 0, .int 0, .int 0, .int 0, v 12, v 13, v 14, v 15, v 16, v 17]))] s.heap.size = A at hD hZ ⊢
  have hA : ∀ q : Nat, s.heap.size ≤ q → A q := fun q h => by rw [← hAe]; exact Or.inr h
  have hS : va_S A s.heap s.heap [] := va_S.rf
  have hP : va_P (dC, dI) vwCl [(h0, .inr (0, [.int 0, .int 1, .int 0, .int 0, v 4, v 5, v 6, v 7, .int 0, .int 0, .int 0, .int 0, v 12, v 13, v 14, v 15, v 16, v 17]))] s.heap := hP
  have hl := lv_entry ([.ref h0, .int p0, .int p1]) (n := 3) (Nat.le_of_ble_eq_true rfl)
  rw [lg_entry_eq]
  generalize (lg_sl ([.ref h0, .int p0, .int p1]) ++ List.replicate (3 - (lg_sl ([.ref h0, .int p0, .int p1])).length) Slot.unset).toArray = ls at hl ⊢
  have hl : lv_has ls 3 [(0, .ref h0), (1, .int p0), (2, .int p1)] := hl
  refine lv_aload_n hx hb dX0_hold_0 rfl (lv_at hl 0 rfl) ?_
  refine lv_iload_n hx hb dX0_hold_1 rfl (lv_at hl 1 rfl) ?_
  have hPc := hP.sub (ws' := [(h0, .inr (0, [.int 0, .int 1, .int 0, .int 0, v 4, v 5, v 6, v 7, .int 0, .int 0, .int 0, .int 0, v 12, v 13, v 14, v 15, v 16, v 17]))]) [0] rfl
  have hDc := hD.sub (ws' := [(h0, .inr (0, [.int 0, .int 1, .int 0, .int 0, v 4, v 5, v 6, v 7, .int 0, .int 0, .int 0, .int 0, v 12, v 13, v 14, v 15, v 16, v 17]))]) [0] (by decide) rfl
  have hKc := hK.sub (tys' := []) [] rfl
  have hFc := va_free (wc := [(h0, .inr (0, [.int 0, .int 1, .int 0, .int 0, v 4, v 5, v 6, v 7, .int 0, .int 0, .int 0, .int 0, v 12, v 13, v 14, v 15, v 16, v 17]))]) hD hS hA [0] rfl
  refine vx_callv (vx_runV (As := [.int p0]) (rest := []) ⟨hx, hb, hml, hown, hts⟩ (c_X0_requireGeneral l hl9 dC dI h0 v p0 s.heap.size) (cwV 1 hts gX0_hold_X0_requireGeneral rfl rfl rfl (by decide +kernel) ⟨Nat.le_of_ble_eq_true rfl, Nat.le_of_ble_eq_true rfl⟩) ⟨zx_blind, va_recv hKc hPc (ci := 0) (q0 := 0) rfl rfl, fun U hU hW => ⟨rfl, zx_go hPc hKc hDc hZ hS hFc hU hW⟩⟩ rfl rfl hl.1 rfl (lv_room (Nat.le_of_ble_eq_true rfl)) dX0_hold_2 ⟨Nat.le_of_ble_eq_true rfl, Nat.le_of_ble_eq_true rfl⟩) hS (fun q _ h => hFc q h) hFc (fun q _ h => hFc q h) (fun E ce q9 u t H1 locs ht hvm hw hB hz1 hk1 hS hce hcv hcl => ?_) (fun u t H1 locs ht hvm hw hB hz1 hk1 hS => ?_)
  · skip
    obtain rfl := hB
    exact vx_out (fun x hx => (hEx x hx).elim) hlocks hce hcv hcl (fun t ht ha => ⟨(), hw, rfl, hS.F ht⟩) hS.2.2 (Nat.le_of_ble_eq_true rfl) (Nat.le_of_ble_eq_true rfl)
  · skip
    exact hw.elim
set_option maxHeartbeats 4000000 in
set_option maxRecDepth 100000 in
/-- does of a new camp throws -/
theorem c_X0_does (l : Launch) (hl9 : l.stackTraces = false) (dC : Nat → ClassId) (dI : Nat → Nat → Nat) (h0 : Nat) (v : Nat → Value) (p0 : Int32) (sz : Nat) : vx_Met l yX0_does wsX0_does ({ frames := 11, cells := 1, slots := 6, locals := 300 }) (va_Pc [.ref h0, .int p0] (zx_pre (dC, dI) [(h0, .inr (0, [.int 0, .int 1, .int 0, .int 0, v 4, v 5, v 6, v 7, .int 0, .int 0, .int 0, .int 0, v 12, v 13, v 14, v 15, v 16, v 17]))] [] sz)) (va_Qi (fun (r : Int32) (u : Unit) => False) (fun (u : Unit) => zx_at (dC, dI) [(h0, .inr (0, [.int 0, .int 1, .int 0, .int 0, v 4, v 5, v 6, v 7, .int 0, .int 0, .int 0, .int 0, v 12, v 13, v 14, v 15, v 16, v 17]))] [] (va_A [(h0, .inr (0, [.int 0, .int 1, .int 0, .int 0, v 4, v 5, v 6, v 7, .int 0, .int 0, .int 0, .int 0, v 12, v 13, v 14, v 15, v 16, v 17]))] sz)) (va_A [(h0, .inr (0, [.int 0, .int 1, .int 0, .int 0, v 4, v 5, v 6, v 7, .int 0, .int 0, .int 0, .int 0, v 12, v 13, v 14, v 15, v 16, v 17]))] sz)) (vx_X (fun _ : Unit => True) (fun E _ _ => E = "java/lang/IndexOutOfBoundsException") (va_A [(h0, .inr (0, [.int 0, .int 1, .int 0, .int 0, v 4, v 5, v 6, v 7, .int 0, .int 0, .int 0, .int 0, v 12, v 13, v 14, v 15, v 16, v 17]))] sz)) 1 6 (va_A [(h0, .inr (0, [.int 0, .int 1, .int 0, .int 0, v 4, v 5, v 6, v 7, .int 0, .int 0, .int 0, .int 0, v 12, v 13, v 14, v 15, v 16, v 17]))] sz) := by
  refine vx_ofW (cc := cX0_does) (maxL := 2) (ret := (some .int)) (by decide) rfl ?_
  intro p e s m args below meth c s₁ B hml hEx hv
  obtain ⟨rfl, hsz, hP, hK, hD0, hZ⟩ := hv
  have hx := B.exec
  have hb := B.bytes
  have hr := B.returns
  have hts := atoms_spec (ws := wsX0_does) B.pre
  have hown : s.vm.findClass RX0 = some m.cls := findClass_of_methodNamed B.named
  have hlocks := B.notSynchronized
  subst hsz
  have hD := hD0.self (sz := s.heap.size)
  generalize hAe : va_A [(h0, .inr (0, [.int 0, .int 1, .int 0, .int 0, v 4, v 5, v 6, v 7, .int 0, .int 0, .int 0, .int 0, v 12, v 13, v 14, v 15, v 16, v 17]))] s.heap.size = A at hD hZ ⊢
  have hA : ∀ q : Nat, s.heap.size ≤ q → A q := fun q h => by rw [← hAe]; exact Or.inr h
  have hS : va_S A s.heap s.heap [] := va_S.rf
  have hP : va_P (dC, dI) vwCl [(h0, .inr (0, [.int 0, .int 1, .int 0, .int 0, v 4, v 5, v 6, v 7, .int 0, .int 0, .int 0, .int 0, v 12, v 13, v 14, v 15, v 16, v 17]))] s.heap := hP
  have hl := lv_entry ([.ref h0, .int p0]) (n := 2) (Nat.le_of_ble_eq_true rfl)
  rw [lg_entry_eq]
  generalize (lg_sl ([.ref h0, .int p0]) ++ List.replicate (2 - (lg_sl ([.ref h0, .int p0])).length) Slot.unset).toArray = ls at hl ⊢
  have hl : lv_has ls 2 [(0, .ref h0), (1, .int p0)] := hl
  refine lv_aload_n hx hb dX0_does_0 rfl (lv_at hl 0 rfl) ?_
  refine lv_iload_n hx hb dX0_does_1 rfl (lv_at hl 1 rfl) ?_
  have hPc := hP.sub (ws' := [(h0, .inr (0, [.int 0, .int 1, .int 0, .int 0, v 4, v 5, v 6, v 7, .int 0, .int 0, .int 0, .int 0, v 12, v 13, v 14, v 15, v 16, v 17]))]) [0] rfl
  have hDc := hD.sub (ws' := [(h0, .inr (0, [.int 0, .int 1, .int 0, .int 0, v 4, v 5, v 6, v 7, .int 0, .int 0, .int 0, .int 0, v 12, v 13, v 14, v 15, v 16, v 17]))]) [0] (by decide) rfl
  have hKc := hK.sub (tys' := []) [] rfl
  have hFc := va_free (wc := [(h0, .inr (0, [.int 0, .int 1, .int 0, .int 0, v 4, v 5, v 6, v 7, .int 0, .int 0, .int 0, .int 0, v 12, v 13, v 14, v 15, v 16, v 17]))]) hD hS hA [0] rfl
  refine vx_callv (vx_runV (As := [.int p0]) (rest := []) ⟨hx, hb, hml, hown, hts⟩ (c_X0_requirePresent l hl9 dC dI h0 v p0 s.heap.size) (cwV 1 hts gX0_does_X0_requirePresent rfl rfl rfl (by decide +kernel) ⟨Nat.le_of_ble_eq_true rfl, Nat.le_of_ble_eq_true rfl⟩) ⟨zx_blind, va_recv hKc hPc (ci := 0) (q0 := 0) rfl rfl, fun U hU hW => ⟨rfl, zx_go hPc hKc hDc hZ hS hFc hU hW⟩⟩ rfl rfl hl.1 rfl (lv_room (Nat.le_of_ble_eq_true rfl)) dX0_does_2 ⟨Nat.le_of_ble_eq_true rfl, Nat.le_of_ble_eq_true rfl⟩) hS (fun q _ h => hFc q h) hFc (fun q _ h => hFc q h) (fun E ce q9 u t H1 locs ht hvm hw hB hz1 hk1 hS hce hcv hcl => ?_) (fun u t H1 locs ht hvm hw hB hz1 hk1 hS => ?_)
  · skip
    obtain rfl := hB
    exact vx_out (fun x hx => (hEx x hx).elim) hlocks hce hcv hcl (fun t ht ha => ⟨(), hw, rfl, hS.F ht⟩) hS.2.2 (Nat.le_of_ble_eq_true rfl) (Nat.le_of_ble_eq_true rfl)
  · skip
    exact hw.elim
set_option maxHeartbeats 4000000 in
set_option maxRecDepth 100000 in
/-- took of a new camp throws -/
theorem c_X0_took (l : Launch) (hl9 : l.stackTraces = false) (dC : Nat → ClassId) (dI : Nat → Nat → Nat) (h0 : Nat) (v : Nat → Value) (p0 p1 : Int32) (sz : Nat) : vx_Met l yX0_took wsX0_took ({ frames := 11, cells := 1, slots := 6, locals := 300 }) (va_Pc [.ref h0, .int p0, .int p1] (zx_pre (dC, dI) [(h0, .inr (0, [.int 0, .int 1, .int 0, .int 0, v 4, v 5, v 6, v 7, .int 0, .int 0, .int 0, .int 0, v 12, v 13, v 14, v 15, v 16, v 17]))] [] sz)) (va_Qi (fun (r : Int32) (u : Unit) => False) (fun (u : Unit) => zx_at (dC, dI) [(h0, .inr (0, [.int 0, .int 1, .int 0, .int 0, v 4, v 5, v 6, v 7, .int 0, .int 0, .int 0, .int 0, v 12, v 13, v 14, v 15, v 16, v 17]))] [] (va_A [(h0, .inr (0, [.int 0, .int 1, .int 0, .int 0, v 4, v 5, v 6, v 7, .int 0, .int 0, .int 0, .int 0, v 12, v 13, v 14, v 15, v 16, v 17]))] sz)) (va_A [(h0, .inr (0, [.int 0, .int 1, .int 0, .int 0, v 4, v 5, v 6, v 7, .int 0, .int 0, .int 0, .int 0, v 12, v 13, v 14, v 15, v 16, v 17]))] sz)) (vx_X (fun _ : Unit => True) (fun E _ _ => E = "java/lang/IndexOutOfBoundsException") (va_A [(h0, .inr (0, [.int 0, .int 1, .int 0, .int 0, v 4, v 5, v 6, v 7, .int 0, .int 0, .int 0, .int 0, v 12, v 13, v 14, v 15, v 16, v 17]))] sz)) 1 6 (va_A [(h0, .inr (0, [.int 0, .int 1, .int 0, .int 0, v 4, v 5, v 6, v 7, .int 0, .int 0, .int 0, .int 0, v 12, v 13, v 14, v 15, v 16, v 17]))] sz) := by
  refine vx_ofW (cc := cX0_took) (maxL := 3) (ret := (some .int)) (by decide) rfl ?_
  intro p e s m args below meth c s₁ B hml hEx hv
  obtain ⟨rfl, hsz, hP, hK, hD0, hZ⟩ := hv
  have hx := B.exec
  have hb := B.bytes
  have hr := B.returns
  have hts := atoms_spec (ws := wsX0_took) B.pre
  have hown : s.vm.findClass RX0 = some m.cls := findClass_of_methodNamed B.named
  have hlocks := B.notSynchronized
  subst hsz
  have hD := hD0.self (sz := s.heap.size)
  generalize hAe : va_A [(h0, .inr (0, [.int 0, .int 1, .int 0, .int 0, v 4, v 5, v 6, v 7, .int 0, .int 0, .int 0, .int 0, v 12, v 13, v 14, v 15, v 16, v 17]))] s.heap.size = A at hD hZ ⊢
  have hA : ∀ q : Nat, s.heap.size ≤ q → A q := fun q h => by rw [← hAe]; exact Or.inr h
  have hS : va_S A s.heap s.heap [] := va_S.rf
  have hP : va_P (dC, dI) vwCl [(h0, .inr (0, [.int 0, .int 1, .int 0, .int 0, v 4, v 5, v 6, v 7, .int 0, .int 0, .int 0, .int 0, v 12, v 13, v 14, v 15, v 16, v 17]))] s.heap := hP
  have hl := lv_entry ([.ref h0, .int p0, .int p1]) (n := 3) (Nat.le_of_ble_eq_true rfl)
  rw [lg_entry_eq]
  generalize (lg_sl ([.ref h0, .int p0, .int p1]) ++ List.replicate (3 - (lg_sl ([.ref h0, .int p0, .int p1])).length) Slot.unset).toArray = ls at hl ⊢
  have hl : lv_has ls 3 [(0, .ref h0), (1, .int p0), (2, .int p1)] := hl
  refine lv_aload_n hx hb dX0_took_0 rfl (lv_at hl 0 rfl) ?_
  refine lv_iload_n hx hb dX0_took_1 rfl (lv_at hl 1 rfl) ?_
  have hPc := hP.sub (ws' := [(h0, .inr (0, [.int 0, .int 1, .int 0, .int 0, v 4, v 5, v 6, v 7, .int 0, .int 0, .int 0, .int 0, v 12, v 13, v 14, v 15, v 16, v 17]))]) [0] rfl
  have hDc := hD.sub (ws' := [(h0, .inr (0, [.int 0, .int 1, .int 0, .int 0, v 4, v 5, v 6, v 7, .int 0, .int 0, .int 0, .int 0, v 12, v 13, v 14, v 15, v 16, v 17]))]) [0] (by decide) rfl
  have hKc := hK.sub (tys' := []) [] rfl
  have hFc := va_free (wc := [(h0, .inr (0, [.int 0, .int 1, .int 0, .int 0, v 4, v 5, v 6, v 7, .int 0, .int 0, .int 0, .int 0, v 12, v 13, v 14, v 15, v 16, v 17]))]) hD hS hA [0] rfl
  refine vx_callv (vx_runV (As := [.int p0]) (rest := []) ⟨hx, hb, hml, hown, hts⟩ (c_X0_requirePresent l hl9 dC dI h0 v p0 s.heap.size) (cwV 1 hts gX0_took_X0_requirePresent rfl rfl rfl (by decide +kernel) ⟨Nat.le_of_ble_eq_true rfl, Nat.le_of_ble_eq_true rfl⟩) ⟨zx_blind, va_recv hKc hPc (ci := 0) (q0 := 0) rfl rfl, fun U hU hW => ⟨rfl, zx_go hPc hKc hDc hZ hS hFc hU hW⟩⟩ rfl rfl hl.1 rfl (lv_room (Nat.le_of_ble_eq_true rfl)) dX0_took_2 ⟨Nat.le_of_ble_eq_true rfl, Nat.le_of_ble_eq_true rfl⟩) hS (fun q _ h => hFc q h) hFc (fun q _ h => hFc q h) (fun E ce q9 u t H1 locs ht hvm hw hB hz1 hk1 hS hce hcv hcl => ?_) (fun u t H1 locs ht hvm hw hB hz1 hk1 hS => ?_)
  · skip
    obtain rfl := hB
    exact vx_out (fun x hx => (hEx x hx).elim) hlocks hce hcv hcl (fun t ht ha => ⟨(), hw, rfl, hS.F ht⟩) hS.2.2 (Nat.le_of_ble_eq_true rfl) (Nat.le_of_ble_eq_true rfl)
  · skip
    exact hw.elim
set_option maxHeartbeats 4000000 in
set_option maxRecDepth 100000 in
/-- told of a new camp throws -/
theorem c_X0_told (l : Launch) (hl9 : l.stackTraces = false) (dC : Nat → ClassId) (dI : Nat → Nat → Nat) (h0 : Nat) (v : Nat → Value) (p0 p1 : Int32) (sz : Nat) : vx_Met l yX0_told wsX0_told ({ frames := 11, cells := 1, slots := 6, locals := 300 }) (va_Pc [.ref h0, .int p0, .int p1] (zx_pre (dC, dI) [(h0, .inr (0, [.int 0, .int 1, .int 0, .int 0, v 4, v 5, v 6, v 7, .int 0, .int 0, .int 0, .int 0, v 12, v 13, v 14, v 15, v 16, v 17]))] [] sz)) (va_Qi (fun (r : Int32) (u : Unit) => False) (fun (u : Unit) => zx_at (dC, dI) [(h0, .inr (0, [.int 0, .int 1, .int 0, .int 0, v 4, v 5, v 6, v 7, .int 0, .int 0, .int 0, .int 0, v 12, v 13, v 14, v 15, v 16, v 17]))] [] (va_A [(h0, .inr (0, [.int 0, .int 1, .int 0, .int 0, v 4, v 5, v 6, v 7, .int 0, .int 0, .int 0, .int 0, v 12, v 13, v 14, v 15, v 16, v 17]))] sz)) (va_A [(h0, .inr (0, [.int 0, .int 1, .int 0, .int 0, v 4, v 5, v 6, v 7, .int 0, .int 0, .int 0, .int 0, v 12, v 13, v 14, v 15, v 16, v 17]))] sz)) (vx_X (fun _ : Unit => True) (fun E _ _ => E = "java/lang/IndexOutOfBoundsException") (va_A [(h0, .inr (0, [.int 0, .int 1, .int 0, .int 0, v 4, v 5, v 6, v 7, .int 0, .int 0, .int 0, .int 0, v 12, v 13, v 14, v 15, v 16, v 17]))] sz)) 1 6 (va_A [(h0, .inr (0, [.int 0, .int 1, .int 0, .int 0, v 4, v 5, v 6, v 7, .int 0, .int 0, .int 0, .int 0, v 12, v 13, v 14, v 15, v 16, v 17]))] sz) := by
  refine vx_ofW (cc := cX0_told) (maxL := 3) (ret := (some .int)) (by decide) rfl ?_
  intro p e s m args below meth c s₁ B hml hEx hv
  obtain ⟨rfl, hsz, hP, hK, hD0, hZ⟩ := hv
  have hx := B.exec
  have hb := B.bytes
  have hr := B.returns
  have hts := atoms_spec (ws := wsX0_told) B.pre
  have hown : s.vm.findClass RX0 = some m.cls := findClass_of_methodNamed B.named
  have hlocks := B.notSynchronized
  subst hsz
  have hD := hD0.self (sz := s.heap.size)
  generalize hAe : va_A [(h0, .inr (0, [.int 0, .int 1, .int 0, .int 0, v 4, v 5, v 6, v 7, .int 0, .int 0, .int 0, .int 0, v 12, v 13, v 14, v 15, v 16, v 17]))] s.heap.size = A at hD hZ ⊢
  have hA : ∀ q : Nat, s.heap.size ≤ q → A q := fun q h => by rw [← hAe]; exact Or.inr h
  have hS : va_S A s.heap s.heap [] := va_S.rf
  have hP : va_P (dC, dI) vwCl [(h0, .inr (0, [.int 0, .int 1, .int 0, .int 0, v 4, v 5, v 6, v 7, .int 0, .int 0, .int 0, .int 0, v 12, v 13, v 14, v 15, v 16, v 17]))] s.heap := hP
  have hl := lv_entry ([.ref h0, .int p0, .int p1]) (n := 3) (Nat.le_of_ble_eq_true rfl)
  rw [lg_entry_eq]
  generalize (lg_sl ([.ref h0, .int p0, .int p1]) ++ List.replicate (3 - (lg_sl ([.ref h0, .int p0, .int p1])).length) Slot.unset).toArray = ls at hl ⊢
  have hl : lv_has ls 3 [(0, .ref h0), (1, .int p0), (2, .int p1)] := hl
  refine lv_aload_n hx hb dX0_told_0 rfl (lv_at hl 0 rfl) ?_
  refine lv_iload_n hx hb dX0_told_1 rfl (lv_at hl 1 rfl) ?_
  have hPc := hP.sub (ws' := [(h0, .inr (0, [.int 0, .int 1, .int 0, .int 0, v 4, v 5, v 6, v 7, .int 0, .int 0, .int 0, .int 0, v 12, v 13, v 14, v 15, v 16, v 17]))]) [0] rfl
  have hDc := hD.sub (ws' := [(h0, .inr (0, [.int 0, .int 1, .int 0, .int 0, v 4, v 5, v 6, v 7, .int 0, .int 0, .int 0, .int 0, v 12, v 13, v 14, v 15, v 16, v 17]))]) [0] (by decide) rfl
  have hKc := hK.sub (tys' := []) [] rfl
  have hFc := va_free (wc := [(h0, .inr (0, [.int 0, .int 1, .int 0, .int 0, v 4, v 5, v 6, v 7, .int 0, .int 0, .int 0, .int 0, v 12, v 13, v 14, v 15, v 16, v 17]))]) hD hS hA [0] rfl
  refine vx_callv (vx_runV (As := [.int p0]) (rest := []) ⟨hx, hb, hml, hown, hts⟩ (c_X0_requireGeneral l hl9 dC dI h0 v p0 s.heap.size) (cwV 1 hts gX0_told_X0_requireGeneral rfl rfl rfl (by decide +kernel) ⟨Nat.le_of_ble_eq_true rfl, Nat.le_of_ble_eq_true rfl⟩) ⟨zx_blind, va_recv hKc hPc (ci := 0) (q0 := 0) rfl rfl, fun U hU hW => ⟨rfl, zx_go hPc hKc hDc hZ hS hFc hU hW⟩⟩ rfl rfl hl.1 rfl (lv_room (Nat.le_of_ble_eq_true rfl)) dX0_told_2 ⟨Nat.le_of_ble_eq_true rfl, Nat.le_of_ble_eq_true rfl⟩) hS (fun q _ h => hFc q h) hFc (fun q _ h => hFc q h) (fun E ce q9 u t H1 locs ht hvm hw hB hz1 hk1 hS hce hcv hcl => ?_) (fun u t H1 locs ht hvm hw hB hz1 hk1 hS => ?_)
  · skip
    obtain rfl := hB
    exact vx_out (fun x hx => (hEx x hx).elim) hlocks hce hcv hcl (fun t ht ha => ⟨(), hw, rfl, hS.F ht⟩) hS.2.2 (Nat.le_of_ble_eq_true rfl) (Nat.le_of_ble_eq_true rfl)
  · skip
    exact hw.elim
set_option maxHeartbeats 4000000 in
set_option maxRecDepth 100000 in
/-- hears of a new camp throws -/
theorem c_X0_hears (l : Launch) (hl9 : l.stackTraces = false) (dC : Nat → ClassId) (dI : Nat → Nat → Nat) (h0 : Nat) (v : Nat → Value) (p0 p1 p2 : Int32) (sz : Nat) : vx_Met l yX0_hears wsX0_hears ({ frames := 11, cells := 1, slots := 6, locals := 300 }) (va_Pc [.ref h0, .int p0, .int p1, .int p2] (zx_pre (dC, dI) [(h0, .inr (0, [.int 0, .int 1, .int 0, .int 0, v 4, v 5, v 6, v 7, .int 0, .int 0, .int 0, .int 0, v 12, v 13, v 14, v 15, v 16, v 17]))] [] sz)) (va_Qi (fun (r : Int32) (u : Unit) => False) (fun (u : Unit) => zx_at (dC, dI) [(h0, .inr (0, [.int 0, .int 1, .int 0, .int 0, v 4, v 5, v 6, v 7, .int 0, .int 0, .int 0, .int 0, v 12, v 13, v 14, v 15, v 16, v 17]))] [] (va_A [(h0, .inr (0, [.int 0, .int 1, .int 0, .int 0, v 4, v 5, v 6, v 7, .int 0, .int 0, .int 0, .int 0, v 12, v 13, v 14, v 15, v 16, v 17]))] sz)) (va_A [(h0, .inr (0, [.int 0, .int 1, .int 0, .int 0, v 4, v 5, v 6, v 7, .int 0, .int 0, .int 0, .int 0, v 12, v 13, v 14, v 15, v 16, v 17]))] sz)) (vx_X (fun _ : Unit => True) (fun E _ _ => E = "java/lang/IndexOutOfBoundsException") (va_A [(h0, .inr (0, [.int 0, .int 1, .int 0, .int 0, v 4, v 5, v 6, v 7, .int 0, .int 0, .int 0, .int 0, v 12, v 13, v 14, v 15, v 16, v 17]))] sz)) 1 6 (va_A [(h0, .inr (0, [.int 0, .int 1, .int 0, .int 0, v 4, v 5, v 6, v 7, .int 0, .int 0, .int 0, .int 0, v 12, v 13, v 14, v 15, v 16, v 17]))] sz) := by
  refine vx_ofW (cc := cX0_hears) (maxL := 4) (ret := (some .int)) (by decide) rfl ?_
  intro p e s m args below meth c s₁ B hml hEx hv
  obtain ⟨rfl, hsz, hP, hK, hD0, hZ⟩ := hv
  have hx := B.exec
  have hb := B.bytes
  have hr := B.returns
  have hts := atoms_spec (ws := wsX0_hears) B.pre
  have hown : s.vm.findClass RX0 = some m.cls := findClass_of_methodNamed B.named
  have hlocks := B.notSynchronized
  subst hsz
  have hD := hD0.self (sz := s.heap.size)
  generalize hAe : va_A [(h0, .inr (0, [.int 0, .int 1, .int 0, .int 0, v 4, v 5, v 6, v 7, .int 0, .int 0, .int 0, .int 0, v 12, v 13, v 14, v 15, v 16, v 17]))] s.heap.size = A at hD hZ ⊢
  have hA : ∀ q : Nat, s.heap.size ≤ q → A q := fun q h => by rw [← hAe]; exact Or.inr h
  have hS : va_S A s.heap s.heap [] := va_S.rf
  have hP : va_P (dC, dI) vwCl [(h0, .inr (0, [.int 0, .int 1, .int 0, .int 0, v 4, v 5, v 6, v 7, .int 0, .int 0, .int 0, .int 0, v 12, v 13, v 14, v 15, v 16, v 17]))] s.heap := hP
  have hl := lv_entry ([.ref h0, .int p0, .int p1, .int p2]) (n := 4) (Nat.le_of_ble_eq_true rfl)
  rw [lg_entry_eq]
  generalize (lg_sl ([.ref h0, .int p0, .int p1, .int p2]) ++ List.replicate (4 - (lg_sl ([.ref h0, .int p0, .int p1, .int p2])).length) Slot.unset).toArray = ls at hl ⊢
  have hl : lv_has ls 4 [(0, .ref h0), (1, .int p0), (2, .int p1), (3, .int p2)] := hl
  refine lv_aload_n hx hb dX0_hears_0 rfl (lv_at hl 0 rfl) ?_
  refine lv_iload_n hx hb dX0_hears_1 rfl (lv_at hl 1 rfl) ?_
  have hPc := hP.sub (ws' := [(h0, .inr (0, [.int 0, .int 1, .int 0, .int 0, v 4, v 5, v 6, v 7, .int 0, .int 0, .int 0, .int 0, v 12, v 13, v 14, v 15, v 16, v 17]))]) [0] rfl
  have hDc := hD.sub (ws' := [(h0, .inr (0, [.int 0, .int 1, .int 0, .int 0, v 4, v 5, v 6, v 7, .int 0, .int 0, .int 0, .int 0, v 12, v 13, v 14, v 15, v 16, v 17]))]) [0] (by decide) rfl
  have hKc := hK.sub (tys' := []) [] rfl
  have hFc := va_free (wc := [(h0, .inr (0, [.int 0, .int 1, .int 0, .int 0, v 4, v 5, v 6, v 7, .int 0, .int 0, .int 0, .int 0, v 12, v 13, v 14, v 15, v 16, v 17]))]) hD hS hA [0] rfl
  refine vx_callv (vx_runV (As := [.int p0]) (rest := []) ⟨hx, hb, hml, hown, hts⟩ (c_X0_requireGeneral l hl9 dC dI h0 v p0 s.heap.size) (cwV 1 hts gX0_hears_X0_requireGeneral rfl rfl rfl (by decide +kernel) ⟨Nat.le_of_ble_eq_true rfl, Nat.le_of_ble_eq_true rfl⟩) ⟨zx_blind, va_recv hKc hPc (ci := 0) (q0 := 0) rfl rfl, fun U hU hW => ⟨rfl, zx_go hPc hKc hDc hZ hS hFc hU hW⟩⟩ rfl rfl hl.1 rfl (lv_room (Nat.le_of_ble_eq_true rfl)) dX0_hears_2 ⟨Nat.le_of_ble_eq_true rfl, Nat.le_of_ble_eq_true rfl⟩) hS (fun q _ h => hFc q h) hFc (fun q _ h => hFc q h) (fun E ce q9 u t H1 locs ht hvm hw hB hz1 hk1 hS hce hcv hcl => ?_) (fun u t H1 locs ht hvm hw hB hz1 hk1 hS => ?_)
  · skip
    obtain rfl := hB
    exact vx_out (fun x hx => (hEx x hx).elim) hlocks hce hcv hcl (fun t ht ha => ⟨(), hw, rfl, hS.F ht⟩) hS.2.2 (Nat.le_of_ble_eq_true rfl) (Nat.le_of_ble_eq_true rfl)
  · skip
    exact hw.elim
set_option maxHeartbeats 4000000 in
set_option maxRecDepth 100000 in
/-- would of a new camp throws -/
theorem c_X0_would (l : Launch) (hl9 : l.stackTraces = false) (dC : Nat → ClassId) (dI : Nat → Nat → Nat) (h0 : Nat) (v : Nat → Value) (p0 p1 p2 : Int32) (sz : Nat) : vx_Met l yX0_would wsX0_would ({ frames := 11, cells := 1, slots := 6, locals := 300 }) (va_Pc [.ref h0, .int p0, .int p1, .int p2] (zx_pre (dC, dI) [(h0, .inr (0, [.int 0, .int 1, .int 0, .int 0, v 4, v 5, v 6, v 7, .int 0, .int 0, .int 0, .int 0, v 12, v 13, v 14, v 15, v 16, v 17]))] [] sz)) (va_Qi (fun (r : Int32) (u : Unit) => False) (fun (u : Unit) => zx_at (dC, dI) [(h0, .inr (0, [.int 0, .int 1, .int 0, .int 0, v 4, v 5, v 6, v 7, .int 0, .int 0, .int 0, .int 0, v 12, v 13, v 14, v 15, v 16, v 17]))] [] (va_A [(h0, .inr (0, [.int 0, .int 1, .int 0, .int 0, v 4, v 5, v 6, v 7, .int 0, .int 0, .int 0, .int 0, v 12, v 13, v 14, v 15, v 16, v 17]))] sz)) (va_A [(h0, .inr (0, [.int 0, .int 1, .int 0, .int 0, v 4, v 5, v 6, v 7, .int 0, .int 0, .int 0, .int 0, v 12, v 13, v 14, v 15, v 16, v 17]))] sz)) (vx_X (fun _ : Unit => True) (fun E _ _ => E = "java/lang/IndexOutOfBoundsException") (va_A [(h0, .inr (0, [.int 0, .int 1, .int 0, .int 0, v 4, v 5, v 6, v 7, .int 0, .int 0, .int 0, .int 0, v 12, v 13, v 14, v 15, v 16, v 17]))] sz)) 1 6 (va_A [(h0, .inr (0, [.int 0, .int 1, .int 0, .int 0, v 4, v 5, v 6, v 7, .int 0, .int 0, .int 0, .int 0, v 12, v 13, v 14, v 15, v 16, v 17]))] sz) := by
  refine vx_ofW (cc := cX0_would) (maxL := 4) (ret := (some .int)) (by decide) rfl ?_
  intro p e s m args below meth c s₁ B hml hEx hv
  obtain ⟨rfl, hsz, hP, hK, hD0, hZ⟩ := hv
  have hx := B.exec
  have hb := B.bytes
  have hr := B.returns
  have hts := atoms_spec (ws := wsX0_would) B.pre
  have hown : s.vm.findClass RX0 = some m.cls := findClass_of_methodNamed B.named
  have hlocks := B.notSynchronized
  subst hsz
  have hD := hD0.self (sz := s.heap.size)
  generalize hAe : va_A [(h0, .inr (0, [.int 0, .int 1, .int 0, .int 0, v 4, v 5, v 6, v 7, .int 0, .int 0, .int 0, .int 0, v 12, v 13, v 14, v 15, v 16, v 17]))] s.heap.size = A at hD hZ ⊢
  have hA : ∀ q : Nat, s.heap.size ≤ q → A q := fun q h => by rw [← hAe]; exact Or.inr h
  have hS : va_S A s.heap s.heap [] := va_S.rf
  have hP : va_P (dC, dI) vwCl [(h0, .inr (0, [.int 0, .int 1, .int 0, .int 0, v 4, v 5, v 6, v 7, .int 0, .int 0, .int 0, .int 0, v 12, v 13, v 14, v 15, v 16, v 17]))] s.heap := hP
  have hl := lv_entry ([.ref h0, .int p0, .int p1, .int p2]) (n := 4) (Nat.le_of_ble_eq_true rfl)
  rw [lg_entry_eq]
  generalize (lg_sl ([.ref h0, .int p0, .int p1, .int p2]) ++ List.replicate (4 - (lg_sl ([.ref h0, .int p0, .int p1, .int p2])).length) Slot.unset).toArray = ls at hl ⊢
  have hl : lv_has ls 4 [(0, .ref h0), (1, .int p0), (2, .int p1), (3, .int p2)] := hl
  refine lv_aload_n hx hb dX0_would_0 rfl (lv_at hl 0 rfl) ?_
  refine lv_iload_n hx hb dX0_would_1 rfl (lv_at hl 1 rfl) ?_
  have hPc := hP.sub (ws' := [(h0, .inr (0, [.int 0, .int 1, .int 0, .int 0, v 4, v 5, v 6, v 7, .int 0, .int 0, .int 0, .int 0, v 12, v 13, v 14, v 15, v 16, v 17]))]) [0] rfl
  have hDc := hD.sub (ws' := [(h0, .inr (0, [.int 0, .int 1, .int 0, .int 0, v 4, v 5, v 6, v 7, .int 0, .int 0, .int 0, .int 0, v 12, v 13, v 14, v 15, v 16, v 17]))]) [0] (by decide) rfl
  have hKc := hK.sub (tys' := []) [] rfl
  have hFc := va_free (wc := [(h0, .inr (0, [.int 0, .int 1, .int 0, .int 0, v 4, v 5, v 6, v 7, .int 0, .int 0, .int 0, .int 0, v 12, v 13, v 14, v 15, v 16, v 17]))]) hD hS hA [0] rfl
  refine vx_callv (vx_runV (As := [.int p0]) (rest := []) ⟨hx, hb, hml, hown, hts⟩ (c_X0_requireGeneral l hl9 dC dI h0 v p0 s.heap.size) (cwV 1 hts gX0_would_X0_requireGeneral rfl rfl rfl (by decide +kernel) ⟨Nat.le_of_ble_eq_true rfl, Nat.le_of_ble_eq_true rfl⟩) ⟨zx_blind, va_recv hKc hPc (ci := 0) (q0 := 0) rfl rfl, fun U hU hW => ⟨rfl, zx_go hPc hKc hDc hZ hS hFc hU hW⟩⟩ rfl rfl hl.1 rfl (lv_room (Nat.le_of_ble_eq_true rfl)) dX0_would_2 ⟨Nat.le_of_ble_eq_true rfl, Nat.le_of_ble_eq_true rfl⟩) hS (fun q _ h => hFc q h) hFc (fun q _ h => hFc q h) (fun E ce q9 u t H1 locs ht hvm hw hB hz1 hk1 hS hce hcv hcl => ?_) (fun u t H1 locs ht hvm hw hB hz1 hk1 hS => ?_)
  · skip
    obtain rfl := hB
    exact vx_out (fun x hx => (hEx x hx).elim) hlocks hce hcv hcl (fun t ht ha => ⟨(), hw, rfl, hS.F ht⟩) hS.2.2 (Nat.le_of_ble_eq_true rfl) (Nat.le_of_ble_eq_true rfl)
  · skip
    exact hw.elim
set_option maxHeartbeats 4000000 in
set_option maxRecDepth 100000 in
/-- agrees of a new camp throws -/
theorem c_X0_agrees (l : Launch) (hl9 : l.stackTraces = false) (dC : Nat → ClassId) (dI : Nat → Nat → Nat) (h0 : Nat) (v : Nat → Value) (p0 p1 : Int32) (sz : Nat) : vx_Met l yX0_agrees wsX0_agrees ({ frames := 11, cells := 1, slots := 6, locals := 300 }) (va_Pc [.ref h0, .int p0, .int p1] (zx_pre (dC, dI) [(h0, .inr (0, [.int 0, .int 1, .int 0, .int 0, v 4, v 5, v 6, v 7, .int 0, .int 0, .int 0, .int 0, v 12, v 13, v 14, v 15, v 16, v 17]))] [] sz)) (va_Qi (fun (r : Int32) (u : Unit) => False) (fun (u : Unit) => zx_at (dC, dI) [(h0, .inr (0, [.int 0, .int 1, .int 0, .int 0, v 4, v 5, v 6, v 7, .int 0, .int 0, .int 0, .int 0, v 12, v 13, v 14, v 15, v 16, v 17]))] [] (va_A [(h0, .inr (0, [.int 0, .int 1, .int 0, .int 0, v 4, v 5, v 6, v 7, .int 0, .int 0, .int 0, .int 0, v 12, v 13, v 14, v 15, v 16, v 17]))] sz)) (va_A [(h0, .inr (0, [.int 0, .int 1, .int 0, .int 0, v 4, v 5, v 6, v 7, .int 0, .int 0, .int 0, .int 0, v 12, v 13, v 14, v 15, v 16, v 17]))] sz)) (vx_X (fun _ : Unit => True) (fun E _ _ => E = "java/lang/IndexOutOfBoundsException") (va_A [(h0, .inr (0, [.int 0, .int 1, .int 0, .int 0, v 4, v 5, v 6, v 7, .int 0, .int 0, .int 0, .int 0, v 12, v 13, v 14, v 15, v 16, v 17]))] sz)) 1 6 (va_A [(h0, .inr (0, [.int 0, .int 1, .int 0, .int 0, v 4, v 5, v 6, v 7, .int 0, .int 0, .int 0, .int 0, v 12, v 13, v 14, v 15, v 16, v 17]))] sz) := by
  refine vx_ofW (cc := cX0_agrees) (maxL := 3) (ret := (some .boolean)) (by decide) rfl ?_
  intro p e s m args below meth c s₁ B hml hEx hv
  obtain ⟨rfl, hsz, hP, hK, hD0, hZ⟩ := hv
  have hx := B.exec
  have hb := B.bytes
  have hr := B.returns
  have hts := atoms_spec (ws := wsX0_agrees) B.pre
  have hown : s.vm.findClass RX0 = some m.cls := findClass_of_methodNamed B.named
  have hlocks := B.notSynchronized
  subst hsz
  have hD := hD0.self (sz := s.heap.size)
  generalize hAe : va_A [(h0, .inr (0, [.int 0, .int 1, .int 0, .int 0, v 4, v 5, v 6, v 7, .int 0, .int 0, .int 0, .int 0, v 12, v 13, v 14, v 15, v 16, v 17]))] s.heap.size = A at hD hZ ⊢
  have hA : ∀ q : Nat, s.heap.size ≤ q → A q := fun q h => by rw [← hAe]; exact Or.inr h
  have hS : va_S A s.heap s.heap [] := va_S.rf
  have hP : va_P (dC, dI) vwCl [(h0, .inr (0, [.int 0, .int 1, .int 0, .int 0, v 4, v 5, v 6, v 7, .int 0, .int 0, .int 0, .int 0, v 12, v 13, v 14, v 15, v 16, v 17]))] s.heap := hP
  have hl := lv_entry ([.ref h0, .int p0, .int p1]) (n := 3) (Nat.le_of_ble_eq_true rfl)
  rw [lg_entry_eq]
  generalize (lg_sl ([.ref h0, .int p0, .int p1]) ++ List.replicate (3 - (lg_sl ([.ref h0, .int p0, .int p1])).length) Slot.unset).toArray = ls at hl ⊢
  have hl : lv_has ls 3 [(0, .ref h0), (1, .int p0), (2, .int p1)] := hl
  refine lv_aload_n hx hb dX0_agrees_0 rfl (lv_at hl 0 rfl) ?_
  refine lv_iload_n hx hb dX0_agrees_1 rfl (lv_at hl 1 rfl) ?_
  have hPc := hP.sub (ws' := [(h0, .inr (0, [.int 0, .int 1, .int 0, .int 0, v 4, v 5, v 6, v 7, .int 0, .int 0, .int 0, .int 0, v 12, v 13, v 14, v 15, v 16, v 17]))]) [0] rfl
  have hDc := hD.sub (ws' := [(h0, .inr (0, [.int 0, .int 1, .int 0, .int 0, v 4, v 5, v 6, v 7, .int 0, .int 0, .int 0, .int 0, v 12, v 13, v 14, v 15, v 16, v 17]))]) [0] (by decide) rfl
  have hKc := hK.sub (tys' := []) [] rfl
  have hFc := va_free (wc := [(h0, .inr (0, [.int 0, .int 1, .int 0, .int 0, v 4, v 5, v 6, v 7, .int 0, .int 0, .int 0, .int 0, v 12, v 13, v 14, v 15, v 16, v 17]))]) hD hS hA [0] rfl
  refine vx_callv (vx_runV (As := [.int p0]) (rest := []) ⟨hx, hb, hml, hown, hts⟩ (c_X0_requireGeneral l hl9 dC dI h0 v p0 s.heap.size) (cwV 1 hts gX0_agrees_X0_requireGeneral rfl rfl rfl (by decide +kernel) ⟨Nat.le_of_ble_eq_true rfl, Nat.le_of_ble_eq_true rfl⟩) ⟨zx_blind, va_recv hKc hPc (ci := 0) (q0 := 0) rfl rfl, fun U hU hW => ⟨rfl, zx_go hPc hKc hDc hZ hS hFc hU hW⟩⟩ rfl rfl hl.1 rfl (lv_room (Nat.le_of_ble_eq_true rfl)) dX0_agrees_2 ⟨Nat.le_of_ble_eq_true rfl, Nat.le_of_ble_eq_true rfl⟩) hS (fun q _ h => hFc q h) hFc (fun q _ h => hFc q h) (fun E ce q9 u t H1 locs ht hvm hw hB hz1 hk1 hS hce hcv hcl => ?_) (fun u t H1 locs ht hvm hw hB hz1 hk1 hS => ?_)
  · skip
    obtain rfl := hB
    exact vx_out (fun x hx => (hEx x hx).elim) hlocks hce hcv hcl (fun t ht ha => ⟨(), hw, rfl, hS.F ht⟩) hS.2.2 (Nat.le_of_ble_eq_true rfl) (Nat.le_of_ble_eq_true rfl)
  · skip
    exact hw.elim
set_option maxHeartbeats 4000000 in
set_option maxRecDepth 100000 in
/-- found of a new camp throws -/
theorem c_X0_found (l : Launch) (hl9 : l.stackTraces = false) (dC : Nat → ClassId) (dI : Nat → Nat → Nat) (h0 : Nat) (v : Nat → Value) (p0 : Int32) (sz : Nat) : vx_Met l yX0_found wsX0_found ({ frames := 11, cells := 1, slots := 6, locals := 300 }) (va_Pc [.ref h0, .int p0] (zx_pre (dC, dI) [(h0, .inr (0, [.int 0, .int 1, .int 0, .int 0, v 4, v 5, v 6, v 7, .int 0, .int 0, .int 0, .int 0, v 12, v 13, v 14, v 15, v 16, v 17]))] [] sz)) (va_Qi (fun (r : Int32) (u : Unit) => False) (fun (u : Unit) => zx_at (dC, dI) [(h0, .inr (0, [.int 0, .int 1, .int 0, .int 0, v 4, v 5, v 6, v 7, .int 0, .int 0, .int 0, .int 0, v 12, v 13, v 14, v 15, v 16, v 17]))] [] (va_A [(h0, .inr (0, [.int 0, .int 1, .int 0, .int 0, v 4, v 5, v 6, v 7, .int 0, .int 0, .int 0, .int 0, v 12, v 13, v 14, v 15, v 16, v 17]))] sz)) (va_A [(h0, .inr (0, [.int 0, .int 1, .int 0, .int 0, v 4, v 5, v 6, v 7, .int 0, .int 0, .int 0, .int 0, v 12, v 13, v 14, v 15, v 16, v 17]))] sz)) (vx_X (fun _ : Unit => True) (fun E _ _ => E = "java/lang/IndexOutOfBoundsException") (va_A [(h0, .inr (0, [.int 0, .int 1, .int 0, .int 0, v 4, v 5, v 6, v 7, .int 0, .int 0, .int 0, .int 0, v 12, v 13, v 14, v 15, v 16, v 17]))] sz)) 1 6 (va_A [(h0, .inr (0, [.int 0, .int 1, .int 0, .int 0, v 4, v 5, v 6, v 7, .int 0, .int 0, .int 0, .int 0, v 12, v 13, v 14, v 15, v 16, v 17]))] sz) := by
  refine vx_ofW (cc := cX0_found) (maxL := 4) (ret := (some .int)) (by decide) rfl ?_
  intro p e s m args below meth c s₁ B hml hEx hv
  obtain ⟨rfl, hsz, hP, hK, hD0, hZ⟩ := hv
  have hx := B.exec
  have hb := B.bytes
  have hr := B.returns
  have hts := atoms_spec (ws := wsX0_found) B.pre
  have hown : s.vm.findClass RX0 = some m.cls := findClass_of_methodNamed B.named
  have hlocks := B.notSynchronized
  subst hsz
  have hD := hD0.self (sz := s.heap.size)
  generalize hAe : va_A [(h0, .inr (0, [.int 0, .int 1, .int 0, .int 0, v 4, v 5, v 6, v 7, .int 0, .int 0, .int 0, .int 0, v 12, v 13, v 14, v 15, v 16, v 17]))] s.heap.size = A at hD hZ ⊢
  have hA : ∀ q : Nat, s.heap.size ≤ q → A q := fun q h => by rw [← hAe]; exact Or.inr h
  have hS : va_S A s.heap s.heap [] := va_S.rf
  have hP : va_P (dC, dI) vwCl [(h0, .inr (0, [.int 0, .int 1, .int 0, .int 0, v 4, v 5, v 6, v 7, .int 0, .int 0, .int 0, .int 0, v 12, v 13, v 14, v 15, v 16, v 17]))] s.heap := hP
  have hl := lv_entry ([.ref h0, .int p0]) (n := 4) (Nat.le_of_ble_eq_true rfl)
  rw [lg_entry_eq]
  generalize (lg_sl ([.ref h0, .int p0]) ++ List.replicate (4 - (lg_sl ([.ref h0, .int p0])).length) Slot.unset).toArray = ls at hl ⊢
  have hl : lv_has ls 4 [(0, .ref h0), (1, .int p0)] := hl
  refine lv_aload_n hx hb dX0_found_0 rfl (lv_at hl 0 rfl) ?_
  refine lv_iload_n hx hb dX0_found_1 rfl (lv_at hl 1 rfl) ?_
  have hPc := hP.sub (ws' := [(h0, .inr (0, [.int 0, .int 1, .int 0, .int 0, v 4, v 5, v 6, v 7, .int 0, .int 0, .int 0, .int 0, v 12, v 13, v 14, v 15, v 16, v 17]))]) [0] rfl
  have hDc := hD.sub (ws' := [(h0, .inr (0, [.int 0, .int 1, .int 0, .int 0, v 4, v 5, v 6, v 7, .int 0, .int 0, .int 0, .int 0, v 12, v 13, v 14, v 15, v 16, v 17]))]) [0] (by decide) rfl
  have hKc := hK.sub (tys' := []) [] rfl
  have hFc := va_free (wc := [(h0, .inr (0, [.int 0, .int 1, .int 0, .int 0, v 4, v 5, v 6, v 7, .int 0, .int 0, .int 0, .int 0, v 12, v 13, v 14, v 15, v 16, v 17]))]) hD hS hA [0] rfl
  refine vx_callv (vx_runV (As := [.int p0]) (rest := []) ⟨hx, hb, hml, hown, hts⟩ (c_X0_requireGeneral l hl9 dC dI h0 v p0 s.heap.size) (cwV 1 hts gX0_found_X0_requireGeneral rfl rfl rfl (by decide +kernel) ⟨Nat.le_of_ble_eq_true rfl, Nat.le_of_ble_eq_true rfl⟩) ⟨zx_blind, va_recv hKc hPc (ci := 0) (q0 := 0) rfl rfl, fun U hU hW => ⟨rfl, zx_go hPc hKc hDc hZ hS hFc hU hW⟩⟩ rfl rfl hl.1 rfl (lv_room (Nat.le_of_ble_eq_true rfl)) dX0_found_2 ⟨Nat.le_of_ble_eq_true rfl, Nat.le_of_ble_eq_true rfl⟩) hS (fun q _ h => hFc q h) hFc (fun q _ h => hFc q h) (fun E ce q9 u t H1 locs ht hvm hw hB hz1 hk1 hS hce hcv hcl => ?_) (fun u t H1 locs ht hvm hw hB hz1 hk1 hS => ?_)
  · skip
    obtain rfl := hB
    exact vx_out (fun x hx => (hEx x hx).elim) hlocks hce hcv hcl (fun t ht ha => ⟨(), hw, rfl, hS.F ht⟩) hS.2.2 (Nat.le_of_ble_eq_true rfl) (Nat.le_of_ble_eq_true rfl)
  · skip
    exact hw.elim
end
section
theorem zz_probe : True := trivial
end
