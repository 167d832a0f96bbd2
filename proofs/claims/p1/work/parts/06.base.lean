/-! What every contract below speaks of: a start with its world, what a throw needs of the tables, an end with its world. -/
abbrev zE1 : String := "java/lang/IndexOutOfBoundsException"
abbrev zE2 : String := "java/lang/IllegalArgumentException"
/-- what throws and makings need beside the words: class tables, the texts of three messages, two statics of Throwable, arrays of arrays -/
def zx_Z (A : Nat → Prop) (U : State) (H : Heap) : Prop :=
  va_Nw (.castable "java/lang/IndexOutOfBoundsException" "java/lang/IndexOutOfBoundsException") U ∧ va_Nw (.castable "java/lang/IllegalArgumentException" "java/lang/IllegalArgumentException") U ∧
  va_Nw (.declares ⟨"java/lang/RuntimeException", "<init>", "(Ljava/lang/String;)V"⟩) U ∧ va_Nw (.declares ⟨"java/lang/Exception", "<init>", "(Ljava/lang/String;)V"⟩) U ∧ va_Nw (.declares ⟨"java/lang/Throwable", "<init>", "(Ljava/lang/String;)V"⟩) U ∧
  (∃ a : Nat, vk_R RX0 151 "no such general" a U) ∧ (∃ a : Nat, vk_R RX0 159 "no such rounds" a U) ∧ (∃ a : Nat, vk_R RX0 94 "no such count" a U) ∧
  vx_Zq Bundle.tN "UNASSIGNED_STACK" Bundle.steD A U H ∧ vx_Zq Bundle.tN "SUPPRESSED_SENTINEL" Bundle.listD A U H ∧ va_AOA .int U
theorem zx_Z.same {A : Nat → Prop} {u U : State} {H : Heap} (hv : U.vm = u.vm) (h : zx_Z A u H) : zx_Z A U H := by
  obtain ⟨h1, h2, h3, h4, h5, ⟨a1, h6⟩, ⟨a2, h7⟩, ⟨a3, h8⟩, h9, h10, h11⟩ := h
  have hal : u.vm.Alike U.vm := by rw [hv]; exact Vm.Alike.refl _
  exact ⟨va_Nw.same rfl hv.symm h1, va_Nw.same rfl hv.symm h2, va_Nw.same rfl hv.symm h3, va_Nw.same rfl hv.symm h4, va_Nw.same rfl hv.symm h5, ⟨a1, vk_R.same hv h6⟩, ⟨a2, vk_R.same hv h7⟩, ⟨a3, vk_R.same hv h8⟩, vx_Zq.moved hal h9, vx_Zq.moved hal h10, va_AOA.moved hal h11⟩
theorem zx_Z.warm {A : Nat → Prop} {s U : State} {H : Heap} (hW : s.WarmedH U.vm) (h : zx_Z A s H) : zx_Z A U H := by
  obtain ⟨h1, h2, h3, h4, h5, ⟨a1, h6⟩, ⟨a2, h7⟩, ⟨a3, h8⟩, h9, h10, h11⟩ := h
  exact ⟨va_Nw.warmC hW h1, va_Nw.warmC hW h2, va_Nw.warmD hW h3, va_Nw.warmD hW h4, va_Nw.warmD hW h5, ⟨a1, vk_R.warm hW h6⟩, ⟨a2, vk_R.warm hW h7⟩, ⟨a3, vk_R.warm hW h8⟩, vx_Zq.moved hW.alike h9, vx_Zq.moved hW.alike h10, va_AOA.moved hW.alike h11⟩
theorem zx_Z.kept {A B : Nat → Prop} {U : State} {H H1 : Heap} (h : zx_Z A U H) (hq : ∀ a : Nat, a < H.size → ¬ A a → H1[a]? = H[a]?) (hAB : ∀ q, B q → A q) : zx_Z B U H1 := by
  obtain ⟨h1, h2, h3, h4, h5, h6, h7, h8, h9, h10, h11⟩ := h
  exact ⟨h1, h2, h3, h4, h5, h6, h7, h8, vx_Zq.narrow (vx_Zq.kept h9 hq) hAB, vx_Zq.narrow (vx_Zq.kept h10 hq) hAB, h11⟩
/-- a start: the world ws, the heap sz cells high -/
def zx_pre (D : va_G) (ws : va_W) (tys : List (ClassId × FieldType)) (sz : Nat) (U : State) : Prop :=
  U.heap.size = sz ∧ va_P D vwCl ws U.heap ∧ va_K D vwCl tys U ∧ va_D (fun _ => True) ws ∧ zx_Z (va_A ws sz) U U.heap
/-- an end: the world ws -/
abbrev zx_at (D : va_G) (ws : va_W) (tys : List (ClassId × FieldType)) (A : Nat → Prop) (t : State) : Prop :=
  va_P D vwCl ws t.heap ∧ va_K D vwCl tys t ∧ va_D A ws
theorem zx_blind {D : va_G} {ws : va_W} {tys : List (ClassId × FieldType)} {sz : Nat} {av : List Value} : FrameBlind (va_Pc av (zx_pre D ws tys sz)) := fun a U g mk q => by
  obtain ⟨q0, q1, q2, q3, q4, q5⟩ := q
  exact ⟨q0, q1, q2, va_K.moved (u := U) (U := U.calling g mk a) (Vm.Alike.refl U.vm) q3, q4, zx_Z.same (u := U) (U := U.calling g mk a) rfl q5⟩
theorem zx_go {D : va_G} {ws : va_W} {tys : List (ClassId × FieldType)} {A : Nat → Prop} {s : State} {H : Heap} {locs : List Loc} (hP : va_P D vwCl ws H) (hK : va_K D vwCl tys s) (hD : va_D A ws) (hZ : zx_Z A s s.heap) (hS : va_S A s.heap H locs) (hF : ∀ q, va_A ws H.size q → A q) {U : State} (hU : U.heap = H) (hW : s.WarmedH U.vm) : zx_pre D ws tys H.size U := by
  refine ⟨by rw [hU], by rw [hU]; exact hP, va_K.moved hW.alike hK, hD.weaken (fun _ _ _ _ => trivial), ?_⟩
  rw [hU]
  exact zx_Z.warm hW (hZ.kept hS.2.1 hF)
theorem zx_nilP {D : va_G} {cl : List vw_C} {H : Heap} : va_P D cl [] H := fun k q h => by simp at h
theorem zx_nilD {A : Nat → Prop} : va_D A [] := ⟨fun i j p q h => by simp at h, fun k q h => by simp at h⟩
theorem zx_in {i : Int32} {n : Nat} (h : (decide (0 ≤ i.toInt) && decide (i.toInt < n)) = true) : vp_in i n := by
  simp only [Bool.and_eq_true, decide_eq_true_eq] at h
  exact vp_in_iff.mpr h
theorem zx_neg {v : Int32} (h1 : ¬ v < 0) (h2 : ¬ (-1) < v) : False := by
  have a1 := mt Int32.lt_iff_toInt_lt.mpr h1
  have a2 := mt Int32.lt_iff_toInt_lt.mpr h2
  have e0 : (0 : Int32).toInt = 0 := by decide
  have e1 : (-1 : Int32).toInt = -1 := by decide
  rw [e0] at a1
  rw [e1] at a2
  omega
theorem zx_nle {a b : Int32} (h : ¬ a ≤ b) : b < a := by
  have a1 := mt Int32.le_iff_toInt_le.mpr h
  exact Int32.lt_iff_toInt_lt.mpr (by omega)
theorem zx_le {a b : Int32} (h : a ≤ b) : ¬ b < a := fun q => by
  have a1 := Int32.le_iff_toInt_le.mp h
  have a2 := Int32.lt_iff_toInt_lt.mp q
  omega
/-- what count tells of a new camp -/
def zx_c (w : Int32) : Int32 := if w = 1 then 1 else if w = 0 ∨ w = 2 ∨ w = 3 then 0 else -1
/-- the class's object on a new camp, its rows anywhere -/
abbrev zX (g r : Int32) (v : Nat → Value) : va_E := .inr (0, [.int g, .int r, .int 0, .int 0, v 4, v 5, v 6, v 7, .int 0, .int 0, .int 0, .int 0, v 12, v 13, v 14, v 15, v 16, v 17])
/-- the reference's object on a new camp -/
abbrev zM (th g r : Int32) (a3 a4 a10 a11 : Value) : va_E := .inr (1, [.int th, .int g, .int r, a3, a4, .int 0, .int 0, .int (-1), .int (-1), .int (-1), a10, a11])
theorem zx_cl {own a b : String} {k : Nat} {args : Array Value} {s : State} (h : a = b) (hb : (Cond.classLink own k b).before args s = true) : (Cond.classLink own k a).before args s = true := by rw [h]; exact hb
section ZAA
variable {p : Program} {l : Launch} {e : Env} {R : Room} {s : State} {m : MethodId} {args : Array Value} {below : List Frame} {meth : Method} {c : Code} {H : Heap} {locs : List Loc} {cells slots : Nat} {Q : State → Prop}
variable {cc : ByteArray} {pc : Nat} {ls : Array Slot} {rest : List Value} {D : va_G} {cl : List vw_C} {a : Nat} {tys : List (ClassId × FieldType)} {ws : va_W}
/-- a row out of an array of rows -/
theorem zx_aldA (hexec : p.tables.exec = Jvm.exec) (hb : c.code = cc) (hK : va_K D cl tys s) (hP : va_P D cl ws H) (q0 t0 : Nat) {cA : ClassId} {t : FieldType} {n : Nat} {f : Nat → Option Nat} (ha : ws[q0]? = some (a, .inl (cA, n, .inr (.inr (.inr (.inr f)))))) (ht : tys[t0]? = some (cA, .array t)) {i : Int32} (hin : vp_in i n) (hdg : decode cc pc = .ok (.aaload, 1))
    (kk : W p l e R s m args below meth c H locs cells slots Q (F0 m (pc + 1) ls (va_rf (f i.toNatClampNeg) :: rest))) : W p l e R s m args below meth c H locs cells slots Q (F0 m pc ls (.int i :: .ref a :: rest)) := by
  have hlt : i.toNatClampNeg < n := Nat.not_le.mp fun q => hin (Or.inr q)
  exact W.aald (v := va_rf (f i.toNatClampNeg)) (ty := .array t) hexec hb (hP q0 _ ha) ((hK.2 t0 _ ht).1 n (fun j => va_rf (f j))) rfl (fun q => by cases q) (by show ¬ (i < 0 ∨ (arrV _ _ _).slots.size ≤ _); rw [arrV_size]; exact hin) (by show (arrV _ _ _).slots[_]? = _; rw [arrV_read _ _ hlt]) rfl rfl hdg kk
end ZAA
theorem zx_cmp (x : Int64) : lg_cmp x x = 0 := by simp [lg_cmp]
theorem zx_in9 {v : Int32} (h1 : ¬ v < 0) (h2 : ¬ 8 < v) : vp_in v 9 := by
  have a1 := mt Int32.lt_iff_toInt_lt.mpr h1
  have a2 := mt Int32.lt_iff_toInt_lt.mpr h2
  have e0 : (0 : Int32).toInt = 0 := by decide
  have e1 : (8 : Int32).toInt = 8 := by decide
  rw [e0] at a1
  rw [e1] at a2
  exact vp_in_iff.mpr ⟨by omega, by omega⟩
