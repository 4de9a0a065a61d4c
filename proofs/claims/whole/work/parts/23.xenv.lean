def stL : List (Nat × String) := [(49, "there is no such word of memory"), (64, "a frame is 1 to 128 wide and high"), (69, "the stream is full"), (84, "the run is over"), (108, "there is no such argument"), (122, "nothing such is kept"), (142, "nothing is told about that")]
def exL : List String := ["java/lang/IndexOutOfBoundsException", "java/lang/IllegalArgumentException", "java/lang/UnsupportedOperationException", "java/lang/IllegalStateException"]
theorem decl_of {x : MethodName} {args : Array Value} {s : State} {b : ByteArray} {m : Nat} {ret : Option FieldType} (hi : (Cond.instanceMethod x).before args s = true) (hc : (Cond.code x b m ret).before args s = true) : (Cond.declares x).before args s = true := by
  obtain ⟨r0, r, h1, h2, h3, h4⟩ := va_Decl.of hi hc
  simp [Cond.before, Cond.holds, Cond.value, h1, h2, h3, h4]
theorem cast_warm {a b : String} {s U : State} (hv : s.vm.Alike U.vm) {A A' : Array Value} (h : (Cond.castable a b).before A s = true) : (Cond.castable a b).before A' U = true := by
  obtain ⟨c, t, h1, h2, h3⟩ := Cond.castable_spec h
  have e1 : U.vm.findClass a = some c := by rw [hv.findClass]; exact h1
  have e2 : U.vm.findClass b = some t := by rw [hv.findClass]; exact h2
  have e3 : U.vm.assignable c t = true := by rw [hv.assignable]; exact h3
  simp [Cond.before, Cond.holds, Cond.value, e1, e2, e3]
/-- what throwing needs beside the good words -/
def evX (xs : Nat → Nat) (A : Nat → Prop) (U : State) (H : Heap) : Prop := (∀ X ∈ exL, (Cond.castable X X).before #[] U = true) ∧ (∀ (i : Nat) (q : Nat × String), stL[i]? = some q → vk_R "DrawCommands" q.1 q.2 (xs i) U) ∧ vx_Zq Bundle.tN "UNASSIGNED_STACK" Bundle.steD A U H ∧ vx_Zq Bundle.tN "SUPPRESSED_SENTINEL" Bundle.listD A U H
theorem evX.call {xs : Nat → Nat} {A A1 : Nat → Prop} {s U : State} {H : Heap} {locs : List Loc} (h : evX xs A s s.heap) (hS : va_S A s.heap H locs) (hA : ∀ q, A1 q → A q) (hU : U.heap = H) (hW : s.WarmedH U.vm) : evX xs A1 U U.heap := by
  obtain ⟨h1, h2, h3, h4⟩ := h
  have hq : ∀ a : Nat, a < s.heap.size → ¬ A a → U.heap[a]? = s.heap[a]? := fun a x y => by rw [hU]; exact hS.2.1 a x y
  exact ⟨fun X hX => cast_warm hW.alike (h1 X hX), fun i q hi => vk_R.warm hW (h2 i q hi), ((h3.kept hq).moved hW.alike).narrow hA, ((h4.kept hq).moved hW.alike).narrow hA⟩
theorem evX.blind {xs : Nat → Nat} {A : Nat → Prop} {U : State} (g : JFrame) (mk : MethodId) (a : Array Value) (h : evX xs A U U.heap) : evX xs A (U.calling g mk a) (U.calling g mk a).heap := by
  obtain ⟨h1, h2, h3, h4⟩ := h
  have hv : U.vm.Alike (U.calling g mk a).vm := Vm.Alike.refl U.vm
  exact ⟨fun X hX => cast_warm (s := U) (U := U.calling g mk a) hv (h1 X hX), fun i q hi => vk_R.same (u := U) (U := U.calling g mk a) rfl (h2 i q hi), vx_Zq.moved (u := U) (U := U.calling g mk a) hv h3, vx_Zq.moved (u := U) (U := U.calling g mk a) hv h4⟩
def xP (tb : tbT) (xs : Nat → Nat) (D : va_G) (ws : va_W) (tys : List (ClassId × FieldType)) (sz : Nat) : State → Prop := fun U => mP tb D ws tys sz U ∧ evX xs (va_A ws sz) U U.heap
theorem xP_blind {tb : tbT} {xs : Nat → Nat} {D : va_G} {ws : va_W} {tys : List (ClassId × FieldType)} {sz : Nat} {av : List Value} : FrameBlind (va_Pc av (xP tb xs D ws tys sz)) := fun a U g mk q => by
  obtain ⟨q0, qm, qx⟩ := q
  exact ⟨q0, (mP_blind (av := av) a U g mk ⟨q0, qm⟩).2, qx.blind g mk a⟩
/-- thrown: the world is as it was -/
def xB (D : va_G) (ws : va_W) (tys : List (ClassId × FieldType)) (sz : Nat) (cls : String) : String → Unit → State → Prop := fun E _ t => E = cls ∧ va_P D clX ws t.heap ∧ va_K D clX tys t ∧ va_D (va_A ws sz) ws
/-- a method that answers an int, or throws where 'bad' -/
abbrev XI (l : Launch) (y : MethodName) (w : List Cond) (rm : Room) (tb : tbT) (xs : Nat → Nat) (D : va_G) (av : List Value) (ws ws' : va_W) (tys : List (ClassId × FieldType)) (sz : Nat) (res : Int32) (bad : Prop) (cls : String) : Prop :=
  vx_Met l y w rm (va_Pc av (xP tb xs D ws tys sz)) (va_Qi (fun r (_ : Unit) => ¬ bad ∧ r = res) (mB D ws ws' tys sz) (va_A ws sz)) (vx_X (fun _ : Unit => bad) (xB D ws tys sz cls) (va_A ws sz)) 1 6 (va_A ws sz)
abbrev XV (l : Launch) (y : MethodName) (w : List Cond) (rm : Room) (tb : tbT) (xs : Nat → Nat) (D : va_G) (av : List Value) (ws ws' : va_W) (tys : List (ClassId × FieldType)) (sz : Nat) (bad : Prop) (cls : String) : Prop :=
  vx_Met l y w rm (va_Pc av (xP tb xs D ws tys sz)) (va_Qv (fun _ : Unit => ¬ bad) (mB D ws ws' tys sz) (va_A ws sz)) (vx_X (fun _ : Unit => bad) (xB D ws tys sz cls) (va_A ws sz)) 1 6 (va_A ws sz)
theorem xc_of {D : va_G} {ws : va_W} {tys : List (ClassId × FieldType)} {A : Nat → Prop} {s : State} {H : Heap} {locs : List Loc} {cls : String} {bad : Prop} {sz : Nat} (hP : va_P D clX ws H) (hD : va_D A ws) (hK : va_K D clX tys s) (hS : va_S A s.heap H locs) (hAe : va_A ws sz = A) (hbad : bad) : ∀ t : State, s.vm.Alike t.vm → H.size ≤ t.heap.size → (∀ q : Nat, q < H.size → t.heap[q]? = H[q]?) → vx_X (fun _ : Unit => bad) (xB D ws tys sz cls) A cls s t := fun t hv hz hk =>
  ⟨(), hbad, ⟨rfl, hP.kept (fun k q hq => hk _ (hP k q hq).lt), va_K.moved hv hK, by rw [hAe]; exact hD⟩, Nat.le_trans hS.1 hz, fun q h1 h2 => (hk q (Nat.lt_of_lt_of_le h1 hS.1)).trans (hS.2.1 q h1 h2)⟩

theorem xa_io {args : Array Value} {s : State} (ht : ∀ w ∈ TB, w.before args s = true) (hc : (Cond.castable "java/lang/IndexOutOfBoundsException" "java/lang/IndexOutOfBoundsException").before args s = true) : ∀ w ∈ vx_atS "DrawCommands" 51 "java/lang/IndexOutOfBoundsException" ["java/lang/RuntimeException", "java/lang/Exception"], w.before args s = true := by
  intro w hw
  obtain ⟨h, hno⟩ := List.mem_filter.mp hw
  simp only [Bundle.ownAtoms, Bundle.throwableAtoms, Bundle.throwableSAtoms, Bundle.chainSAtoms, Bundle.passSAtoms, List.append_assoc, List.cons_append, List.nil_append, List.mem_cons, List.not_mem_nil, or_false] at h
  rcases h with rfl | rfl | rfl | rfl | rfl | rfl | rfl | rfl | rfl | rfl | rfl | rfl | rfl | rfl | rfl | rfl | rfl | rfl | rfl | rfl | rfl | rfl | rfl | rfl | rfl | rfl | rfl | rfl | rfl | rfl | rfl | rfl | rfl | rfl | rfl | rfl | rfl | rfl | rfl | rfl | rfl | rfl | rfl | rfl | rfl | rfl | rfl | rfl | rfl | rfl | rfl | rfl | rfl | rfl | rfl | rfl | rfl
  · exact ht _ (tb_1 8 rfl rfl)
  · exact ht _ (tb_1 226 rfl rfl)
  · exact ht _ (tb_1 235 rfl rfl)
  · exact ht _ (tb_2 0 rfl rfl)
  · exact ht _ (tb_2 3 rfl rfl)
  · exact ht _ (tb_2 5 rfl rfl)
  · exact ht _ (tb_1 227 rfl rfl)
  · exact ht _ (tb_1 228 rfl rfl)
  · exact ht _ (tb_1 21 rfl rfl)
  · exact ht _ (tb_1 22 rfl rfl)
  · exact ht _ (tb_1 229 rfl rfl)
  · exact ht _ (tb_1 234 rfl rfl)
  · exact ht _ (tb_2 1 rfl rfl)
  · exact ht _ (tb_2 21 rfl rfl)
  · exact ht _ (tb_1 216 rfl rfl)
  · exact ht _ (tb_2 22 rfl rfl)
  · exact ht _ (tb_1 218 rfl rfl)
  · exact ht _ (tb_2 23 rfl rfl)
  · exact ht _ (tb_1 220 rfl rfl)
  · exact ht _ (tb_1 230 rfl rfl)
  · exact absurd hno (by decide +kernel)
  · exact ht _ (tb_1 232 rfl rfl)
  · exact absurd hno (by decide +kernel)
  · exact ht _ (tb_1 222 rfl rfl)
  · exact ht _ (tb_2 17 rfl rfl)
  · exact ht _ (tb_2 18 rfl rfl)
  · exact ht _ (tb_2 20 rfl rfl)
  · exact ht _ (tb_1 222 rfl rfl)
  · exact ht _ (tb_2 8 rfl rfl)
  · exact ht _ (tb_2 9 rfl rfl)
  · exact ht _ (tb_2 10 rfl rfl)
  · exact ht _ (tb_2 11 rfl rfl)
  · exact decl_of (ht _ (tb_2 11 rfl rfl)) (ht _ (tb_2 12 rfl rfl))
  · exact ht _ (tb_2 11 rfl rfl)
  · exact ht _ (tb_2 12 rfl rfl)
  · exact ht _ (tb_2 13 rfl rfl)
  · exact ht _ (tb_2 14 rfl rfl)
  · exact decl_of (ht _ (tb_2 14 rfl rfl)) (ht _ (tb_2 15 rfl rfl))
  · exact ht _ (tb_2 14 rfl rfl)
  · exact ht _ (tb_2 15 rfl rfl)
  · exact ht _ (tb_2 16 rfl rfl)
  · exact ht _ (tb_2 17 rfl rfl)
  · exact decl_of (ht _ (tb_2 17 rfl rfl)) (ht _ (tb_2 18 rfl rfl))
  · exact ht _ (tb_2 7 rfl rfl)
  · exact ht _ (tb_1 205 rfl rfl)
  · exact hc
  · exact ht _ (tb_1 213 rfl rfl)
  · exact ht _ (tb_1 214 rfl rfl)
  · exact ht _ (tb_1 215 rfl rfl)
  · exact ht _ (tb_1 217 rfl rfl)
  · exact ht _ (tb_1 219 rfl rfl)
  · exact ht _ (tb_1 221 rfl rfl)
  · exact absurd hno (by decide +kernel)
  · exact absurd hno (by decide +kernel)
  · exact ht _ (tb_1 225 rfl rfl)
  · exact ht _ (tb_1 224 rfl rfl)
  · exact ht _ (tb_1 223 rfl rfl)
theorem xg_io (ik : Nat) : ∀ w ∈ Cond.classLink "DrawCommands" ik "java/lang/IndexOutOfBoundsException" :: Cond.initialized "java/lang/IndexOutOfBoundsException" :: vx_atS "DrawCommands" 51 "java/lang/IndexOutOfBoundsException" ["java/lang/RuntimeException", "java/lang/Exception"], vx_ot w = true := by
  intro w hw
  rcases List.mem_cons.mp hw with rfl | hw
  · rfl
  rcases List.mem_cons.mp hw with rfl | hw
  · rfl
  exact List.all_eq_true.mp (show (vx_atS "DrawCommands" 51 "java/lang/IndexOutOfBoundsException" ["java/lang/RuntimeException", "java/lang/Exception"]).all vx_ot = true by decide +kernel) w hw
theorem xa_ia {args : Array Value} {s : State} (ht : ∀ w ∈ TB, w.before args s = true) (hc : (Cond.castable "java/lang/IllegalArgumentException" "java/lang/IllegalArgumentException").before args s = true) : ∀ w ∈ vx_atS "DrawCommands" 66 "java/lang/IllegalArgumentException" ["java/lang/RuntimeException", "java/lang/Exception"], w.before args s = true := by
  intro w hw
  obtain ⟨h, hno⟩ := List.mem_filter.mp hw
  simp only [Bundle.ownAtoms, Bundle.throwableAtoms, Bundle.throwableSAtoms, Bundle.chainSAtoms, Bundle.passSAtoms, List.append_assoc, List.cons_append, List.nil_append, List.mem_cons, List.not_mem_nil, or_false] at h
  rcases h with rfl | rfl | rfl | rfl | rfl | rfl | rfl | rfl | rfl | rfl | rfl | rfl | rfl | rfl | rfl | rfl | rfl | rfl | rfl | rfl | rfl | rfl | rfl | rfl | rfl | rfl | rfl | rfl | rfl | rfl | rfl | rfl | rfl | rfl | rfl | rfl | rfl | rfl | rfl | rfl | rfl | rfl | rfl | rfl | rfl | rfl | rfl | rfl | rfl | rfl | rfl | rfl | rfl | rfl | rfl | rfl | rfl
  · exact ht _ (tb_1 8 rfl rfl)
  · exact ht _ (tb_1 226 rfl rfl)
  · exact ht _ (tb_1 235 rfl rfl)
  · exact ht _ (tb_2 0 rfl rfl)
  · exact ht _ (tb_2 3 rfl rfl)
  · exact ht _ (tb_2 5 rfl rfl)
  · exact ht _ (tb_1 227 rfl rfl)
  · exact ht _ (tb_1 228 rfl rfl)
  · exact ht _ (tb_1 21 rfl rfl)
  · exact ht _ (tb_1 22 rfl rfl)
  · exact ht _ (tb_1 229 rfl rfl)
  · exact ht _ (tb_1 234 rfl rfl)
  · exact ht _ (tb_2 1 rfl rfl)
  · exact ht _ (tb_2 21 rfl rfl)
  · exact ht _ (tb_1 216 rfl rfl)
  · exact ht _ (tb_2 22 rfl rfl)
  · exact ht _ (tb_1 218 rfl rfl)
  · exact ht _ (tb_2 23 rfl rfl)
  · exact ht _ (tb_1 220 rfl rfl)
  · exact ht _ (tb_1 230 rfl rfl)
  · exact absurd hno (by decide +kernel)
  · exact ht _ (tb_1 232 rfl rfl)
  · exact absurd hno (by decide +kernel)
  · exact ht _ (tb_1 222 rfl rfl)
  · exact ht _ (tb_2 17 rfl rfl)
  · exact ht _ (tb_2 18 rfl rfl)
  · exact ht _ (tb_2 20 rfl rfl)
  · exact ht _ (tb_1 222 rfl rfl)
  · exact ht _ (tb_2 54 rfl rfl)
  · exact ht _ (tb_2 55 rfl rfl)
  · exact ht _ (tb_2 56 rfl rfl)
  · exact ht _ (tb_2 11 rfl rfl)
  · exact decl_of (ht _ (tb_2 11 rfl rfl)) (ht _ (tb_2 12 rfl rfl))
  · exact ht _ (tb_2 11 rfl rfl)
  · exact ht _ (tb_2 12 rfl rfl)
  · exact ht _ (tb_2 13 rfl rfl)
  · exact ht _ (tb_2 14 rfl rfl)
  · exact decl_of (ht _ (tb_2 14 rfl rfl)) (ht _ (tb_2 15 rfl rfl))
  · exact ht _ (tb_2 14 rfl rfl)
  · exact ht _ (tb_2 15 rfl rfl)
  · exact ht _ (tb_2 16 rfl rfl)
  · exact ht _ (tb_2 17 rfl rfl)
  · exact decl_of (ht _ (tb_2 17 rfl rfl)) (ht _ (tb_2 18 rfl rfl))
  · exact ht _ (tb_2 53 rfl rfl)
  · exact ht _ (tb_2 44 rfl rfl)
  · exact hc
  · exact ht _ (tb_2 46 rfl rfl)
  · exact ht _ (tb_1 237 rfl rfl)
  · exact ht _ (tb_2 47 rfl rfl)
  · exact ht _ (tb_2 48 rfl rfl)
  · exact ht _ (tb_2 49 rfl rfl)
  · exact ht _ (tb_2 50 rfl rfl)
  · exact absurd hno (by decide +kernel)
  · exact absurd hno (by decide +kernel)
  · exact ht _ (tb_1 225 rfl rfl)
  · exact ht _ (tb_1 224 rfl rfl)
  · exact ht _ (tb_2 51 rfl rfl)
theorem xg_ia (ik : Nat) : ∀ w ∈ Cond.classLink "DrawCommands" ik "java/lang/IllegalArgumentException" :: Cond.initialized "java/lang/IllegalArgumentException" :: vx_atS "DrawCommands" 66 "java/lang/IllegalArgumentException" ["java/lang/RuntimeException", "java/lang/Exception"], vx_ot w = true := by
  intro w hw
  rcases List.mem_cons.mp hw with rfl | hw
  · rfl
  rcases List.mem_cons.mp hw with rfl | hw
  · rfl
  exact List.all_eq_true.mp (show (vx_atS "DrawCommands" 66 "java/lang/IllegalArgumentException" ["java/lang/RuntimeException", "java/lang/Exception"]).all vx_ot = true by decide +kernel) w hw
theorem xa_uo {args : Array Value} {s : State} (ht : ∀ w ∈ TB, w.before args s = true) (hc : (Cond.castable "java/lang/UnsupportedOperationException" "java/lang/UnsupportedOperationException").before args s = true) : ∀ w ∈ vx_atS "DrawCommands" 71 "java/lang/UnsupportedOperationException" ["java/lang/RuntimeException", "java/lang/Exception"], w.before args s = true := by
  intro w hw
  obtain ⟨h, hno⟩ := List.mem_filter.mp hw
  simp only [Bundle.ownAtoms, Bundle.throwableAtoms, Bundle.throwableSAtoms, Bundle.chainSAtoms, Bundle.passSAtoms, List.append_assoc, List.cons_append, List.nil_append, List.mem_cons, List.not_mem_nil, or_false] at h
  rcases h with rfl | rfl | rfl | rfl | rfl | rfl | rfl | rfl | rfl | rfl | rfl | rfl | rfl | rfl | rfl | rfl | rfl | rfl | rfl | rfl | rfl | rfl | rfl | rfl | rfl | rfl | rfl | rfl | rfl | rfl | rfl | rfl | rfl | rfl | rfl | rfl | rfl | rfl | rfl | rfl | rfl | rfl | rfl | rfl | rfl | rfl | rfl | rfl | rfl | rfl | rfl | rfl | rfl | rfl | rfl | rfl | rfl
  · exact ht _ (tb_1 8 rfl rfl)
  · exact ht _ (tb_1 226 rfl rfl)
  · exact ht _ (tb_1 235 rfl rfl)
  · exact ht _ (tb_2 0 rfl rfl)
  · exact ht _ (tb_2 3 rfl rfl)
  · exact ht _ (tb_2 5 rfl rfl)
  · exact ht _ (tb_1 227 rfl rfl)
  · exact ht _ (tb_1 228 rfl rfl)
  · exact ht _ (tb_1 21 rfl rfl)
  · exact ht _ (tb_1 22 rfl rfl)
  · exact ht _ (tb_1 229 rfl rfl)
  · exact ht _ (tb_1 234 rfl rfl)
  · exact ht _ (tb_2 1 rfl rfl)
  · exact ht _ (tb_2 21 rfl rfl)
  · exact ht _ (tb_1 216 rfl rfl)
  · exact ht _ (tb_2 22 rfl rfl)
  · exact ht _ (tb_1 218 rfl rfl)
  · exact ht _ (tb_2 23 rfl rfl)
  · exact ht _ (tb_1 220 rfl rfl)
  · exact ht _ (tb_1 230 rfl rfl)
  · exact absurd hno (by decide +kernel)
  · exact ht _ (tb_1 232 rfl rfl)
  · exact absurd hno (by decide +kernel)
  · exact ht _ (tb_1 222 rfl rfl)
  · exact ht _ (tb_2 17 rfl rfl)
  · exact ht _ (tb_2 18 rfl rfl)
  · exact ht _ (tb_2 20 rfl rfl)
  · exact ht _ (tb_1 222 rfl rfl)
  · exact ht _ (tb_2 78 rfl rfl)
  · exact ht _ (tb_2 79 rfl rfl)
  · exact ht _ (tb_2 80 rfl rfl)
  · exact ht _ (tb_2 11 rfl rfl)
  · exact decl_of (ht _ (tb_2 11 rfl rfl)) (ht _ (tb_2 12 rfl rfl))
  · exact ht _ (tb_2 11 rfl rfl)
  · exact ht _ (tb_2 12 rfl rfl)
  · exact ht _ (tb_2 13 rfl rfl)
  · exact ht _ (tb_2 14 rfl rfl)
  · exact decl_of (ht _ (tb_2 14 rfl rfl)) (ht _ (tb_2 15 rfl rfl))
  · exact ht _ (tb_2 14 rfl rfl)
  · exact ht _ (tb_2 15 rfl rfl)
  · exact ht _ (tb_2 16 rfl rfl)
  · exact ht _ (tb_2 17 rfl rfl)
  · exact decl_of (ht _ (tb_2 17 rfl rfl)) (ht _ (tb_2 18 rfl rfl))
  · exact ht _ (tb_2 77 rfl rfl)
  · exact ht _ (tb_2 68 rfl rfl)
  · exact hc
  · exact ht _ (tb_2 70 rfl rfl)
  · exact ht _ (tb_1 239 rfl rfl)
  · exact ht _ (tb_2 71 rfl rfl)
  · exact ht _ (tb_2 72 rfl rfl)
  · exact ht _ (tb_2 73 rfl rfl)
  · exact ht _ (tb_2 74 rfl rfl)
  · exact absurd hno (by decide +kernel)
  · exact absurd hno (by decide +kernel)
  · exact ht _ (tb_1 225 rfl rfl)
  · exact ht _ (tb_1 224 rfl rfl)
  · exact ht _ (tb_2 75 rfl rfl)
theorem xg_uo (ik : Nat) : ∀ w ∈ Cond.classLink "DrawCommands" ik "java/lang/UnsupportedOperationException" :: Cond.initialized "java/lang/UnsupportedOperationException" :: vx_atS "DrawCommands" 71 "java/lang/UnsupportedOperationException" ["java/lang/RuntimeException", "java/lang/Exception"], vx_ot w = true := by
  intro w hw
  rcases List.mem_cons.mp hw with rfl | hw
  · rfl
  rcases List.mem_cons.mp hw with rfl | hw
  · rfl
  exact List.all_eq_true.mp (show (vx_atS "DrawCommands" 71 "java/lang/UnsupportedOperationException" ["java/lang/RuntimeException", "java/lang/Exception"]).all vx_ot = true by decide +kernel) w hw
theorem xa_is {args : Array Value} {s : State} (ht : ∀ w ∈ TB, w.before args s = true) (hc : (Cond.castable "java/lang/IllegalStateException" "java/lang/IllegalStateException").before args s = true) : ∀ w ∈ vx_atS "DrawCommands" 86 "java/lang/IllegalStateException" ["java/lang/RuntimeException", "java/lang/Exception"], w.before args s = true := by
  intro w hw
  obtain ⟨h, hno⟩ := List.mem_filter.mp hw
  simp only [Bundle.ownAtoms, Bundle.throwableAtoms, Bundle.throwableSAtoms, Bundle.chainSAtoms, Bundle.passSAtoms, List.append_assoc, List.cons_append, List.nil_append, List.mem_cons, List.not_mem_nil, or_false] at h
  rcases h with rfl | rfl | rfl | rfl | rfl | rfl | rfl | rfl | rfl | rfl | rfl | rfl | rfl | rfl | rfl | rfl | rfl | rfl | rfl | rfl | rfl | rfl | rfl | rfl | rfl | rfl | rfl | rfl | rfl | rfl | rfl | rfl | rfl | rfl | rfl | rfl | rfl | rfl | rfl | rfl | rfl | rfl | rfl | rfl | rfl | rfl | rfl | rfl | rfl | rfl | rfl | rfl | rfl | rfl | rfl | rfl | rfl
  · exact ht _ (tb_1 8 rfl rfl)
  · exact ht _ (tb_1 226 rfl rfl)
  · exact ht _ (tb_1 235 rfl rfl)
  · exact ht _ (tb_2 0 rfl rfl)
  · exact ht _ (tb_2 3 rfl rfl)
  · exact ht _ (tb_2 5 rfl rfl)
  · exact ht _ (tb_1 227 rfl rfl)
  · exact ht _ (tb_1 228 rfl rfl)
  · exact ht _ (tb_1 21 rfl rfl)
  · exact ht _ (tb_1 22 rfl rfl)
  · exact ht _ (tb_1 229 rfl rfl)
  · exact ht _ (tb_1 234 rfl rfl)
  · exact ht _ (tb_2 1 rfl rfl)
  · exact ht _ (tb_2 21 rfl rfl)
  · exact ht _ (tb_1 216 rfl rfl)
  · exact ht _ (tb_2 22 rfl rfl)
  · exact ht _ (tb_1 218 rfl rfl)
  · exact ht _ (tb_2 23 rfl rfl)
  · exact ht _ (tb_1 220 rfl rfl)
  · exact ht _ (tb_1 230 rfl rfl)
  · exact absurd hno (by decide +kernel)
  · exact ht _ (tb_1 232 rfl rfl)
  · exact absurd hno (by decide +kernel)
  · exact ht _ (tb_1 222 rfl rfl)
  · exact ht _ (tb_2 17 rfl rfl)
  · exact ht _ (tb_2 18 rfl rfl)
  · exact ht _ (tb_2 20 rfl rfl)
  · exact ht _ (tb_1 222 rfl rfl)
  · exact ht _ (tb_2 102 rfl rfl)
  · exact ht _ (tb_2 103 rfl rfl)
  · exact ht _ (tb_2 104 rfl rfl)
  · exact ht _ (tb_2 11 rfl rfl)
  · exact decl_of (ht _ (tb_2 11 rfl rfl)) (ht _ (tb_2 12 rfl rfl))
  · exact ht _ (tb_2 11 rfl rfl)
  · exact ht _ (tb_2 12 rfl rfl)
  · exact ht _ (tb_2 13 rfl rfl)
  · exact ht _ (tb_2 14 rfl rfl)
  · exact decl_of (ht _ (tb_2 14 rfl rfl)) (ht _ (tb_2 15 rfl rfl))
  · exact ht _ (tb_2 14 rfl rfl)
  · exact ht _ (tb_2 15 rfl rfl)
  · exact ht _ (tb_2 16 rfl rfl)
  · exact ht _ (tb_2 17 rfl rfl)
  · exact decl_of (ht _ (tb_2 17 rfl rfl)) (ht _ (tb_2 18 rfl rfl))
  · exact ht _ (tb_2 101 rfl rfl)
  · exact ht _ (tb_2 92 rfl rfl)
  · exact hc
  · exact ht _ (tb_2 94 rfl rfl)
  · exact ht _ (tb_1 238 rfl rfl)
  · exact ht _ (tb_2 95 rfl rfl)
  · exact ht _ (tb_2 96 rfl rfl)
  · exact ht _ (tb_2 97 rfl rfl)
  · exact ht _ (tb_2 98 rfl rfl)
  · exact absurd hno (by decide +kernel)
  · exact absurd hno (by decide +kernel)
  · exact ht _ (tb_1 225 rfl rfl)
  · exact ht _ (tb_1 224 rfl rfl)
  · exact ht _ (tb_2 99 rfl rfl)
theorem xg_is (ik : Nat) : ∀ w ∈ Cond.classLink "DrawCommands" ik "java/lang/IllegalStateException" :: Cond.initialized "java/lang/IllegalStateException" :: vx_atS "DrawCommands" 86 "java/lang/IllegalStateException" ["java/lang/RuntimeException", "java/lang/Exception"], vx_ot w = true := by
  intro w hw
  rcases List.mem_cons.mp hw with rfl | hw
  · rfl
  rcases List.mem_cons.mp hw with rfl | hw
  · rfl
  exact List.all_eq_true.mp (show (vx_atS "DrawCommands" 86 "java/lang/IllegalStateException" ["java/lang/RuntimeException", "java/lang/Exception"]).all vx_ot = true by decide +kernel) w hw
