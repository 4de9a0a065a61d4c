/-! by wip/tools/env.py: the nest's words, the class's three tables; forms of contracts (RM reads, MV and MI write), and calls by them -/
def nwL : List Cond := [.methodLinkNest "DrawCommands$Told" 17 y_D_write "DrawCommands", .methodLinkNest "DrawCommands$Shape" 19 y_D_read "DrawCommands", .methodLinkNest "DrawCommands$Told" 67 y_D_read "DrawCommands", .fieldLinkNest "DrawCommands$Told" 55 "DrawCommands$Command" "kind" "I" "DrawCommands", .fieldLinkNest "DrawCommands" 102 "DrawCommands$Command" "kind" "I" "DrawCommands", .fieldLinkNest "DrawCommands$Told" 64 "DrawCommands$Command" "many" "I" "DrawCommands", .fieldLinkNest "DrawCommands" 105 "DrawCommands$Command" "many" "I" "DrawCommands", .fieldLinkNest "DrawCommands" 163 "DrawCommands$Run" "place" "I" "DrawCommands", .fieldLinkNest "DrawCommands" 186 "DrawCommands$Run" "depth" "I" "DrawCommands", .fieldLinkNest "DrawCommands" 130 "DrawCommands$Run" "lastPlace" "I" "DrawCommands", .fieldLinkNest "DrawCommands" 133 "DrawCommands$Run" "lastDepth" "I" "DrawCommands", .fieldLinkNest "DrawCommands" 136 "DrawCommands$Run" "done" "I" "DrawCommands", .fieldLinkNest "DrawCommands" 127 "DrawCommands$Run" "refusal" "I" "DrawCommands", .fieldLinkNest "DrawCommands" 139 "DrawCommands$Run" "query" "I" "DrawCommands", .fieldLinkNest "DrawCommands" 78 "DrawCommands$Run" "over" "Z" "DrawCommands", .methodLinkNest "DrawCommands$Command" 26 y_D_write "DrawCommands", .methodLinkNest "DrawCommands$Command" 30 y_D_read "DrawCommands", .methodLinkNest "DrawCommands$Run" 48 y_D_read "DrawCommands", .methodLinkNest "DrawCommands$Run" 44 y_D_write "DrawCommands"]
theorem nw_0 : (.methodLinkNest "DrawCommands$Told" 17 y_D_write "DrawCommands" : Cond) ∈ nwL := List.mem_of_getElem? (i := 0) rfl
theorem nw_1 : (.methodLinkNest "DrawCommands$Shape" 19 y_D_read "DrawCommands" : Cond) ∈ nwL := List.mem_of_getElem? (i := 1) rfl
theorem nw_2 : (.methodLinkNest "DrawCommands$Told" 67 y_D_read "DrawCommands" : Cond) ∈ nwL := List.mem_of_getElem? (i := 2) rfl
theorem nw_3 : (.fieldLinkNest "DrawCommands$Told" 55 "DrawCommands$Command" "kind" "I" "DrawCommands" : Cond) ∈ nwL := List.mem_of_getElem? (i := 3) rfl
theorem nw_4 : (.fieldLinkNest "DrawCommands" 102 "DrawCommands$Command" "kind" "I" "DrawCommands" : Cond) ∈ nwL := List.mem_of_getElem? (i := 4) rfl
theorem nw_5 : (.fieldLinkNest "DrawCommands$Told" 64 "DrawCommands$Command" "many" "I" "DrawCommands" : Cond) ∈ nwL := List.mem_of_getElem? (i := 5) rfl
theorem nw_6 : (.fieldLinkNest "DrawCommands" 105 "DrawCommands$Command" "many" "I" "DrawCommands" : Cond) ∈ nwL := List.mem_of_getElem? (i := 6) rfl
theorem nw_7 : (.fieldLinkNest "DrawCommands" 163 "DrawCommands$Run" "place" "I" "DrawCommands" : Cond) ∈ nwL := List.mem_of_getElem? (i := 7) rfl
theorem nw_8 : (.fieldLinkNest "DrawCommands" 186 "DrawCommands$Run" "depth" "I" "DrawCommands" : Cond) ∈ nwL := List.mem_of_getElem? (i := 8) rfl
theorem nw_9 : (.fieldLinkNest "DrawCommands" 130 "DrawCommands$Run" "lastPlace" "I" "DrawCommands" : Cond) ∈ nwL := List.mem_of_getElem? (i := 9) rfl
theorem nw_10 : (.fieldLinkNest "DrawCommands" 133 "DrawCommands$Run" "lastDepth" "I" "DrawCommands" : Cond) ∈ nwL := List.mem_of_getElem? (i := 10) rfl
theorem nw_11 : (.fieldLinkNest "DrawCommands" 136 "DrawCommands$Run" "done" "I" "DrawCommands" : Cond) ∈ nwL := List.mem_of_getElem? (i := 11) rfl
theorem nw_12 : (.fieldLinkNest "DrawCommands" 127 "DrawCommands$Run" "refusal" "I" "DrawCommands" : Cond) ∈ nwL := List.mem_of_getElem? (i := 12) rfl
theorem nw_13 : (.fieldLinkNest "DrawCommands" 139 "DrawCommands$Run" "query" "I" "DrawCommands" : Cond) ∈ nwL := List.mem_of_getElem? (i := 13) rfl
theorem nw_14 : (.fieldLinkNest "DrawCommands" 78 "DrawCommands$Run" "over" "Z" "DrawCommands" : Cond) ∈ nwL := List.mem_of_getElem? (i := 14) rfl
theorem nw_15 : (.methodLinkNest "DrawCommands$Command" 26 y_D_write "DrawCommands" : Cond) ∈ nwL := List.mem_of_getElem? (i := 15) rfl
theorem nw_16 : (.methodLinkNest "DrawCommands$Command" 30 y_D_read "DrawCommands" : Cond) ∈ nwL := List.mem_of_getElem? (i := 16) rfl
theorem nw_17 : (.methodLinkNest "DrawCommands$Run" 48 y_D_read "DrawCommands" : Cond) ∈ nwL := List.mem_of_getElem? (i := 17) rfl
theorem nw_18 : (.methodLinkNest "DrawCommands$Run" 44 y_D_write "DrawCommands" : Cond) ∈ nwL := List.mem_of_getElem? (i := 18) rfl
def tLF : List Int32 := [0, 0, 4, 10, 14, 19, 24, 27, 29, 31, 37, 39, 47, 53, 54, 55, 56, 58, 61, 66, 68, 74, 76, 76, 77, 81, 86]
def tbF : Nat → Int32 := fun j => tLF.getD j 0
def tLH : List Int32 := [0, 0, 1, 1, 8, 32, 0, 1, 1, 4, 1, 2, 1, 1, 1, 1, 1, 0, 0, 0, 0, 0, 0, 0, 4, 4]
def tbH : Nat → Int32 := fun j => tLH.getD j 0
def tLA : List Int32 := [0, 7, 0, (-2147483648), 2147483647, 0, 0, 16777215, 0, 0, 255, 0, (-1023), 1023, 0, (-1023), 1023, 0, 1, 1024, 1, 1, 1024, 1, 0, 16777215, 0, 0, 16777215, 16777215, (-2147483648), 2147483647, 0, (-2147483648), 2147483647, 0, (-2147483648), 2147483647, (-1), (-2147483648), 2147483647, 0, 0, 7, 0, 0, 1048576, 0, 0, 1024, 0, 0, 4, 0, 0, 3, 0, 0, 31, 0, (-2147483648), 2147483647, 0, (-2147483648), 2147483647, 0, (-2147483648), 2147483647, 0, (-2147483648), 2147483647, 0, 0, 31, 0, 0, 32, 0, 0, 1048576, 0, 0, 1048576, (-1), 1, 256, 0, 0, 1048576, (-1), 1, 256, 0, 0, 3, 0, 0, 1048576, 0, 0, 10, 0, 0, 10, 0, 1, 11, 1, 0, 7, 0, (-1), 7, (-1), 0, 1, 0, 0, 1, 0, (-1), 7, (-1), 0, 255, 0, 0, 255, 0, 0, 255, 0, 0, 7, 0, 0, 7, 0, 0, 7, 0, 0, 14, 0, 0, 14, 0, 0, 14, 0, 0, 14, 0, (-1), 4, (-1), 0, 4, 0, (-2147483648), 2147483647, 0, (-1), 15, (-1), 0, 15, 15, 0, 3, 0, 0, 1, 0, 0, 2, 0, 0, 1048576, 0, 0, 4096, 0, 0, 2, 0, 0, 1048576, 0, 0, 4096, 0, 0, 2, 0, (-2147483648), 2147483647, 0, 0, 7, 0, 0, 1, 0, 0, 127, 0, 0, 127, 0, 1, 128, 0, 1, 128, 0, 0, 1048576, 0, 0, 2, 0, 0, 1048576, 0, 0, 256, 0, 0, 1048576, 0, 0, 3, 0, 0, 3, 0, 0, 3, 0, 0, 3, 0, 0, 3, 0, (-2147483648), 2147483647, 0, (-2147483648), 2147483647, 0, (-2147483648), 2147483647, 0, (-2147483648), 2147483647, 0]
def tbA : Nat → Int32 := fun j => tLA.getD j 0
abbrev tbT : Type := Nat × Nat × Nat
/-- a table of the class: its static field, its cells -/
def ev_t (n : String) (t N : Nat) (f : Nat → Int32) (A : Nat → Prop) (U : State) (H : Heap) : Prop := va_Z "DrawCommands$Shape" n "[I" (.ref t) A U H ∧ va_T .int t N (fun j => .int (f j)) A U H
/-- what never changes -/
def ev (tb : tbT) (A : Nat → Prop) (U : State) (H : Heap) : Prop := (∀ w ∈ nwL, va_Nw w U) ∧ ev_t "FIRST" tb.1 27 tbF A U H ∧ ev_t "HOLDERS" tb.2.1 26 tbH A U H ∧ ev_t "ARGUMENTS" tb.2.2 258 tbA A U H
theorem ev_t.go {n : String} {t N : Nat} {f : Nat → Int32} {A A1 : Nat → Prop} {u U : State} {H H1 : Heap} (h : ev_t n t N f A u H) (hvm : u.vm.Alike U.vm) (hq : ∀ a : Nat, a < H.size → ¬ A a → H1[a]? = H[a]?) (hA : ∀ q, A1 q → A q) : ev_t n t N f A1 U H1 :=
  ⟨va_Z.narrow (va_Z.moved hvm (va_Z.kept h.1 hq)) hA, va_T.narrow (va_T.moved hvm (va_T.kept h.2 hq)) hA⟩
theorem nwL_warm {s U : State} (hW : s.WarmedH U.vm) (h : ∀ w ∈ nwL, va_Nw w s) : ∀ w ∈ nwL, va_Nw w U := by
  intro w hw
  have h1 := h w hw
  simp only [nwL, List.mem_cons, List.not_mem_nil, or_false] at hw
  rcases hw with rfl | rfl | rfl | rfl | rfl | rfl | rfl | rfl | rfl | rfl | rfl | rfl | rfl | rfl | rfl | rfl | rfl | rfl | rfl <;> first | exact va_Nw.warmF hW h1 | exact va_Nw.warmM hW h1
theorem nwL_tab : nwL.all Cond.onTables = true := by decide +kernel
theorem ev.call {tb : tbT} {A A1 : Nat → Prop} {s U : State} {H : Heap} {locs : List Loc} (h : ev tb A s s.heap) (hS : va_S A s.heap H locs) (hA : ∀ q, A1 q → A q) (hU : U.heap = H) (hW : s.WarmedH U.vm) : ev tb A1 U U.heap := by
  obtain ⟨h1, h2, h3, h4⟩ := h
  have hq : ∀ a : Nat, a < s.heap.size → ¬ A a → U.heap[a]? = s.heap[a]? := fun a x y => by rw [hU]; exact hS.2.1 a x y
  exact ⟨nwL_warm hW h1, h2.go hW.alike hq hA, h3.go hW.alike hq hA, h4.go hW.alike hq hA⟩
theorem ev.blind {tb : tbT} {A : Nat → Prop} {U : State} (g : JFrame) (mk : MethodId) (a : Array Value) (h : ev tb A U U.heap) : ev tb A (U.calling g mk a) (U.calling g mk a).heap := by
  obtain ⟨h1, h2, h3, h4⟩ := h
  have hv : U.vm.Alike (U.calling g mk a).vm := Vm.Alike.refl U.vm
  have hq : ∀ q : Nat, q < U.heap.size → ¬ A q → (U.calling g mk a).heap[q]? = U.heap[q]? := fun _ _ _ => rfl
  exact ⟨fun w hw => va_Nw.same (u := U) (U := U.calling g mk a) (List.all_eq_true.mp nwL_tab w hw) (show U.vm = (U.calling g mk a).vm from rfl) (h1 w hw), h2.go hv hq (fun _ x => x), h3.go hv hq (fun _ x => x), h4.go hv hq (fun _ x => x)⟩
/-- a method that reads: its start, its contract -/
def rP (tb : tbT) (D : va_G) (ws : va_W) (tys : List (ClassId × FieldType)) : State → Prop := fun U => va_P D clX ws U.heap ∧ va_K D clX tys U ∧ ev tb (fun _ => False) U U.heap
abbrev RM (l : Launch) (y : MethodName) (w : List Cond) (rm : Room) (tb : tbT) (D : va_G) (av : List Value) (ws : va_W) (tys : List (ClassId × FieldType)) (res : Int32) : Prop := Met l y w rm (va_Pc av (rP tb D ws tys)) (vp_Si (fun r => r = res)) 0 0 (fun _ => False)
theorem rP_blind {tb : tbT} {D : va_G} {ws : va_W} {tys : List (ClassId × FieldType)} {av : List Value} : FrameBlind (va_Pc av (rP tb D ws tys)) := fun a U g mk q => by
  obtain ⟨q0, qP, qK, qE⟩ := q
  exact ⟨q0, qP, va_K.moved (u := U) (U := U.calling g mk a) (Vm.Alike.refl U.vm) qK, qE.blind g mk a⟩
/-- a method that writes -/
def mP (tb : tbT) (D : va_G) (ws : va_W) (tys : List (ClassId × FieldType)) (sz : Nat) : State → Prop := fun U => U.heap.size = sz ∧ va_P D clX ws U.heap ∧ va_K D clX tys U ∧ va_D (fun _ => True) ws ∧ ev tb (va_A ws sz) U U.heap
def mB (D : va_G) (ws ws' : va_W) (tys : List (ClassId × FieldType)) (sz : Nat) : Unit → State → Prop := fun _ t => va_P D clX ws' t.heap ∧ va_K D clX tys t ∧ va_D (va_A ws sz) ws'
abbrev MV (l : Launch) (y : MethodName) (w : List Cond) (rm : Room) (tb : tbT) (D : va_G) (av : List Value) (ws ws' : va_W) (tys : List (ClassId × FieldType)) (sz : Nat) : Prop := Met l y w rm (va_Pc av (mP tb D ws tys sz)) (va_Qv (fun _ : Unit => True) (mB D ws ws' tys sz) (va_A ws sz)) 0 0 (va_A ws sz)
abbrev MI (l : Launch) (y : MethodName) (w : List Cond) (rm : Room) (tb : tbT) (D : va_G) (av : List Value) (ws ws' : va_W) (tys : List (ClassId × FieldType)) (sz : Nat) (res : Int32) : Prop := Met l y w rm (va_Pc av (mP tb D ws tys sz)) (va_Qi (fun r (_ : Unit) => r = res) (mB D ws ws' tys sz) (va_A ws sz)) 0 0 (va_A ws sz)
theorem mP_blind {tb : tbT} {D : va_G} {ws : va_W} {tys : List (ClassId × FieldType)} {sz : Nat} {av : List Value} : FrameBlind (va_Pc av (mP tb D ws tys sz)) := fun a U g mk q => by
  obtain ⟨q0, q1, qP, qK, qD, qE⟩ := q
  exact ⟨q0, q1, qP, va_K.moved (u := U) (U := U.calling g mk a) (Vm.Alike.refl U.vm) qK, qD, qE.blind g mk a⟩
section MYC
variable {p : Program} {l : Launch} {e : Env} {R : Room} {s : State} {m : MethodId} {args : Array Value} {below : List Frame} {meth : Method} {c : Code} {H : Heap} {locs : List Loc} {cells slots : Nat} {Q : State → Prop}
variable {cc : ByteArray} {pc nL : Nat} {ls : Array Slot} {rest st0 As : List Value} {D : va_G} {A : Nat → Prop} {tb : tbT} {tys tc : List (ClassId × FieldType)} {ws wc wr wc' : va_W}
variable {y : MethodName} {bytes : ByteArray} {maxL index : Nat} {ret : Option FieldType} {rm : Room} {own : String} {res : Int32}
/-- a call's words: an ordinary link -/
theorem kB {n : Nat} (ht : ∀ w ∈ TB, w.before args s = true) (hcode : Cond.code y bytes maxL ret ∈ TB) (hini : Cond.initialized y.cls ∈ TB) (hl : Cond.methodLink own index y ∈ TB) (hd : (y.cls ≠ "java/lang/invoke/MethodHandle" ∧ y.cls ≠ "java/lang/invoke/VarHandle" ∧ (parseMethodDescriptor y.desc).map (fun d => d.parameters.length) = some n)) (hrc : rm.cells = 0) (hrs : rm.slots = 0) (hR : rm.frames + 1 ≤ R.frames ∧ 8 + (maxL + 11) + rm.locals ≤ R.locals) : CallB R s args own index y bytes maxL ret (Cond.code y bytes maxL ret :: TB) rm 0 0 n :=
  callB_of n ht (tb_gI hcode) rfl hrc hrs (ht _ hini) (ht _ hl) hd hR
/-- .. a nest mate's -/
theorem kN {n : Nat} {host : String} (ht : ∀ w ∈ TB, w.before args s = true) (hcode : Cond.code y bytes maxL ret ∈ TB) (hini : Cond.initialized y.cls ∈ TB) (hl : va_Nw (.methodLinkNest own index y host) s) (hd : (y.cls ≠ "java/lang/invoke/MethodHandle" ∧ y.cls ≠ "java/lang/invoke/VarHandle" ∧ (parseMethodDescriptor y.desc).map (fun d => d.parameters.length) = some n)) (hrc : rm.cells = 0) (hrs : rm.slots = 0) (hR : rm.frames + 1 ≤ R.frames ∧ 8 + (maxL + 11) + rm.locals ≤ R.locals) : va_CN R s args own index y host bytes maxL ret (Cond.code y bytes maxL ret :: TB) rm 0 0 n :=
  va_cnB n ht (tb_gI hcode) rfl hrc hrs hl (ht _ hini) hd hR
theorem rP_at (hP : va_P D clX ws H) (is : List Nat) (hi : is.filterMap (fun i => ws[i]?) = wc) (hK : va_K D clX tys s) (ti : List Nat) (hti : ti.filterMap (fun i => tys[i]?) = tc) (hE : ev tb A s s.heap) (hS : va_S A s.heap H locs) : ∀ U : State, U.heap = H → s.WarmedH U.vm → rP tb D wc tc U := fun U hU hW =>
  ⟨by rw [hU]; exact hP.sub is hi, va_K.moved hW.alike (hK.sub ti hti), hE.call hS (fun _ h => h.elim) hU hW⟩
theorem r_run {Qa : State → Outcome → State → Prop} {g : JFrame} {mc ms : Nat} {free : Addr → Prop} (h : va_Run p l e R s m args below meth c H locs cells slots mc ms g rest Qa free) : CallRun p l e R s m args below meth c H locs cells slots mc ms g rest Qa free := fun T hT X => by
  obtain ⟨v, st₀, t, T', L, h0, X', hL, e1, e2, hq, st⟩ := h T hT X
  exact ⟨v, st₀, t, T', L, h0, X', hL, e1, hq, st⟩
/-- a static method that reads, by a link of one's own -/
theorem rcS (hM : RM l y (Cond.code y bytes maxL ret :: TB) rm tb D As wc tc res) (F : CallFix p m c cc nL s args TB own) (hcode : Cond.code y bytes maxL ret ∈ TB) (hini : Cond.initialized y.cls ∈ TB) (hst : Cond.static y ∈ TB) (hl : Cond.methodLink own index y ∈ TB)
    (hP : va_P D clX ws H) (is : List Nat) (hi : is.filterMap (fun i => ws[i]?) = wc) (hK : va_K D clX tys s) (ti : List Nat) (hti : ti.filterMap (fun i => tys[i]?) = tc) (hE : ev tb A s s.heap) (hS : va_S A s.heap H locs)
    (hd : (y.cls ≠ "java/lang/invoke/MethodHandle" ∧ y.cls ≠ "java/lang/invoke/VarHandle" ∧ (parseMethodDescriptor y.desc).map (fun d => d.parameters.length) = some As.length)) (hrc : rm.cells = 0) (hrs : rm.slots = 0) (hR : rm.frames + 1 ≤ R.frames ∧ 8 + (maxL + 11) + rm.locals ≤ R.locals) (hcs : cells + 0 ≤ R.cells ∧ slots + 0 ≤ R.slots)
    (hsz : ls.size = nL) (hstk : st0 = As.reverse ++ rest) (hrm : (rest.map fun v => v.category).sum ≤ 8) (hdg : decode cc pc = .ok (.invokestatic index, 3))
    (kk : W p l e R s m args below meth c H locs cells slots Q (F0 m (pc + 3) ls (.int res :: rest))) : W p l e R s m args below meth c H locs cells slots Q (F0 m pc ls st0) :=
  vp_callSi (r_run (va_runS (g := F0 m pc ls st0) F hM ⟨kB F.2.2.2.2 hcode hini hl hd hrc hrs hR, F.2.2.2.2 _ hst⟩ ⟨rP_blind, fun U hU hW => ⟨rfl, rP_at hP is hi hK ti hti hE hS U hU hW⟩⟩ rfl rfl hsz hstk (lv_room hrm) hdg hcs)) (fun _ e9 => by rw [e9]; exact kk)
/-- .. by a nest mate's -/
theorem rcSN {host : String} (hM : RM l y (Cond.code y bytes maxL ret :: TB) rm tb D As wc tc res) (F : CallFix p m c cc nL s args TB own) (hcode : Cond.code y bytes maxL ret ∈ TB) (hini : Cond.initialized y.cls ∈ TB) (hst : Cond.static y ∈ TB) (hl : Cond.methodLinkNest own index y host ∈ nwL)
    (hP : va_P D clX ws H) (is : List Nat) (hi : is.filterMap (fun i => ws[i]?) = wc) (hK : va_K D clX tys s) (ti : List Nat) (hti : ti.filterMap (fun i => tys[i]?) = tc) (hE : ev tb A s s.heap) (hS : va_S A s.heap H locs)
    (hd : (y.cls ≠ "java/lang/invoke/MethodHandle" ∧ y.cls ≠ "java/lang/invoke/VarHandle" ∧ (parseMethodDescriptor y.desc).map (fun d => d.parameters.length) = some As.length)) (hrc : rm.cells = 0) (hrs : rm.slots = 0) (hR : rm.frames + 1 ≤ R.frames ∧ 8 + (maxL + 11) + rm.locals ≤ R.locals) (hcs : cells + 0 ≤ R.cells ∧ slots + 0 ≤ R.slots)
    (hsz : ls.size = nL) (hstk : st0 = As.reverse ++ rest) (hrm : (rest.map fun v => v.category).sum ≤ 8) (hdg : decode cc pc = .ok (.invokestatic index, 3))
    (kk : W p l e R s m args below meth c H locs cells slots Q (F0 m (pc + 3) ls (.int res :: rest))) : W p l e R s m args below meth c H locs cells slots Q (F0 m pc ls st0) :=
  vp_callSi (r_run (va_runSN (g := F0 m pc ls st0) F hM ⟨kN F.2.2.2.2 hcode hini (hE.1 _ hl) hd hrc hrs hR, F.2.2.2.2 _ hst, trivial⟩ ⟨rP_blind, fun U hU hW => ⟨rfl, rP_at hP is hi hK ti hti hE hS U hU hW⟩⟩ rfl rfl hsz hstk (lv_room hrm) hdg hcs)) (fun _ e9 => by rw [e9]; exact kk)
/-- a method of an object that reads -/
theorem rcV {b q0 ci : Nat} {fs : List Value} {q : vw_C} (hM : RM l y (Cond.code y bytes maxL ret :: TB) rm tb D (.ref b :: As) wc tc res) (F : CallFix p m c cc nL s args TB own) (hcode : Cond.code y bytes maxL ret ∈ TB) (hini : Cond.initialized y.cls ∈ TB) (hin : Cond.instanceMethod y ∈ TB) (hse : Cond.selects q.1 y y ∈ TB) (hl : Cond.methodLink own index y ∈ TB)
    (hP : va_P D clX ws H) (is : List Nat) (hi : is.filterMap (fun i => ws[i]?) = wc) (hK : va_K D clX tys s) (ti : List Nat) (hti : ti.filterMap (fun i => tys[i]?) = tc) (hE : ev tb A s s.heap) (hS : va_S A s.heap H locs) (hq : ws[q0]? = some (b, .inr (ci, fs))) (hcl : clX[ci]? = some q)
    (hd : (y.cls ≠ "java/lang/invoke/MethodHandle" ∧ y.cls ≠ "java/lang/invoke/VarHandle" ∧ (parseMethodDescriptor y.desc).map (fun d => d.parameters.length) = some As.length)) (hrc : rm.cells = 0) (hrs : rm.slots = 0) (hR : rm.frames + 1 ≤ R.frames ∧ 8 + (maxL + 11) + rm.locals ≤ R.locals) (hcs : cells + 0 ≤ R.cells ∧ slots + 0 ≤ R.slots)
    (hsz : ls.size = nL) (hstk : st0 = As.reverse ++ .ref b :: rest) (hrm : (rest.map fun v => v.category).sum ≤ 8) (hdg : decode cc pc = .ok (.invokevirtual index, 3))
    (kk : W p l e R s m args below meth c H locs cells slots Q (F0 m (pc + 3) ls (.int res :: rest))) : W p l e R s m args below meth c H locs cells slots Q (F0 m pc ls st0) :=
  vp_callSi (r_run (va_runV (g := F0 m pc ls st0) (C := q.1) F hM ⟨kB F.2.2.2.2 hcode hini hl hd hrc hrs hR, F.2.2.2.2 _ hin, F.2.2.2.2 _ hse⟩ ⟨rP_blind, va_recv hK hP hcl hq, fun U hU hW => ⟨rfl, rP_at hP is hi hK ti hti hE hS U hU hW⟩⟩ rfl rfl hsz hstk (lv_room hrm) hdg hcs)) (fun _ e9 => by rw [e9]; exact kk)
theorem mP_at (hP : va_P D clX ws H) (hD : va_D A ws) (isC : List Nat) (hn : va_nd isC = true) (hC : isC.map (fun i => ws[i]?) = wc.map some) (hK : va_K D clX tys s) (ti : List Nat) (hti : ti.filterMap (fun i => tys[i]?) = tc) (hE : ev tb A s s.heap) (hS : va_S A s.heap H locs) (hA : ∀ q, s.heap.size ≤ q → A q) : ∀ U : State, U.heap = H → s.WarmedH U.vm → mP tb D wc tc H.size U := fun U hU hW => by
  have hs : isC.filterMap (fun i => ws[i]?) = wc := by
    have h1 : (isC.map (fun i => ws[i]?)).filterMap id = (wc.map some).filterMap id := by rw [hC]
    simpa [List.filterMap_map, Function.comp_def] using h1
  exact ⟨by rw [hU], by rw [hU]; exact hP.sub isC hs, va_K.moved hW.alike (hK.sub ti hti), (hD.sub isC hn hC).weaken (fun _ _ _ _ => trivial), hE.call hS (va_free (wc := wc) hD hS hA isC hC) hU hW⟩
/-- what a call that writes leaves -/
theorem m_end {sz : Nat} (hP : va_P D clX ws H) (hD : va_D A ws) (isC isR : List Nat) (hn : va_nd isC = true) (hC : isC.map (fun i => ws[i]?) = wc.map some) (hRr : isR.map (fun i => ws[i]?) = wr.map some) (hnR : va_nd isR = true) (hdis : ∀ i ∈ isR, i ∉ isC) (hS : va_S A s.heap H locs) (hA : ∀ q, s.heap.size ≤ q → A q) (hsz : sz = H.size) {t : State} {H1 : Heap} (ht : t.heap = H1) (hB : mB D wc wc' tc sz () t) (hk : ∀ q : Nat, q < H.size → ¬ va_A wc sz q → H1[q]? = H[q]?) : va_P D clX (wr ++ wc') H1 ∧ va_D A (wr ++ wc') := by
  subst hsz
  obtain ⟨hP1, -, hD1⟩ := hB
  rw [ht] at hP1
  exact va_join hP hD isC isR hC hRr hnR hdis hk (va_free (wc := wc) hD hS hA isC hC) hP1 hD1
theorem mcSv (hM : ∀ sz, MV l y (Cond.code y bytes maxL ret :: TB) rm tb D As wc wc' tc sz) (F : CallFix p m c cc nL s args TB own) (hcode : Cond.code y bytes maxL ret ∈ TB) (hini : Cond.initialized y.cls ∈ TB) (hst : Cond.static y ∈ TB) (hl : Cond.methodLink own index y ∈ TB)
    (hP : va_P D clX ws H) (hD : va_D A ws) (isC isR : List Nat) (hC : isC.map (fun i => ws[i]?) = wc.map some) (hRr : isR.map (fun i => ws[i]?) = wr.map some) (hn : va_nd isC = true) (hnR : va_nd isR = true) (hdis : ∀ i ∈ isR, i ∉ isC) (hK : va_K D clX tys s) (ti : List Nat) (hti : ti.filterMap (fun i => tys[i]?) = tc) (hE : ev tb A s s.heap) (hS : va_S A s.heap H locs) (hA : ∀ q, s.heap.size ≤ q → A q)
    (hd : (y.cls ≠ "java/lang/invoke/MethodHandle" ∧ y.cls ≠ "java/lang/invoke/VarHandle" ∧ (parseMethodDescriptor y.desc).map (fun d => d.parameters.length) = some As.length)) (hrc : rm.cells = 0) (hrs : rm.slots = 0) (hR : rm.frames + 1 ≤ R.frames ∧ 8 + (maxL + 11) + rm.locals ≤ R.locals) (hcs : cells + 0 ≤ R.cells ∧ slots + 0 ≤ R.slots)
    (hsz : ls.size = nL) (hstk : st0 = As.reverse ++ rest) (hrm : (rest.map fun v => v.category).sum ≤ 8) (hdg : decode cc pc = .ok (.invokestatic index, 3))
    (kk : ∀ (H1 : Heap) (locs1 : List Loc), va_P D clX (wr ++ wc') H1 → va_D A (wr ++ wc') → va_S A s.heap H1 locs1 → W p l e R s m args below meth c H1 locs1 cells slots Q (F0 m (pc + 3) ls rest)) : W p l e R s m args below meth c H locs cells slots Q (F0 m pc ls st0) := by
  refine va_callv (va_runS (g := F0 m pc ls st0) F (hM H.size) ⟨kB F.2.2.2.2 hcode hini hl hd hrc hrs hR, F.2.2.2.2 _ hst⟩ ⟨mP_blind, fun U hU hW => ⟨rfl, mP_at hP hD isC hn hC hK ti hti hE hS hA U hU hW⟩⟩ rfl rfl hsz hstk (lv_room hrm) hdg hcs) hS (fun q9 _ h => va_free (wc := wc) hD hS hA isC hC q9 h) (va_free (wc := wc) hD hS hA isC hC) (fun u t H1 locs1 ht hvm hw hB hz1 hk1 hS1 => ?_)
  obtain ⟨h1, h2⟩ := m_end hP hD isC isR hn hC hRr hnR hdis hS hA rfl ht hB hk1
  exact kk H1 locs1 h1 h2 hS1
theorem mcSi (hM : ∀ sz, MI l y (Cond.code y bytes maxL ret :: TB) rm tb D As wc wc' tc sz res) (F : CallFix p m c cc nL s args TB own) (hcode : Cond.code y bytes maxL ret ∈ TB) (hini : Cond.initialized y.cls ∈ TB) (hst : Cond.static y ∈ TB) (hl : Cond.methodLink own index y ∈ TB)
    (hP : va_P D clX ws H) (hD : va_D A ws) (isC isR : List Nat) (hC : isC.map (fun i => ws[i]?) = wc.map some) (hRr : isR.map (fun i => ws[i]?) = wr.map some) (hn : va_nd isC = true) (hnR : va_nd isR = true) (hdis : ∀ i ∈ isR, i ∉ isC) (hK : va_K D clX tys s) (ti : List Nat) (hti : ti.filterMap (fun i => tys[i]?) = tc) (hE : ev tb A s s.heap) (hS : va_S A s.heap H locs) (hA : ∀ q, s.heap.size ≤ q → A q)
    (hd : (y.cls ≠ "java/lang/invoke/MethodHandle" ∧ y.cls ≠ "java/lang/invoke/VarHandle" ∧ (parseMethodDescriptor y.desc).map (fun d => d.parameters.length) = some As.length)) (hrc : rm.cells = 0) (hrs : rm.slots = 0) (hR : rm.frames + 1 ≤ R.frames ∧ 8 + (maxL + 11) + rm.locals ≤ R.locals) (hcs : cells + 0 ≤ R.cells ∧ slots + 0 ≤ R.slots)
    (hsz : ls.size = nL) (hstk : st0 = As.reverse ++ rest) (hrm : (rest.map fun v => v.category).sum ≤ 8) (hdg : decode cc pc = .ok (.invokestatic index, 3))
    (kk : ∀ (H1 : Heap) (locs1 : List Loc), va_P D clX (wr ++ wc') H1 → va_D A (wr ++ wc') → va_S A s.heap H1 locs1 → W p l e R s m args below meth c H1 locs1 cells slots Q (F0 m (pc + 3) ls (.int res :: rest))) : W p l e R s m args below meth c H locs cells slots Q (F0 m pc ls st0) := by
  refine va_calli (va_runS (g := F0 m pc ls st0) F (hM H.size) ⟨kB F.2.2.2.2 hcode hini hl hd hrc hrs hR, F.2.2.2.2 _ hst⟩ ⟨mP_blind, fun U hU hW => ⟨rfl, mP_at hP hD isC hn hC hK ti hti hE hS hA U hU hW⟩⟩ rfl rfl hsz hstk (lv_room hrm) hdg hcs) hS (fun q9 _ h => va_free (wc := wc) hD hS hA isC hC q9 h) (va_free (wc := wc) hD hS hA isC hC) (fun r u t H1 locs1 ht hvm hw hB hz1 hk1 hS1 => ?_)
  obtain ⟨h1, h2⟩ := m_end hP hD isC isR hn hC hRr hnR hdis hS hA rfl ht hB hk1
  rw [hw]
  exact kk H1 locs1 h1 h2 hS1
theorem mcSNv {host : String} (hM : ∀ sz, MV l y (Cond.code y bytes maxL ret :: TB) rm tb D As wc wc' tc sz) (F : CallFix p m c cc nL s args TB own) (hcode : Cond.code y bytes maxL ret ∈ TB) (hini : Cond.initialized y.cls ∈ TB) (hst : Cond.static y ∈ TB) (hl : Cond.methodLinkNest own index y host ∈ nwL)
    (hP : va_P D clX ws H) (hD : va_D A ws) (isC isR : List Nat) (hC : isC.map (fun i => ws[i]?) = wc.map some) (hRr : isR.map (fun i => ws[i]?) = wr.map some) (hn : va_nd isC = true) (hnR : va_nd isR = true) (hdis : ∀ i ∈ isR, i ∉ isC) (hK : va_K D clX tys s) (ti : List Nat) (hti : ti.filterMap (fun i => tys[i]?) = tc) (hE : ev tb A s s.heap) (hS : va_S A s.heap H locs) (hA : ∀ q, s.heap.size ≤ q → A q)
    (hd : (y.cls ≠ "java/lang/invoke/MethodHandle" ∧ y.cls ≠ "java/lang/invoke/VarHandle" ∧ (parseMethodDescriptor y.desc).map (fun d => d.parameters.length) = some As.length)) (hrc : rm.cells = 0) (hrs : rm.slots = 0) (hR : rm.frames + 1 ≤ R.frames ∧ 8 + (maxL + 11) + rm.locals ≤ R.locals) (hcs : cells + 0 ≤ R.cells ∧ slots + 0 ≤ R.slots)
    (hsz : ls.size = nL) (hstk : st0 = As.reverse ++ rest) (hrm : (rest.map fun v => v.category).sum ≤ 8) (hdg : decode cc pc = .ok (.invokestatic index, 3))
    (kk : ∀ (H1 : Heap) (locs1 : List Loc), va_P D clX (wr ++ wc') H1 → va_D A (wr ++ wc') → va_S A s.heap H1 locs1 → W p l e R s m args below meth c H1 locs1 cells slots Q (F0 m (pc + 3) ls rest)) : W p l e R s m args below meth c H locs cells slots Q (F0 m pc ls st0) := by
  refine va_callv (va_runSN (g := F0 m pc ls st0) F (hM H.size) ⟨kN F.2.2.2.2 hcode hini (hE.1 _ hl) hd hrc hrs hR, F.2.2.2.2 _ hst, trivial⟩ ⟨mP_blind, fun U hU hW => ⟨rfl, mP_at hP hD isC hn hC hK ti hti hE hS hA U hU hW⟩⟩ rfl rfl hsz hstk (lv_room hrm) hdg hcs) hS (fun q9 _ h => va_free (wc := wc) hD hS hA isC hC q9 h) (va_free (wc := wc) hD hS hA isC hC) (fun u t H1 locs1 ht hvm hw hB hz1 hk1 hS1 => ?_)
  obtain ⟨h1, h2⟩ := m_end hP hD isC isR hn hC hRr hnR hdis hS hA rfl ht hB hk1
  exact kk H1 locs1 h1 h2 hS1
theorem mcSNi {host : String} (hM : ∀ sz, MI l y (Cond.code y bytes maxL ret :: TB) rm tb D As wc wc' tc sz res) (F : CallFix p m c cc nL s args TB own) (hcode : Cond.code y bytes maxL ret ∈ TB) (hini : Cond.initialized y.cls ∈ TB) (hst : Cond.static y ∈ TB) (hl : Cond.methodLinkNest own index y host ∈ nwL)
    (hP : va_P D clX ws H) (hD : va_D A ws) (isC isR : List Nat) (hC : isC.map (fun i => ws[i]?) = wc.map some) (hRr : isR.map (fun i => ws[i]?) = wr.map some) (hn : va_nd isC = true) (hnR : va_nd isR = true) (hdis : ∀ i ∈ isR, i ∉ isC) (hK : va_K D clX tys s) (ti : List Nat) (hti : ti.filterMap (fun i => tys[i]?) = tc) (hE : ev tb A s s.heap) (hS : va_S A s.heap H locs) (hA : ∀ q, s.heap.size ≤ q → A q)
    (hd : (y.cls ≠ "java/lang/invoke/MethodHandle" ∧ y.cls ≠ "java/lang/invoke/VarHandle" ∧ (parseMethodDescriptor y.desc).map (fun d => d.parameters.length) = some As.length)) (hrc : rm.cells = 0) (hrs : rm.slots = 0) (hR : rm.frames + 1 ≤ R.frames ∧ 8 + (maxL + 11) + rm.locals ≤ R.locals) (hcs : cells + 0 ≤ R.cells ∧ slots + 0 ≤ R.slots)
    (hsz : ls.size = nL) (hstk : st0 = As.reverse ++ rest) (hrm : (rest.map fun v => v.category).sum ≤ 8) (hdg : decode cc pc = .ok (.invokestatic index, 3))
    (kk : ∀ (H1 : Heap) (locs1 : List Loc), va_P D clX (wr ++ wc') H1 → va_D A (wr ++ wc') → va_S A s.heap H1 locs1 → W p l e R s m args below meth c H1 locs1 cells slots Q (F0 m (pc + 3) ls (.int res :: rest))) : W p l e R s m args below meth c H locs cells slots Q (F0 m pc ls st0) := by
  refine va_calli (va_runSN (g := F0 m pc ls st0) F (hM H.size) ⟨kN F.2.2.2.2 hcode hini (hE.1 _ hl) hd hrc hrs hR, F.2.2.2.2 _ hst, trivial⟩ ⟨mP_blind, fun U hU hW => ⟨rfl, mP_at hP hD isC hn hC hK ti hti hE hS hA U hU hW⟩⟩ rfl rfl hsz hstk (lv_room hrm) hdg hcs) hS (fun q9 _ h => va_free (wc := wc) hD hS hA isC hC q9 h) (va_free (wc := wc) hD hS hA isC hC) (fun r u t H1 locs1 ht hvm hw hB hz1 hk1 hS1 => ?_)
  obtain ⟨h1, h2⟩ := m_end hP hD isC isR hn hC hRr hnR hdis hS hA rfl ht hB hk1
  rw [hw]
  exact kk H1 locs1 h1 h2 hS1
theorem mcVv {b q0 ci : Nat} {fs : List Value} {q : vw_C} (hM : ∀ sz, MV l y (Cond.code y bytes maxL ret :: TB) rm tb D (.ref b :: As) wc wc' tc sz) (F : CallFix p m c cc nL s args TB own) (hcode : Cond.code y bytes maxL ret ∈ TB) (hini : Cond.initialized y.cls ∈ TB) (hin : Cond.instanceMethod y ∈ TB) (hse : Cond.selects q.1 y y ∈ TB) (hl : Cond.methodLink own index y ∈ TB)
    (hP : va_P D clX ws H) (hD : va_D A ws) (isC isR : List Nat) (hC : isC.map (fun i => ws[i]?) = wc.map some) (hRr : isR.map (fun i => ws[i]?) = wr.map some) (hn : va_nd isC = true) (hnR : va_nd isR = true) (hdis : ∀ i ∈ isR, i ∉ isC) (hK : va_K D clX tys s) (ti : List Nat) (hti : ti.filterMap (fun i => tys[i]?) = tc) (hE : ev tb A s s.heap) (hS : va_S A s.heap H locs) (hA : ∀ q, s.heap.size ≤ q → A q) (hq : ws[q0]? = some (b, .inr (ci, fs))) (hcl : clX[ci]? = some q)
    (hd : (y.cls ≠ "java/lang/invoke/MethodHandle" ∧ y.cls ≠ "java/lang/invoke/VarHandle" ∧ (parseMethodDescriptor y.desc).map (fun d => d.parameters.length) = some As.length)) (hrc : rm.cells = 0) (hrs : rm.slots = 0) (hR : rm.frames + 1 ≤ R.frames ∧ 8 + (maxL + 11) + rm.locals ≤ R.locals) (hcs : cells + 0 ≤ R.cells ∧ slots + 0 ≤ R.slots)
    (hsz : ls.size = nL) (hstk : st0 = As.reverse ++ .ref b :: rest) (hrm : (rest.map fun v => v.category).sum ≤ 8) (hdg : decode cc pc = .ok (.invokevirtual index, 3))
    (kk : ∀ (H1 : Heap) (locs1 : List Loc), va_P D clX (wr ++ wc') H1 → va_D A (wr ++ wc') → va_S A s.heap H1 locs1 → W p l e R s m args below meth c H1 locs1 cells slots Q (F0 m (pc + 3) ls rest)) : W p l e R s m args below meth c H locs cells slots Q (F0 m pc ls st0) := by
  refine va_callv (va_runV (g := F0 m pc ls st0) (C := q.1) F (hM H.size) ⟨kB F.2.2.2.2 hcode hini hl hd hrc hrs hR, F.2.2.2.2 _ hin, F.2.2.2.2 _ hse⟩ ⟨mP_blind, va_recv hK hP hcl hq, fun U hU hW => ⟨rfl, mP_at hP hD isC hn hC hK ti hti hE hS hA U hU hW⟩⟩ rfl rfl hsz hstk (lv_room hrm) hdg hcs) hS (fun q9 _ h => va_free (wc := wc) hD hS hA isC hC q9 h) (va_free (wc := wc) hD hS hA isC hC) (fun u t H1 locs1 ht hvm hw hB hz1 hk1 hS1 => ?_)
  obtain ⟨h1, h2⟩ := m_end hP hD isC isR hn hC hRr hnR hdis hS hA rfl ht hB hk1
  exact kk H1 locs1 h1 h2 hS1
theorem mcVi {b q0 ci : Nat} {fs : List Value} {q : vw_C} (hM : ∀ sz, MI l y (Cond.code y bytes maxL ret :: TB) rm tb D (.ref b :: As) wc wc' tc sz res) (F : CallFix p m c cc nL s args TB own) (hcode : Cond.code y bytes maxL ret ∈ TB) (hini : Cond.initialized y.cls ∈ TB) (hin : Cond.instanceMethod y ∈ TB) (hse : Cond.selects q.1 y y ∈ TB) (hl : Cond.methodLink own index y ∈ TB)
    (hP : va_P D clX ws H) (hD : va_D A ws) (isC isR : List Nat) (hC : isC.map (fun i => ws[i]?) = wc.map some) (hRr : isR.map (fun i => ws[i]?) = wr.map some) (hn : va_nd isC = true) (hnR : va_nd isR = true) (hdis : ∀ i ∈ isR, i ∉ isC) (hK : va_K D clX tys s) (ti : List Nat) (hti : ti.filterMap (fun i => tys[i]?) = tc) (hE : ev tb A s s.heap) (hS : va_S A s.heap H locs) (hA : ∀ q, s.heap.size ≤ q → A q) (hq : ws[q0]? = some (b, .inr (ci, fs))) (hcl : clX[ci]? = some q)
    (hd : (y.cls ≠ "java/lang/invoke/MethodHandle" ∧ y.cls ≠ "java/lang/invoke/VarHandle" ∧ (parseMethodDescriptor y.desc).map (fun d => d.parameters.length) = some As.length)) (hrc : rm.cells = 0) (hrs : rm.slots = 0) (hR : rm.frames + 1 ≤ R.frames ∧ 8 + (maxL + 11) + rm.locals ≤ R.locals) (hcs : cells + 0 ≤ R.cells ∧ slots + 0 ≤ R.slots)
    (hsz : ls.size = nL) (hstk : st0 = As.reverse ++ .ref b :: rest) (hrm : (rest.map fun v => v.category).sum ≤ 8) (hdg : decode cc pc = .ok (.invokevirtual index, 3))
    (kk : ∀ (H1 : Heap) (locs1 : List Loc), va_P D clX (wr ++ wc') H1 → va_D A (wr ++ wc') → va_S A s.heap H1 locs1 → W p l e R s m args below meth c H1 locs1 cells slots Q (F0 m (pc + 3) ls (.int res :: rest))) : W p l e R s m args below meth c H locs cells slots Q (F0 m pc ls st0) := by
  refine va_calli (va_runV (g := F0 m pc ls st0) (C := q.1) F (hM H.size) ⟨kB F.2.2.2.2 hcode hini hl hd hrc hrs hR, F.2.2.2.2 _ hin, F.2.2.2.2 _ hse⟩ ⟨mP_blind, va_recv hK hP hcl hq, fun U hU hW => ⟨rfl, mP_at hP hD isC hn hC hK ti hti hE hS hA U hU hW⟩⟩ rfl rfl hsz hstk (lv_room hrm) hdg hcs) hS (fun q9 _ h => va_free (wc := wc) hD hS hA isC hC q9 h) (va_free (wc := wc) hD hS hA isC hC) (fun r u t H1 locs1 ht hvm hw hB hz1 hk1 hS1 => ?_)
  obtain ⟨h1, h2⟩ := m_end hP hD isC isR hn hC hRr hnR hdis hS hA rfl ht hB hk1
  rw [hw]
  exact kk H1 locs1 h1 h2 hS1
end MYC

