section
-- ===== PART A: goes FIRST, ahead of the names: the tables' words, and 'selects' of the private methods out of them =====
/-- a private method of a class that the tables say can be made, by its rows of tables_1 -/
def lw_okq (q : MethodName × Nat) : Prop := (q.1.cls ≠ "java/lang/invoke/MethodHandle" ∧ q.1.cls ≠ "java/lang/invoke/VarHandle") ∧ Cond.instantiable q.1.cls q.2 ∈ tables_1 ∧ Cond.privateMethod q.1 ∈ tables_1 ∧ Cond.instanceMethod q.1 ∈ tables_1
theorem lw_p0 : lw_okq (⟨"DrawCommands$Told", "forgetOne", "(II)V"⟩, 2) := ⟨⟨by decide +kernel, by decide +kernel⟩, List.mem_of_getElem? (i := 24) (by decide +kernel), List.mem_of_getElem? (i := 56) (by decide +kernel), List.mem_of_getElem? (i := 57) (by decide +kernel)⟩
theorem lw_p1 : lw_okq (⟨"DrawCommands$Told", "placeOf", "(III)I"⟩, 2) := ⟨⟨by decide +kernel, by decide +kernel⟩, List.mem_of_getElem? (i := 24) (by decide +kernel), List.mem_of_getElem? (i := 60) (by decide +kernel), List.mem_of_getElem? (i := 61) (by decide +kernel)⟩
theorem lw_p2 : lw_okq (⟨"DrawCommands", "startAnew", "()V"⟩, 8) := ⟨⟨by decide +kernel, by decide +kernel⟩, List.mem_of_getElem? (i := 16) (by decide +kernel), List.mem_of_getElem? (i := 179) (by decide +kernel), List.mem_of_getElem? (i := 180) (by decide +kernel)⟩
theorem lw_p3 : lw_okq (⟨"java/lang/Throwable", "fillInStackTrace", "(I)Ljava/lang/Throwable;"⟩, 6) := ⟨⟨by decide +kernel, by decide +kernel⟩, List.mem_of_getElem? (i := 244) (by decide +kernel), List.mem_of_getElem? (i := 242) (by decide +kernel), List.mem_of_getElem? (i := 243) (by decide +kernel)⟩
theorem lw_p4 : lw_okq (⟨"DrawCommands", "refusalHere", "()I"⟩, 8) := ⟨⟨by decide +kernel, by decide +kernel⟩, List.mem_of_getElem? (i := 16) (by decide +kernel), List.mem_of_getElem? (i := 352) (by decide +kernel), List.mem_of_getElem? (i := 353) (by decide +kernel)⟩
theorem lw_p5 : lw_okq (⟨"DrawCommands", "readCommand", "()I"⟩, 8) := ⟨⟨by decide +kernel, by decide +kernel⟩, List.mem_of_getElem? (i := 16) (by decide +kernel), List.mem_of_getElem? (i := 356) (by decide +kernel), List.mem_of_getElem? (i := 357) (by decide +kernel)⟩
theorem lw_p6 : lw_okq (⟨"DrawCommands", "sourceLength", "()I"⟩, 8) := ⟨⟨by decide +kernel, by decide +kernel⟩, List.mem_of_getElem? (i := 16) (by decide +kernel), List.mem_of_getElem? (i := 360) (by decide +kernel), List.mem_of_getElem? (i := 361) (by decide +kernel)⟩
theorem lw_p7 : lw_okq (⟨"DrawCommands", "readBeyondTheEnd", "()I"⟩, 8) := ⟨⟨by decide +kernel, by decide +kernel⟩, List.mem_of_getElem? (i := 16) (by decide +kernel), List.mem_of_getElem? (i := 364) (by decide +kernel), List.mem_of_getElem? (i := 365) (by decide +kernel)⟩
theorem lw_p8 : lw_okq (⟨"DrawCommands", "sourceWord", "(I)I"⟩, 8) := ⟨⟨by decide +kernel, by decide +kernel⟩, List.mem_of_getElem? (i := 16) (by decide +kernel), List.mem_of_getElem? (i := 369) (by decide +kernel), List.mem_of_getElem? (i := 370) (by decide +kernel)⟩
theorem lw_p9 : lw_okq (⟨"DrawCommands", "argumentsHere", "(I)I"⟩, 8) := ⟨⟨by decide +kernel, by decide +kernel⟩, List.mem_of_getElem? (i := 16) (by decide +kernel), List.mem_of_getElem? (i := 374) (by decide +kernel), List.mem_of_getElem? (i := 375) (by decide +kernel)⟩
theorem lw_p10 : lw_okq (⟨"DrawCommands", "placesAreThere", "()Z"⟩, 8) := ⟨⟨by decide +kernel, by decide +kernel⟩, List.mem_of_getElem? (i := 16) (by decide +kernel), List.mem_of_getElem? (i := 401) (by decide +kernel), List.mem_of_getElem? (i := 402) (by decide +kernel)⟩
theorem lw_p11 : lw_okq (⟨"DrawCommands", "stateAllows", "()Z"⟩, 8) := ⟨⟨by decide +kernel, by decide +kernel⟩, List.mem_of_getElem? (i := 16) (by decide +kernel), List.mem_of_getElem? (i := 409) (by decide +kernel), List.mem_of_getElem? (i := 410) (by decide +kernel)⟩
theorem lw_p12 : lw_okq (⟨"DrawCommands", "carryOut", "()V"⟩, 8) := ⟨⟨by decide +kernel, by decide +kernel⟩, List.mem_of_getElem? (i := 16) (by decide +kernel), List.mem_of_getElem? (i := 425) (by decide +kernel), List.mem_of_getElem? (i := 426) (by decide +kernel)⟩
theorem lw_p13 : lw_okq (⟨"DrawCommands", "keepUniforms", "()V"⟩, 8) := ⟨⟨by decide +kernel, by decide +kernel⟩, List.mem_of_getElem? (i := 16) (by decide +kernel), List.mem_of_getElem? (i := 438) (by decide +kernel), List.mem_of_getElem? (i := 439) (by decide +kernel)⟩
theorem lw_p14 : lw_okq (⟨"DrawCommands", "storeWords", "()V"⟩, 8) := ⟨⟨by decide +kernel, by decide +kernel⟩, List.mem_of_getElem? (i := 16) (by decide +kernel), List.mem_of_getElem? (i := 446) (by decide +kernel), List.mem_of_getElem? (i := 447) (by decide +kernel)⟩
theorem lw_p15 : lw_okq (⟨"DrawCommandsModel", "nothingTold", "()V"⟩, 18) := ⟨⟨by decide +kernel, by decide +kernel⟩, List.mem_of_getElem? (i := 486) (by decide +kernel), List.mem_of_getElem? (i := 492) (by decide +kernel), List.mem_of_getElem? (i := 493) (by decide +kernel)⟩
def lw_privs_1 : List (MethodName × Nat) := [(⟨"DrawCommands$Told", "forgetOne", "(II)V"⟩, 2), (⟨"DrawCommands$Told", "placeOf", "(III)I"⟩, 2), (⟨"DrawCommands", "startAnew", "()V"⟩, 8), (⟨"java/lang/Throwable", "fillInStackTrace", "(I)Ljava/lang/Throwable;"⟩, 6), (⟨"DrawCommands", "refusalHere", "()I"⟩, 8), (⟨"DrawCommands", "readCommand", "()I"⟩, 8), (⟨"DrawCommands", "sourceLength", "()I"⟩, 8), (⟨"DrawCommands", "readBeyondTheEnd", "()I"⟩, 8), (⟨"DrawCommands", "sourceWord", "(I)I"⟩, 8), (⟨"DrawCommands", "argumentsHere", "(I)I"⟩, 8), (⟨"DrawCommands", "placesAreThere", "()Z"⟩, 8), (⟨"DrawCommands", "stateAllows", "()Z"⟩, 8), (⟨"DrawCommands", "carryOut", "()V"⟩, 8), (⟨"DrawCommands", "keepUniforms", "()V"⟩, 8), (⟨"DrawCommands", "storeWords", "()V"⟩, 8), (⟨"DrawCommandsModel", "nothingTold", "()V"⟩, 18)]
theorem lw_r1 : ∀ q ∈ lw_privs_1, lw_okq q := List.forall_mem_cons.mpr ⟨lw_p0, List.forall_mem_cons.mpr ⟨lw_p1, List.forall_mem_cons.mpr ⟨lw_p2, List.forall_mem_cons.mpr ⟨lw_p3, List.forall_mem_cons.mpr ⟨lw_p4, List.forall_mem_cons.mpr ⟨lw_p5, List.forall_mem_cons.mpr ⟨lw_p6, List.forall_mem_cons.mpr ⟨lw_p7, List.forall_mem_cons.mpr ⟨lw_p8, List.forall_mem_cons.mpr ⟨lw_p9, List.forall_mem_cons.mpr ⟨lw_p10, List.forall_mem_cons.mpr ⟨lw_p11, List.forall_mem_cons.mpr ⟨lw_p12, List.forall_mem_cons.mpr ⟨lw_p13, List.forall_mem_cons.mpr ⟨lw_p14, List.forall_mem_cons.mpr ⟨lw_p15, fun _ h => absurd h List.not_mem_nil⟩⟩⟩⟩⟩⟩⟩⟩⟩⟩⟩⟩⟩⟩⟩⟩
theorem lw_p16 : lw_okq (⟨"DrawCommandsModel", "refuse", "(Z)Z"⟩, 18) := ⟨⟨by decide +kernel, by decide +kernel⟩, List.mem_of_getElem? (i := 486) (by decide +kernel), List.mem_of_getElem? (i := 573) (by decide +kernel), List.mem_of_getElem? (i := 574) (by decide +kernel)⟩
theorem lw_p17 : lw_okq (⟨"DrawCommandsModel", "anew", "()V"⟩, 18) := ⟨⟨by decide +kernel, by decide +kernel⟩, List.mem_of_getElem? (i := 486) (by decide +kernel), List.mem_of_getElem? (i := 590) (by decide +kernel), List.mem_of_getElem? (i := 591) (by decide +kernel)⟩
theorem lw_p18 : lw_okq (⟨"DrawCommandsModel", "look", "()I"⟩, 18) := ⟨⟨by decide +kernel, by decide +kernel⟩, List.mem_of_getElem? (i := 486) (by decide +kernel), List.mem_of_getElem? (i := 602) (by decide +kernel), List.mem_of_getElem? (i := 603) (by decide +kernel)⟩
theorem lw_p19 : lw_okq (⟨"DrawCommandsModel", "isThere", "(I)Z"⟩, 18) := ⟨⟨by decide +kernel, by decide +kernel⟩, List.mem_of_getElem? (i := 486) (by decide +kernel), List.mem_of_getElem? (i := 606) (by decide +kernel), List.mem_of_getElem? (i := 607) (by decide +kernel)⟩
theorem lw_p20 : lw_okq (⟨"DrawCommandsModel", "read", "(I)I"⟩, 18) := ⟨⟨by decide +kernel, by decide +kernel⟩, List.mem_of_getElem? (i := 486) (by decide +kernel), List.mem_of_getElem? (i := 610) (by decide +kernel), List.mem_of_getElem? (i := 611) (by decide +kernel)⟩
theorem lw_p21 : lw_okq (⟨"DrawCommandsModel", "length", "(I)I"⟩, 18) := ⟨⟨by decide +kernel, by decide +kernel⟩, List.mem_of_getElem? (i := 486) (by decide +kernel), List.mem_of_getElem? (i := 615) (by decide +kernel), List.mem_of_getElem? (i := 616) (by decide +kernel)⟩
theorem lw_p22 : lw_okq (⟨"DrawCommandsModel", "liesRight", "(I)Z"⟩, 18) := ⟨⟨by decide +kernel, by decide +kernel⟩, List.mem_of_getElem? (i := 486) (by decide +kernel), List.mem_of_getElem? (i := 654) (by decide +kernel), List.mem_of_getElem? (i := 655) (by decide +kernel)⟩
theorem lw_p23 : lw_okq (⟨"DrawCommandsModel", "isInMemory", "(JJ)Z"⟩, 18) := ⟨⟨by decide +kernel, by decide +kernel⟩, List.mem_of_getElem? (i := 486) (by decide +kernel), List.mem_of_getElem? (i := 658) (by decide +kernel), List.mem_of_getElem? (i := 659) (by decide +kernel)⟩
theorem lw_p24 : lw_okq (⟨"DrawCommandsModel", "fitsState", "(I)Z"⟩, 18) := ⟨⟨by decide +kernel, by decide +kernel⟩, List.mem_of_getElem? (i := 486) (by decide +kernel), List.mem_of_getElem? (i := 662) (by decide +kernel), List.mem_of_getElem? (i := 663) (by decide +kernel)⟩
theorem lw_p25 : lw_okq (⟨"DrawCommandsModel", "perform", "(I)V"⟩, 18) := ⟨⟨by decide +kernel, by decide +kernel⟩, List.mem_of_getElem? (i := 486) (by decide +kernel), List.mem_of_getElem? (i := 666) (by decide +kernel), List.mem_of_getElem? (i := 667) (by decide +kernel)⟩
theorem lw_p26 : lw_okq (⟨"DrawCommandsModel", "keep", "(I)V"⟩, 18) := ⟨⟨by decide +kernel, by decide +kernel⟩, List.mem_of_getElem? (i := 486) (by decide +kernel), List.mem_of_getElem? (i := 670) (by decide +kernel), List.mem_of_getElem? (i := 671) (by decide +kernel)⟩
def lw_privs_2 : List (MethodName × Nat) := [(⟨"DrawCommandsModel", "refuse", "(Z)Z"⟩, 18), (⟨"DrawCommandsModel", "anew", "()V"⟩, 18), (⟨"DrawCommandsModel", "look", "()I"⟩, 18), (⟨"DrawCommandsModel", "isThere", "(I)Z"⟩, 18), (⟨"DrawCommandsModel", "read", "(I)I"⟩, 18), (⟨"DrawCommandsModel", "length", "(I)I"⟩, 18), (⟨"DrawCommandsModel", "liesRight", "(I)Z"⟩, 18), (⟨"DrawCommandsModel", "isInMemory", "(JJ)Z"⟩, 18), (⟨"DrawCommandsModel", "fitsState", "(I)Z"⟩, 18), (⟨"DrawCommandsModel", "perform", "(I)V"⟩, 18), (⟨"DrawCommandsModel", "keep", "(I)V"⟩, 18)]
theorem lw_r2 : ∀ q ∈ lw_privs_2, lw_okq q := List.forall_mem_cons.mpr ⟨lw_p16, List.forall_mem_cons.mpr ⟨lw_p17, List.forall_mem_cons.mpr ⟨lw_p18, List.forall_mem_cons.mpr ⟨lw_p19, List.forall_mem_cons.mpr ⟨lw_p20, List.forall_mem_cons.mpr ⟨lw_p21, List.forall_mem_cons.mpr ⟨lw_p22, List.forall_mem_cons.mpr ⟨lw_p23, List.forall_mem_cons.mpr ⟨lw_p24, List.forall_mem_cons.mpr ⟨lw_p25, List.forall_mem_cons.mpr ⟨lw_p26, fun _ h => absurd h List.not_mem_nil⟩⟩⟩⟩⟩⟩⟩⟩⟩⟩⟩
def lw_privs : List (MethodName × Nat) := lw_privs_1 ++ (lw_privs_2)
def lw_tbl : List Cond := k2_sels lw_privs ++ tables_1
theorem lw_privs_ok : ∀ q ∈ lw_privs, lw_okq q := by
  show ∀ q ∈ lw_privs_1 ++ (lw_privs_2), lw_okq q
  exact List.forall_mem_append.mpr ⟨lw_r1, lw_r2⟩
end
section
/-! ===== BEGIN words of one list among another's, by their places ===== -/
theorem goodIn_r {big : List Cond} (ws : List Cond) (ps : List Nat) (hp : ws = ps.filterMap (fun i => big[i]?)) (h : ws.all goodWord = true) : GoodIn big ws := by
  intro w hw
  have h1 := List.all_eq_true.mp h w hw
  rw [hp] at hw
  obtain ⟨i, -, hi⟩ := List.mem_filterMap.mp hw
  have hm : w ∈ big := by first | exact List.mem_of_getElem? hi | exact List.getElem?_mem hi
  exact ⟨hm, good_of_word h1⟩
theorem goodIn_app {big a b : List Cond} (ha : GoodIn big a) (hb : GoodIn big b) : GoodIn big (a ++ b) := fun w h => (List.mem_append.mp h).elim (ha w) (hb w)
theorem goodIn_ca {big a b : List Cond} {c : Cond} (ha : GoodIn big (c :: a)) (hb : GoodIn big b) : GoodIn big (c :: (a ++ b)) := fun w h => (List.mem_cons.mp h).elim (fun e => ha w (List.mem_cons.mpr (Or.inl e))) (fun h => (List.mem_append.mp h).elim (fun h => ha w (List.mem_cons.mpr (Or.inr h))) (hb w))
theorem goodIn_sub {big ws : List Cond} (hm : ∀ w ∈ ws, w ∈ big) (h : ws.all goodWord = true) : GoodIn big ws := fun w hw => ⟨hm w hw, good_of_word (List.all_eq_true.mp h w hw)⟩
/-! ===== END ===== -/

/-! ===== BEGIN exceptions that leave a method, and their catching by the caller (launches without stack traces) ===== -/
section VXA
/-! The laws vx_back, vx_callV, vx_callS, vx_callSW, vx_throw0, vx_throwS follow proofs of the library, with one case more: JvmDerived/Free/Laws.lean (Back.of_free), Shelf42/LK1.lean (callV, callS), Shelf/KitTraced.lean (throwNew0V, throwNewS). -/
/-- where a method has thrown q: the class by its name, the cell, what was written, the world -/
def vx_T (XC : String → State → State → Prop) (st : State) (q : Addr) (t : State) (mc ms : Nat) (free : Addr → Prop) : Prop :=
  ∃ (E : String) (ce : Cell) (L : List Loc), XC E st t ∧ t.heap[q]? = some ce ∧ ce.vm = .none ∧ st.vm.findClass E = some ce.cls ∧ st.WarmedH t.vm ∧ st.sameButNew ({ t with vm := st.vm } : State) L mc ms ∧ ∀ z ∈ L, free z.base
def vx_Q (Qc : Array Value → State → Outcome → State → Prop) (XC : String → State → State → Prop) (mc ms : Nat) (free : Addr → Prop) : Array Value → State → Outcome → State → Prop := fun a st o t =>
  (Qc a st o t ∧ ∃ L, FrameEnd st o t L mc ms ∧ ∀ q ∈ L, free q.base) ∨ ∃ q, o = .threw q ∧ vx_T XC st q t mc ms free
/-- a callee that returns or throws -/
def vx_Met (l : Launch) (y : MethodName) (ws : List Cond) (rm : Room) (Pc : Array Value → State → Prop) (Qc : Array Value → State → Outcome → State → Prop) (XC : String → State → State → Prop) (mc ms : Nat) (free : Addr → Prop) : Prop :=
  MetFree l y (headSpec ws rm) Pc (fun _ _ _ _ _ => True) (vx_Q Qc XC mc ms free)
def vx_Post (XC : String → State → State → Prop) (mc ms : Nat) (free : Addr → Prop) : Pt → Array Value → Addr → Pt → Prop := fun A a q B =>
  ∃ (g : JFrame) (mk : MethodId) (t : State) (L : List Loc) (E : String) (ce : Cell), B.U.heap = t.heap ∧ B.U.vm = t.vm ∧ XC E (A.U.calling g mk a) t ∧ t.heap[q]? = some ce ∧ ce.vm = .none ∧ A.U.vm.findClass E = some ce.cls ∧ B.locs = A.locs ++ L ∧ (∀ z ∈ L, free z.base) ∧ B.cells = A.cells + mc ∧ B.slots = A.slots + ms
def vx_Back (l : Launch) (R : Room) (p : Program) (e : Env) (below : List Frame) (s : State) (sargs : Array Value) (y : MethodName) (len W9 : Nat)
    (Pre : Pt → Array Value → Prop) (Post : Pt → Array Value → Option Value → Pt → Prop) (PostX : Pt → Array Value → Addr → Pt → Prop) : Prop :=
  ∀ (m : MethodId) (meth : Method) (c : Code) (A : Pt) (g : JFrame) (ig : Instr) (mk : MethodId) (a : Array Value),
    Stand p l e R s m sargs below meth c A.U A.locs A.cells A.slots → g.method = m → g.locals.size = c.maxLocals → decode c.code g.pc = .ok (ig, len) →
    2 * g.monitorRoom + (g.stack.map fun v => v.category).sum ≤ W9 → A.U.methodNamed? y = some mk → Pre A a →
    (∃ (v : Option Value) (B : Pt), Stand p l e R s m sargs below meth c B.U B.locs B.cells B.slots ∧ Post A a v B ∧
      Steps p.tables e below (doInvoke e (A.U.setTop g) [] mk a).1 (B.U.setTop { g with pc := g.pc + len, stack := v.toList ++ g.stack })) ∨
    (∃ (q : Addr) (B : Pt), Stand p l e R s m sargs below meth c B.U B.locs B.cells B.slots ∧ PostX A a q B ∧
      Steps p.tables e below (doInvoke e (A.U.setTop g) [] mk a).1 ((B.U.setTop g).pushFrame (.throwing q)))
section Payer
variable {l : Launch} {R : Room} {p : Program} {e : Env} {below : List Frame} {s : State} {sargs : Array Value} {y : MethodName} {len W9 : Nat}
theorem vx_back {ws : List Cond} {rm : Room} {Pc : Array Value → State → Prop} {Qc : Array Value → State → Outcome → State → Prop} {XC : String → State → State → Prop} {mc ms : Nat} {free : Addr → Prop} {bytes : ByteArray} {maxL : Nat} {ret : Option FieldType}
    (hM : vx_Met l y ws rm Pc Qc XC mc ms free) (hblind : FrameBlind Pc) (hrc : rm.cells = mc) (hrs : rm.slots = ms)
    (hframes : rm.frames + 1 ≤ R.frames) (hlocals : W9 + (maxL + 11) + rm.locals ≤ R.locals)
    (hws : ∀ w ∈ ws, ∀ a' U, s.WarmedH U.vm → w.before a' U = true) (hcode : Cond.code y bytes maxL ret ∈ ws) (hinit : ∀ a' U, s.WarmedH U.vm → (Cond.initialized y.cls).before a' U = true) :
    vx_Back l R p e below s sargs y len W9 (PreOf R mc ms Pc) (PostOf Qc mc ms free) (vx_Post XC mc ms free) := by
  intro m meth c A g ig mk a X hg hsize hdg hW hn hp
  have h1 : (headSpec ws rm).pre.before a A.U = true := atoms_intro fun w hw => hws w hw _ _ X.warmed
  have h2 : (Cond.code y bytes maxL ret).before a A.U = true := hws _ hcode _ _ X.warmed
  have h3 : (Cond.initialized y.cls).before a A.U = true := hinit _ _ X.warmed
  have h4 : A.cells + (headSpec ws rm).room.cells ≤ R.cells := by rw [show (headSpec ws rm).room.cells = mc from hrc]; exact hp.1
  have h5 : A.slots + (headSpec ws rm).room.slots ≤ R.slots := by rw [show (headSpec ws rm).room.slots = ms from hrs]; exact hp.2.1
  have hPc : Pc a (A.U.calling g mk a) := hblind _ _ _ _ hp.2.2
  obtain ⟨U, Ls, c0, s0⟩ := A
  dsimp only [Pt.U, Pt.locs, Pt.cells, Pt.slots] at h1 h2 h3 h4 h5 X hn hPc ⊢
  obtain ⟨methY, cY, hmY, hcY, -, hlY, -, -, -, -⟩ := Cond.code_spec hn h2
  obtain ⟨kY, hkY, -⟩ := className_of_methodNamed hn
  have hinitY : kY.init = .initialized := Cond.initialized_spec (findClass_of_methodNamed hn) hkY h3
  have h : At U g.method c below := by rw [hg]; exact X.here
  have hlocals9 : W9 + (maxL + 11) + (headSpec ws rm).room.locals ≤ R.locals := hlocals
  have happ : (headSpec ws rm).appliesLoose y e.platform (U.calling g mk a) = true :=
    Spec.appliesLoose_calling (g := g) h hdg hn hkY hinitY
      (X.room_calling (g := g) (R' := (headSpec ws rm).room) hsize hmY hcY hframes (by rw [hlY]; omega) h4 h5) h1
  obtain ⟨mid, hmid⟩ := h.above
  have hfr : (U.setTop g).frames = (.java g :: mid) ++ below := by rw [State.frames_setTop' g h.top, hmid]; rfl
  obtain ⟨o, s₂, hsteps, -, hend, hq⟩ := Steps.callFree hM p X.admits X.cas X.clock (acts := []) hfr happ hPc trivial
  have hq' : vx_Q Qc XC mc ms free a (U.calling g mk a) o s₂ := hq
  rw [State.frames_setTop' g h.top] at hend
  obtain ⟨g₀, hg0⟩ := Option.isSome_iff_exists.mp h.top
  obtain ⟨r, hr⟩ := State.topJava?_eq_some.mp hg0
  have hr' : (({ U with heap := s₂.heap, slotsUsed := s₂.slotsUsed } : State).setVm s₂.vm).frames = .java g₀ :: r := hr
  rcases hq' with ⟨hqc, L, hfe, hL⟩ | ⟨q, rfl, E, ce, L, hx, hce, hcv, hcl, hW₂, hsm, hL⟩
  · obtain ⟨⟨v, rfl⟩, hW₂, e2, q2, q3, q4, q5, q6⟩ := id hfe
    have e3 : s₂ = ({ (U.calling g mk a).setFrames s₂.frames with heap := s₂.heap, slotsUsed := s₂.slotsUsed } : State).setVm s₂.vm := by
      have : s₂ = ({ s₂ with vm := (U.calling g mk a).vm } : State).setVm s₂.vm := rfl
      rw [e2] at this
      exact this
    obtain ⟨c₂, i₂, len₂, hc₂, hd₂, hf₂⟩ := hend
    have hW' : U.WarmedH s₂.vm := hW₂
    have hcc : c₂ = c := by
      have h1 : s₂.code? g.method = U.code? g.method := by
        rw [State.code?_eq, State.code?_eq, hW'.alike.method?]
      exact Option.some.inj (hc₂.symm.trans (h1.trans h.code))
    subst hcc
    have hlen : len₂ = len := by rw [hdg] at hd₂; cases hd₂; rfl
    subst hlen
    have hs₂ : s₂ = (({ U with heap := s₂.heap, slotsUsed := s₂.slotsUsed } : State).setVm s₂.vm).setTop { g with pc := g.pc + len₂, stack := v.toList ++ g.stack } := by
      refine e3.trans ?_
      rw [hf₂, State.calling_eq h.top, State.setFrames_setFrames, State.setTop_of_frames _ hr', hr]
      rfl
    have hsame : U.sameButNew ({ U with heap := s₂.heap, slotsUsed := s₂.slotsUsed } : State) L mc ms := by
      refine ⟨?_, q2, q3, q4, q5, q6⟩
      obtain ⟨t, ht, -⟩ := State.frames_cons hr
      show ({ U with heap := s₂.heap, slotsUsed := s₂.slotsUsed } : State) = { U.setFrames U.frames with heap := s₂.heap, slotsUsed := s₂.slotsUsed }
      rw [State.setFrames_self ht]
    subst hg
    refine Or.inl ⟨v, ⟨(({ U with heap := s₂.heap, slotsUsed := s₂.slotsUsed } : State).setVm s₂.vm), Ls ++ L, c0 + mc, s0 + ms⟩,
      ⟨X.admits, X.cas, X.clock, X.frames, X.room, X.hears, X.method, X.code, (X.here.setHeapUsed s₂.heap s₂.slotsUsed).setVm hW'.alike, X.tail, State.WarmedH.trans X.warmed hW', X.limits, X.bytes, X.same.trans (hsame.setVm s.vm)⟩,
      ⟨g, mk, s₂, L, rfl, rfl, hqc, rfl, hL, rfl, rfl⟩, ?_⟩
    show Steps p.tables e below _ ((({ U with heap := s₂.heap, slotsUsed := s₂.slotsUsed } : State).setVm s₂.vm).setTop { g with pc := g.pc + len₂, stack := v.toList ++ g.stack })
    rw [← hs₂]
    exact hsteps
  · obtain ⟨e2, q2, q3, q4, q5, q6⟩ := id hsm
    have e3 : s₂ = ({ (U.calling g mk a).setFrames s₂.frames with heap := s₂.heap, slotsUsed := s₂.slotsUsed } : State).setVm s₂.vm := by
      have : s₂ = ({ s₂ with vm := (U.calling g mk a).vm } : State).setVm s₂.vm := rfl
      rw [e2] at this
      exact this
    have hf₂ : s₂.frames = .throwing q :: .java g :: U.frames.tail := hend
    have hW' : U.WarmedH s₂.vm := hW₂
    have hs₂ : s₂ = ((({ U with heap := s₂.heap, slotsUsed := s₂.slotsUsed } : State).setVm s₂.vm).setTop g).pushFrame (.throwing q) := by
      refine e3.trans ?_
      rw [hf₂, State.calling_eq h.top, State.setFrames_setFrames, State.pushFrame, State.frames_setTop _ hr', State.setTop_of_frames _ hr', State.setFrames_setFrames, hr]
      rfl
    have hsame : U.sameButNew ({ U with heap := s₂.heap, slotsUsed := s₂.slotsUsed } : State) L mc ms := by
      refine ⟨?_, q2, q3, q4, q5, q6⟩
      obtain ⟨t, ht, -⟩ := State.frames_cons hr
      show ({ U with heap := s₂.heap, slotsUsed := s₂.slotsUsed } : State) = { U.setFrames U.frames with heap := s₂.heap, slotsUsed := s₂.slotsUsed }
      rw [State.setFrames_self ht]
    subst hg
    refine Or.inr ⟨q, ⟨(({ U with heap := s₂.heap, slotsUsed := s₂.slotsUsed } : State).setVm s₂.vm), Ls ++ L, c0 + mc, s0 + ms⟩,
      ⟨X.admits, X.cas, X.clock, X.frames, X.room, X.hears, X.method, X.code, (X.here.setHeapUsed s₂.heap s₂.slotsUsed).setVm hW'.alike, X.tail, State.WarmedH.trans X.warmed hW', X.limits, X.bytes, X.same.trans (hsame.setVm s.vm)⟩,
      ⟨g, mk, s₂, L, E, ce, rfl, rfl, hx, hce, hcv, hcl, rfl, hL, rfl, rfl⟩, ?_⟩
    show Steps p.tables e below _ (((({ U with heap := s₂.heap, slotsUsed := s₂.slotsUsed } : State).setVm s₂.vm).setTop g).pushFrame (.throwing q))
    rw [← hs₂]
    exact hsteps
end Payer
section Calls
variable {p : Program} {l : Launch} {e : Env} {R : Room} {s : State} {m : MethodId} {args : Array Value} {below : List Frame} {meth : Method} {c : Code} {T : State} {locs : List Loc} {cells slots : Nat}
theorem vx_callV (X : Stand p l e R s m args below meth c T locs cells slots) (hexec : p.tables.exec = Jvm.exec) {own C : String} {index : Nat} {y : MethodName} {bytes : ByteArray} {maxL : Nat} {ret : Option FieldType}
    (hown : s.vm.findClass own = some m.cls) (hlink : (Cond.methodLink own index y).before args s = true) (hinst : (Cond.instanceMethod y).before args s = true) (hsel : (Cond.selects C y y).before args s = true)
    (hcode : (Cond.code y bytes maxL ret).before args s = true) (hy : y.cls ≠ "java/lang/invoke/MethodHandle" ∧ y.cls ≠ "java/lang/invoke/VarHandle")
    {W9 : Nat} {Pre : Pt → Array Value → Prop} {Post : Pt → Array Value → Option Value → Pt → Prop} {PostX : Pt → Array Value → Addr → Pt → Prop} (hK : vx_Back l R p e below s args y 3 W9 Pre Post PostX)
    {b : Addr} {cellB : Cell} (hcell : T.heap[b]? = some cellB) (hobj : cellB.vm.isStatics = false) (hcls : s.vm.findClass C = some cellB.cls)
    {g : JFrame} (hg : g.method = m) (hsize : g.locals.size = c.maxLocals) {argsL rest : List Value} (hlen : ∀ sig, parseMethodDescriptor y.desc = some sig → argsL.length = sig.parameters.length)
    (hstack : g.stack = argsL.reverse ++ .ref b :: rest) (hW : 2 * g.monitorRoom + (rest.map fun v => v.category).sum ≤ W9) (hdg : decode c.code g.pc = .ok (.invokevirtual index, 3))
    (hpre : ∀ vm₁, s.WarmedH vm₁ → Pre ⟨T.setVm vm₁, locs, cells, slots⟩ (Value.ref b :: argsL).toArray) :
    (∃ (v : Option Value) (vm₁ : Vm) (B : Pt), s.WarmedH vm₁ ∧ Stand p l e R s m args below meth c B.U B.locs B.cells B.slots ∧ Post ⟨T.setVm vm₁, locs, cells, slots⟩ (Value.ref b :: argsL).toArray v B ∧
      ∀ target, Steps p.tables e below (B.U.setTop { g with pc := g.pc + 3, stack := v.toList ++ rest }) target → Steps p.tables e below (T.setTop g) target) ∨
    (∃ (q : Addr) (vm₁ : Vm) (B : Pt), s.WarmedH vm₁ ∧ Stand p l e R s m args below meth c B.U B.locs B.cells B.slots ∧ PostX ⟨T.setVm vm₁, locs, cells, slots⟩ (Value.ref b :: argsL).toArray q B ∧
      Steps p.tables e below (T.setTop g) ((B.U.setTop { g with stack := rest }).pushFrame (.throwing q))) := by
  obtain ⟨mk, methM, hnamed, hmethM, hstM, habM⟩ := Cond.instanceMethod_spec hinst
  obtain ⟨methM', cM, hmethM', -, -, -, -, -, -, hsigM⟩ := Cond.code_spec hnamed hcode
  cases hmethM.symm.trans hmethM'
  obtain ⟨c2, r2, m2, q1, q2, q3, q4, kP, hkP, hkPi⟩ := Cond.selects_spec hsel
  cases hcls.symm.trans q1
  cases (State.methodFound?_of_named hnamed hy).symm.trans q2
  cases hnamed.symm.trans q3
  have hselP : selectMethod e.platform s.vm cellB.cls mk = .method mk := by rw [Launch.admits_selectMethod X.admits]; exact q4
  obtain ⟨vm₁, X₁, hstep₁⟩ := X.invokevirtual hexec hown hlink hnamed hmethM hstM hkP hkPi hy (a := b) (cell := cellB) hcell
    (fun z h => by rw [h] at hobj; cases hobj) hselP hmethM habM hkP hkPi (g := g) hg (argsL := argsL) (rest := rest) (hlen _ hsigM) hstack hdg
  rcases hK m meth c ⟨T.setVm vm₁, locs, cells, slots⟩ { g with stack := rest } (.invokevirtual index) mk (Value.ref b :: argsL).toArray X₁ hg hsize hdg hW (X₁.named hnamed) (hpre vm₁ X₁.warmed) with ⟨v, B, X', hpost, hsteps⟩ | ⟨q, B, X', hpost, hsteps⟩
  · exact Or.inl ⟨v, vm₁, B, X₁.warmed, X', hpost, fun target h => hstep₁ _ fun acts => by rw [doInvoke_state]; exact hsteps.trans h⟩
  · exact Or.inr ⟨q, vm₁, B, X₁.warmed, X', hpost, hstep₁ _ fun acts => by rw [doInvoke_state]; exact hsteps⟩
theorem vx_callS (X : Stand p l e R s m args below meth c T locs cells slots) (hexec : p.tables.exec = Jvm.exec) {own : String} {index : Nat} {y : MethodName} {bytes : ByteArray} {maxL : Nat} {ret : Option FieldType}
    (hown : s.vm.findClass own = some m.cls) (hlink : (Cond.methodLink own index y).before args s = true) (hstat : (Cond.static y).before args s = true) (hinit : (Cond.initialized y.cls).before args s = true)
    (hcode : (Cond.code y bytes maxL ret).before args s = true) (hy : y.cls ≠ "java/lang/invoke/MethodHandle" ∧ y.cls ≠ "java/lang/invoke/VarHandle")
    {W9 : Nat} {Pre : Pt → Array Value → Prop} {Post : Pt → Array Value → Option Value → Pt → Prop} {PostX : Pt → Array Value → Addr → Pt → Prop} (hK : vx_Back l R p e below s args y 3 W9 Pre Post PostX)
    {g : JFrame} (hg : g.method = m) (hsize : g.locals.size = c.maxLocals) {argsL rest : List Value} (hlen : ∀ sig, parseMethodDescriptor y.desc = some sig → argsL.length = sig.parameters.length)
    (hstack : g.stack = argsL.reverse ++ rest) (hW : 2 * g.monitorRoom + (rest.map fun v => v.category).sum ≤ W9) (hdg : decode c.code g.pc = .ok (.invokestatic index, 3))
    (hpre : ∀ vm₁, s.WarmedH vm₁ → Pre ⟨T.setVm vm₁, locs, cells, slots⟩ argsL.toArray) :
    (∃ (v : Option Value) (vm₁ : Vm) (B : Pt), s.WarmedH vm₁ ∧ Stand p l e R s m args below meth c B.U B.locs B.cells B.slots ∧ Post ⟨T.setVm vm₁, locs, cells, slots⟩ argsL.toArray v B ∧
      ∀ target, Steps p.tables e below (B.U.setTop { g with pc := g.pc + 3, stack := v.toList ++ rest }) target → Steps p.tables e below (T.setTop g) target) ∨
    (∃ (q : Addr) (vm₁ : Vm) (B : Pt), s.WarmedH vm₁ ∧ Stand p l e R s m args below meth c B.U B.locs B.cells B.slots ∧ PostX ⟨T.setVm vm₁, locs, cells, slots⟩ argsL.toArray q B ∧
      Steps p.tables e below (T.setTop g) ((B.U.setTop { g with stack := rest }).pushFrame (.throwing q))) := by
  obtain ⟨mk, hnamed⟩ := Cond.code_named hcode
  obtain ⟨methM, cM, hmethM, -, -, -, -, -, -, hsigM⟩ := Cond.code_spec hnamed hcode
  have hstatic : methM.isStatic = true := Cond.static_spec hnamed hmethM hstat
  obtain ⟨kP, hkP, -⟩ := className_of_methodNamed hnamed
  have hinitP : kP.init = .initialized := Cond.initialized_spec (findClass_of_methodNamed hnamed) hkP hinit
  obtain ⟨vm₁, X₁, hstep₁⟩ := X.invokestatic hexec hown hlink hnamed hmethM hstatic hkP hinitP hy (g := g) hg (argsL := argsL) (rest := rest) (hlen _ hsigM) hstack hdg
  rcases hK m meth c ⟨T.setVm vm₁, locs, cells, slots⟩ { g with stack := rest } (.invokestatic index) mk argsL.toArray X₁ hg hsize hdg hW (X₁.named hnamed) (hpre vm₁ X₁.warmed) with ⟨v, B, X', hpost, hsteps⟩ | ⟨q, B, X', hpost, hsteps⟩
  · exact Or.inl ⟨v, vm₁, B, X₁.warmed, X', hpost, fun target h => hstep₁ _ fun acts => by rw [doInvoke_state]; exact hsteps.trans h⟩
  · exact Or.inr ⟨q, vm₁, B, X₁.warmed, X', hpost, hstep₁ _ fun acts => by rw [doInvoke_state]; exact hsteps⟩
end Calls
theorem vx_cls {s : State} {T : State} {vm₁ : Vm} {E : String} {k : ClassId} (hW : s.WarmedH vm₁) (h : (T.setVm vm₁).vm.findClass E = some k) : s.vm.findClass E = some k := by
  have h1 : vm₁.findClass E = some k := h
  rw [hW.alike.findClass] at h1
  exact h1
/-- the method's frame g, with q thrown over it -/
def vx_W (p : Program) (l : Launch) (e : Env) (R : Room) (s : State) (m : MethodId) (args : Array Value) (below : List Frame) (meth : Method) (c : Code) (H : Heap) (locs : List Loc) (cells slots : Nat) (Q : State → Prop) (g : JFrame) (q : Addr) : Prop :=
  ∀ T : State, T.heap = H → Stand p l e R s m args below meth c T locs cells slots → ∃ t, Steps p.tables e below ((T.setTop g).pushFrame (.throwing q)) t ∧ Q t
def vx_Run (p : Program) (l : Launch) (e : Env) (R : Room) (s : State) (m : MethodId) (args : Array Value) (below : List Frame) (meth : Method) (c : Code) (H : Heap) (locs : List Loc) (cells slots mc ms : Nat) (g : JFrame) (rest : List Value) (Qa : State → Outcome → State → Prop) (XC : String → State → State → Prop) (free : Addr → Prop) : Prop :=
  ∀ T : State, T.heap = H → Stand p l e R s m args below meth c T locs cells slots →
    (∃ (v : Option Value) (st₀ t T' : State) (L : List Loc), st₀.heap = H ∧ Stand p l e R s m args below meth c T' (locs ++ L) (cells + mc) (slots + ms) ∧ (∀ q ∈ L, free q.base) ∧ T'.heap = t.heap ∧ T'.vm = t.vm ∧ Qa st₀ (.returned v) t ∧
      Goes p e below T g T' { g with pc := g.pc + 3, stack := v.toList ++ rest }) ∨
    (∃ (q : Addr) (st₀ t T' : State) (L : List Loc) (E : String) (ce : Cell), st₀.heap = H ∧ Stand p l e R s m args below meth c T' (locs ++ L) (cells + mc) (slots + ms) ∧ (∀ z ∈ L, free z.base) ∧ T'.heap = t.heap ∧ T'.vm = t.vm ∧ XC E st₀ t ∧ t.heap[q]? = some ce ∧ ce.vm = .none ∧ s.vm.findClass E = some ce.cls ∧
      Steps p.tables e below (T.setTop g) ((T'.setTop { g with stack := rest }).pushFrame (.throwing q)))
def vx_X {S : Type} (px : S → Prop) (B : String → S → State → Prop) (A : Nat → Prop) : String → State → State → Prop := fun E st t => ∃ u : S, px u ∧ B E u t ∧ va_F A st t
section Runs
variable {p : Program} {l : Launch} {e : Env} {R : Room} {s : State} {m : MethodId} {args : Array Value} {below : List Frame} {meth : Method} {c : Code} {H : Heap} {locs : List Loc} {cells slots : Nat}
variable {y : MethodName} {bytes cc : ByteArray} {maxL nL mc ms n index : Nat} {ret : Option FieldType} {ws : List Cond} {rm : Room} {Pc : Array Value → State → Prop} {Qc : Array Value → State → Outcome → State → Prop} {XC : String → State → State → Prop} {free : Addr → Prop} {Ts : List Cond} {own C : String} {b : Addr} {As rest : List Value} {g : JFrame}
theorem vx_callBack (cb : CallB R s args own index y bytes maxL ret ws rm mc ms n) (hM : vx_Met l y ws rm Pc Qc XC mc ms free) (hbl : FrameBlind Pc) : vx_Back l R p e below s args y 3 8 (PreOf R mc ms Pc) (PostOf Qc mc ms free) (vx_Post XC mc ms free) := by
  obtain ⟨hrc, hrs, hfr, hlo, hws, hcw, -, hini, -⟩ := cb
  exact vx_back (bytes := bytes) (maxL := maxL) (ret := ret) hM hbl hrc hrs hfr hlo hws hcw (fun a' U hW => word_at hW (Or.inl (by first | rfl | simp [Cond.onTables, Cond.keeps, Cond.steady])) hini)
theorem vx_runV (S : CallFix p m c cc nL s args Ts own) (hM : vx_Met l y ws rm Pc Qc XC mc ms free) (cw : CallW R s args own C index y bytes maxL ret ws rm mc ms n) (hp : PreV s H C b Pc As)
    (hg : g.method = m) (hn : As.length = n) (hsize : g.locals.size = nL) (hstack : g.stack = As.reverse ++ .ref b :: rest) (hW : 2 * g.monitorRoom + (rest.map fun v => v.category).sum ≤ 8) (hdg : decode cc g.pc = .ok (.invokevirtual index, 3)) (hf : cells + mc ≤ R.cells ∧ slots + ms ≤ R.slots) :
    vx_Run p l e R s m args below meth c H locs cells slots mc ms g rest (Qc (Value.ref b :: As).toArray) XC free := by
  have hK : vx_Back l R p e below s args y 3 8 (PreOf R mc ms Pc) (PostOf Qc mc ms free) (vx_Post XC mc ms free) := vx_callBack cw.1 hM hp.1
  obtain ⟨⟨-, -, -, -, -, -, hcode, -, hy, hlen, hl⟩, hin, hse⟩ := cw
  obtain ⟨hx, hb, hml, ho, -⟩ := S
  obtain ⟨-, ⟨cellB, hcB, hoB, hclB⟩, hPc⟩ := hp
  intro T hT X
  rcases vx_callV X hx (C := C) (bytes := bytes) (maxL := maxL) (ret := ret) ho hl hin hse hcode hy hK (by rw [hT]; exact hcB) hoB hclB hg (hsize.trans hml.symm) (argsL := As) (rest := rest) (fun sig h => hn.trans (hlen sig h)) hstack hW (by rw [hb]; exact hdg)
    (fun vm₁ hW₁ => ⟨hf.1, hf.2, hPc (T.setVm vm₁) hT hW₁⟩) with ⟨v, vm₁, ⟨U', l2, c2, s2⟩, hW₁, X', ⟨g', mk, t, L, e1, e2, hq, h1, hL, h2, h3⟩, st⟩ | ⟨q, vm₁, ⟨U', l2, c2, s2⟩, hW₁, X', ⟨g', mk, t, L, E, ce, e1, e2, hq, hce, hcv, hcl, h1, hL, h2, h3⟩, st⟩
  · dsimp only [Pt.U, Pt.locs, Pt.cells, Pt.slots] at X' e1 e2 h1 h2 h3 st
    subst h1; subst h2; subst h3
    exact Or.inl ⟨v, (T.setVm vm₁).calling g' mk (Value.ref b :: As).toArray, t, U', L, hT, X', hL, e1, e2, hq, st⟩
  · dsimp only [Pt.U, Pt.locs, Pt.cells, Pt.slots] at X' e1 e2 h1 h2 h3 st hcl
    subst h1; subst h2; subst h3
    exact Or.inr ⟨q, (T.setVm vm₁).calling g' mk (Value.ref b :: As).toArray, t, U', L, E, ce, hT, X', hL, e1, e2, hq, hce, hcv, vx_cls hW₁ hcl, st⟩
theorem vx_runS (S : CallFix p m c cc nL s args Ts own) (hM : vx_Met l y ws rm Pc Qc XC mc ms free) (cw : CallB R s args own index y bytes maxL ret ws rm mc ms n ∧ (Cond.static y).before args s = true) (hp : PreS s H Pc As)
    (hg : g.method = m) (hn : As.length = n) (hsize : g.locals.size = nL) (hstack : g.stack = As.reverse ++ rest) (hW : 2 * g.monitorRoom + (rest.map fun v => v.category).sum ≤ 8) (hdg : decode cc g.pc = .ok (.invokestatic index, 3)) (hf : cells + mc ≤ R.cells ∧ slots + ms ≤ R.slots) :
    vx_Run p l e R s m args below meth c H locs cells slots mc ms g rest (Qc As.toArray) XC free := by
  have hK : vx_Back l R p e below s args y 3 8 (PreOf R mc ms Pc) (PostOf Qc mc ms free) (vx_Post XC mc ms free) := vx_callBack cw.1 hM hp.1
  obtain ⟨⟨-, -, -, -, -, -, hcode, hini, hy, hlen, hl⟩, hstt⟩ := cw
  obtain ⟨hx, hb, hml, ho, -⟩ := S
  intro T hT X
  rcases vx_callS X hx (bytes := bytes) (maxL := maxL) (ret := ret) ho hl hstt hini hcode hy hK hg (hsize.trans hml.symm) (argsL := As) (rest := rest) (fun sig h => hn.trans (hlen sig h)) hstack hW (by rw [hb]; exact hdg)
    (fun vm₁ hW₁ => ⟨hf.1, hf.2, hp.2 (T.setVm vm₁) hT hW₁⟩) with ⟨v, vm₁, ⟨U', l2, c2, s2⟩, hW₁, X', ⟨g', mk, t, L, e1, e2, hq, h1, hL, h2, h3⟩, st⟩ | ⟨q, vm₁, ⟨U', l2, c2, s2⟩, hW₁, X', ⟨g', mk, t, L, E, ce, e1, e2, hq, hce, hcv, hcl, h1, hL, h2, h3⟩, st⟩
  · dsimp only [Pt.U, Pt.locs, Pt.cells, Pt.slots] at X' e1 e2 h1 h2 h3 st
    subst h1; subst h2; subst h3
    exact Or.inl ⟨v, (T.setVm vm₁).calling g' mk As.toArray, t, U', L, hT, X', hL, e1, e2, hq, st⟩
  · dsimp only [Pt.U, Pt.locs, Pt.cells, Pt.slots] at X' e1 e2 h1 h2 h3 st hcl
    subst h1; subst h2; subst h3
    exact Or.inr ⟨q, (T.setVm vm₁).calling g' mk As.toArray, t, U', L, E, ce, hT, X', hL, e1, e2, hq, hce, hcv, vx_cls hW₁ hcl, st⟩
end Runs
section Rows
variable {p : Program} {l : Launch} {e : Env} {R : Room} {s : State} {m : MethodId} {args : Array Value} {below : List Frame} {meth : Method} {c : Code} {H : Heap} {locs : List Loc} {cells slots : Nat} {Q : State → Prop}
variable {mc ms : Nat} {free : Addr → Prop} {A0 A1 : Nat → Prop} {H0 : Heap} {a : Array Value} {pc : Nat} {ls : Array Slot} {st0 rest : List Value}
theorem vx_keep {st₀ t T' : State} {L : List Loc} (h0 : st₀.heap = H) (e1 : T'.heap = t.heap) (hS : va_S A0 H0 H locs) (hA : ∀ q, q < H.size → A1 q → A0 q) (hf : ∀ q, free q → A0 q) (hL : ∀ q ∈ L, free q.base) (hF : va_F A1 st₀ t) :
    H.size ≤ T'.heap.size ∧ (∀ q : Nat, q < H.size → ¬ A1 q → T'.heap[q]? = H[q]?) ∧ va_S A0 H0 T'.heap (locs ++ L) := by
  obtain ⟨hz, hk⟩ := hF
  rw [h0] at hz hk
  exact ⟨by rw [e1]; exact hz, fun q h1 h2 => by rw [e1]; exact hk q h1 h2,
    ⟨Nat.le_trans hS.1 (by rw [e1]; exact hz), fun q h1 h2 => by rw [e1, hk q (Nat.lt_of_lt_of_le h1 hS.1) (fun z => h2 (hA q (Nat.lt_of_lt_of_le h1 hS.1) z))]; exact hS.2.1 q h1 h2, fun q hq => by
      rcases List.mem_append.mp hq with h | h
      · exact hS.2.2 q h
      · exact hf _ (hL q h)⟩⟩
theorem vx_calli {S SX : Type} {post : Int32 → S → Prop} {px : SX → Prop} {B : S → State → Prop} {BX : String → SX → State → Prop} {AX : Nat → Prop} (hr : vx_Run p l e R s m args below meth c H locs cells slots mc ms (F0 m pc ls st0) rest (va_Qi post B A1 a) (vx_X px BX AX) free) (hS : va_S A0 H0 H locs) (hA : ∀ q, q < H.size → A1 q → A0 q) (hf : ∀ q, free q → A0 q) (hAX : ∀ q, q < H.size → AX q → A0 q)
    (kx : ∀ (E : String) (ce : Cell) (q9 : Addr) (u : SX) (t : State) (H1 : Heap) (locs1 : List Loc), t.heap = H1 → s.vm.Alike t.vm → px u → BX E u t → H.size ≤ H1.size → (∀ q : Nat, q < H.size → ¬ AX q → H1[q]? = H[q]?) → va_S A0 H0 H1 locs1 → H1[q9]? = some ce → ce.vm = .none → s.vm.findClass E = some ce.cls → vx_W p l e R s m args below meth c H1 locs1 (cells + mc) (slots + ms) Q (F0 m pc ls rest) q9)
    (kk : ∀ (r : Int32) (u : S) (t : State) (H1 : Heap) (locs1 : List Loc), t.heap = H1 → s.vm.Alike t.vm → post r u → B u t → H.size ≤ H1.size → (∀ q : Nat, q < H.size → ¬ A1 q → H1[q]? = H[q]?) → va_S A0 H0 H1 locs1 → W p l e R s m args below meth c H1 locs1 (cells + mc) (slots + ms) Q (F0 m (pc + 3) ls (.int r :: rest))) : W p l e R s m args below meth c H locs cells slots Q (F0 m pc ls st0) := by
  intro T hT X
  rcases hr T hT X with ⟨v, st₀, t, T', L, h0, X', hL, e1, e2, ⟨⟨r, u, hv, hp, hb⟩, hF⟩, st⟩ | ⟨q, st₀, t, T', L, E, ce, h0, X', hL, e1, e2, ⟨u, hp, hb, hF⟩, hce, hcv, hcl, st⟩
  · cases hv
    obtain ⟨k1, k2, k3⟩ := vx_keep h0 e1 hS hA hf hL hF
    obtain ⟨t2, a1, b1⟩ := kk r u t T'.heap (locs ++ L) e1.symm (by rw [← e2]; exact X'.warmed.alike) hp hb k1 k2 k3 T' rfl X'
    exact ⟨t2, st t2 a1, b1⟩
  · obtain ⟨k1, k2, k3⟩ := vx_keep h0 e1 hS hAX hf hL hF
    obtain ⟨t2, a1, b1⟩ := kx E ce q u t T'.heap (locs ++ L) e1.symm (by rw [← e2]; exact X'.warmed.alike) hp hb k1 k2 k3 (by rw [e1]; exact hce) hcv hcl T' rfl X'
    exact ⟨t2, st.trans a1, b1⟩
theorem vx_calll {S SX : Type} {post : Int64 → S → Prop} {px : SX → Prop} {B : S → State → Prop} {BX : String → SX → State → Prop} {AX : Nat → Prop} (hr : vx_Run p l e R s m args below meth c H locs cells slots mc ms (F0 m pc ls st0) rest (va_Ql post B A1 a) (vx_X px BX AX) free) (hS : va_S A0 H0 H locs) (hA : ∀ q, q < H.size → A1 q → A0 q) (hf : ∀ q, free q → A0 q) (hAX : ∀ q, q < H.size → AX q → A0 q)
    (kx : ∀ (E : String) (ce : Cell) (q9 : Addr) (u : SX) (t : State) (H1 : Heap) (locs1 : List Loc), t.heap = H1 → s.vm.Alike t.vm → px u → BX E u t → H.size ≤ H1.size → (∀ q : Nat, q < H.size → ¬ AX q → H1[q]? = H[q]?) → va_S A0 H0 H1 locs1 → H1[q9]? = some ce → ce.vm = .none → s.vm.findClass E = some ce.cls → vx_W p l e R s m args below meth c H1 locs1 (cells + mc) (slots + ms) Q (F0 m pc ls rest) q9)
    (kk : ∀ (r : Int64) (u : S) (t : State) (H1 : Heap) (locs1 : List Loc), t.heap = H1 → s.vm.Alike t.vm → post r u → B u t → H.size ≤ H1.size → (∀ q : Nat, q < H.size → ¬ A1 q → H1[q]? = H[q]?) → va_S A0 H0 H1 locs1 → W p l e R s m args below meth c H1 locs1 (cells + mc) (slots + ms) Q (F0 m (pc + 3) ls (.long r :: rest))) : W p l e R s m args below meth c H locs cells slots Q (F0 m pc ls st0) := by
  intro T hT X
  rcases hr T hT X with ⟨v, st₀, t, T', L, h0, X', hL, e1, e2, ⟨⟨r, u, hv, hp, hb⟩, hF⟩, st⟩ | ⟨q, st₀, t, T', L, E, ce, h0, X', hL, e1, e2, ⟨u, hp, hb, hF⟩, hce, hcv, hcl, st⟩
  · cases hv
    obtain ⟨k1, k2, k3⟩ := vx_keep h0 e1 hS hA hf hL hF
    obtain ⟨t2, a1, b1⟩ := kk r u t T'.heap (locs ++ L) e1.symm (by rw [← e2]; exact X'.warmed.alike) hp hb k1 k2 k3 T' rfl X'
    exact ⟨t2, st t2 a1, b1⟩
  · obtain ⟨k1, k2, k3⟩ := vx_keep h0 e1 hS hAX hf hL hF
    obtain ⟨t2, a1, b1⟩ := kx E ce q u t T'.heap (locs ++ L) e1.symm (by rw [← e2]; exact X'.warmed.alike) hp hb k1 k2 k3 (by rw [e1]; exact hce) hcv hcl T' rfl X'
    exact ⟨t2, st.trans a1, b1⟩
theorem vx_callf {S SX : Type} {post : UInt32 → S → Prop} {px : SX → Prop} {B : S → State → Prop} {BX : String → SX → State → Prop} {AX : Nat → Prop} (hr : vx_Run p l e R s m args below meth c H locs cells slots mc ms (F0 m pc ls st0) rest (va_Qf post B A1 a) (vx_X px BX AX) free) (hS : va_S A0 H0 H locs) (hA : ∀ q, q < H.size → A1 q → A0 q) (hf : ∀ q, free q → A0 q) (hAX : ∀ q, q < H.size → AX q → A0 q)
    (kx : ∀ (E : String) (ce : Cell) (q9 : Addr) (u : SX) (t : State) (H1 : Heap) (locs1 : List Loc), t.heap = H1 → s.vm.Alike t.vm → px u → BX E u t → H.size ≤ H1.size → (∀ q : Nat, q < H.size → ¬ AX q → H1[q]? = H[q]?) → va_S A0 H0 H1 locs1 → H1[q9]? = some ce → ce.vm = .none → s.vm.findClass E = some ce.cls → vx_W p l e R s m args below meth c H1 locs1 (cells + mc) (slots + ms) Q (F0 m pc ls rest) q9)
    (kk : ∀ (r : UInt32) (u : S) (t : State) (H1 : Heap) (locs1 : List Loc), t.heap = H1 → s.vm.Alike t.vm → post r u → B u t → H.size ≤ H1.size → (∀ q : Nat, q < H.size → ¬ A1 q → H1[q]? = H[q]?) → va_S A0 H0 H1 locs1 → W p l e R s m args below meth c H1 locs1 (cells + mc) (slots + ms) Q (F0 m (pc + 3) ls (.float r :: rest))) : W p l e R s m args below meth c H locs cells slots Q (F0 m pc ls st0) := by
  intro T hT X
  rcases hr T hT X with ⟨v, st₀, t, T', L, h0, X', hL, e1, e2, ⟨⟨r, u, hv, hp, hb⟩, hF⟩, st⟩ | ⟨q, st₀, t, T', L, E, ce, h0, X', hL, e1, e2, ⟨u, hp, hb, hF⟩, hce, hcv, hcl, st⟩
  · cases hv
    obtain ⟨k1, k2, k3⟩ := vx_keep h0 e1 hS hA hf hL hF
    obtain ⟨t2, a1, b1⟩ := kk r u t T'.heap (locs ++ L) e1.symm (by rw [← e2]; exact X'.warmed.alike) hp hb k1 k2 k3 T' rfl X'
    exact ⟨t2, st t2 a1, b1⟩
  · obtain ⟨k1, k2, k3⟩ := vx_keep h0 e1 hS hAX hf hL hF
    obtain ⟨t2, a1, b1⟩ := kx E ce q u t T'.heap (locs ++ L) e1.symm (by rw [← e2]; exact X'.warmed.alike) hp hb k1 k2 k3 (by rw [e1]; exact hce) hcv hcl T' rfl X'
    exact ⟨t2, st.trans a1, b1⟩
theorem vx_calld {S SX : Type} {post : UInt64 → S → Prop} {px : SX → Prop} {B : S → State → Prop} {BX : String → SX → State → Prop} {AX : Nat → Prop} (hr : vx_Run p l e R s m args below meth c H locs cells slots mc ms (F0 m pc ls st0) rest (va_Qd post B A1 a) (vx_X px BX AX) free) (hS : va_S A0 H0 H locs) (hA : ∀ q, q < H.size → A1 q → A0 q) (hf : ∀ q, free q → A0 q) (hAX : ∀ q, q < H.size → AX q → A0 q)
    (kx : ∀ (E : String) (ce : Cell) (q9 : Addr) (u : SX) (t : State) (H1 : Heap) (locs1 : List Loc), t.heap = H1 → s.vm.Alike t.vm → px u → BX E u t → H.size ≤ H1.size → (∀ q : Nat, q < H.size → ¬ AX q → H1[q]? = H[q]?) → va_S A0 H0 H1 locs1 → H1[q9]? = some ce → ce.vm = .none → s.vm.findClass E = some ce.cls → vx_W p l e R s m args below meth c H1 locs1 (cells + mc) (slots + ms) Q (F0 m pc ls rest) q9)
    (kk : ∀ (r : UInt64) (u : S) (t : State) (H1 : Heap) (locs1 : List Loc), t.heap = H1 → s.vm.Alike t.vm → post r u → B u t → H.size ≤ H1.size → (∀ q : Nat, q < H.size → ¬ A1 q → H1[q]? = H[q]?) → va_S A0 H0 H1 locs1 → W p l e R s m args below meth c H1 locs1 (cells + mc) (slots + ms) Q (F0 m (pc + 3) ls (.double r :: rest))) : W p l e R s m args below meth c H locs cells slots Q (F0 m pc ls st0) := by
  intro T hT X
  rcases hr T hT X with ⟨v, st₀, t, T', L, h0, X', hL, e1, e2, ⟨⟨r, u, hv, hp, hb⟩, hF⟩, st⟩ | ⟨q, st₀, t, T', L, E, ce, h0, X', hL, e1, e2, ⟨u, hp, hb, hF⟩, hce, hcv, hcl, st⟩
  · cases hv
    obtain ⟨k1, k2, k3⟩ := vx_keep h0 e1 hS hA hf hL hF
    obtain ⟨t2, a1, b1⟩ := kk r u t T'.heap (locs ++ L) e1.symm (by rw [← e2]; exact X'.warmed.alike) hp hb k1 k2 k3 T' rfl X'
    exact ⟨t2, st t2 a1, b1⟩
  · obtain ⟨k1, k2, k3⟩ := vx_keep h0 e1 hS hAX hf hL hF
    obtain ⟨t2, a1, b1⟩ := kx E ce q u t T'.heap (locs ++ L) e1.symm (by rw [← e2]; exact X'.warmed.alike) hp hb k1 k2 k3 (by rw [e1]; exact hce) hcv hcl T' rfl X'
    exact ⟨t2, st.trans a1, b1⟩
theorem vx_callv {S SX : Type} {post : S → Prop} {px : SX → Prop} {B : S → State → Prop} {BX : String → SX → State → Prop} {AX : Nat → Prop} (hr : vx_Run p l e R s m args below meth c H locs cells slots mc ms (F0 m pc ls st0) rest (va_Qv post B A1 a) (vx_X px BX AX) free) (hS : va_S A0 H0 H locs) (hA : ∀ q, q < H.size → A1 q → A0 q) (hf : ∀ q, free q → A0 q) (hAX : ∀ q, q < H.size → AX q → A0 q)
    (kx : ∀ (E : String) (ce : Cell) (q9 : Addr) (u : SX) (t : State) (H1 : Heap) (locs1 : List Loc), t.heap = H1 → s.vm.Alike t.vm → px u → BX E u t → H.size ≤ H1.size → (∀ q : Nat, q < H.size → ¬ AX q → H1[q]? = H[q]?) → va_S A0 H0 H1 locs1 → H1[q9]? = some ce → ce.vm = .none → s.vm.findClass E = some ce.cls → vx_W p l e R s m args below meth c H1 locs1 (cells + mc) (slots + ms) Q (F0 m pc ls rest) q9)
    (kk : ∀ (u : S) (t : State) (H1 : Heap) (locs1 : List Loc), t.heap = H1 → s.vm.Alike t.vm → post u → B u t → H.size ≤ H1.size → (∀ q : Nat, q < H.size → ¬ A1 q → H1[q]? = H[q]?) → va_S A0 H0 H1 locs1 → W p l e R s m args below meth c H1 locs1 (cells + mc) (slots + ms) Q (F0 m (pc + 3) ls (rest))) : W p l e R s m args below meth c H locs cells slots Q (F0 m pc ls st0) := by
  intro T hT X
  rcases hr T hT X with ⟨v, st₀, t, T', L, h0, X', hL, e1, e2, ⟨⟨u, hv, hp, hb⟩, hF⟩, st⟩ | ⟨q, st₀, t, T', L, E, ce, h0, X', hL, e1, e2, ⟨u, hp, hb, hF⟩, hce, hcv, hcl, st⟩
  · cases hv
    obtain ⟨k1, k2, k3⟩ := vx_keep h0 e1 hS hA hf hL hF
    obtain ⟨t2, a1, b1⟩ := kk u t T'.heap (locs ++ L) e1.symm (by rw [← e2]; exact X'.warmed.alike) hp hb k1 k2 k3 T' rfl X'
    exact ⟨t2, st t2 a1, b1⟩
  · obtain ⟨k1, k2, k3⟩ := vx_keep h0 e1 hS hAX hf hL hF
    obtain ⟨t2, a1, b1⟩ := kx E ce q u t T'.heap (locs ++ L) e1.symm (by rw [← e2]; exact X'.warmed.alike) hp hb k1 k2 k3 (by rw [e1]; exact hce) hcv hcl T' rfl X'
    exact ⟨t2, st.trans a1, b1⟩
/-- caught by the row x of this method's table; the rows ahead don't take it -/
theorem vx_catch {own name : String} {E : String} {ce : Cell} {q : Addr} (hown : s.vm.findClass own = some m.cls) (pre : List ExceptionTableEntry) (x : ExceptionTableEntry) (suf : List ExceptionTableEntry) (hsplit : c.exceptionTable.toList = pre ++ x :: suf)
    (hpass : ∀ z ∈ pre, covers z pc = false ∨ (z.catchType ≠ 0 ∧ ∃ nm : String, (Cond.classLink own z.catchType nm).before args s = true ∧ va_Nc E nm s)) (hx : covers x pc = true) (h0 : x.catchType ≠ 0)
    (hlink : (Cond.classLink own x.catchType name).before args s = true) (hcast : (Cond.castable E name).before args s = true) (hcell : H[q]? = some ce) (hv : ce.vm = .none) (hcl : s.vm.findClass E = some ce.cls)
    (kk : W p l e R s m args below meth c H locs cells slots Q (F0 m x.handlerPc ls [.ref q])) : vx_W p l e R s m args below meth c H locs cells slots Q (F0 m pc ls rest) q := by
  intro T hT X
  have hpl : e.platform.magicAccessors = ({} : Platform).magicAccessors := by rw [X.admits.platform]
  obtain ⟨c3, c4, hc3, hc4, hasg⟩ := Cond.castable_spec hcast
  cases Option.some.inj (hc3.symm.trans hcl)
  obtain ⟨c5, hc5, hcl5⟩ := Cond.classLink_spec hown hlink e.platform hpl
  cases Option.some.inj (hc4.symm.trans hc5)
  obtain ⟨vm', X', st⟩ := X.thenCaughtThrough q (g := F0 m pc ls rest) rfl (Steps.refl _) (by rw [hT]; exact hcell) (by rw [hv]; rfl) (by obtain ⟨k9, h9, -⟩ := Vm.findClass_spec hcl; exact ⟨k9, h9⟩) pre x suf hsplit
    (fun z hz => by
      rcases hpass z hz with h | ⟨hz0, nm, hl1, hn1⟩
      · exact Or.inl h
      · obtain ⟨c6, hc6, hcl6⟩ := Cond.classLink_spec hown hl1 e.platform hpl
        obtain ⟨a8, b8, h1, h2, h3⟩ := hn1
        cases Option.some.inj (h1.symm.trans hcl)
        cases Option.some.inj (h2.symm.trans hc6)
        exact Or.inr ⟨hz0, _, hcl6, h3⟩) hx (Or.inr ⟨h0, c4, hcl5, hasg⟩)
  obtain ⟨t, a1, b1⟩ := kk (T.setVm vm') hT X'
  exact ⟨t, st.trans a1, b1⟩
end Rows
section Ends
variable {p : Program} {l : Launch} {e : Env} {R : Room} {s : State} {m : MethodId} {args : Array Value} {below : List Frame} {meth : Method} {c : Code} {H : Heap} {locs : List Loc} {cells slots : Nat} {Q : State → Prop}
variable {mc ms : Nat} {free : Addr → Prop} {A0 A1 : Nat → Prop} {H0 : Heap} {a : Array Value} {ls : Array Slot} {st0 rest : List Value}
variable {Qc : Array Value → State → Outcome → State → Prop} {XC : String → State → State → Prop}
/-- what a body that may throw owes at its end -/
def vx_MQ (below : List Frame) (Qc : Array Value → State → Outcome → State → Prop) (XC : String → State → State → Prop) (a : Array Value) (s : State) (mc ms : Nat) (free : Addr → Prop) : State → Prop := fun t =>
  ∃ o, t.status = .running ∧ Ended t below o ∧ vx_Q Qc XC mc ms free a s o t
theorem vx_ret {g : JFrame} {mc ms : Nat} (k : W p l e R s m args below meth c H locs cells slots (MQ below Qc args s mc ms free) g) : W p l e R s m args below meth c H locs cells slots (vx_MQ below Qc XC args s mc ms free) g := by
  intro T hT X
  obtain ⟨t, a1, o, b1, b2, b3, b4⟩ := k T hT X
  exact ⟨t, a1, o, b1, b2, Or.inl ⟨b3, b4⟩⟩
/-- not caught here: it goes on to the caller -/
theorem vx_widen {g : JFrame} {q : Addr} {k n : Nat} (h1 : cells ≤ k) (h2 : slots ≤ n) (kk : vx_W p l e R s m args below meth c H locs k n Q g q) : vx_W p l e R s m args below meth c H locs cells slots Q g q := fun T hT X => kk T hT (stand_widen X h1 h2)
theorem vx_out {pc : Nat} {E : String} {ce : Cell} {q : Addr} {mc ms : Nat} (hout : ∀ x ∈ c.exceptionTable.toList, covers x pc = false) (hlocks : meth.locks = false) (hcell : H[q]? = some ce) (hv : ce.vm = .none) (hcl : s.vm.findClass E = some ce.cls)
    (hx : ∀ t : State, t.heap = H → s.vm.Alike t.vm → XC E s t) (hf : ∀ z ∈ locs, free z.base) (hc : cells ≤ mc) (hs : slots ≤ ms) :
    vx_W p l e R s m args below meth c H locs cells slots (vx_MQ below Qc XC args s mc ms free) (F0 m pc ls rest) q := by
  intro T hT X
  obtain ⟨st1, hrun, hend, hW, hsm⟩ := X.leaveThrown q (g := F0 m pc ls rest) rfl rfl rfl hout hlocks
  have hcell9 : (T.setFrames (.throwing q :: below)).heap[q]? = some ce := by
    show T.heap[q]? = some ce
    rw [hT]; exact hcell
  exact ⟨_, st1, .threw q, hrun, hend, Or.inr ⟨q, rfl, E, ce, locs, hx _ hT hW.alike, hcell9, hv, hcl, hW, hsm.mono hc hs, hf⟩⟩
theorem vx_frame {U : State} {k n : Nat} (h : s.sameButNew ({ U with vm := s.vm } : State) locs k n) : s.heap.size ≤ U.heap.size ∧ ∀ q : Nat, q < s.heap.size → (∀ z ∈ locs, z.base ≠ q) → U.heap[q]? = s.heap[q]? := by
  obtain ⟨-, h2, -, -, -, h6⟩ := h
  refine ⟨h2, fun q hq hz => ?_⟩
  obtain ⟨c9, e1, e2, e3, e4⟩ := h6 q _ (Array.getElem?_eq_getElem hq)
  have hs : c9.slots = (s.heap[q]).slots := Array.ext_getElem? fun i => e4 i fun hm => hz _ hm rfl
  have h9 : c9 = s.heap[q] := by
    rw [hs] at e2
    exact e2
  have e5 : U.heap[q]? = some c9 := e1
  rw [e5, h9, Array.getElem?_eq_getElem hq]
/-- the words of a throw but the four that speak of the heap -/
def vx_no (w : Cond) : Bool := decide (w ≠ .isRef (.static Bundle.tN "UNASSIGNED_STACK" Bundle.steD)) && decide (w ≠ .isRef (.static Bundle.tN "SUPPRESSED_SENTINEL" Bundle.listD)) && decide (w ≠ .laysStatic Bundle.tN "UNASSIGNED_STACK" Bundle.steD) && decide (w ≠ .laysStatic Bundle.tN "SUPPRESSED_SENTINEL" Bundle.listD)
def vx_at0 (own : String) (ic : Nat) (X : String) (names : List String) : List Cond := (Bundle.ownAtoms0 own ic X names).filter vx_no
def vx_atS (own : String) (ic : Nat) (X : String) (names : List String) : List Cond := (Bundle.ownAtoms own ic X names).filter vx_no
/-- a word that the tables alone decide, or a good one -/
def vx_ot (w : Cond) : Bool := w.onTables || goodWord w
theorem vx_ot_at {args a' : Array Value} {s U : State} {w : Cond} (hW : s.WarmedH U.vm) (hvm : s.vm = U.vm) (hg : vx_ot w = true) (h : w.before args s = true) : w.before a' U = true := by
  simp only [vx_ot, Bool.or_eq_true] at hg
  rcases hg with hg | hg
  · exact va_tabs hg hvm h
  · exact word_at hW (good_of_word hg) h
/-- a list's words: the good ones out of the method's own list, the others by premises of their own -/
theorem vx_hat {args : Array Value} {s : State} {L B : List Cond} (h1 : ∀ w ∈ L.filter goodWord, w.before args s = true) (h2 : ∀ w ∈ L.filter (fun w => !goodWord w), w ∈ B) (h3 : ∀ w ∈ B, w.before args s = true) : ∀ w ∈ L, w.before args s = true := by
  intro w hw
  by_cases g : goodWord w = true
  · exact h1 w (List.mem_filter.mpr ⟨hw, g⟩)
  · refine h3 w (h2 w (List.mem_filter.mpr ⟨hw, ?_⟩))
    show (!goodWord w) = true
    cases hgw : goodWord w
    · rfl
    · exact absurd hgw g
theorem vx_c {args : Array Value} {s : State} {w : Cond} {B : List Cond} (h : w.before args s = true) (t : ∀ w ∈ B, w.before args s = true) : ∀ w' ∈ w :: B, w'.before args s = true := fun w' h' => (List.mem_cons.mp h').elim (fun e => by rw [e]; exact h) (t w')
theorem vx_n {args : Array Value} {s : State} : ∀ w ∈ ([] : List Cond), w.before args s = true := fun _ h => nomatch h
theorem vx_own {args : Array Value} {s : State} {L : List Cond} (h1 : ∀ w ∈ L.filter vx_no, w.before args s = true)
    (hU : (Cond.isRef (.static Bundle.tN "UNASSIGNED_STACK" Bundle.steD)).before args s = true) (hN : (Cond.isRef (.static Bundle.tN "SUPPRESSED_SENTINEL" Bundle.listD)).before args s = true)
    (lU : (Cond.laysStatic Bundle.tN "UNASSIGNED_STACK" Bundle.steD).before args s = true) (lN : (Cond.laysStatic Bundle.tN "SUPPRESSED_SENTINEL" Bundle.listD).before args s = true) : ∀ w ∈ L, w.before args s = true := by
  intro w hw
  by_cases e1 : w = .isRef (.static Bundle.tN "UNASSIGNED_STACK" Bundle.steD)
  · rw [e1]; exact hU
  · by_cases e2 : w = .isRef (.static Bundle.tN "SUPPRESSED_SENTINEL" Bundle.listD)
    · rw [e2]; exact hN
    · by_cases e3 : w = .laysStatic Bundle.tN "UNASSIGNED_STACK" Bundle.steD
      · rw [e3]; exact lU
      · by_cases e4 : w = .laysStatic Bundle.tN "SUPPRESSED_SENTINEL" Bundle.listD
        · rw [e4]; exact lN
        · exact h1 w (List.mem_filter.mpr ⟨hw, by unfold vx_no; rw [decide_eq_true e1, decide_eq_true e2, decide_eq_true e3, decide_eq_true e4]; rfl⟩)
/-- where a static field lies, its class's statics cell in H -/
def vx_L (C n d : String) (A : Nat → Prop) (U : State) (H : Heap) : Prop := ∃ (c : ClassId) (k : Class) (i : Nat) (f : Field) (a : Nat) (cell : Cell), U.vm.findClass C = some c ∧ U.fieldFound? C n d = some (c, k, i, f) ∧ f.isStatic = true ∧ k.statics = some a ∧ H[a]? = some cell ∧ cell.vm.isStatics = true ∧ cell.cls = c ∧ f.slot < cell.slots.size ∧ k.staticTypes[f.slot]? = some f.type ∧ ¬ A a
theorem vx_L.moved {C n d : String} {A : Nat → Prop} {u U : State} {H : Heap} (hvm : u.vm.Alike U.vm) (h : vx_L C n d A u H) : vx_L C n d A U H := by
  obtain ⟨c, k, i, f, a, cell, h1, h2, h3, h4, h5, h6, h7, h8, h9, h10⟩ := h
  obtain ⟨k', hi', he⟩ := State.fieldFound?_setVm hvm h2
  exact ⟨c, k', i, f, a, cell, by rw [hvm.findClass]; exact h1, hi', h3, by rw [he]; exact h4, h5, h6, h7, h8, by rw [he]; exact h9, h10⟩
theorem vx_L.kept {C n d : String} {A : Nat → Prop} {U : State} {H H1 : Heap} (h : vx_L C n d A U H) (hq : ∀ a : Nat, a < H.size → ¬ A a → H1[a]? = H[a]?) : vx_L C n d A U H1 := by
  obtain ⟨c, k, i, f, a, cell, h1, h2, h3, h4, h5, h6, h7, h8, h9, h10⟩ := h
  exact ⟨c, k, i, f, a, cell, h1, h2, h3, h4, by rw [hq a (Array.getElem?_eq_some_iff.mp h5).1 h10]; exact h5, h6, h7, h8, h9, h10⟩
theorem vx_L.narrow {C n d : String} {A B : Nat → Prop} {U : State} {H : Heap} (h : vx_L C n d A U H) (hAB : ∀ q, B q → A q) : vx_L C n d B U H := by
  obtain ⟨c, k, i, f, a, cell, h1, h2, h3, h4, h5, h6, h7, h8, h9, h10⟩ := h
  exact ⟨c, k, i, f, a, cell, h1, h2, h3, h4, h5, h6, h7, h8, h9, fun z => h10 (hAB _ z)⟩
theorem vx_L.word {C n d : String} {A : Nat → Prop} {s : State} {args : Array Value} (h : vx_L C n d A s s.heap) : (Cond.laysStatic C n d).before args s = true := by
  obtain ⟨c, k, i, f, a, cell, h1, h2, h3, h4, h5, h6, h7, h8, h9, -⟩ := h
  show (Cond.laysStatic C n d).holds args s none s [] = true
  exact Cond.laysStatic_of h1 h2 h3 h4 h5 h6 h7 h8 h9
/-- .. and what it holds: null or some reference -/
def vx_Zq (C n d : String) (A : Nat → Prop) (U : State) (H : Heap) : Prop := va_Zq C n d A U H ∧ vx_L C n d A U H
theorem vx_Zq.moved {C n d : String} {A : Nat → Prop} {u U : State} {H : Heap} (hvm : u.vm.Alike U.vm) (h : vx_Zq C n d A u H) : vx_Zq C n d A U H := ⟨va_Zq.moved hvm h.1, vx_L.moved hvm h.2⟩
theorem vx_Zq.kept {C n d : String} {A : Nat → Prop} {U : State} {H H1 : Heap} (h : vx_Zq C n d A U H) (hq : ∀ a : Nat, a < H.size → ¬ A a → H1[a]? = H[a]?) : vx_Zq C n d A U H1 := ⟨va_Zq.kept h.1 hq, vx_L.kept h.2 hq⟩
theorem vx_Zq.narrow {C n d : String} {A B : Nat → Prop} {U : State} {H : Heap} (h : vx_Zq C n d A U H) (hAB : ∀ q, B q → A q) : vx_Zq C n d B U H := ⟨va_Zq.narrow h.1 hAB, vx_L.narrow h.2 hAB⟩
theorem vx_Zqof {args : Array Value} {s : State} {C n d : String} {A : Nat → Prop} (hl : (Cond.laysStatic C n d).before args s = true) (hini : (Cond.initialized C).before args s = true) (h : (Cond.isRef (.static C n d)).before args s = true) (hA : ∀ a : Nat, a < s.heap.size → ¬ A a) : vx_Zq C n d A s s.heap := by
  refine ⟨va_Zqof hl hini h hA, ?_⟩
  obtain ⟨c, k, i, f, a, cell, h1, h2, h3, h4, h5, h6, h7, h8, h9⟩ := Cond.laysStatic_spec hl
  exact ⟨c, k, i, f, a, cell, h1, h2, h3, h4, h5, h6, h7, h8, h9, hA a (Array.getElem?_eq_some_iff.mp h5).1⟩
theorem vx_isRef {C n d : String} {v : Value} {A : Nat → Prop} {s : State} {args : Array Value} (h : va_Z C n d v A s s.heap) (hv : v.isRef = true) : (Cond.isRef (.static C n d)).before args s = true := by
  obtain ⟨cf, kf, fi, f, a, cell, h1, h2, h3, h4, h5, h6, h7, -⟩ := h
  have he : (Term.static C n d).eval args s none [] s = some v := by
    simp [Term.eval, State.fieldNamed?, h1, h2, h4, h5, h6, h7]
  simp only [Cond.before, Cond.holds, Cond.value, he]
  cases v <;> simp_all [Value.isRef]
theorem vx_isRefq {C n d : String} {A : Nat → Prop} {s : State} {args : Array Value} (h : va_Zq C n d A s s.heap) : (Cond.isRef (.static C n d)).before args s = true := by
  rcases h with h | ⟨t, h⟩
  · exact vx_isRef h rfl
  · exact vx_isRef h rfl
/-- the same frame, seen from here: as if the method were called anew in this heap -/
theorem vx_rebase {T : State} (X : Stand p l e R s m args below meth c T locs cells slots) {R' : Room} (hf : R'.frames ≤ R.frames) (hl : R'.locals ≤ R.locals) (hc : cells + R'.cells ≤ R.cells) (hs : slots + R'.slots ≤ R.slots) :
    Stand p l e R' ((T.setVm s.vm).setFrames (.invoking m args :: below)) m args below meth c T [] 0 0 := by
  have htop : (T.setVm s.vm).topJava?.isSome := X.here.top
  have hF : ((T.setVm s.vm).setFrames (.invoking m args :: below)).frames = .invoking m args :: below := State.frames_setFrames _ (State.cur_lt_of_top htop)
  obtain ⟨g₀, hg0⟩ := Option.isSome_iff_exists.mp htop
  obtain ⟨r, hr⟩ := State.topJava?_eq_some.mp hg0
  have hl9 : e.platform.stackLimits (T.setVm s.vm).me = e.platform.stackLimits s.me := X.limits
  have hb9 : (T.setVm s.vm).me.stackBytes = s.me.stackBytes := X.bytes
  refine ⟨X.admits, X.cas, X.clock, hF, ?_, X.hears, X.method, X.code, X.here, X.tail, X.warmed, ?_, ?_, ?_⟩
  · have h := X.room
    have hU : ((T.setVm s.vm).setFrames (.invoking m args :: below)).localsInUse = s.localsInUse := by
      rw [State.localsInUse_invoking hF (meth := meth) (c := c) X.method X.code, State.localsInUse_invoking X.frames X.method X.code]
    simp only [State.hasRoom, Bool.and_eq_true, decide_eq_true_eq] at h ⊢
    obtain ⟨⟨⟨⟨h1, h2, h3, h4, h5, h6⟩, h7⟩, h8⟩, h9⟩ := h
    rw [X.frames, List.length_cons] at h2 h3
    have q1 := X.heapSize
    have q2 := X.used
    simp only [hF, hU, List.length_cons, State.stackLimits_setFrames, State.stackBytes_setFrames, hl9, hb9]
    refine ⟨⟨⟨⟨by omega, by omega, by omega, by omega, by omega, h6⟩, ?_⟩, ?_⟩, X.book⟩
    · show T.heap.size + R'.cells ≤ e.platform.maxCells
      omega
    · show T.slotsUsed + R'.slots ≤ e.platform.maxSlots
      omega
  · rw [State.stackLimits_setFrames]; rfl
  · rw [State.stackBytes_setFrames]; rfl
  · refine ⟨?_, Nat.le_refl _, Nat.le_refl _, ?_, ?_, fun a c9 h9 => ⟨c9, h9, rfl, rfl, fun _ _ => rfl⟩⟩
    · obtain ⟨t, ht, -⟩ := State.frames_cons hr
      show T.setVm s.vm = { ((T.setVm s.vm).setFrames (.invoking m args :: below)).setFrames (T.setVm s.vm).frames with heap := T.heap, slotsUsed := T.slotsUsed }
      rw [State.setFrames_setFrames, State.setFrames_self ht]
      rfl
    · show T.slotsUsed = T.slotsUsed + ((T.heap.toList.drop T.heap.size).map (·.slots.size)).sum
      rw [List.drop_eq_nil_of_le (Nat.le_of_eq Array.length_toList)]
      rfl
    · show ((T.heap.toList.drop T.heap.size).map (·.slots.size)).sum ≤ 0
      rw [List.drop_eq_nil_of_le (Nat.le_of_eq Array.length_toList)]
      exact Nat.le_refl _
/-- 'throw new E()': new; dup; invokespecial; athrow -/
theorem vx_throw0 {cc : ByteArray} {pc : Nat} (hexec : p.tables.exec = Jvm.exec) (hb : c.code = cc) (hl : l.stackTraces = false) {own cls : String} {names : List String} {ik ic mc ms : Nat} {A : Nat → Prop}
    (hown : s.vm.findClass own = some m.cls) (hcls : Bundle.fit cls = true) (hnames : ∀ n ∈ names, Bundle.fit n = true)
    (hk : (Cond.classLink own ik cls).before args s = true) (hini : (Cond.initialized cls).before args s = true) (hat : ∀ w ∈ vx_at0 own ic cls names, w.before args s = true)
    (hgood : ∀ w ∈ Cond.classLink own ik cls :: Cond.initialized cls :: vx_at0 own ic cls names, vx_ot w = true)
    (hU : vx_Zq Bundle.tN "UNASSIGNED_STACK" Bundle.steD A s s.heap) (hN : vx_Zq Bundle.tN "SUPPRESSED_SENTINEL" Bundle.listD A s s.heap) (hS : va_S A s.heap H locs) (hsize : ls.size = c.maxLocals)
    (d0 : decode cc pc = .ok (.new ik, 3)) (d3 : decode cc (pc + 3) = .ok (.dup, 1)) (d4 : decode cc (pc + 4) = .ok (.invokespecial ic, 3)) (d7 : decode cc (pc + 7) = .ok (.athrow, 1))
    (hout : ∀ x ∈ c.exceptionTable.toList, covers x (pc + 7) = false)
    (hRframes : names.length + 3 < R.frames) (hRlocals : (rest.map fun v => v.category).sum + (13 * (names.length + 1) + 42) ≤ R.locals) (hRcells : cells + 1 ≤ R.cells) (hRslots : slots + 6 ≤ R.slots) (hlocks : meth.locks = false)
    (hx : ∀ t : State, s.vm.Alike t.vm → H.size ≤ t.heap.size → (∀ q : Nat, q < H.size → t.heap[q]? = H[q]?) → XC cls s t)
    (hf : ∀ z ∈ locs, free z.base) (hc : cells + 1 ≤ mc) (hs : slots + 6 ≤ ms) :
    W p l e R s m args below meth c H locs cells slots (vx_MQ below Qc XC args s mc ms free) (F0 m pc ls rest) := by
  intro T hT X
  have htr : e.platform.stackTraces = false := (show e.platform.stackTraces = l.stackTraces by rw [X.admits.platform]).trans hl
  have Y := vx_rebase X (R' := { frames := R.frames, locals := R.locals, cells := 1, slots := 6 }) (Nat.le_refl _) (Nat.le_refl _) hRcells hRslots
  obtain ⟨s', hA⟩ : ∃ z, z = (T.setVm s.vm).setFrames (.invoking m args :: below) := ⟨_, rfl⟩
  rw [← hA] at Y
  have hvm : s'.vm = s.vm := by rw [hA]; rfl
  have hhp : s'.heap = H := by rw [hA]; exact hT
  have hW0 : s.WarmedH s'.vm := by rw [hvm]; exact State.WarmedH.refl s
  have hat' : ∀ w ∈ vx_at0 own ic cls names, w.before args s' = true := fun w hw => vx_ot_at hW0 hvm.symm (hgood w (List.mem_cons_of_mem _ (List.mem_cons_of_mem _ hw))) (hat w hw)
  have hk' : (Cond.classLink own ik cls).before args s' = true := vx_ot_at hW0 hvm.symm (hgood _ List.mem_cons_self) hk
  have hini' : (Cond.initialized cls).before args s' = true := vx_ot_at hW0 hvm.symm (hgood _ (List.mem_cons_of_mem _ List.mem_cons_self)) hini
  have hU' : vx_Zq Bundle.tN "UNASSIGNED_STACK" Bundle.steD A s' s'.heap := by rw [hhp]; exact vx_Zq.moved hW0.alike (hU.kept hS.2.1)
  have hN' : vx_Zq Bundle.tN "SUPPRESSED_SENTINEL" Bundle.listD A s' s'.heap := by rw [hhp]; exact vx_Zq.moved hW0.alike (hN.kept hS.2.1)
  have h : ∀ w ∈ Bundle.ownAtoms0 own ic cls names, w.before args s' = true := vx_own hat' (vx_isRefq hU'.1) (vx_isRefq hN'.1) hU'.2.word hN'.2.word
  have hown' : s'.vm.findClass own = some m.cls := by rw [hvm]; exact hown
  have hins : (Cond.instantiable cls 6).before args s' = true := h _ (by simp [Bundle.ownAtoms0])
  obtain ⟨vm₁, cX, kX, hfX, hkX, -, -, X₁, st1⟩ := Y.newCold hexec (own := own) (C := cls) (index := ik) (n := 6) hown' hk' hins hini'
    (g := F0 m pc ls rest) rfl (by rw [hb]; exact d0) (Nat.le_refl _) (Nat.le_refl _)
  generalize hT1 : (T.setVm vm₁).pushCell { cls := cX, slots := kX.instanceTypes.map defaultValue, vm := .none } = T1 at X₁ st1
  have hcat : (Value.ref T.heap.size).category = 1 := rfl
  have hcellA : T1.heap[T.heap.size]? = some (freshCell cX kX) := by rw [← hT1]; exact State.heap_pushCell_size _ _
  have d3' : decode c.code (pc + 3) = .ok (.dup, 1) := by rw [hb]; exact d3
  obtain ⟨U, hsteps, hrun, hend, hW, hsame, ce, hce, hO⟩ := X₁.ctorThrow0 hexec htr (own := own) (cls := cls) (names := names) (ic := ic) hown' hcls hnames h (fun x hx => nomatch hx) hfX hkX hcellA (by rw [hhp, hT]; exact Nat.le_refl _)
    (g := { method := m, pc := pc + 4, locals := ls, stack := .ref T.heap.size :: .ref T.heap.size :: rest, locked := none }) rfl hsize rfl rfl (rest := rest) rfl
    (by rw [hb]; exact d4) (by rw [hb]; exact d7) hout hRframes (by simp only [List.map_cons, List.sum_cons, hcat]; omega) hlocks
  obtain ⟨f1, f2⟩ := vx_frame hsame
  rw [hhp] at f1 f2
  have hWs : s.WarmedH U.vm := State.WarmedH.trans hW0 hW
  have hcl : s.vm.findClass cls = some ce.cls := by
    have h9 := hO.cls
    rw [hvm] at h9
    exact h9
  have hall : s.sameButNew ({ U with vm := s.vm } : State) locs mc ms := by
    subst hA
    obtain ⟨e1, e2⟩ := hsame
    rw [State.setFrames_setFrames] at e1
    have h2 : (T.setVm s.vm).sameButNew ({ U with vm := s.vm } : State) [] (0 + 1) (0 + 6) := ⟨e1, e2⟩
    have h3 := X.same.trans h2
    rw [List.append_nil] at h3
    exact h3.mono hc hs
  refine ⟨U, ?_, .threw T.heap.size, hrun, hend, Or.inr ⟨T.heap.size, rfl, cls, ce, locs, hx U hWs.alike f1 (fun q hq => f2 q hq (fun z hz => nomatch hz)), hce, hO.vm, hcl, hWs, hall, hf⟩⟩
  refine st1 _ ?_
  show Steps p.tables e below (T1.setTop { method := m, pc := pc + 3, locals := ls, stack := .ref T.heap.size :: rest, locked := none }) _
  jvm_step X₁.here [X₁.here.top, hexec, d3', Value.category]
  exact hsteps
/-- 'throw new E("text")': new; dup; ldc; invokespecial; athrow -/
theorem vx_throwS {cc : ByteArray} {pc : Nat} (hexec : p.tables.exec = Jvm.exec) (hb : c.code = cc) (hl : l.stackTraces = false) {own cls text : String} {names : List String} {ik is ic mc ms sa : Nat} {A : Nat → Prop}
    (hown : s.vm.findClass own = some m.cls) (hcls : Bundle.fit cls = true) (hnames : ∀ n ∈ names, Bundle.fit n = true)
    (hk : (Cond.classLink own ik cls).before args s = true) (hini : (Cond.initialized cls).before args s = true) (hstr : vk_R own is text sa s) (hat : ∀ w ∈ vx_atS own ic cls names, w.before args s = true)
    (hgood : ∀ w ∈ Cond.classLink own ik cls :: Cond.initialized cls :: vx_atS own ic cls names, vx_ot w = true)
    (hU : vx_Zq Bundle.tN "UNASSIGNED_STACK" Bundle.steD A s s.heap) (hN : vx_Zq Bundle.tN "SUPPRESSED_SENTINEL" Bundle.listD A s s.heap) (hS : va_S A s.heap H locs) (hsize : ls.size = c.maxLocals)
    (d0 : decode cc pc = .ok (.new ik, 3)) (d3 : decode cc (pc + 3) = .ok (.dup, 1)) (d4 : decode cc (pc + 4) = .ok (.ldc is, 2)) (d6 : decode cc (pc + 6) = .ok (.invokespecial ic, 3)) (d9 : decode cc (pc + 9) = .ok (.athrow, 1))
    (hout : ∀ x ∈ c.exceptionTable.toList, covers x (pc + 9) = false)
    (hRframes : names.length + 3 < R.frames) (hRlocals : (rest.map fun v => v.category).sum + (13 * (names.length + 1) + 43) ≤ R.locals) (hRcells : cells + 1 ≤ R.cells) (hRslots : slots + 6 ≤ R.slots) (hlocks : meth.locks = false)
    (hx : ∀ t : State, s.vm.Alike t.vm → H.size ≤ t.heap.size → (∀ q : Nat, q < H.size → t.heap[q]? = H[q]?) → XC cls s t)
    (hf : ∀ z ∈ locs, free z.base) (hc : cells + 1 ≤ mc) (hs : slots + 6 ≤ ms) :
    W p l e R s m args below meth c H locs cells slots (vx_MQ below Qc XC args s mc ms free) (F0 m pc ls rest) := by
  intro T hT X
  have htr : e.platform.stackTraces = false := (show e.platform.stackTraces = l.stackTraces by rw [X.admits.platform]).trans hl
  have Y := vx_rebase X (R' := { frames := R.frames, locals := R.locals, cells := 1, slots := 6 }) (Nat.le_refl _) (Nat.le_refl _) hRcells hRslots
  obtain ⟨s', hA⟩ : ∃ z, z = (T.setVm s.vm).setFrames (.invoking m args :: below) := ⟨_, rfl⟩
  rw [← hA] at Y
  have hvm : s'.vm = s.vm := by rw [hA]; rfl
  have hhp : s'.heap = H := by rw [hA]; exact hT
  have hW0 : s.WarmedH s'.vm := by rw [hvm]; exact State.WarmedH.refl s
  have hat' : ∀ w ∈ vx_atS own ic cls names, w.before args s' = true := fun w hw => vx_ot_at hW0 hvm.symm (hgood w (List.mem_cons_of_mem _ (List.mem_cons_of_mem _ hw))) (hat w hw)
  have hk' : (Cond.classLink own ik cls).before args s' = true := vx_ot_at hW0 hvm.symm (hgood _ List.mem_cons_self) hk
  have hini' : (Cond.initialized cls).before args s' = true := vx_ot_at hW0 hvm.symm (hgood _ (List.mem_cons_of_mem _ List.mem_cons_self)) hini
  have hU' : vx_Zq Bundle.tN "UNASSIGNED_STACK" Bundle.steD A s' s'.heap := by rw [hhp]; exact vx_Zq.moved hW0.alike (hU.kept hS.2.1)
  have hN' : vx_Zq Bundle.tN "SUPPRESSED_SENTINEL" Bundle.listD A s' s'.heap := by rw [hhp]; exact vx_Zq.moved hW0.alike (hN.kept hS.2.1)
  have h : ∀ w ∈ Bundle.ownAtoms own ic cls names, w.before args s' = true := vx_own hat' (vx_isRefq hU'.1) (vx_isRefq hN'.1) hU'.2.word hN'.2.word
  have hown' : s'.vm.findClass own = some m.cls := by rw [hvm]; exact hown
  have hins : (Cond.instantiable cls 6).before args s' = true := h _ (by simp [Bundle.ownAtoms])
  obtain ⟨vm₁, cX, kX, hfX, hkX, -, -, X₁, st1⟩ := Y.newCold hexec (own := own) (C := cls) (index := ik) (n := 6) hown' hk' hins hini'
    (g := F0 m pc ls rest) rfl (by rw [hb]; exact d0) (Nat.le_refl _) (Nat.le_refl _)
  generalize hT1 : (T.setVm vm₁).pushCell { cls := cX, slots := kX.instanceTypes.map defaultValue, vm := .none } = T1 at X₁ st1
  have hcat : (Value.ref T.heap.size).category = 1 := rfl
  have hcellA : T1.heap[T.heap.size]? = some (freshCell cX kX) := by rw [← hT1]; exact State.heap_pushCell_size _ _
  have d3' : decode c.code (pc + 3) = .ok (.dup, 1) := by rw [hb]; exact d3
  have d4' : decode c.code (pc + 4) = .ok (.ldc is, 2) := by rw [hb]; exact d4
  have hstr' : vk_R own is text sa s' := vk_R.warm hW0 hstr
  obtain ⟨U, hsteps, hrun, hend, hW, hsame, ce, hce, hO⟩ := X₁.ctorThrowS hexec htr (own := own) (cls := cls) (names := names) (ic := ic) hown' hcls hnames h (fun x hx => nomatch hx) hfX hkX hcellA (by rw [hhp, hT]; exact Nat.le_refl _) (msg := .ref sa) rfl
    (g := { method := m, pc := pc + 6, locals := ls, stack := .ref sa :: .ref T.heap.size :: .ref T.heap.size :: rest, locked := none }) rfl hsize rfl rfl (rest := rest) rfl
    (by rw [hb]; exact d6) (by rw [hb]; exact d9) hout hRframes (by simp only [List.map_cons, List.sum_cons, hcat]; omega) hlocks
  obtain ⟨f1, f2⟩ := vx_frame hsame
  rw [hhp] at f1 f2
  have hWs : s.WarmedH U.vm := State.WarmedH.trans hW0 hW
  have hcl : s.vm.findClass cls = some ce.cls := by
    have h9 := hO.cls
    rw [hvm] at h9
    exact h9
  have hall : s.sameButNew ({ U with vm := s.vm } : State) locs mc ms := by
    subst hA
    obtain ⟨e1, e2⟩ := hsame
    rw [State.setFrames_setFrames] at e1
    have h2 : (T.setVm s.vm).sameButNew ({ U with vm := s.vm } : State) [] (0 + 1) (0 + 6) := ⟨e1, e2⟩
    have h3 := X.same.trans h2
    rw [List.append_nil] at h3
    exact h3.mono hc hs
  refine ⟨U, ?_, .threw T.heap.size, hrun, hend, Or.inr ⟨T.heap.size, rfl, cls, ce, locs, hx U hWs.alike f1 (fun q hq => f2 q hq (fun z hz => nomatch hz)), hce, hO.vm, hcl, hWs, hall, hf⟩⟩
  refine st1 _ ?_
  show Steps p.tables e below (T1.setTop { method := m, pc := pc + 3, locals := ls, stack := .ref T.heap.size :: rest, locked := none }) _
  jvm_step X₁.here [X₁.here.top, hexec, d3', Value.category]
  exact X₁.ldcString hexec (own := own) (text := text) (index := is) (a := sa) hown' hstr'.1 hstr'.2
    (g := { method := m, pc := pc + 4, locals := ls, stack := .ref T.heap.size :: .ref T.heap.size :: rest, locked := none }) rfl d4' _ hsteps
/-- 'throw new E("text")', the text by a wide index -/
theorem vx_throwSW {cc : ByteArray} {pc : Nat} (hexec : p.tables.exec = Jvm.exec) (hb : c.code = cc) (hl : l.stackTraces = false) {own cls text : String} {names : List String} {ik is ic mc ms sa : Nat} {A : Nat → Prop}
    (hown : s.vm.findClass own = some m.cls) (hcls : Bundle.fit cls = true) (hnames : ∀ n ∈ names, Bundle.fit n = true)
    (hk : (Cond.classLink own ik cls).before args s = true) (hini : (Cond.initialized cls).before args s = true) (hstr : vk_R own is text sa s) (hat : ∀ w ∈ vx_atS own ic cls names, w.before args s = true)
    (hgood : ∀ w ∈ Cond.classLink own ik cls :: Cond.initialized cls :: vx_atS own ic cls names, vx_ot w = true)
    (hU : vx_Zq Bundle.tN "UNASSIGNED_STACK" Bundle.steD A s s.heap) (hN : vx_Zq Bundle.tN "SUPPRESSED_SENTINEL" Bundle.listD A s s.heap) (hS : va_S A s.heap H locs) (hsize : ls.size = c.maxLocals)
    (d0 : decode cc pc = .ok (.new ik, 3)) (d3 : decode cc (pc + 3) = .ok (.dup, 1)) (d4 : decode cc (pc + 4) = .ok (.ldc_w is, 3)) (d7 : decode cc (pc + 7) = .ok (.invokespecial ic, 3)) (d10 : decode cc (pc + 10) = .ok (.athrow, 1))
    (hout : ∀ x ∈ c.exceptionTable.toList, covers x (pc + 10) = false)
    (hRframes : names.length + 3 < R.frames) (hRlocals : (rest.map fun v => v.category).sum + (13 * (names.length + 1) + 43) ≤ R.locals) (hRcells : cells + 1 ≤ R.cells) (hRslots : slots + 6 ≤ R.slots) (hlocks : meth.locks = false)
    (hx : ∀ t : State, s.vm.Alike t.vm → H.size ≤ t.heap.size → (∀ q : Nat, q < H.size → t.heap[q]? = H[q]?) → XC cls s t)
    (hf : ∀ z ∈ locs, free z.base) (hc : cells + 1 ≤ mc) (hs : slots + 6 ≤ ms) :
    W p l e R s m args below meth c H locs cells slots (vx_MQ below Qc XC args s mc ms free) (F0 m pc ls rest) := by
  intro T hT X
  have htr : e.platform.stackTraces = false := (show e.platform.stackTraces = l.stackTraces by rw [X.admits.platform]).trans hl
  have Y := vx_rebase X (R' := { frames := R.frames, locals := R.locals, cells := 1, slots := 6 }) (Nat.le_refl _) (Nat.le_refl _) hRcells hRslots
  obtain ⟨s', hA⟩ : ∃ z, z = (T.setVm s.vm).setFrames (.invoking m args :: below) := ⟨_, rfl⟩
  rw [← hA] at Y
  have hvm : s'.vm = s.vm := by rw [hA]; rfl
  have hhp : s'.heap = H := by rw [hA]; exact hT
  have hW0 : s.WarmedH s'.vm := by rw [hvm]; exact State.WarmedH.refl s
  have hat' : ∀ w ∈ vx_atS own ic cls names, w.before args s' = true := fun w hw => vx_ot_at hW0 hvm.symm (hgood w (List.mem_cons_of_mem _ (List.mem_cons_of_mem _ hw))) (hat w hw)
  have hk' : (Cond.classLink own ik cls).before args s' = true := vx_ot_at hW0 hvm.symm (hgood _ List.mem_cons_self) hk
  have hini' : (Cond.initialized cls).before args s' = true := vx_ot_at hW0 hvm.symm (hgood _ (List.mem_cons_of_mem _ List.mem_cons_self)) hini
  have hU' : vx_Zq Bundle.tN "UNASSIGNED_STACK" Bundle.steD A s' s'.heap := by rw [hhp]; exact vx_Zq.moved hW0.alike (hU.kept hS.2.1)
  have hN' : vx_Zq Bundle.tN "SUPPRESSED_SENTINEL" Bundle.listD A s' s'.heap := by rw [hhp]; exact vx_Zq.moved hW0.alike (hN.kept hS.2.1)
  have h : ∀ w ∈ Bundle.ownAtoms own ic cls names, w.before args s' = true := vx_own hat' (vx_isRefq hU'.1) (vx_isRefq hN'.1) hU'.2.word hN'.2.word
  have hown' : s'.vm.findClass own = some m.cls := by rw [hvm]; exact hown
  have hins : (Cond.instantiable cls 6).before args s' = true := h _ (by simp [Bundle.ownAtoms])
  obtain ⟨vm₁, cX, kX, hfX, hkX, -, -, X₁, st1⟩ := Y.newCold hexec (own := own) (C := cls) (index := ik) (n := 6) hown' hk' hins hini'
    (g := F0 m pc ls rest) rfl (by rw [hb]; exact d0) (Nat.le_refl _) (Nat.le_refl _)
  generalize hT1 : (T.setVm vm₁).pushCell { cls := cX, slots := kX.instanceTypes.map defaultValue, vm := .none } = T1 at X₁ st1
  have hcat : (Value.ref T.heap.size).category = 1 := rfl
  have hcellA : T1.heap[T.heap.size]? = some (freshCell cX kX) := by rw [← hT1]; exact State.heap_pushCell_size _ _
  have d3' : decode c.code (pc + 3) = .ok (.dup, 1) := by rw [hb]; exact d3
  have d4' : decode c.code (pc + 4) = .ok (.ldc_w is, 3) := by rw [hb]; exact d4
  have hstr' : vk_R own is text sa s' := vk_R.warm hW0 hstr
  obtain ⟨U, hsteps, hrun, hend, hW, hsame, ce, hce, hO⟩ := X₁.ctorThrowS hexec htr (own := own) (cls := cls) (names := names) (ic := ic) hown' hcls hnames h (fun x hx => nomatch hx) hfX hkX hcellA (by rw [hhp, hT]; exact Nat.le_refl _) (msg := .ref sa) rfl
    (g := { method := m, pc := pc + 7, locals := ls, stack := .ref sa :: .ref T.heap.size :: .ref T.heap.size :: rest, locked := none }) rfl hsize rfl rfl (rest := rest) rfl
    (by rw [hb]; exact d7) (by rw [hb]; exact d10) hout hRframes (by simp only [List.map_cons, List.sum_cons, hcat]; omega) hlocks
  obtain ⟨f1, f2⟩ := vx_frame hsame
  rw [hhp] at f1 f2
  have hWs : s.WarmedH U.vm := State.WarmedH.trans hW0 hW
  have hcl : s.vm.findClass cls = some ce.cls := by
    have h9 := hO.cls
    rw [hvm] at h9
    exact h9
  have hall : s.sameButNew ({ U with vm := s.vm } : State) locs mc ms := by
    subst hA
    obtain ⟨e1, e2⟩ := hsame
    rw [State.setFrames_setFrames] at e1
    have h2 : (T.setVm s.vm).sameButNew ({ U with vm := s.vm } : State) [] (0 + 1) (0 + 6) := ⟨e1, e2⟩
    have h3 := X.same.trans h2
    rw [List.append_nil] at h3
    exact h3.mono hc hs
  refine ⟨U, ?_, .threw T.heap.size, hrun, hend, Or.inr ⟨T.heap.size, rfl, cls, ce, locs, hx U hWs.alike f1 (fun q hq => f2 q hq (fun z hz => nomatch hz)), hce, hO.vm, hcl, hWs, hall, hf⟩⟩
  refine st1 _ ?_
  show Steps p.tables e below (T1.setTop { method := m, pc := pc + 3, locals := ls, stack := .ref T.heap.size :: rest, locked := none }) _
  jvm_step X₁.here [X₁.here.top, hexec, d3', Value.category]
  exact X₁.ldcStringW hexec (own := own) (text := text) (index := is) (a := sa) hown' hstr'.1 hstr'.2
    (g := { method := m, pc := pc + 4, locals := ls, stack := .ref T.heap.size :: .ref T.heap.size :: rest, locked := none }) rfl d4' _ hsteps
end Ends
section Bodies
variable {l : Launch}
theorem vx_ofW {y : MethodName} {ws ws' : List Cond} {rm : Room} {Pc : Array Value → State → Prop} {Qc : Array Value → State → Outcome → State → Prop} {XC : String → State → State → Prop} {mc ms : Nat} {free : Addr → Prop} {cc : ByteArray} {maxL : Nat} {ret : Option FieldType}
    (hy : plainName y.cls = true) (hw : ws = Cond.code y cc maxL ret :: ws')
    (body : ∀ p e s m args below meth c s₁, BodyLoose p l y (headSpec ws rm) cc maxL ret e s m args below meth c s₁ → c.maxLocals = maxL → (∀ x ∈ c.exceptionTable.toList, False) → Pc args s →
      W p l e (headSpec ws rm).room s m args below meth c s.heap [] 0 0 (vx_MQ below Qc XC args s mc ms free) (entryFrame m args maxL)) : vx_Met l y ws rm Pc Qc XC mc ms free := by
  refine MetFree.of_bodyS (code := cc) (maxLocals := maxL) (ret := ret) hy ?_ ?_
  · intro args s m h hn
    obtain ⟨meth, c, h1, h2, h3, h4, h5, h6, -, -⟩ := Cond.code_spec hn (atoms_spec (ws := ws) h _ (by rw [hw]; exact List.mem_cons_self))
    exact ⟨meth, c, h1, h2, h3, h4, h5, h6⟩
  · intro p e s m args below meth c s₁ B hml hP _
    have hh0 : s₁.heap = s.heap := by rw [B.state]; rfl
    have ht : ∀ x ∈ c.exceptionTable.toList, False := by
      obtain ⟨meth9, c9, h1, h2, -, -, -, -, h7, -⟩ := Cond.code_spec B.named (atoms_spec (ws := ws) B.pre _ (by rw [hw]; exact List.mem_cons_self))
      cases Option.some.inj (h1.symm.trans B.method)
      cases Option.some.inj (h2.symm.trans (Stand.of_body B).code)
      intro x hx
      rw [Array.isEmpty_iff.mp h7] at hx
      cases hx
    obtain ⟨t, a1, o, b1, b2, b3⟩ := body p e s m args below meth c s₁ B hml ht hP s₁ hh0 (Stand.of_body B)
    exact ⟨t, o, a1, b1, b2, b3⟩
/-- the table of a body with handlers -/
theorem vx_table {p : Program} {x y : MethodName} {S : Spec} {cc bytes : ByteArray} {maxL maxL' : Nat} {ret ret' : Option FieldType} {e : Env} {s s₁ : State} {m : MethodId} {args : Array Value} {below : List Frame} {meth : Method} {c : Code} {hh : List (Nat × Nat × Nat × Nat)}
    (B : BodyLoose p l y S cc maxL ret e s m args below meth c s₁) (h : (Cond.codeWith y bytes maxL' ret' hh).before args s = true) : c.exceptionTable.toList = tableOf hh := by
  obtain ⟨m9, meth9, c9, hn9, h1, h2, -, -, h6, -⟩ := Cond.codeWith_spec h
  cases Option.some.inj (hn9.symm.trans B.named)
  cases Option.some.inj (h1.symm.trans B.method)
  cases Option.some.inj (h2.symm.trans (Stand.of_body B).code)
  rw [← h6, table_eq]
end Bodies
end VXA
/-! ===== END ===== -/
/-! ===== BEGIN a static call of a method with an exception table ===== -/
section VXS
variable {p : Program} {l : Launch} {e : Env} {R : Room} {s : State} {m : MethodId} {args : Array Value} {below : List Frame} {meth : Method} {c : Code} {T : State} {H : Heap} {locs : List Loc} {cells slots : Nat}
abbrev vx_CSW (R : Room) (s : State) (args : Array Value) (own : String) (index : Nat) (y : MethodName) (bytes : ByteArray) (maxL : Nat) (ret : Option FieldType) (hh : List (Nat × Nat × Nat × Nat)) (ws : List Cond) (rm : Room) (mc ms n : Nat) : Prop :=
  (rm.cells = mc ∧ rm.slots = ms ∧ rm.frames + 1 ≤ R.frames ∧ 8 + (maxL + 11) + rm.locals ≤ R.locals ∧ (∀ w ∈ ws, ∀ (a' : Array Value) (U : State), s.WarmedH U.vm → w.before a' U = true) ∧ Cond.codeWith y bytes maxL ret hh ∈ ws) ∧
  (Cond.codeWith y bytes maxL ret hh).before args s = true ∧ (Cond.initialized y.cls).before args s = true ∧ (y.cls ≠ "java/lang/invoke/MethodHandle" ∧ y.cls ≠ "java/lang/invoke/VarHandle") ∧
  (∀ sig, parseMethodDescriptor y.desc = some sig → n = sig.parameters.length) ∧ (Cond.methodLink own index y).before args s = true ∧ (Cond.static y).before args s = true
theorem vx_cwSW {own : String} {index maxL mc ms : Nat} {y : MethodName} {bytes : ByteArray} {ret : Option FieldType} {hh : List (Nat × Nat × Nat × Nat)} {Ts ws ws' : List Cond} {rm : Room} (n : Nat) (ht : ∀ w ∈ Ts, w.before args s = true) (hT : GoodIn Ts (va_wsS own index y ws)) (hw : ws = Cond.codeWith y bytes maxL ret hh :: ws') (hrc : rm.cells = mc) (hrs : rm.slots = ms)
    (hd : y.cls ≠ "java/lang/invoke/MethodHandle" ∧ y.cls ≠ "java/lang/invoke/VarHandle" ∧ (parseMethodDescriptor y.desc).map (fun d => d.parameters.length) = some n) (hR : rm.frames + 1 ≤ R.frames ∧ 8 + (maxL + 11) + rm.locals ≤ R.locals) :
    vx_CSW R s args own index y bytes maxL ret hh ws rm mc ms n := by
  have ok : ∀ w ∈ va_wsS own index y ws, w.before args s = true := fun w h => ht w (hT w h).1
  have hG : GoodIn Ts ws := fun w h => hT w (by unfold va_wsS; exact List.mem_append_right _ h)
  have hc : Cond.codeWith y bytes maxL ret hh ∈ ws := by rw [hw]; exact List.mem_cons_self
  refine ⟨⟨hrc, hrs, hR.1, hR.2, pay_in ht hG, hc⟩, ht _ (hG _ hc).1, ok _ (by simp [va_wsS]), ⟨hd.1, hd.2.1⟩, fun sig h => ?_, ok _ (by simp [va_wsS]), ok _ (by simp [va_wsS])⟩
  have h2 := hd.2.2
  rw [h] at h2
  exact (Option.some.inj h2).symm
theorem vx_callSW (X : Stand p l e R s m args below meth c T locs cells slots) (hexec : p.tables.exec = Jvm.exec) {own : String} {index : Nat} {y : MethodName} {bytes : ByteArray} {maxL : Nat} {ret : Option FieldType} {hh : List (Nat × Nat × Nat × Nat)}
    (hown : s.vm.findClass own = some m.cls) (hlink : (Cond.methodLink own index y).before args s = true) (hstat : (Cond.static y).before args s = true) (hinit : (Cond.initialized y.cls).before args s = true)
    (hcode : (Cond.codeWith y bytes maxL ret hh).before args s = true) (hy : y.cls ≠ "java/lang/invoke/MethodHandle" ∧ y.cls ≠ "java/lang/invoke/VarHandle")
    {W9 : Nat} {Pre : Pt → Array Value → Prop} {Post : Pt → Array Value → Option Value → Pt → Prop} (hK : Back l R p e below s args y 3 W9 Pre Post)
    {g : JFrame} (hg : g.method = m) (hsize : g.locals.size = c.maxLocals) {argsL rest : List Value} (hlen : ∀ sig, parseMethodDescriptor y.desc = some sig → argsL.length = sig.parameters.length)
    (hstack : g.stack = argsL.reverse ++ rest) (hW : 2 * g.monitorRoom + (rest.map fun v => v.category).sum ≤ W9) (hdg : decode c.code g.pc = .ok (.invokestatic index, 3))
    (hpre : ∀ vm₁, s.WarmedH vm₁ → Pre ⟨T.setVm vm₁, locs, cells, slots⟩ argsL.toArray) :
    ∃ (v : Option Value) (vm₁ : Vm) (B : Pt), s.WarmedH vm₁ ∧ Stand p l e R s m args below meth c B.U B.locs B.cells B.slots ∧ Post ⟨T.setVm vm₁, locs, cells, slots⟩ argsL.toArray v B ∧
      ∀ target, Steps p.tables e below (B.U.setTop { g with pc := g.pc + 3, stack := v.toList ++ rest }) target → Steps p.tables e below (T.setTop g) target := by
  obtain ⟨mk, methM, cM, hnamed, hmethM, -, -, -, -, -, -, hsigM⟩ := Cond.codeWith_spec hcode
  have hstatic : methM.isStatic = true := Cond.static_spec hnamed hmethM hstat
  obtain ⟨kP, hkP, -⟩ := className_of_methodNamed hnamed
  have hinitP : kP.init = .initialized := Cond.initialized_spec (findClass_of_methodNamed hnamed) hkP hinit
  obtain ⟨vm₁, X₁, hstep₁⟩ := X.invokestatic hexec hown hlink hnamed hmethM hstatic hkP hinitP hy (g := g) hg (argsL := argsL) (rest := rest) (hlen _ hsigM) hstack hdg
  obtain ⟨v, B, X', hpost, hsteps⟩ := hK m meth c ⟨T.setVm vm₁, locs, cells, slots⟩ { g with stack := rest } (.invokestatic index) mk argsL.toArray X₁ hg hsize hdg hW (X₁.named hnamed) (hpre vm₁ X₁.warmed)
  exact ⟨v, vm₁, B, X₁.warmed, X', hpost, fun target h => hstep₁ _ fun acts => by rw [doInvoke_state]; exact hsteps.trans h⟩
theorem vx_runSW {y : MethodName} {bytes cc : ByteArray} {maxL nL mc ms n index : Nat} {ret : Option FieldType} {hh : List (Nat × Nat × Nat × Nat)} {ws : List Cond} {rm : Room} {Pc : Array Value → State → Prop} {Qc : Array Value → State → Outcome → State → Prop} {free : Addr → Prop} {Ts : List Cond} {own : String} {As rest : List Value} {g : JFrame}
    (S : CallFix p m c cc nL s args Ts own) (hM : Met l y ws rm Pc Qc mc ms free) (cw : vx_CSW R s args own index y bytes maxL ret hh ws rm mc ms n) (hp : PreS s H Pc As)
    (hg : g.method = m) (hn : As.length = n) (hsize : g.locals.size = nL) (hstack : g.stack = As.reverse ++ rest) (hW : 2 * g.monitorRoom + (rest.map fun v => v.category).sum ≤ 8) (hdg : decode cc g.pc = .ok (.invokestatic index, 3)) (hf : cells + mc ≤ R.cells ∧ slots + ms ≤ R.slots) :
    va_Run p l e R s m args below meth c H locs cells slots mc ms g rest (Qc As.toArray) (free) := by
  obtain ⟨⟨hrc, hrs, hfr, hlo, hws, hcw⟩, hcode, hini, hy, hlen, hl, hstt⟩ := cw
  have hK : Back l R p e below s args y 3 8 (PreOf R mc ms Pc) (PostOf Qc mc ms free) := va_backW (hh := hh) (bytes := bytes) (maxL := maxL) (ret := ret) hM hp.1 hrc hrs hfr hlo hws hcw (fun a' U hW => word_at hW (Or.inl (by first | rfl | simp [Cond.onTables, Cond.keeps, Cond.steady])) hini)
  obtain ⟨hx, hb, hml, ho, -⟩ := S
  intro T hT X
  obtain ⟨v, vm₁, ⟨U', l2, c2, s2⟩, hW₁, X', ⟨g', mk, t, L, e1, e2, hq, h1, hL, h2, h3⟩, st⟩ := vx_callSW X hx (hh := hh) (bytes := bytes) (maxL := maxL) (ret := ret) ho hl hstt hini hcode hy hK hg (hsize.trans hml.symm) (argsL := As) (rest := rest) (fun sig h => hn.trans (hlen sig h)) hstack hW (by rw [hb]; exact hdg)
    (fun vm₁ hW₁ => ⟨hf.1, hf.2, hp.2 (T.setVm vm₁) hT hW₁⟩)
  dsimp only [Pt.U, Pt.locs, Pt.cells, Pt.slots] at X' e1 e2 h1 h2 h3 st
  subst h1; subst h2; subst h3
  exact ⟨v, (T.setVm vm₁).calling g' mk As.toArray, t, U', L, hT, X', hL, e1, e2, hq, st⟩
/-- not caught here, past rows that name other classes: it goes on to the caller -/
theorem vx_outP {p : Program} {l : Launch} {e : Env} {R : Room} {s : State} {m : MethodId} {args : Array Value} {below : List Frame} {meth : Method} {c : Code} {H : Heap} {locs : List Loc} {cells slots : Nat} {free : Addr → Prop} {ls : Array Slot} {rest : List Value} {Qc : Array Value → State → Outcome → State → Prop} {XC : String → State → State → Prop}
    {pc : Nat} {own E : String} {ce : Cell} {q : Addr} {mc ms : Nat} (hown : s.vm.findClass own = some m.cls) (hlocks : meth.locks = false)
    (hpass : ∀ z ∈ c.exceptionTable.toList, covers z pc = false ∨ (z.catchType ≠ 0 ∧ ∃ nm : String, (Cond.classLink own z.catchType nm).before args s = true ∧ va_Nc E nm s)) (hcell : H[q]? = some ce) (hv : ce.vm = .none) (hcl : s.vm.findClass E = some ce.cls)
    (hx : ∀ t : State, t.heap = H → s.vm.Alike t.vm → XC E s t) (hf : ∀ z ∈ locs, free z.base) (hc : cells ≤ mc) (hs : slots ≤ ms) :
    vx_W p l e R s m args below meth c H locs cells slots (vx_MQ below Qc XC args s mc ms free) (F0 m pc ls rest) q := by
  intro T hT X
  have hpl : e.platform.magicAccessors = ({} : Platform).magicAccessors := by rw [X.admits.platform]
  obtain ⟨vm', hW', X', st⟩ := X.outThrough hlocks q (g := F0 m pc ls rest) rfl rfl rfl (cell := ce) (by rw [hT]; exact hcell) (by rw [hv]; rfl)
    (by obtain ⟨k9, h9, -⟩ := Vm.findClass_spec hcl; exact ⟨k9, h9⟩) (fun z hz => by
      rcases hpass z hz with h | ⟨hz0, nm, hl1, hn1⟩
      · exact Or.inl h
      · obtain ⟨c6, hc6, hcl6⟩ := Cond.classLink_spec hown hl1 e.platform hpl
        obtain ⟨a8, b8, h1, h2, h3⟩ := hn1
        cases Option.some.inj (h1.symm.trans hcl)
        cases Option.some.inj (h2.symm.trans hc6)
        exact Or.inr ⟨hz0, _, hcl6, h3⟩)
  obtain ⟨g₀, hfr⟩ := X'.frames_eq
  have hcell9 : ((T.setVm vm').setFrames (.throwing q :: below)).heap[q]? = some ce := by
    show T.heap[q]? = some ce
    rw [hT]; exact hcell
  have hend : Ended ((T.setVm vm').setFrames (.throwing q :: below)) below (.threw q) := State.frames_setFrames _ (State.cur_lt_of_frames hfr)
  refine ⟨(T.setVm vm').setFrames (.throwing q :: below), ?_, .threw q, X'.here.running, hend, Or.inr ⟨q, rfl, E, ce, locs, hx _ hT (X'.ends _).1.alike, hcell9, hv, hcl, (X'.ends _).1, (X'.ends _).2.mono hc hs, hf⟩⟩
  rw [X.pushThrowing_eq]
  exact st
/-- a thing of a world lies in the heap -/
theorem vx_lt {D : va_G} {cl : List vw_C} {ws : va_W} {H1 : Heap} (h : va_P D cl ws H1) {k : Nat} {q : Nat × va_E} (hk : ws[k]? = some q) : q.1 < H1.size := (h k q hk).lt
end VXS
/-! ===== END ===== -/
/-! ===== BEGIN methods with a table of their own: called by a name, returning or throwing ===== -/
section VXH
/-! vx_backW, vx_callVX, vx_callSX, vx_callVW, vx_runVW, vx_runVX, vx_runSX, vx_ofWH follow the same proofs as their sisters above (Free/Laws.lean, Shelf42/LK1.lean); vx_outP calls Shelf42/NT130.lean (outThrough). -/
section
variable {l : Launch} {R : Room} {p : Program} {e : Env} {below : List Frame} {s : State} {sargs : Array Value} {y : MethodName} {len W9 : Nat}
theorem vx_backW {ws : List Cond} {rm : Room} {Pc : Array Value → State → Prop} {Qc : Array Value → State → Outcome → State → Prop} {XC : String → State → State → Prop} {mc ms : Nat} {free : Addr → Prop} {bytes : ByteArray} {maxL : Nat} {ret : Option FieldType} {hh : List (Nat × Nat × Nat × Nat)}
    (hM : vx_Met l y ws rm Pc Qc XC mc ms free) (hblind : FrameBlind Pc) (hrc : rm.cells = mc) (hrs : rm.slots = ms)
    (hframes : rm.frames + 1 ≤ R.frames) (hlocals : W9 + (maxL + 11) + rm.locals ≤ R.locals)
    (hws : ∀ w ∈ ws, ∀ a' U, s.WarmedH U.vm → w.before a' U = true) (hcode : Cond.codeWith y bytes maxL ret hh ∈ ws) (hinit : ∀ a' U, s.WarmedH U.vm → (Cond.initialized y.cls).before a' U = true) :
    vx_Back l R p e below s sargs y len W9 (PreOf R mc ms Pc) (PostOf Qc mc ms free) (vx_Post XC mc ms free) := by
  intro m meth c A g ig mk a X hg hsize hdg hW hn hp
  have h1 : (headSpec ws rm).pre.before a A.U = true := atoms_intro fun w hw => hws w hw _ _ X.warmed
  have h2 : (Cond.codeWith y bytes maxL ret hh).before a A.U = true := hws _ hcode _ _ X.warmed
  have h3 : (Cond.initialized y.cls).before a A.U = true := hinit _ _ X.warmed
  have h4 : A.cells + (headSpec ws rm).room.cells ≤ R.cells := by rw [show (headSpec ws rm).room.cells = mc from hrc]; exact hp.1
  have h5 : A.slots + (headSpec ws rm).room.slots ≤ R.slots := by rw [show (headSpec ws rm).room.slots = ms from hrs]; exact hp.2.1
  have hPc : Pc a (A.U.calling g mk a) := hblind _ _ _ _ hp.2.2
  obtain ⟨U, Ls, c0, s0⟩ := A
  dsimp only [Pt.U, Pt.locs, Pt.cells, Pt.slots] at h1 h2 h3 h4 h5 X hn hPc ⊢
  obtain ⟨m9, methY, cY, hn9, hmY, hcY, -, hlY, -⟩ := Cond.codeWith_spec h2
  cases Option.some.inj (hn9.symm.trans hn)
  obtain ⟨kY, hkY, -⟩ := className_of_methodNamed hn
  have hinitY : kY.init = .initialized := Cond.initialized_spec (findClass_of_methodNamed hn) hkY h3
  have h : At U g.method c below := by rw [hg]; exact X.here
  have hlocals9 : W9 + (maxL + 11) + (headSpec ws rm).room.locals ≤ R.locals := hlocals
  have happ : (headSpec ws rm).appliesLoose y e.platform (U.calling g mk a) = true :=
    Spec.appliesLoose_calling (g := g) h hdg hn hkY hinitY
      (X.room_calling (g := g) (R' := (headSpec ws rm).room) hsize hmY hcY hframes (by rw [hlY]; omega) h4 h5) h1
  obtain ⟨mid, hmid⟩ := h.above
  have hfr : (U.setTop g).frames = (.java g :: mid) ++ below := by rw [State.frames_setTop' g h.top, hmid]; rfl
  obtain ⟨o, s₂, hsteps, -, hend, hq⟩ := Steps.callFree hM p X.admits X.cas X.clock (acts := []) hfr happ hPc trivial
  have hq' : vx_Q Qc XC mc ms free a (U.calling g mk a) o s₂ := hq
  rw [State.frames_setTop' g h.top] at hend
  obtain ⟨g₀, hg0⟩ := Option.isSome_iff_exists.mp h.top
  obtain ⟨r, hr⟩ := State.topJava?_eq_some.mp hg0
  have hr' : (({ U with heap := s₂.heap, slotsUsed := s₂.slotsUsed } : State).setVm s₂.vm).frames = .java g₀ :: r := hr
  rcases hq' with ⟨hqc, L, hfe, hL⟩ | ⟨q, rfl, E, ce, L, hx, hce, hcv, hcl, hW₂, hsm, hL⟩
  · obtain ⟨⟨v, rfl⟩, hW₂, e2, q2, q3, q4, q5, q6⟩ := id hfe
    have e3 : s₂ = ({ (U.calling g mk a).setFrames s₂.frames with heap := s₂.heap, slotsUsed := s₂.slotsUsed } : State).setVm s₂.vm := by
      have : s₂ = ({ s₂ with vm := (U.calling g mk a).vm } : State).setVm s₂.vm := rfl
      rw [e2] at this
      exact this
    obtain ⟨c₂, i₂, len₂, hc₂, hd₂, hf₂⟩ := hend
    have hW' : U.WarmedH s₂.vm := hW₂
    have hcc : c₂ = c := by
      have h1 : s₂.code? g.method = U.code? g.method := by
        rw [State.code?_eq, State.code?_eq, hW'.alike.method?]
      exact Option.some.inj (hc₂.symm.trans (h1.trans h.code))
    subst hcc
    have hlen : len₂ = len := by rw [hdg] at hd₂; cases hd₂; rfl
    subst hlen
    have hs₂ : s₂ = (({ U with heap := s₂.heap, slotsUsed := s₂.slotsUsed } : State).setVm s₂.vm).setTop { g with pc := g.pc + len₂, stack := v.toList ++ g.stack } := by
      refine e3.trans ?_
      rw [hf₂, State.calling_eq h.top, State.setFrames_setFrames, State.setTop_of_frames _ hr', hr]
      rfl
    have hsame : U.sameButNew ({ U with heap := s₂.heap, slotsUsed := s₂.slotsUsed } : State) L mc ms := by
      refine ⟨?_, q2, q3, q4, q5, q6⟩
      obtain ⟨t, ht, -⟩ := State.frames_cons hr
      show ({ U with heap := s₂.heap, slotsUsed := s₂.slotsUsed } : State) = { U.setFrames U.frames with heap := s₂.heap, slotsUsed := s₂.slotsUsed }
      rw [State.setFrames_self ht]
    subst hg
    refine Or.inl ⟨v, ⟨(({ U with heap := s₂.heap, slotsUsed := s₂.slotsUsed } : State).setVm s₂.vm), Ls ++ L, c0 + mc, s0 + ms⟩,
      ⟨X.admits, X.cas, X.clock, X.frames, X.room, X.hears, X.method, X.code, (X.here.setHeapUsed s₂.heap s₂.slotsUsed).setVm hW'.alike, X.tail, State.WarmedH.trans X.warmed hW', X.limits, X.bytes, X.same.trans (hsame.setVm s.vm)⟩,
      ⟨g, mk, s₂, L, rfl, rfl, hqc, rfl, hL, rfl, rfl⟩, ?_⟩
    show Steps p.tables e below _ ((({ U with heap := s₂.heap, slotsUsed := s₂.slotsUsed } : State).setVm s₂.vm).setTop { g with pc := g.pc + len₂, stack := v.toList ++ g.stack })
    rw [← hs₂]
    exact hsteps
  · obtain ⟨e2, q2, q3, q4, q5, q6⟩ := id hsm
    have e3 : s₂ = ({ (U.calling g mk a).setFrames s₂.frames with heap := s₂.heap, slotsUsed := s₂.slotsUsed } : State).setVm s₂.vm := by
      have : s₂ = ({ s₂ with vm := (U.calling g mk a).vm } : State).setVm s₂.vm := rfl
      rw [e2] at this
      exact this
    have hf₂ : s₂.frames = .throwing q :: .java g :: U.frames.tail := hend
    have hW' : U.WarmedH s₂.vm := hW₂
    have hs₂ : s₂ = ((({ U with heap := s₂.heap, slotsUsed := s₂.slotsUsed } : State).setVm s₂.vm).setTop g).pushFrame (.throwing q) := by
      refine e3.trans ?_
      rw [hf₂, State.calling_eq h.top, State.setFrames_setFrames, State.pushFrame, State.frames_setTop _ hr', State.setTop_of_frames _ hr', State.setFrames_setFrames, hr]
      rfl
    have hsame : U.sameButNew ({ U with heap := s₂.heap, slotsUsed := s₂.slotsUsed } : State) L mc ms := by
      refine ⟨?_, q2, q3, q4, q5, q6⟩
      obtain ⟨t, ht, -⟩ := State.frames_cons hr
      show ({ U with heap := s₂.heap, slotsUsed := s₂.slotsUsed } : State) = { U.setFrames U.frames with heap := s₂.heap, slotsUsed := s₂.slotsUsed }
      rw [State.setFrames_self ht]
    subst hg
    refine Or.inr ⟨q, ⟨(({ U with heap := s₂.heap, slotsUsed := s₂.slotsUsed } : State).setVm s₂.vm), Ls ++ L, c0 + mc, s0 + ms⟩,
      ⟨X.admits, X.cas, X.clock, X.frames, X.room, X.hears, X.method, X.code, (X.here.setHeapUsed s₂.heap s₂.slotsUsed).setVm hW'.alike, X.tail, State.WarmedH.trans X.warmed hW', X.limits, X.bytes, X.same.trans (hsame.setVm s.vm)⟩,
      ⟨g, mk, s₂, L, E, ce, rfl, rfl, hx, hce, hcv, hcl, rfl, hL, rfl, rfl⟩, ?_⟩
    show Steps p.tables e below _ (((({ U with heap := s₂.heap, slotsUsed := s₂.slotsUsed } : State).setVm s₂.vm).setTop g).pushFrame (.throwing q))
    rw [← hs₂]
    exact hsteps
end
variable {p : Program} {l : Launch} {e : Env} {R : Room} {s : State} {m : MethodId} {args : Array Value} {below : List Frame} {meth : Method} {c : Code} {T : State} {H : Heap} {locs : List Loc} {cells slots : Nat}
theorem vx_callVX (X : Stand p l e R s m args below meth c T locs cells slots) (hexec : p.tables.exec = Jvm.exec) {own C : String} {index : Nat} {y : MethodName} {bytes : ByteArray} {maxL : Nat} {ret : Option FieldType} {hh : List (Nat × Nat × Nat × Nat)}
    (hown : s.vm.findClass own = some m.cls) (hlink : (Cond.methodLink own index y).before args s = true) (hinst : (Cond.instanceMethod y).before args s = true) (hsel : (Cond.selects C y y).before args s = true)
    (hcode : (Cond.codeWith y bytes maxL ret hh).before args s = true) (hy : y.cls ≠ "java/lang/invoke/MethodHandle" ∧ y.cls ≠ "java/lang/invoke/VarHandle")
    {W9 : Nat} {Pre : Pt → Array Value → Prop} {Post : Pt → Array Value → Option Value → Pt → Prop} {PostX : Pt → Array Value → Addr → Pt → Prop} (hK : vx_Back l R p e below s args y 3 W9 Pre Post PostX)
    {b : Addr} {cellB : Cell} (hcell : T.heap[b]? = some cellB) (hobj : cellB.vm.isStatics = false) (hcls : s.vm.findClass C = some cellB.cls)
    {g : JFrame} (hg : g.method = m) (hsize : g.locals.size = c.maxLocals) {argsL rest : List Value} (hlen : ∀ sig, parseMethodDescriptor y.desc = some sig → argsL.length = sig.parameters.length)
    (hstack : g.stack = argsL.reverse ++ .ref b :: rest) (hW : 2 * g.monitorRoom + (rest.map fun v => v.category).sum ≤ W9) (hdg : decode c.code g.pc = .ok (.invokevirtual index, 3))
    (hpre : ∀ vm₁, s.WarmedH vm₁ → Pre ⟨T.setVm vm₁, locs, cells, slots⟩ (Value.ref b :: argsL).toArray) :
    (∃ (v : Option Value) (vm₁ : Vm) (B : Pt), s.WarmedH vm₁ ∧ Stand p l e R s m args below meth c B.U B.locs B.cells B.slots ∧ Post ⟨T.setVm vm₁, locs, cells, slots⟩ (Value.ref b :: argsL).toArray v B ∧
      ∀ target, Steps p.tables e below (B.U.setTop { g with pc := g.pc + 3, stack := v.toList ++ rest }) target → Steps p.tables e below (T.setTop g) target) ∨
    (∃ (q : Addr) (vm₁ : Vm) (B : Pt), s.WarmedH vm₁ ∧ Stand p l e R s m args below meth c B.U B.locs B.cells B.slots ∧ PostX ⟨T.setVm vm₁, locs, cells, slots⟩ (Value.ref b :: argsL).toArray q B ∧
      Steps p.tables e below (T.setTop g) ((B.U.setTop { g with stack := rest }).pushFrame (.throwing q))) := by
  obtain ⟨mk, methM, hnamed, hmethM, hstM, habM⟩ := Cond.instanceMethod_spec hinst
  obtain ⟨m8, methM', cM, hn8, hmethM', -, -, -, -, -, -, hsigM⟩ := Cond.codeWith_spec hcode
  cases Option.some.inj (hn8.symm.trans hnamed)
  cases hmethM.symm.trans hmethM'
  obtain ⟨c2, r2, m2, q1, q2, q3, q4, kP, hkP, hkPi⟩ := Cond.selects_spec hsel
  cases hcls.symm.trans q1
  cases (State.methodFound?_of_named hnamed hy).symm.trans q2
  cases hnamed.symm.trans q3
  have hselP : selectMethod e.platform s.vm cellB.cls mk = .method mk := by rw [Launch.admits_selectMethod X.admits]; exact q4
  obtain ⟨vm₁, X₁, hstep₁⟩ := X.invokevirtual hexec hown hlink hnamed hmethM hstM hkP hkPi hy (a := b) (cell := cellB) hcell
    (fun z h => by rw [h] at hobj; cases hobj) hselP hmethM habM hkP hkPi (g := g) hg (argsL := argsL) (rest := rest) (hlen _ hsigM) hstack hdg
  rcases hK m meth c ⟨T.setVm vm₁, locs, cells, slots⟩ { g with stack := rest } (.invokevirtual index) mk (Value.ref b :: argsL).toArray X₁ hg hsize hdg hW (X₁.named hnamed) (hpre vm₁ X₁.warmed) with ⟨v, B, X', hpost, hsteps⟩ | ⟨q, B, X', hpost, hsteps⟩
  · exact Or.inl ⟨v, vm₁, B, X₁.warmed, X', hpost, fun target h => hstep₁ _ fun acts => by rw [doInvoke_state]; exact hsteps.trans h⟩
  · exact Or.inr ⟨q, vm₁, B, X₁.warmed, X', hpost, hstep₁ _ fun acts => by rw [doInvoke_state]; exact hsteps⟩
theorem vx_callSX (X : Stand p l e R s m args below meth c T locs cells slots) (hexec : p.tables.exec = Jvm.exec) {own : String} {index : Nat} {y : MethodName} {bytes : ByteArray} {maxL : Nat} {ret : Option FieldType} {hh : List (Nat × Nat × Nat × Nat)}
    (hown : s.vm.findClass own = some m.cls) (hlink : (Cond.methodLink own index y).before args s = true) (hstat : (Cond.static y).before args s = true) (hinit : (Cond.initialized y.cls).before args s = true)
    (hcode : (Cond.codeWith y bytes maxL ret hh).before args s = true) (hy : y.cls ≠ "java/lang/invoke/MethodHandle" ∧ y.cls ≠ "java/lang/invoke/VarHandle")
    {W9 : Nat} {Pre : Pt → Array Value → Prop} {Post : Pt → Array Value → Option Value → Pt → Prop} {PostX : Pt → Array Value → Addr → Pt → Prop} (hK : vx_Back l R p e below s args y 3 W9 Pre Post PostX)
    {g : JFrame} (hg : g.method = m) (hsize : g.locals.size = c.maxLocals) {argsL rest : List Value} (hlen : ∀ sig, parseMethodDescriptor y.desc = some sig → argsL.length = sig.parameters.length)
    (hstack : g.stack = argsL.reverse ++ rest) (hW : 2 * g.monitorRoom + (rest.map fun v => v.category).sum ≤ W9) (hdg : decode c.code g.pc = .ok (.invokestatic index, 3))
    (hpre : ∀ vm₁, s.WarmedH vm₁ → Pre ⟨T.setVm vm₁, locs, cells, slots⟩ argsL.toArray) :
    (∃ (v : Option Value) (vm₁ : Vm) (B : Pt), s.WarmedH vm₁ ∧ Stand p l e R s m args below meth c B.U B.locs B.cells B.slots ∧ Post ⟨T.setVm vm₁, locs, cells, slots⟩ argsL.toArray v B ∧
      ∀ target, Steps p.tables e below (B.U.setTop { g with pc := g.pc + 3, stack := v.toList ++ rest }) target → Steps p.tables e below (T.setTop g) target) ∨
    (∃ (q : Addr) (vm₁ : Vm) (B : Pt), s.WarmedH vm₁ ∧ Stand p l e R s m args below meth c B.U B.locs B.cells B.slots ∧ PostX ⟨T.setVm vm₁, locs, cells, slots⟩ argsL.toArray q B ∧
      Steps p.tables e below (T.setTop g) ((B.U.setTop { g with stack := rest }).pushFrame (.throwing q))) := by
  obtain ⟨mk, methM, cM, hnamed, hmethM, -, -, -, -, -, -, hsigM⟩ := Cond.codeWith_spec hcode
  have hstatic : methM.isStatic = true := Cond.static_spec hnamed hmethM hstat
  obtain ⟨kP, hkP, -⟩ := className_of_methodNamed hnamed
  have hinitP : kP.init = .initialized := Cond.initialized_spec (findClass_of_methodNamed hnamed) hkP hinit
  obtain ⟨vm₁, X₁, hstep₁⟩ := X.invokestatic hexec hown hlink hnamed hmethM hstatic hkP hinitP hy (g := g) hg (argsL := argsL) (rest := rest) (hlen _ hsigM) hstack hdg
  rcases hK m meth c ⟨T.setVm vm₁, locs, cells, slots⟩ { g with stack := rest } (.invokestatic index) mk argsL.toArray X₁ hg hsize hdg hW (X₁.named hnamed) (hpre vm₁ X₁.warmed) with ⟨v, B, X', hpost, hsteps⟩ | ⟨q, B, X', hpost, hsteps⟩
  · exact Or.inl ⟨v, vm₁, B, X₁.warmed, X', hpost, fun target h => hstep₁ _ fun acts => by rw [doInvoke_state]; exact hsteps.trans h⟩
  · exact Or.inr ⟨q, vm₁, B, X₁.warmed, X', hpost, hstep₁ _ fun acts => by rw [doInvoke_state]; exact hsteps⟩
theorem vx_callVW (X : Stand p l e R s m args below meth c T locs cells slots) (hexec : p.tables.exec = Jvm.exec) {own C : String} {index : Nat} {y : MethodName} {bytes : ByteArray} {maxL : Nat} {ret : Option FieldType} {hh : List (Nat × Nat × Nat × Nat)}
    (hown : s.vm.findClass own = some m.cls) (hlink : (Cond.methodLink own index y).before args s = true) (hinst : (Cond.instanceMethod y).before args s = true) (hsel : (Cond.selects C y y).before args s = true)
    (hcode : (Cond.codeWith y bytes maxL ret hh).before args s = true) (hy : y.cls ≠ "java/lang/invoke/MethodHandle" ∧ y.cls ≠ "java/lang/invoke/VarHandle")
    {W9 : Nat} {Pre : Pt → Array Value → Prop} {Post : Pt → Array Value → Option Value → Pt → Prop} (hK : Back l R p e below s args y 3 W9 Pre Post)
    {b : Addr} {cellB : Cell} (hcell : T.heap[b]? = some cellB) (hobj : cellB.vm.isStatics = false) (hcls : s.vm.findClass C = some cellB.cls)
    {g : JFrame} (hg : g.method = m) (hsize : g.locals.size = c.maxLocals) {argsL rest : List Value} (hlen : ∀ sig, parseMethodDescriptor y.desc = some sig → argsL.length = sig.parameters.length)
    (hstack : g.stack = argsL.reverse ++ .ref b :: rest) (hW : 2 * g.monitorRoom + (rest.map fun v => v.category).sum ≤ W9) (hdg : decode c.code g.pc = .ok (.invokevirtual index, 3))
    (hpre : ∀ vm₁, s.WarmedH vm₁ → Pre ⟨T.setVm vm₁, locs, cells, slots⟩ (Value.ref b :: argsL).toArray) :
    ∃ (v : Option Value) (vm₁ : Vm) (B : Pt), s.WarmedH vm₁ ∧ Stand p l e R s m args below meth c B.U B.locs B.cells B.slots ∧ Post ⟨T.setVm vm₁, locs, cells, slots⟩ (Value.ref b :: argsL).toArray v B ∧
      ∀ target, Steps p.tables e below (B.U.setTop { g with pc := g.pc + 3, stack := v.toList ++ rest }) target → Steps p.tables e below (T.setTop g) target := by
  obtain ⟨mk, methM, hnamed, hmethM, hstM, habM⟩ := Cond.instanceMethod_spec hinst
  obtain ⟨m8, methM', cM, hn8, hmethM', -, -, -, -, -, -, hsigM⟩ := Cond.codeWith_spec hcode
  cases Option.some.inj (hn8.symm.trans hnamed)
  cases hmethM.symm.trans hmethM'
  obtain ⟨c2, r2, m2, q1, q2, q3, q4, kP, hkP, hkPi⟩ := Cond.selects_spec hsel
  cases hcls.symm.trans q1
  cases (State.methodFound?_of_named hnamed hy).symm.trans q2
  cases hnamed.symm.trans q3
  have hselP : selectMethod e.platform s.vm cellB.cls mk = .method mk := by rw [Launch.admits_selectMethod X.admits]; exact q4
  obtain ⟨vm₁, X₁, hstep₁⟩ := X.invokevirtual hexec hown hlink hnamed hmethM hstM hkP hkPi hy (a := b) (cell := cellB) hcell
    (fun z h => by rw [h] at hobj; cases hobj) hselP hmethM habM hkP hkPi (g := g) hg (argsL := argsL) (rest := rest) (hlen _ hsigM) hstack hdg
  obtain ⟨v, B, X', hpost, hsteps⟩ := hK m meth c ⟨T.setVm vm₁, locs, cells, slots⟩ { g with stack := rest } (.invokevirtual index) mk (Value.ref b :: argsL).toArray X₁ hg hsize hdg hW (X₁.named hnamed) (hpre vm₁ X₁.warmed)
  exact ⟨v, vm₁, B, X₁.warmed, X', hpost, fun target h => hstep₁ _ fun acts => by rw [doInvoke_state]; exact hsteps.trans h⟩
abbrev vx_CVW (R : Room) (s : State) (args : Array Value) (own C : String) (index : Nat) (y : MethodName) (bytes : ByteArray) (maxL : Nat) (ret : Option FieldType) (hh : List (Nat × Nat × Nat × Nat)) (ws : List Cond) (rm : Room) (mc ms n : Nat) : Prop :=
  (rm.cells = mc ∧ rm.slots = ms ∧ rm.frames + 1 ≤ R.frames ∧ 8 + (maxL + 11) + rm.locals ≤ R.locals ∧ (∀ w ∈ ws, ∀ (a' : Array Value) (U : State), s.WarmedH U.vm → w.before a' U = true) ∧ Cond.codeWith y bytes maxL ret hh ∈ ws) ∧
  (Cond.codeWith y bytes maxL ret hh).before args s = true ∧ (Cond.initialized y.cls).before args s = true ∧ (y.cls ≠ "java/lang/invoke/MethodHandle" ∧ y.cls ≠ "java/lang/invoke/VarHandle") ∧
  (∀ sig, parseMethodDescriptor y.desc = some sig → n = sig.parameters.length) ∧ (Cond.methodLink own index y).before args s = true ∧ (Cond.instanceMethod y).before args s = true ∧ (Cond.selects C y y).before args s = true
theorem vx_cwVW {own C : String} {index maxL mc ms : Nat} {y : MethodName} {bytes : ByteArray} {ret : Option FieldType} {hh : List (Nat × Nat × Nat × Nat)} {Ts ws ws' : List Cond} {rm : Room} (n : Nat) (ht : ∀ w ∈ Ts, w.before args s = true) (hT : GoodIn Ts (wsV own index C y ws)) (hw : ws = Cond.codeWith y bytes maxL ret hh :: ws') (hrc : rm.cells = mc) (hrs : rm.slots = ms)
    (hd : y.cls = C ∧ y.cls ≠ "java/lang/invoke/MethodHandle" ∧ y.cls ≠ "java/lang/invoke/VarHandle" ∧ (parseMethodDescriptor y.desc).map (fun d => d.parameters.length) = some n) (hR : rm.frames + 1 ≤ R.frames ∧ 8 + (maxL + 11) + rm.locals ≤ R.locals) :
    vx_CVW R s args own C index y bytes maxL ret hh ws rm mc ms n := by
  obtain ⟨hC, hd⟩ := hd
  subst hC
  have ok : ∀ w ∈ wsV own index y.cls y ws, w.before args s = true := fun w h => ht w (hT w h).1
  have hG : GoodIn Ts ws := fun w h => hT w (by unfold wsV; exact List.mem_append_right _ h)
  have hc : Cond.codeWith y bytes maxL ret hh ∈ ws := by rw [hw]; exact List.mem_cons_self
  refine ⟨⟨hrc, hrs, hR.1, hR.2, pay_in ht hG, hc⟩, ht _ (hG _ hc).1, ok _ (by simp [wsV]), ⟨hd.1, hd.2.1⟩, fun sig h => ?_, ok _ (by simp [wsV]), ok _ (by simp [wsV]), ok _ (by simp [wsV])⟩
  have h2 := hd.2.2
  rw [h] at h2
  exact (Option.some.inj h2).symm
theorem vx_runVW {y : MethodName} {bytes cc : ByteArray} {maxL nL mc ms n index : Nat} {ret : Option FieldType} {hh : List (Nat × Nat × Nat × Nat)} {ws : List Cond} {rm : Room} {Pc : Array Value → State → Prop} {Qc : Array Value → State → Outcome → State → Prop} {free : Addr → Prop} {Ts : List Cond} {own C : String} {b : Addr} {As rest : List Value} {g : JFrame}
    (S : CallFix p m c cc nL s args Ts own) (hM : Met l y ws rm Pc Qc mc ms free) (cw : vx_CVW R s args own C index y bytes maxL ret hh ws rm mc ms n) (hp : PreV s H C b Pc As)
    (hg : g.method = m) (hn : As.length = n) (hsize : g.locals.size = nL) (hstack : g.stack = As.reverse ++ .ref b :: rest) (hW : 2 * g.monitorRoom + (rest.map fun v => v.category).sum ≤ 8) (hdg : decode cc g.pc = .ok (.invokevirtual index, 3)) (hf : cells + mc ≤ R.cells ∧ slots + ms ≤ R.slots) :
    va_Run p l e R s m args below meth c H locs cells slots mc ms g rest (Qc (Value.ref b :: As).toArray) free := by
  obtain ⟨⟨hrc, hrs, hfr, hlo, hws, hcw⟩, hcode, hini, hy, hlen, hl, hin, hse⟩ := cw
  have hK : Back l R p e below s args y 3 8 (PreOf R mc ms Pc) (PostOf Qc mc ms free) := va_backW (hh := hh) (bytes := bytes) (maxL := maxL) (ret := ret) hM hp.1 hrc hrs hfr hlo hws hcw (fun a' U hW => word_at hW (Or.inl (by first | rfl | simp [Cond.onTables, Cond.keeps, Cond.steady])) hini)
  obtain ⟨hx, hb, hml, ho, -⟩ := S
  obtain ⟨-, ⟨cellB, hcB, hoB, hclB⟩, hPc⟩ := hp
  intro T hT X
  obtain ⟨v, vm₁, ⟨U', l2, c2, s2⟩, hW₁, X', ⟨g', mk, t, L, e1, e2, hq, h1, hL, h2, h3⟩, st⟩ := vx_callVW X hx (C := C) (hh := hh) (bytes := bytes) (maxL := maxL) (ret := ret) ho hl hin hse hcode hy hK (by rw [hT]; exact hcB) hoB hclB hg (hsize.trans hml.symm) (argsL := As) (rest := rest) (fun sig h => hn.trans (hlen sig h)) hstack hW (by rw [hb]; exact hdg)
    (fun vm₁ hW₁ => ⟨hf.1, hf.2, hPc (T.setVm vm₁) hT hW₁⟩)
  dsimp only [Pt.U, Pt.locs, Pt.cells, Pt.slots] at X' e1 e2 h1 h2 h3 st
  subst h1; subst h2; subst h3
  exact ⟨v, (T.setVm vm₁).calling g' mk (Value.ref b :: As).toArray, t, U', L, hT, X', hL, e1, e2, hq, st⟩
section
variable {y : MethodName} {bytes cc : ByteArray} {maxL nL mc ms n index : Nat} {ret : Option FieldType} {ws : List Cond} {rm : Room} {Pc : Array Value → State → Prop} {Qc : Array Value → State → Outcome → State → Prop} {XC : String → State → State → Prop} {free : Addr → Prop} {Ts : List Cond} {own C : String} {b : Addr} {As rest : List Value} {g : JFrame}
theorem vx_runVX {hh : List (Nat × Nat × Nat × Nat)} (S : CallFix p m c cc nL s args Ts own) (hM : vx_Met l y ws rm Pc Qc XC mc ms free) (cw : vx_CVW R s args own C index y bytes maxL ret hh ws rm mc ms n) (hp : PreV s H C b Pc As)
    (hg : g.method = m) (hn : As.length = n) (hsize : g.locals.size = nL) (hstack : g.stack = As.reverse ++ .ref b :: rest) (hW : 2 * g.monitorRoom + (rest.map fun v => v.category).sum ≤ 8) (hdg : decode cc g.pc = .ok (.invokevirtual index, 3)) (hf : cells + mc ≤ R.cells ∧ slots + ms ≤ R.slots) :
    vx_Run p l e R s m args below meth c H locs cells slots mc ms g rest (Qc (Value.ref b :: As).toArray) XC free := by
  obtain ⟨⟨hrc, hrs, hfr, hlo, hws, hcw⟩, hcode, hini, hy, hlen, hl, hin, hse⟩ := cw
  have hK : vx_Back l R p e below s args y 3 8 (PreOf R mc ms Pc) (PostOf Qc mc ms free) (vx_Post XC mc ms free) := vx_backW (hh := hh) (bytes := bytes) (maxL := maxL) (ret := ret) hM hp.1 hrc hrs hfr hlo hws hcw (fun a' U hW => word_at hW (Or.inl (by first | rfl | simp [Cond.onTables, Cond.keeps, Cond.steady])) hini)
  obtain ⟨hx, hb, hml, ho, -⟩ := S
  obtain ⟨-, ⟨cellB, hcB, hoB, hclB⟩, hPc⟩ := hp
  intro T hT X
  rcases vx_callVX X hx (C := C) (hh := hh) (bytes := bytes) (maxL := maxL) (ret := ret) ho hl hin hse hcode hy hK (by rw [hT]; exact hcB) hoB hclB hg (hsize.trans hml.symm) (argsL := As) (rest := rest) (fun sig h => hn.trans (hlen sig h)) hstack hW (by rw [hb]; exact hdg)
    (fun vm₁ hW₁ => ⟨hf.1, hf.2, hPc (T.setVm vm₁) hT hW₁⟩) with ⟨v, vm₁, ⟨U', l2, c2, s2⟩, hW₁, X', ⟨g', mk, t, L, e1, e2, hq, h1, hL, h2, h3⟩, st⟩ | ⟨q, vm₁, ⟨U', l2, c2, s2⟩, hW₁, X', ⟨g', mk, t, L, E, ce, e1, e2, hq, hce, hcv, hcl, h1, hL, h2, h3⟩, st⟩
  · dsimp only [Pt.U, Pt.locs, Pt.cells, Pt.slots] at X' e1 e2 h1 h2 h3 st
    subst h1; subst h2; subst h3
    exact Or.inl ⟨v, (T.setVm vm₁).calling g' mk (Value.ref b :: As).toArray, t, U', L, hT, X', hL, e1, e2, hq, st⟩
  · dsimp only [Pt.U, Pt.locs, Pt.cells, Pt.slots] at X' e1 e2 h1 h2 h3 st hcl
    subst h1; subst h2; subst h3
    exact Or.inr ⟨q, (T.setVm vm₁).calling g' mk (Value.ref b :: As).toArray, t, U', L, E, ce, hT, X', hL, e1, e2, hq, hce, hcv, vx_cls hW₁ hcl, st⟩
theorem vx_runSX {hh : List (Nat × Nat × Nat × Nat)} (S : CallFix p m c cc nL s args Ts own) (hM : vx_Met l y ws rm Pc Qc XC mc ms free) (cw : vx_CSW R s args own index y bytes maxL ret hh ws rm mc ms n) (hp : PreS s H Pc As)
    (hg : g.method = m) (hn : As.length = n) (hsize : g.locals.size = nL) (hstack : g.stack = As.reverse ++ rest) (hW : 2 * g.monitorRoom + (rest.map fun v => v.category).sum ≤ 8) (hdg : decode cc g.pc = .ok (.invokestatic index, 3)) (hf : cells + mc ≤ R.cells ∧ slots + ms ≤ R.slots) :
    vx_Run p l e R s m args below meth c H locs cells slots mc ms g rest (Qc As.toArray) XC free := by
  obtain ⟨⟨hrc, hrs, hfr, hlo, hws, hcw⟩, hcode, hini, hy, hlen, hl, hstt⟩ := cw
  have hK : vx_Back l R p e below s args y 3 8 (PreOf R mc ms Pc) (PostOf Qc mc ms free) (vx_Post XC mc ms free) := vx_backW (hh := hh) (bytes := bytes) (maxL := maxL) (ret := ret) hM hp.1 hrc hrs hfr hlo hws hcw (fun a' U hW => word_at hW (Or.inl (by first | rfl | simp [Cond.onTables, Cond.keeps, Cond.steady])) hini)
  obtain ⟨hx, hb, hml, ho, -⟩ := S
  intro T hT X
  rcases vx_callSX X hx (hh := hh) (bytes := bytes) (maxL := maxL) (ret := ret) ho hl hstt hini hcode hy hK hg (hsize.trans hml.symm) (argsL := As) (rest := rest) (fun sig h => hn.trans (hlen sig h)) hstack hW (by rw [hb]; exact hdg)
    (fun vm₁ hW₁ => ⟨hf.1, hf.2, hp.2 (T.setVm vm₁) hT hW₁⟩) with ⟨v, vm₁, ⟨U', l2, c2, s2⟩, hW₁, X', ⟨g', mk, t, L, e1, e2, hq, h1, hL, h2, h3⟩, st⟩ | ⟨q, vm₁, ⟨U', l2, c2, s2⟩, hW₁, X', ⟨g', mk, t, L, E, ce, e1, e2, hq, hce, hcv, hcl, h1, hL, h2, h3⟩, st⟩
  · dsimp only [Pt.U, Pt.locs, Pt.cells, Pt.slots] at X' e1 e2 h1 h2 h3 st
    subst h1; subst h2; subst h3
    exact Or.inl ⟨v, (T.setVm vm₁).calling g' mk As.toArray, t, U', L, hT, X', hL, e1, e2, hq, st⟩
  · dsimp only [Pt.U, Pt.locs, Pt.cells, Pt.slots] at X' e1 e2 h1 h2 h3 st hcl
    subst h1; subst h2; subst h3
    exact Or.inr ⟨q, (T.setVm vm₁).calling g' mk As.toArray, t, U', L, E, ce, hT, X', hL, e1, e2, hq, hce, hcv, vx_cls hW₁ hcl, st⟩
end
end VXH
theorem vx_ofWH {l : Launch} {y : MethodName} {ws ws' : List Cond} {rm : Room} {Pc : Array Value → State → Prop} {Qc : Array Value → State → Outcome → State → Prop} {XC : String → State → State → Prop} {mc ms : Nat} {free : Addr → Prop} {cc : ByteArray} {maxL : Nat} {ret : Option FieldType} {hh : List (Nat × Nat × Nat × Nat)}
    (hy : plainName y.cls = true) (hw : ws = Cond.codeWith y cc maxL ret hh :: ws')
    (body : ∀ p e s m args below meth c s₁, BodyLoose p l y (headSpec ws rm) cc maxL ret e s m args below meth c s₁ → c.maxLocals = maxL → Pc args s →
      W p l e (headSpec ws rm).room s m args below meth c s.heap [] 0 0 (vx_MQ below Qc XC args s mc ms free) (entryFrame m args maxL)) : vx_Met l y ws rm Pc Qc XC mc ms free := by
  refine MetFree.of_bodyS (code := cc) (maxLocals := maxL) (ret := ret) hy ?_ ?_
  · intro args s m h hn
    obtain ⟨m9, meth, c, hn9, h1, h2, h3, h4, -, h5, h6, -⟩ := Cond.codeWith_spec (atoms_spec (ws := ws) h _ (by rw [hw]; exact List.mem_cons_self))
    cases hn.symm.trans hn9
    exact ⟨meth, c, h1, h2, h3, h4, h5, h6⟩
  · intro p e s m args below meth c s₁ B hml hP _
    have hh0 : s₁.heap = s.heap := by rw [B.state]; rfl
    obtain ⟨t, a1, o, b1, b2, b3⟩ := body p e s m args below meth c s₁ B hml hP s₁ hh0 (Stand.of_body B)
    exact ⟨t, o, a1, b1, b2, b3⟩
/-! ===== END ===== -/
end
section
/-! names of classes, fields, methods; the words that all methods share (lw_tbl's good ones); by wip/tools/names.py out of the printed task -/
def R_D : String := "DrawCommands"
def R_C : String := "DrawCommands$Command"
def R_R : String := "DrawCommands$Run"
def R_S : String := "DrawCommands$Shape"
def R_T : String := "DrawCommands$Told"
def R_M : String := "DrawCommandsModel"
def R_L : String := "DrawCommandsLaw"
def R_J : String := "java/lang/Math"
def F_C : u_T := fun k => match k with
  | 0 => ("DrawCommands$Command", "words", "[I", true)
  | 1 => ("DrawCommands$Command", "kind", "I", false)
  | _ => ("DrawCommands$Command", "many", "I", false)
def ft_C : Nat → FieldType := fun k => match k with
  | 0 => .array .int
  | 1 => .int
  | _ => .int
theorem n_C : ∀ a, a < 3 → ∀ b, b < 3 → a ≠ b → (F_C a).2.1 ≠ (F_C b).2.1 := by decide +kernel
theorem ft_C_ok : ∀ k, k < 3 → parseFieldDescriptor (F_C k).2.2.1 = some (ft_C k) := by decide +kernel
def F_R : u_T := fun k => match k with
  | 0 => ("DrawCommands$Run", "backs", "[I", true)
  | 1 => ("DrawCommands$Run", "place", "I", false)
  | 2 => ("DrawCommands$Run", "depth", "I", false)
  | 3 => ("DrawCommands$Run", "lastPlace", "I", false)
  | 4 => ("DrawCommands$Run", "lastDepth", "I", false)
  | 5 => ("DrawCommands$Run", "done", "I", false)
  | 6 => ("DrawCommands$Run", "refusal", "I", false)
  | 7 => ("DrawCommands$Run", "query", "I", false)
  | _ => ("DrawCommands$Run", "over", "Z", false)
def ft_R : Nat → FieldType := fun k => match k with
  | 0 => .array .int
  | 1 => .int
  | 2 => .int
  | 3 => .int
  | 4 => .int
  | 5 => .int
  | 6 => .int
  | 7 => .int
  | _ => .boolean
theorem n_R : ∀ a, a < 9 → ∀ b, b < 9 → a ≠ b → (F_R a).2.1 ≠ (F_R b).2.1 := by decide +kernel
theorem ft_R_ok : ∀ k, k < 9 → parseFieldDescriptor (F_R k).2.2.1 = some (ft_R k) := by decide +kernel
def F_T : u_T := fun k => match k with
  | 0 => ("DrawCommands$Told", "starts", "[I", true)
  | _ => ("DrawCommands$Told", "words", "[I", true)
def ft_T : Nat → FieldType := fun k => match k with
  | 0 => .array .int
  | _ => .array .int
theorem n_T : ∀ a, a < 2 → ∀ b, b < 2 → a ≠ b → (F_T a).2.1 ≠ (F_T b).2.1 := by decide +kernel
theorem ft_T_ok : ∀ k, k < 2 → parseFieldDescriptor (F_T k).2.2.1 = some (ft_T k) := by decide +kernel
def F_D : u_T := fun k => match k with
  | 0 => ("DrawCommands", "memory", "[I", true)
  | 1 => ("DrawCommands", "stream", "[I", true)
  | 2 => ("DrawCommands", "told", "LDrawCommands$Told;", true)
  | 3 => ("DrawCommands", "command", "LDrawCommands$Command;", true)
  | 4 => ("DrawCommands", "run", "LDrawCommands$Run;", true)
  | 5 => ("DrawCommands", "streamLength", "I", false)
  | 6 => ("DrawCommands", "frameWide", "I", false)
  | _ => ("DrawCommands", "frameHigh", "I", false)
def ft_D : Nat → FieldType := fun k => match k with
  | 0 => .array .int
  | 1 => .array .int
  | 2 => .object "DrawCommands$Told"
  | 3 => .object "DrawCommands$Command"
  | 4 => .object "DrawCommands$Run"
  | 5 => .int
  | 6 => .int
  | _ => .int
theorem n_D : ∀ a, a < 8 → ∀ b, b < 8 → a ≠ b → (F_D a).2.1 ≠ (F_D b).2.1 := by decide +kernel
theorem ft_D_ok : ∀ k, k < 8 → parseFieldDescriptor (F_D k).2.2.1 = some (ft_D k) := by decide +kernel
def F_M : u_T := fun k => match k with
  | 0 => ("DrawCommandsModel", "thrown", "I", false)
  | 1 => ("DrawCommandsModel", "memory", "[I", true)
  | 2 => ("DrawCommandsModel", "wide", "I", false)
  | 3 => ("DrawCommandsModel", "high", "I", false)
  | 4 => ("DrawCommandsModel", "stream", "[I", true)
  | 5 => ("DrawCommandsModel", "size", "I", false)
  | 6 => ("DrawCommandsModel", "at", "I", false)
  | 7 => ("DrawCommandsModel", "depth", "I", false)
  | 8 => ("DrawCommandsModel", "back", "[I", true)
  | 9 => ("DrawCommandsModel", "over", "Z", false)
  | 10 => ("DrawCommandsModel", "refusal", "I", false)
  | 11 => ("DrawCommandsModel", "place", "I", false)
  | 12 => ("DrawCommandsModel", "deep", "I", false)
  | 13 => ("DrawCommandsModel", "done", "I", false)
  | 14 => ("DrawCommandsModel", "query", "I", false)
  | 15 => ("DrawCommandsModel", "arguments", "I", false)
  | 16 => ("DrawCommandsModel", "argument", "[I", true)
  | _ => ("DrawCommandsModel", "kept", "[I", true)
def ft_M : Nat → FieldType := fun k => match k with
  | 0 => .int
  | 1 => .array .int
  | 2 => .int
  | 3 => .int
  | 4 => .array .int
  | 5 => .int
  | 6 => .int
  | 7 => .int
  | 8 => .array .int
  | 9 => .boolean
  | 10 => .int
  | 11 => .int
  | 12 => .int
  | 13 => .int
  | 14 => .int
  | 15 => .int
  | 16 => .array .int
  | _ => .array .int
theorem n_M : ∀ a, a < 18 → ∀ b, b < 18 → a ≠ b → (F_M a).2.1 ≠ (F_M b).2.1 := by decide +kernel
theorem ft_M_ok : ∀ k, k < 18 → parseFieldDescriptor (F_M k).2.2.1 = some (ft_M k) := by decide +kernel
abbrev clX : List vw_C := [(R_C, F_C, 3), (R_R, F_R, 9), (R_T, F_T, 2), (R_D, F_D, 8), (R_M, F_M, 18)]
def y_D_init : MethodName := ⟨"DrawCommands", "<init>", "()V"⟩
abbrev b_D_init : ByteArray := prog_1_method_1_code
def y_T_init : MethodName := ⟨"DrawCommands$Told", "<init>", "()V"⟩
abbrev b_T_init : ByteArray := prog_5_method_1_code
def y_D_write : MethodName := ⟨"DrawCommands", "write", "([III)V"⟩
abbrev b_D_write : ByteArray := prog_1_method_25_code
def y_S_holders : MethodName := ⟨"DrawCommands$Shape", "holders", "(I)I"⟩
abbrev b_S_holders : ByteArray := prog_4_method_4_code
def y_D_read : MethodName := ⟨"DrawCommands", "read", "([II)I"⟩
abbrev b_D_read : ByteArray := prog_1_method_24_code
def y_S_fixed : MethodName := ⟨"DrawCommands$Shape", "fixed", "(I)I"⟩
abbrev b_S_fixed : ByteArray := prog_4_method_3_code
def y_S_isKind : MethodName := ⟨"DrawCommands$Shape", "isKind", "(I)Z"⟩
abbrev b_S_isKind : ByteArray := prog_4_method_2_code
def y_J_max : MethodName := ⟨"java/lang/Math", "max", "(II)I"⟩
abbrev b_J_max : ByteArray := prog_12_method_65_code
def y_T_forget : MethodName := ⟨"DrawCommands$Told", "forget", "()V"⟩
abbrev b_T_forget : ByteArray := prog_5_method_2_code
def y_T_forgetOne : MethodName := ⟨"DrawCommands$Told", "forgetOne", "(II)V"⟩
abbrev b_T_forgetOne : ByteArray := prog_5_method_3_code
def y_T_placeOf : MethodName := ⟨"DrawCommands$Told", "placeOf", "(III)I"⟩
abbrev b_T_placeOf : ByteArray := prog_5_method_9_code
def y_S_untold : MethodName := ⟨"DrawCommands$Shape", "untold", "(II)I"⟩
abbrev b_S_untold : ByteArray := prog_4_method_6_code
def y_S_column : MethodName := ⟨"DrawCommands$Shape", "column", "(III)I"⟩
abbrev b_S_column : ByteArray := prog_4_method_7_code
def y_T_namesItsHolder : MethodName := ⟨"DrawCommands$Told", "namesItsHolder", "(I)Z"⟩
abbrev b_T_namesItsHolder : ByteArray := prog_5_method_8_code
def y_C_init : MethodName := ⟨"DrawCommands$Command", "<init>", "()V"⟩
abbrev b_C_init : ByteArray := prog_2_method_1_code
def y_R_init : MethodName := ⟨"DrawCommands$Run", "<init>", "()V"⟩
abbrev b_R_init : ByteArray := prog_3_method_1_code
def y_R_restart : MethodName := ⟨"DrawCommands$Run", "restart", "()V"⟩
abbrev b_R_restart : ByteArray := prog_3_method_2_code
def y_D_clear : MethodName := ⟨"DrawCommands", "clear", "()V"⟩
abbrev b_D_clear : ByteArray := prog_1_method_5_code
def y_D_startAnew : MethodName := ⟨"DrawCommands", "startAnew", "()V"⟩
abbrev b_D_startAnew : ByteArray := prog_1_method_11_code
def y_C_forget : MethodName := ⟨"DrawCommands$Command", "forget", "()V"⟩
abbrev b_C_forget : ByteArray := prog_2_method_2_code
def y_C_become : MethodName := ⟨"DrawCommands$Command", "become", "(II)V"⟩
abbrev b_C_become : ByteArray := prog_2_method_3_code
def y_D_begin : MethodName := ⟨"DrawCommands", "begin", "(Z)V"⟩
abbrev b_D_begin : ByteArray := prog_1_method_6_code
def y_L_word : MethodName := ⟨"DrawCommandsLaw", "word", "(LDrawCommands;II[J)I"⟩
abbrev b_L_word : ByteArray := method_3_code
def y_D_word : MethodName := ⟨"DrawCommands", "word", "(II)I"⟩
abbrev b_D_word : ByteArray := prog_1_method_2_code
def y_L_frame : MethodName := ⟨"DrawCommandsLaw", "frame", "(LDrawCommands;II)I"⟩
abbrev b_L_frame : ByteArray := method_4_code
def y_D_frame : MethodName := ⟨"DrawCommands", "frame", "(II)V"⟩
abbrev b_D_frame : ByteArray := prog_1_method_3_code
def y_L_put : MethodName := ⟨"DrawCommandsLaw", "put", "(LDrawCommands;I[J)I"⟩
abbrev b_L_put : ByteArray := method_5_code
def y_D_put : MethodName := ⟨"DrawCommands", "put", "(I)I"⟩
abbrev b_D_put : ByteArray := prog_1_method_4_code
def y_L_next : MethodName := ⟨"DrawCommandsLaw", "next", "(LDrawCommands;[J)I"⟩
abbrev b_L_next : ByteArray := method_6_code
def y_D_next : MethodName := ⟨"DrawCommands", "next", "()I"⟩
abbrev b_D_next : ByteArray := prog_1_method_7_code
def y_R_arrive : MethodName := ⟨"DrawCommands$Run", "arrive", "()V"⟩
abbrev b_R_arrive : ByteArray := prog_3_method_3_code
def y_D_refusalHere : MethodName := ⟨"DrawCommands", "refusalHere", "()I"⟩
abbrev b_D_refusalHere : ByteArray := prog_1_method_12_code
def y_D_readCommand : MethodName := ⟨"DrawCommands", "readCommand", "()I"⟩
abbrev b_D_readCommand : ByteArray := prog_1_method_13_code
def y_D_sourceLength : MethodName := ⟨"DrawCommands", "sourceLength", "()I"⟩
abbrev b_D_sourceLength : ByteArray := prog_1_method_16_code
def y_D_readBeyondTheEnd : MethodName := ⟨"DrawCommands", "readBeyondTheEnd", "()I"⟩
abbrev b_D_readBeyondTheEnd : ByteArray := prog_1_method_14_code
def y_D_sourceWord : MethodName := ⟨"DrawCommands", "sourceWord", "(I)I"⟩
abbrev b_D_sourceWord : ByteArray := prog_1_method_17_code
def y_D_argumentsHere : MethodName := ⟨"DrawCommands", "argumentsHere", "(I)I"⟩
abbrev b_D_argumentsHere : ByteArray := prog_1_method_15_code
def y_J_min : MethodName := ⟨"java/lang/Math", "min", "(II)I"⟩
abbrev b_J_min : ByteArray := prog_12_method_69_code
def y_C_tell : MethodName := ⟨"DrawCommands$Command", "tell", "(II)V"⟩
abbrev b_C_tell : ByteArray := prog_2_method_4_code
def y_C_valuesMayBe : MethodName := ⟨"DrawCommands$Command", "valuesMayBe", "()Z"⟩
abbrev b_C_valuesMayBe : ByteArray := prog_2_method_6_code
def y_C_at : MethodName := ⟨"DrawCommands$Command", "at", "(I)I"⟩
abbrev b_C_at : ByteArray := prog_2_method_5_code
def y_S_mayBe : MethodName := ⟨"DrawCommands$Shape", "mayBe", "(III)Z"⟩
abbrev b_S_mayBe : ByteArray := prog_4_method_5_code
def y_D_placesAreThere : MethodName := ⟨"DrawCommands", "placesAreThere", "()Z"⟩
abbrev b_D_placesAreThere : ByteArray := prog_1_method_18_code
def y_D_inMemory : MethodName := ⟨"DrawCommands", "inMemory", "(II)Z"⟩
abbrev b_D_inMemory : ByteArray := prog_1_method_19_code
def y_D_stateAllows : MethodName := ⟨"DrawCommands", "stateAllows", "()Z"⟩
abbrev b_D_stateAllows : ByteArray := prog_1_method_20_code
def y_T_hasProgram : MethodName := ⟨"DrawCommands$Told", "hasProgram", "(I)Z"⟩
abbrev b_T_hasProgram : ByteArray := prog_5_method_7_code
def y_T_at : MethodName := ⟨"DrawCommands$Told", "at", "(III)I"⟩
abbrev b_T_at : ByteArray := prog_5_method_5_code
def y_R_refuse : MethodName := ⟨"DrawCommands$Run", "refuse", "(I)V"⟩
abbrev b_R_refuse : ByteArray := prog_3_method_4_code
def y_D_carryOut : MethodName := ⟨"DrawCommands", "carryOut", "()V"⟩
abbrev b_D_carryOut : ByteArray := prog_1_method_21_code
def y_R_passOver : MethodName := ⟨"DrawCommands$Run", "passOver", "(I)V"⟩
abbrev b_R_passOver : ByteArray := prog_3_method_5_code
def y_R_leave : MethodName := ⟨"DrawCommands$Run", "leave", "()V"⟩
abbrev b_R_leave : ByteArray := prog_3_method_7_code
def y_D_keepUniforms : MethodName := ⟨"DrawCommands", "keepUniforms", "()V"⟩
abbrev b_D_keepUniforms : ByteArray := prog_1_method_22_code
def y_T_set : MethodName := ⟨"DrawCommands$Told", "set", "(IIII)V"⟩
abbrev b_T_set : ByteArray := prog_5_method_6_code
def y_D_storeWords : MethodName := ⟨"DrawCommands", "storeWords", "()V"⟩
abbrev b_D_storeWords : ByteArray := prog_1_method_23_code
def y_R_enter : MethodName := ⟨"DrawCommands$Run", "enter", "(I)V"⟩
abbrev b_R_enter : ByteArray := prog_3_method_6_code
def y_T_keep : MethodName := ⟨"DrawCommands$Told", "keep", "(LDrawCommands$Command;)V"⟩
abbrev b_T_keep : ByteArray := prog_5_method_4_code
def y_L_argument : MethodName := ⟨"DrawCommandsLaw", "argument", "(LDrawCommands;I[J)I"⟩
abbrev b_L_argument : ByteArray := method_7_code
def y_D_argument : MethodName := ⟨"DrawCommands", "argument", "(I)I"⟩
abbrev b_D_argument : ByteArray := prog_1_method_8_code
def y_L_kept : MethodName := ⟨"DrawCommandsLaw", "kept", "(LDrawCommands;III[J)I"⟩
abbrev b_L_kept : ByteArray := method_8_code
def y_D_kept : MethodName := ⟨"DrawCommands", "kept", "(III)I"⟩
abbrev b_D_kept : ByteArray := prog_1_method_9_code
def y_L_about : MethodName := ⟨"DrawCommandsLaw", "about", "(LDrawCommands;I[J)I"⟩
abbrev b_L_about : ByteArray := method_9_code
def y_D_about : MethodName := ⟨"DrawCommands", "about", "(I)I"⟩
abbrev b_D_about : ByteArray := prog_1_method_10_code
def y_M_init : MethodName := ⟨"DrawCommandsModel", "<init>", "()V"⟩
abbrev b_M_init : ByteArray := prog_7_method_1_code
def y_M_nothingTold : MethodName := ⟨"DrawCommandsModel", "nothingTold", "()V"⟩
abbrev b_M_nothingTold : ByteArray := prog_7_method_13_code
def y_M_many : MethodName := ⟨"DrawCommandsModel", "many", "(I)I"⟩
abbrev b_M_many : ByteArray := prog_7_method_11_code
def y_M_rowOf : MethodName := ⟨"DrawCommandsModel", "rowOf", "(II)I"⟩
abbrev b_M_rowOf : ByteArray := prog_7_method_12_code
def y_M_count : MethodName := ⟨"DrawCommandsModel", "count", "(I)I"⟩
abbrev b_M_count : ByteArray := prog_7_method_5_code
def y_M_thrown : MethodName := ⟨"DrawCommandsModel", "thrown", "()I"⟩
abbrev b_M_thrown : ByteArray := prog_7_method_2_code
def y_M_word : MethodName := ⟨"DrawCommandsModel", "word", "(II)I"⟩
abbrev b_M_word : ByteArray := prog_7_method_14_code
def y_M_in : MethodName := ⟨"DrawCommandsModel", "in", "(JJJ)Z"⟩
abbrev b_M_in : ByteArray := prog_7_method_4_code
def y_M_refuse : MethodName := ⟨"DrawCommandsModel", "refuse", "(Z)Z"⟩
abbrev b_M_refuse : ByteArray := prog_7_method_3_code
def y_M_frame : MethodName := ⟨"DrawCommandsModel", "frame", "(II)V"⟩
abbrev b_M_frame : ByteArray := prog_7_method_15_code
def y_M_put : MethodName := ⟨"DrawCommandsModel", "put", "(I)I"⟩
abbrev b_M_put : ByteArray := prog_7_method_16_code
def y_M_clear : MethodName := ⟨"DrawCommandsModel", "clear", "()V"⟩
abbrev b_M_clear : ByteArray := prog_7_method_18_code
def y_M_anew : MethodName := ⟨"DrawCommandsModel", "anew", "()V"⟩
abbrev b_M_anew : ByteArray := prog_7_method_17_code
def y_M_begin : MethodName := ⟨"DrawCommandsModel", "begin", "(Z)V"⟩
abbrev b_M_begin : ByteArray := prog_7_method_19_code
def y_M_next : MethodName := ⟨"DrawCommandsModel", "next", "()I"⟩
abbrev b_M_next : ByteArray := prog_7_method_27_code
def y_M_look : MethodName := ⟨"DrawCommandsModel", "look", "()I"⟩
abbrev b_M_look : ByteArray := prog_7_method_26_code
def y_M_isThere : MethodName := ⟨"DrawCommandsModel", "isThere", "(I)Z"⟩
abbrev b_M_isThere : ByteArray := prog_7_method_20_code
def y_M_read : MethodName := ⟨"DrawCommandsModel", "read", "(I)I"⟩
abbrev b_M_read : ByteArray := prog_7_method_21_code
def y_M_length : MethodName := ⟨"DrawCommandsModel", "length", "(I)I"⟩
abbrev b_M_length : ByteArray := prog_7_method_22_code
def y_M_may : MethodName := ⟨"DrawCommandsModel", "may", "(III)Z"⟩
abbrev b_M_may : ByteArray := prog_7_method_10_code
def y_M_isViews : MethodName := ⟨"DrawCommandsModel", "isViews", "(II)Z"⟩
abbrev b_M_isViews : ByteArray := prog_7_method_6_code
def y_M_isTextures : MethodName := ⟨"DrawCommandsModel", "isTextures", "(II)Z"⟩
abbrev b_M_isTextures : ByteArray := prog_7_method_8_code
def y_M_isStencils : MethodName := ⟨"DrawCommandsModel", "isStencils", "(II)Z"⟩
abbrev b_M_isStencils : ByteArray := prog_7_method_7_code
def y_M_isCopys : MethodName := ⟨"DrawCommandsModel", "isCopys", "(II)Z"⟩
abbrev b_M_isCopys : ByteArray := prog_7_method_9_code
def y_M_liesRight : MethodName := ⟨"DrawCommandsModel", "liesRight", "(I)Z"⟩
abbrev b_M_liesRight : ByteArray := prog_7_method_24_code
def y_M_isInMemory : MethodName := ⟨"DrawCommandsModel", "isInMemory", "(JJ)Z"⟩
abbrev b_M_isInMemory : ByteArray := prog_7_method_23_code
def y_M_fitsState : MethodName := ⟨"DrawCommandsModel", "fitsState", "(I)Z"⟩
abbrev b_M_fitsState : ByteArray := prog_7_method_25_code
def y_M_perform : MethodName := ⟨"DrawCommandsModel", "perform", "(I)V"⟩
abbrev b_M_perform : ByteArray := prog_7_method_28_code
def y_M_keep : MethodName := ⟨"DrawCommandsModel", "keep", "(I)V"⟩
abbrev b_M_keep : ByteArray := prog_7_method_29_code
def y_M_argument : MethodName := ⟨"DrawCommandsModel", "argument", "(I)I"⟩
abbrev b_M_argument : ByteArray := prog_7_method_30_code
def y_M_kept : MethodName := ⟨"DrawCommandsModel", "kept", "(III)I"⟩
abbrev b_M_kept : ByteArray := prog_7_method_31_code
def y_M_about : MethodName := ⟨"DrawCommandsModel", "about", "(I)I"⟩
abbrev b_M_about : ByteArray := prog_7_method_32_code
def y_L_law : MethodName := ⟨"DrawCommandsLaw", "law", "([I)Z"⟩
abbrev b_L_law : ByteArray := code
abbrev TB : List Cond := lw_tbl.filter goodWord
theorem TB_in : ∀ w ∈ TB, w ∈ lw_tbl := fun _ h => (List.mem_filter.mp h).1
theorem tb_0 (i : Nat) {w : Cond} (h : (k2_sels lw_privs)[i]? = some w) (hg : goodWord w = true) : w ∈ TB := List.mem_filter.mpr ⟨List.mem_append_left _ (List.mem_of_getElem? h), hg⟩
theorem tb_1 (i : Nat) {w : Cond} (h : tables_1_1[i]? = some w) (hg : goodWord w = true) : w ∈ TB := List.mem_filter.mpr ⟨List.mem_append_right _ (show w ∈ tables_1 from List.mem_append_left _ (List.mem_of_getElem? h)), hg⟩
theorem tb_2 (i : Nat) {w : Cond} (h : tables_1_2[i]? = some w) (hg : goodWord w = true) : w ∈ TB := List.mem_filter.mpr ⟨List.mem_append_right _ (show w ∈ tables_1 from List.mem_append_right _ (List.mem_append_left _ (List.mem_of_getElem? h))), hg⟩
theorem tb_3 (i : Nat) {w : Cond} (h : tables_1_3[i]? = some w) (hg : goodWord w = true) : w ∈ TB := List.mem_filter.mpr ⟨List.mem_append_right _ (show w ∈ tables_1 from List.mem_append_right _ (List.mem_append_right _ (List.mem_of_getElem? h))), hg⟩
theorem tb_gI {d : Cond} (h : d ∈ TB) : GoodIn TB (d :: TB) := fun w hw => by
  have hm : w ∈ TB := (List.mem_cons.mp hw).elim (fun e => e ▸ h) id
  exact ⟨hm, good_of_word (List.mem_filter.mp hm).2⟩
theorem tb_gL {d : Cond} (h : d ∈ TB) : GoodIn lw_tbl (d :: TB) := fun w hw => ⟨TB_in w (tb_gI h w hw).1, (tb_gI h w hw).2⟩
end
section
theorem tw_0 : (.selects "DrawCommands$Told" y_T_forgetOne y_T_forgetOne : Cond) ∈ TB := tb_0 0 rfl rfl
theorem tw_1 : (.selects "DrawCommands$Told" y_T_placeOf y_T_placeOf : Cond) ∈ TB := tb_0 1 rfl rfl
theorem tw_2 : (.selects "DrawCommands" y_D_startAnew y_D_startAnew : Cond) ∈ TB := tb_0 2 rfl rfl
theorem tw_4 : (.selects "DrawCommands" y_D_refusalHere y_D_refusalHere : Cond) ∈ TB := tb_0 4 rfl rfl
theorem tw_5 : (.selects "DrawCommands" y_D_readCommand y_D_readCommand : Cond) ∈ TB := tb_0 5 rfl rfl
theorem tw_6 : (.selects "DrawCommands" y_D_sourceLength y_D_sourceLength : Cond) ∈ TB := tb_0 6 rfl rfl
theorem tw_7 : (.selects "DrawCommands" y_D_readBeyondTheEnd y_D_readBeyondTheEnd : Cond) ∈ TB := tb_0 7 rfl rfl
theorem tw_8 : (.selects "DrawCommands" y_D_sourceWord y_D_sourceWord : Cond) ∈ TB := tb_0 8 rfl rfl
theorem tw_9 : (.selects "DrawCommands" y_D_argumentsHere y_D_argumentsHere : Cond) ∈ TB := tb_0 9 rfl rfl
theorem tw_10 : (.selects "DrawCommands" y_D_placesAreThere y_D_placesAreThere : Cond) ∈ TB := tb_0 10 rfl rfl
theorem tw_11 : (.selects "DrawCommands" y_D_stateAllows y_D_stateAllows : Cond) ∈ TB := tb_0 11 rfl rfl
theorem tw_12 : (.selects "DrawCommands" y_D_carryOut y_D_carryOut : Cond) ∈ TB := tb_0 12 rfl rfl
theorem tw_13 : (.selects "DrawCommands" y_D_keepUniforms y_D_keepUniforms : Cond) ∈ TB := tb_0 13 rfl rfl
theorem tw_14 : (.selects "DrawCommands" y_D_storeWords y_D_storeWords : Cond) ∈ TB := tb_0 14 rfl rfl
theorem tw_15 : (.selects "DrawCommandsModel" y_M_nothingTold y_M_nothingTold : Cond) ∈ TB := tb_0 15 rfl rfl
theorem tw_16 : (.selects "DrawCommandsModel" y_M_refuse y_M_refuse : Cond) ∈ TB := tb_0 16 rfl rfl
theorem tw_17 : (.selects "DrawCommandsModel" y_M_anew y_M_anew : Cond) ∈ TB := tb_0 17 rfl rfl
theorem tw_18 : (.selects "DrawCommandsModel" y_M_look y_M_look : Cond) ∈ TB := tb_0 18 rfl rfl
theorem tw_19 : (.selects "DrawCommandsModel" y_M_isThere y_M_isThere : Cond) ∈ TB := tb_0 19 rfl rfl
theorem tw_20 : (.selects "DrawCommandsModel" y_M_read y_M_read : Cond) ∈ TB := tb_0 20 rfl rfl
theorem tw_21 : (.selects "DrawCommandsModel" y_M_length y_M_length : Cond) ∈ TB := tb_0 21 rfl rfl
theorem tw_22 : (.selects "DrawCommandsModel" y_M_liesRight y_M_liesRight : Cond) ∈ TB := tb_0 22 rfl rfl
theorem tw_23 : (.selects "DrawCommandsModel" y_M_isInMemory y_M_isInMemory : Cond) ∈ TB := tb_0 23 rfl rfl
theorem tw_24 : (.selects "DrawCommandsModel" y_M_fitsState y_M_fitsState : Cond) ∈ TB := tb_0 24 rfl rfl
theorem tw_25 : (.selects "DrawCommandsModel" y_M_perform y_M_perform : Cond) ∈ TB := tb_0 25 rfl rfl
theorem tw_26 : (.selects "DrawCommandsModel" y_M_keep y_M_keep : Cond) ∈ TB := tb_0 26 rfl rfl
theorem tw_27 : (.initialized "DrawCommandsLaw" : Cond) ∈ TB := tb_1 0 rfl rfl
theorem tw_28 : (.initialized "DrawCommands" : Cond) ∈ TB := tb_1 1 rfl rfl
theorem tw_29 : (.initialized "DrawCommands$Told" : Cond) ∈ TB := tb_1 2 rfl rfl
theorem tw_30 : (.initialized "DrawCommands$Shape" : Cond) ∈ TB := tb_1 3 rfl rfl
theorem tw_31 : (.initialized "java/lang/Math" : Cond) ∈ TB := tb_1 4 rfl rfl
theorem tw_32 : (.initialized "DrawCommands$Command" : Cond) ∈ TB := tb_1 5 rfl rfl
theorem tw_33 : (.initialized "DrawCommands$Run" : Cond) ∈ TB := tb_1 6 rfl rfl
theorem tw_34 : (.initialized "DrawCommandsModel" : Cond) ∈ TB := tb_1 7 rfl rfl
theorem tw_35 : (.initialized "java/lang/Throwable" : Cond) ∈ TB := tb_1 8 rfl rfl
theorem tw_36 : (.initialized "java/lang/Exception" : Cond) ∈ TB := tb_1 9 rfl rfl
theorem tw_37 : (.initialized "java/lang/RuntimeException" : Cond) ∈ TB := tb_1 10 rfl rfl
theorem tw_38 : (.initialized "java/lang/IndexOutOfBoundsException" : Cond) ∈ TB := tb_1 11 rfl rfl
theorem tw_39 : (.initialized "java/lang/IllegalArgumentException" : Cond) ∈ TB := tb_1 12 rfl rfl
theorem tw_40 : (.initialized "java/lang/UnsupportedOperationException" : Cond) ∈ TB := tb_1 13 rfl rfl
theorem tw_41 : (.initialized "java/lang/IllegalStateException" : Cond) ∈ TB := tb_1 14 rfl rfl
theorem tw_42 : (.classLink "DrawCommandsLaw" 8 "DrawCommands" : Cond) ∈ TB := tb_1 15 rfl rfl
theorem tw_43 : (.instantiable "DrawCommands" 8 : Cond) ∈ TB := tb_1 16 rfl rfl
theorem tw_44 : (.methodLink "DrawCommandsLaw" 43 y_D_init : Cond) ∈ TB := tb_1 17 rfl rfl
theorem tw_45 : (.instanceMethod y_D_init : Cond) ∈ TB := tb_1 18 rfl rfl
theorem tw_46 : (.code y_D_init prog_1_method_1_code 1 (Option.none : Option Jvm.ClassFile.FieldType) : Cond) ∈ TB := tb_1 19 rfl rfl
theorem tw_47 : (.methodLink "DrawCommands" 1 objectInit : Cond) ∈ TB := tb_1 20 rfl rfl
theorem tw_48 : (.instanceMethod objectInit : Cond) ∈ TB := tb_1 21 rfl rfl
theorem tw_49 : (.code objectInit object_method_1_code 1 (Option.none : Option Jvm.ClassFile.FieldType) : Cond) ∈ TB := tb_1 22 rfl rfl
theorem tw_50 : (.classLink "DrawCommands" 16 "DrawCommands$Told" : Cond) ∈ TB := tb_1 23 rfl rfl
theorem tw_51 : (.instantiable "DrawCommands$Told" 2 : Cond) ∈ TB := tb_1 24 rfl rfl
theorem tw_52 : (.methodLink "DrawCommands" 18 y_T_init : Cond) ∈ TB := tb_1 25 rfl rfl
theorem tw_53 : (.instanceMethod y_T_init : Cond) ∈ TB := tb_1 26 rfl rfl
theorem tw_54 : (.code y_T_init prog_5_method_1_code 3 (Option.none : Option Jvm.ClassFile.FieldType) : Cond) ∈ TB := tb_1 27 rfl rfl
theorem tw_55 : (.methodLink "DrawCommands$Told" 3 objectInit : Cond) ∈ TB := tb_1 28 rfl rfl
theorem tw_57 : (.static y_D_write : Cond) ∈ TB := tb_1 30 rfl rfl
theorem tw_58 : (.code y_D_write prog_1_method_25_code 3 (Option.none : Option Jvm.ClassFile.FieldType) : Cond) ∈ TB := tb_1 31 rfl rfl
theorem tw_59 : (.methodLink "DrawCommands$Told" 21 y_S_holders : Cond) ∈ TB := tb_1 32 rfl rfl
theorem tw_60 : (.static y_S_holders : Cond) ∈ TB := tb_1 33 rfl rfl
theorem tw_61 : (.code y_S_holders prog_4_method_4_code 1 (Option.some Jvm.ClassFile.FieldType.int) : Cond) ∈ TB := tb_1 34 rfl rfl
theorem tw_62 : (.fieldLink "DrawCommands$Shape" 23 "DrawCommands$Shape" "HOLDERS" "[I" : Cond) ∈ TB := tb_1 35 rfl rfl
theorem tw_65 : (.static y_D_read : Cond) ∈ TB := tb_1 38 rfl rfl
theorem tw_66 : (.code y_D_read prog_1_method_24_code 2 (Option.some Jvm.ClassFile.FieldType.int) : Cond) ∈ TB := tb_1 39 rfl rfl
theorem tw_67 : (.methodLink "DrawCommands$Told" 25 y_S_fixed : Cond) ∈ TB := tb_1 40 rfl rfl
theorem tw_68 : (.static y_S_fixed : Cond) ∈ TB := tb_1 41 rfl rfl
theorem tw_69 : (.code y_S_fixed prog_4_method_3_code 1 (Option.some Jvm.ClassFile.FieldType.int) : Cond) ∈ TB := tb_1 42 rfl rfl
theorem tw_70 : (.methodLink "DrawCommands$Shape" 11 y_S_isKind : Cond) ∈ TB := tb_1 43 rfl rfl
theorem tw_71 : (.static y_S_isKind : Cond) ∈ TB := tb_1 44 rfl rfl
theorem tw_72 : (.code y_S_isKind prog_4_method_2_code 1 (Option.some Jvm.ClassFile.FieldType.boolean) : Cond) ∈ TB := tb_1 45 rfl rfl
theorem tw_73 : (.fieldLink "DrawCommands$Shape" 15 "DrawCommands$Shape" "FIRST" "[I" : Cond) ∈ TB := tb_1 46 rfl rfl
theorem tw_75 : (.methodLink "DrawCommands$Told" 28 (⟨"java/lang/Math", "max", "(II)I"⟩ : MethodName) : Cond) ∈ TB := tb_1 48 rfl rfl
theorem tw_76 : (.static (⟨"java/lang/Math", "max", "(II)I"⟩ : MethodName) : Cond) ∈ TB := tb_1 49 rfl rfl
theorem tw_77 : (.code (⟨"java/lang/Math", "max", "(II)I"⟩ : MethodName) prog_12_method_65_code 2 (Option.some Jvm.ClassFile.FieldType.int) : Cond) ∈ TB := tb_1 50 rfl rfl
theorem tw_78 : (.methodLink "DrawCommands$Told" 37 y_T_forget : Cond) ∈ TB := tb_1 51 rfl rfl
theorem tw_79 : (.instanceMethod y_T_forget : Cond) ∈ TB := tb_1 52 rfl rfl
theorem tw_80 : (.selects "DrawCommands$Told" y_T_forget y_T_forget : Cond) ∈ TB := tb_1 53 rfl rfl
theorem tw_81 : (.code y_T_forget prog_5_method_2_code 4 (Option.none : Option Jvm.ClassFile.FieldType) : Cond) ∈ TB := tb_1 54 rfl rfl
theorem tw_82 : (.methodLink "DrawCommands$Told" 40 y_T_forgetOne : Cond) ∈ TB := tb_1 55 rfl rfl
theorem tw_84 : (.instanceMethod y_T_forgetOne : Cond) ∈ TB := tb_1 57 rfl rfl
theorem tw_85 : (.code y_T_forgetOne prog_5_method_3_code 6 (Option.none : Option Jvm.ClassFile.FieldType) : Cond) ∈ TB := tb_1 58 rfl rfl
theorem tw_86 : (.methodLink "DrawCommands$Told" 44 y_T_placeOf : Cond) ∈ TB := tb_1 59 rfl rfl
theorem tw_88 : (.instanceMethod y_T_placeOf : Cond) ∈ TB := tb_1 61 rfl rfl
theorem tw_89 : (.code y_T_placeOf prog_5_method_9_code 4 (Option.some Jvm.ClassFile.FieldType.int) : Cond) ∈ TB := tb_1 62 rfl rfl
theorem tw_91 : (.methodLink "DrawCommands$Told" 48 y_S_untold : Cond) ∈ TB := tb_1 64 rfl rfl
theorem tw_92 : (.static y_S_untold : Cond) ∈ TB := tb_1 65 rfl rfl
theorem tw_93 : (.code y_S_untold prog_4_method_6_code 2 (Option.some Jvm.ClassFile.FieldType.int) : Cond) ∈ TB := tb_1 66 rfl rfl
theorem tw_94 : (.methodLink "DrawCommands$Shape" 26 y_S_column : Cond) ∈ TB := tb_1 67 rfl rfl
theorem tw_95 : (.static y_S_column : Cond) ∈ TB := tb_1 68 rfl rfl
theorem tw_96 : (.code y_S_column prog_4_method_7_code 3 (Option.some Jvm.ClassFile.FieldType.int) : Cond) ∈ TB := tb_1 69 rfl rfl
theorem tw_97 : (.fieldLink "DrawCommands$Shape" 30 "DrawCommands$Shape" "ARGUMENTS" "[I" : Cond) ∈ TB := tb_1 70 rfl rfl
theorem tw_99 : (.methodLink "DrawCommands$Told" 51 y_T_namesItsHolder : Cond) ∈ TB := tb_1 72 rfl rfl
theorem tw_100 : (.static y_T_namesItsHolder : Cond) ∈ TB := tb_1 73 rfl rfl
theorem tw_101 : (.code y_T_namesItsHolder prog_5_method_8_code 1 (Option.some Jvm.ClassFile.FieldType.boolean) : Cond) ∈ TB := tb_1 74 rfl rfl
theorem tw_102 : (.fieldLink "DrawCommands$Told" 11 "DrawCommands$Told" "starts" "[I" : Cond) ∈ TB := tb_1 75 rfl rfl
theorem tw_103 : (.fieldLink "DrawCommands$Told" 34 "DrawCommands$Told" "words" "[I" : Cond) ∈ TB := tb_1 76 rfl rfl
theorem tw_104 : (.laysFinal "DrawCommands$Told" "DrawCommands$Told" "starts" "[I" : Cond) ∈ TB := tb_1 77 rfl rfl
theorem tw_106 : (.laysFinal "DrawCommands$Told" "DrawCommands$Told" "words" "[I" : Cond) ∈ TB := tb_1 79 rfl rfl
theorem tw_109 : (.arrayClass Jvm.ClassFile.FieldType.int : Cond) ∈ TB := tb_1 82 rfl rfl
theorem tw_110 : (.classLink "DrawCommands" 23 "DrawCommands$Command" : Cond) ∈ TB := tb_1 83 rfl rfl
theorem tw_111 : (.instantiable "DrawCommands$Command" 3 : Cond) ∈ TB := tb_1 84 rfl rfl
theorem tw_112 : (.methodLink "DrawCommands" 25 y_C_init : Cond) ∈ TB := tb_1 85 rfl rfl
theorem tw_113 : (.instanceMethod y_C_init : Cond) ∈ TB := tb_1 86 rfl rfl
theorem tw_114 : (.code y_C_init prog_2_method_1_code 1 (Option.none : Option Jvm.ClassFile.FieldType) : Cond) ∈ TB := tb_1 87 rfl rfl
theorem tw_115 : (.methodLink "DrawCommands$Command" 3 objectInit : Cond) ∈ TB := tb_1 88 rfl rfl
theorem tw_116 : (.fieldLink "DrawCommands$Command" 9 "DrawCommands$Command" "words" "[I" : Cond) ∈ TB := tb_1 89 rfl rfl
theorem tw_117 : (.fieldLink "DrawCommands$Command" 15 "DrawCommands$Command" "kind" "I" : Cond) ∈ TB := tb_1 90 rfl rfl
theorem tw_120 : (.fieldLink "DrawCommands$Command" 19 "DrawCommands$Command" "many" "I" : Cond) ∈ TB := tb_1 93 rfl rfl
theorem tw_123 : (.laysFinal "DrawCommands$Command" "DrawCommands$Command" "words" "[I" : Cond) ∈ TB := tb_1 96 rfl rfl
theorem tw_125 : (.lays "DrawCommands$Command" "DrawCommands$Command" "kind" "I" : Cond) ∈ TB := tb_1 98 rfl rfl
theorem tw_127 : (.lays "DrawCommands$Command" "DrawCommands$Command" "many" "I" : Cond) ∈ TB := tb_1 100 rfl rfl
theorem tw_130 : (.classLink "DrawCommands" 30 "DrawCommands$Run" : Cond) ∈ TB := tb_1 103 rfl rfl
theorem tw_131 : (.instantiable "DrawCommands$Run" 9 : Cond) ∈ TB := tb_1 104 rfl rfl
theorem tw_132 : (.methodLink "DrawCommands" 32 y_R_init : Cond) ∈ TB := tb_1 105 rfl rfl
theorem tw_133 : (.instanceMethod y_R_init : Cond) ∈ TB := tb_1 106 rfl rfl
theorem tw_134 : (.code y_R_init prog_3_method_1_code 1 (Option.none : Option Jvm.ClassFile.FieldType) : Cond) ∈ TB := tb_1 107 rfl rfl
theorem tw_135 : (.methodLink "DrawCommands$Run" 3 objectInit : Cond) ∈ TB := tb_1 108 rfl rfl
theorem tw_136 : (.methodLink "DrawCommands$Run" 15 y_R_restart : Cond) ∈ TB := tb_1 109 rfl rfl
theorem tw_137 : (.instanceMethod y_R_restart : Cond) ∈ TB := tb_1 110 rfl rfl
theorem tw_138 : (.selects "DrawCommands$Run" y_R_restart y_R_restart : Cond) ∈ TB := tb_1 111 rfl rfl
theorem tw_139 : (.code y_R_restart prog_3_method_2_code 1 (Option.none : Option Jvm.ClassFile.FieldType) : Cond) ∈ TB := tb_1 112 rfl rfl
theorem tw_140 : (.fieldLink "DrawCommands$Run" 9 "DrawCommands$Run" "backs" "[I" : Cond) ∈ TB := tb_1 113 rfl rfl
theorem tw_141 : (.fieldLink "DrawCommands$Run" 18 "DrawCommands$Run" "place" "I" : Cond) ∈ TB := tb_1 114 rfl rfl
theorem tw_143 : (.fieldLink "DrawCommands$Run" 22 "DrawCommands$Run" "depth" "I" : Cond) ∈ TB := tb_1 116 rfl rfl
theorem tw_145 : (.fieldLink "DrawCommands$Run" 25 "DrawCommands$Run" "lastPlace" "I" : Cond) ∈ TB := tb_1 118 rfl rfl
theorem tw_147 : (.fieldLink "DrawCommands$Run" 28 "DrawCommands$Run" "lastDepth" "I" : Cond) ∈ TB := tb_1 120 rfl rfl
theorem tw_149 : (.fieldLink "DrawCommands$Run" 31 "DrawCommands$Run" "done" "I" : Cond) ∈ TB := tb_1 122 rfl rfl
theorem tw_151 : (.fieldLink "DrawCommands$Run" 34 "DrawCommands$Run" "refusal" "I" : Cond) ∈ TB := tb_1 124 rfl rfl
theorem tw_153 : (.fieldLink "DrawCommands$Run" 37 "DrawCommands$Run" "query" "I" : Cond) ∈ TB := tb_1 126 rfl rfl
theorem tw_155 : (.fieldLink "DrawCommands$Run" 40 "DrawCommands$Run" "over" "Z" : Cond) ∈ TB := tb_1 128 rfl rfl
theorem tw_157 : (.laysFinal "DrawCommands$Run" "DrawCommands$Run" "backs" "[I" : Cond) ∈ TB := tb_1 130 rfl rfl
theorem tw_159 : (.lays "DrawCommands$Run" "DrawCommands$Run" "place" "I" : Cond) ∈ TB := tb_1 132 rfl rfl
theorem tw_161 : (.lays "DrawCommands$Run" "DrawCommands$Run" "depth" "I" : Cond) ∈ TB := tb_1 134 rfl rfl
theorem tw_163 : (.lays "DrawCommands$Run" "DrawCommands$Run" "lastPlace" "I" : Cond) ∈ TB := tb_1 136 rfl rfl
theorem tw_165 : (.lays "DrawCommands$Run" "DrawCommands$Run" "lastDepth" "I" : Cond) ∈ TB := tb_1 138 rfl rfl
theorem tw_167 : (.lays "DrawCommands$Run" "DrawCommands$Run" "done" "I" : Cond) ∈ TB := tb_1 140 rfl rfl
theorem tw_169 : (.lays "DrawCommands$Run" "DrawCommands$Run" "refusal" "I" : Cond) ∈ TB := tb_1 142 rfl rfl
theorem tw_171 : (.lays "DrawCommands$Run" "DrawCommands$Run" "query" "I" : Cond) ∈ TB := tb_1 144 rfl rfl
theorem tw_173 : (.lays "DrawCommands$Run" "DrawCommands$Run" "over" "Z" : Cond) ∈ TB := tb_1 146 rfl rfl
theorem tw_176 : (.fieldLink "DrawCommands" 9 "DrawCommands" "memory" "[I" : Cond) ∈ TB := tb_1 149 rfl rfl
theorem tw_177 : (.fieldLink "DrawCommands" 13 "DrawCommands" "stream" "[I" : Cond) ∈ TB := tb_1 150 rfl rfl
theorem tw_178 : (.fieldLink "DrawCommands" 19 "DrawCommands" "told" "LDrawCommands$Told;" : Cond) ∈ TB := tb_1 151 rfl rfl
theorem tw_179 : (.fieldLink "DrawCommands" 26 "DrawCommands" "command" "LDrawCommands$Command;" : Cond) ∈ TB := tb_1 152 rfl rfl
theorem tw_180 : (.fieldLink "DrawCommands" 33 "DrawCommands" "run" "LDrawCommands$Run;" : Cond) ∈ TB := tb_1 153 rfl rfl
theorem tw_181 : (.fieldLink "DrawCommands" 37 "DrawCommands" "streamLength" "I" : Cond) ∈ TB := tb_1 154 rfl rfl
theorem tw_182 : (.fieldLink "DrawCommands" 41 "DrawCommands" "frameWide" "I" : Cond) ∈ TB := tb_1 155 rfl rfl
theorem tw_183 : (.fieldLink "DrawCommands" 44 "DrawCommands" "frameHigh" "I" : Cond) ∈ TB := tb_1 156 rfl rfl
theorem tw_184 : (.laysFinal "DrawCommands" "DrawCommands" "memory" "[I" : Cond) ∈ TB := tb_1 157 rfl rfl
theorem tw_186 : (.laysFinal "DrawCommands" "DrawCommands" "stream" "[I" : Cond) ∈ TB := tb_1 159 rfl rfl
theorem tw_188 : (.laysFinal "DrawCommands" "DrawCommands" "told" "LDrawCommands$Told;" : Cond) ∈ TB := tb_1 161 rfl rfl
theorem tw_190 : (.laysFinal "DrawCommands" "DrawCommands" "command" "LDrawCommands$Command;" : Cond) ∈ TB := tb_1 163 rfl rfl
theorem tw_192 : (.laysFinal "DrawCommands" "DrawCommands" "run" "LDrawCommands$Run;" : Cond) ∈ TB := tb_1 165 rfl rfl
theorem tw_194 : (.lays "DrawCommands" "DrawCommands" "streamLength" "I" : Cond) ∈ TB := tb_1 167 rfl rfl
theorem tw_196 : (.lays "DrawCommands" "DrawCommands" "frameWide" "I" : Cond) ∈ TB := tb_1 169 rfl rfl
theorem tw_198 : (.lays "DrawCommands" "DrawCommands" "frameHigh" "I" : Cond) ∈ TB := tb_1 171 rfl rfl
theorem tw_201 : (.methodLink "DrawCommandsLaw" 64 y_D_clear : Cond) ∈ TB := tb_1 174 rfl rfl
theorem tw_202 : (.instanceMethod y_D_clear : Cond) ∈ TB := tb_1 175 rfl rfl
theorem tw_203 : (.selects "DrawCommands" y_D_clear y_D_clear : Cond) ∈ TB := tb_1 176 rfl rfl
theorem tw_204 : (.code y_D_clear prog_1_method_5_code 1 (Option.none : Option Jvm.ClassFile.FieldType) : Cond) ∈ TB := tb_1 177 rfl rfl
theorem tw_205 : (.methodLink "DrawCommands" 72 y_D_startAnew : Cond) ∈ TB := tb_1 178 rfl rfl
theorem tw_207 : (.instanceMethod y_D_startAnew : Cond) ∈ TB := tb_1 180 rfl rfl
theorem tw_208 : (.code y_D_startAnew prog_1_method_11_code 1 (Option.none : Option Jvm.ClassFile.FieldType) : Cond) ∈ TB := tb_1 181 rfl rfl
theorem tw_209 : (.methodLink "DrawCommands" 94 y_C_forget : Cond) ∈ TB := tb_1 182 rfl rfl
theorem tw_210 : (.instanceMethod y_C_forget : Cond) ∈ TB := tb_1 183 rfl rfl
theorem tw_211 : (.selects "DrawCommands$Command" y_C_forget y_C_forget : Cond) ∈ TB := tb_1 184 rfl rfl
theorem tw_212 : (.code y_C_forget prog_2_method_2_code 1 (Option.none : Option Jvm.ClassFile.FieldType) : Cond) ∈ TB := tb_1 185 rfl rfl
theorem tw_213 : (.methodLink "DrawCommands$Command" 22 y_C_become : Cond) ∈ TB := tb_1 186 rfl rfl
theorem tw_214 : (.instanceMethod y_C_become : Cond) ∈ TB := tb_1 187 rfl rfl
theorem tw_215 : (.selects "DrawCommands$Command" y_C_become y_C_become : Cond) ∈ TB := tb_1 188 rfl rfl
theorem tw_216 : (.code y_C_become prog_2_method_3_code 3 (Option.none : Option Jvm.ClassFile.FieldType) : Cond) ∈ TB := tb_1 189 rfl rfl
theorem tw_217 : (.methodLink "DrawCommands" 144 y_R_restart : Cond) ∈ TB := tb_1 190 rfl rfl
theorem tw_218 : (.methodLink "DrawCommandsLaw" 68 y_D_begin : Cond) ∈ TB := tb_1 191 rfl rfl
theorem tw_219 : (.instanceMethod y_D_begin : Cond) ∈ TB := tb_1 192 rfl rfl
theorem tw_220 : (.selects "DrawCommands" y_D_begin y_D_begin : Cond) ∈ TB := tb_1 193 rfl rfl
theorem tw_221 : (.code y_D_begin prog_1_method_6_code 2 (Option.none : Option Jvm.ClassFile.FieldType) : Cond) ∈ TB := tb_1 194 rfl rfl
theorem tw_222 : (.methodLink "DrawCommands" 75 y_T_forget : Cond) ∈ TB := tb_1 195 rfl rfl
theorem tw_223 : (.methodLink "DrawCommandsLaw" 47 y_L_word : Cond) ∈ TB := tb_1 196 rfl rfl
theorem tw_224 : (.static y_L_word : Cond) ∈ TB := tb_1 197 rfl rfl
theorem tw_226 : (.classLink "DrawCommandsLaw" 13 "java/lang/IndexOutOfBoundsException" : Cond) ∈ TB := tb_1 199 rfl rfl
theorem tw_227 : (.methodLink "DrawCommandsLaw" 7 y_D_word : Cond) ∈ TB := tb_1 200 rfl rfl
theorem tw_228 : (.instanceMethod y_D_word : Cond) ∈ TB := tb_1 201 rfl rfl
theorem tw_229 : (.selects "DrawCommands" y_D_word y_D_word : Cond) ∈ TB := tb_1 202 rfl rfl
theorem tw_230 : (.code y_D_word prog_1_method_2_code 4 (Option.some Jvm.ClassFile.FieldType.int) : Cond) ∈ TB := tb_1 203 rfl rfl
theorem tw_231 : (.classLink "DrawCommands" 47 "java/lang/IndexOutOfBoundsException" : Cond) ∈ TB := tb_1 204 rfl rfl
theorem tw_232 : (.instantiable "java/lang/IndexOutOfBoundsException" 6 : Cond) ∈ TB := tb_1 205 rfl rfl
theorem tw_242 : (.lays "java/lang/IndexOutOfBoundsException" "java/lang/Throwable" "cause" "Ljava/lang/Throwable;" : Cond) ∈ TB := tb_1 215 rfl rfl
theorem tw_243 : (.lays "java/lang/Throwable" "java/lang/Throwable" "cause" "Ljava/lang/Throwable;" : Cond) ∈ TB := tb_1 216 rfl rfl
theorem tw_244 : (.lays "java/lang/IndexOutOfBoundsException" "java/lang/Throwable" "stackTrace" "[Ljava/lang/StackTraceElement;" : Cond) ∈ TB := tb_1 217 rfl rfl
theorem tw_245 : (.lays "java/lang/Throwable" "java/lang/Throwable" "stackTrace" "[Ljava/lang/StackTraceElement;" : Cond) ∈ TB := tb_1 218 rfl rfl
theorem tw_246 : (.lays "java/lang/IndexOutOfBoundsException" "java/lang/Throwable" "suppressedExceptions" "Ljava/util/List;" : Cond) ∈ TB := tb_1 219 rfl rfl
theorem tw_247 : (.lays "java/lang/Throwable" "java/lang/Throwable" "suppressedExceptions" "Ljava/util/List;" : Cond) ∈ TB := tb_1 220 rfl rfl
theorem tw_248 : (.lays "java/lang/IndexOutOfBoundsException" "java/lang/Throwable" "detailMessage" "Ljava/lang/String;" : Cond) ∈ TB := tb_1 221 rfl rfl
theorem tw_249 : (.lays "java/lang/Throwable" "java/lang/Throwable" "detailMessage" "Ljava/lang/String;" : Cond) ∈ TB := tb_1 222 rfl rfl
theorem tw_250 : (.lays "java/lang/IndexOutOfBoundsException" "java/lang/Throwable" "backtrace" "Ljava/lang/Object;" : Cond) ∈ TB := tb_1 223 rfl rfl
theorem tw_251 : (.lays "java/lang/Throwable" "java/lang/Throwable" "backtrace" "Ljava/lang/Object;" : Cond) ∈ TB := tb_1 224 rfl rfl
theorem tw_252 : (.fieldLink "java/lang/Throwable" 198 "java/lang/Throwable" "backtrace" "Ljava/lang/Object;" : Cond) ∈ TB := tb_1 225 rfl rfl
theorem tw_256 : (.methodLink "java/lang/Throwable" 1 objectInit : Cond) ∈ TB := tb_1 229 rfl rfl
theorem tw_257 : (.fieldLink "java/lang/Throwable" 13 "java/lang/Throwable" "UNASSIGNED_STACK" "[Ljava/lang/StackTraceElement;" : Cond) ∈ TB := tb_1 230 rfl rfl
theorem tw_259 : (.fieldLink "java/lang/Throwable" 20 "java/lang/Throwable" "SUPPRESSED_SENTINEL" "Ljava/util/List;" : Cond) ∈ TB := tb_1 232 rfl rfl
theorem tw_271 : (.instantiable "java/lang/Throwable" 6 : Cond) ∈ TB := tb_2 4 rfl rfl
theorem tw_287 : (.fieldLink "java/lang/Throwable" 31 "java/lang/Throwable" "detailMessage" "Ljava/lang/String;" : Cond) ∈ TB := tb_2 20 rfl rfl
theorem tw_288 : (.fieldLink "java/lang/Throwable" 7 "java/lang/Throwable" "cause" "Ljava/lang/Throwable;" : Cond) ∈ TB := tb_2 21 rfl rfl
theorem tw_289 : (.fieldLink "java/lang/Throwable" 17 "java/lang/Throwable" "stackTrace" "[Ljava/lang/StackTraceElement;" : Cond) ∈ TB := tb_2 22 rfl rfl
theorem tw_290 : (.fieldLink "java/lang/Throwable" 24 "java/lang/Throwable" "suppressedExceptions" "Ljava/util/List;" : Cond) ∈ TB := tb_2 23 rfl rfl
theorem tw_295 : (.lays "java/lang/IndexOutOfBoundsException" "java/lang/Throwable" "depth" "I" : Cond) ∈ TB := tb_2 28 rfl rfl
theorem tw_299 : (.arrayClass Jvm.ClassFile.FieldType.byte : Cond) ∈ TB := tb_2 32 rfl rfl
theorem tw_300 : (.methodLink "DrawCommands" 54 y_D_read : Cond) ∈ TB := tb_2 33 rfl rfl
theorem tw_301 : (.methodLink "DrawCommands" 58 y_D_write : Cond) ∈ TB := tb_2 34 rfl rfl
theorem tw_302 : (.methodLink "DrawCommandsLaw" 56 y_L_frame : Cond) ∈ TB := tb_2 35 rfl rfl
theorem tw_303 : (.static y_L_frame : Cond) ∈ TB := tb_2 36 rfl rfl
theorem tw_305 : (.classLink "DrawCommandsLaw" 19 "java/lang/IllegalArgumentException" : Cond) ∈ TB := tb_2 38 rfl rfl
theorem tw_306 : (.methodLink "DrawCommandsLaw" 15 y_D_frame : Cond) ∈ TB := tb_2 39 rfl rfl
theorem tw_307 : (.instanceMethod y_D_frame : Cond) ∈ TB := tb_2 40 rfl rfl
theorem tw_308 : (.selects "DrawCommands" y_D_frame y_D_frame : Cond) ∈ TB := tb_2 41 rfl rfl
theorem tw_309 : (.code y_D_frame prog_1_method_3_code 3 (Option.none : Option Jvm.ClassFile.FieldType) : Cond) ∈ TB := tb_2 42 rfl rfl
theorem tw_310 : (.classLink "DrawCommands" 62 "java/lang/IllegalArgumentException" : Cond) ∈ TB := tb_2 43 rfl rfl
theorem tw_311 : (.instantiable "java/lang/IllegalArgumentException" 6 : Cond) ∈ TB := tb_2 44 rfl rfl
theorem tw_314 : (.lays "java/lang/IllegalArgumentException" "java/lang/Throwable" "cause" "Ljava/lang/Throwable;" : Cond) ∈ TB := tb_2 47 rfl rfl
theorem tw_315 : (.lays "java/lang/IllegalArgumentException" "java/lang/Throwable" "stackTrace" "[Ljava/lang/StackTraceElement;" : Cond) ∈ TB := tb_2 48 rfl rfl
theorem tw_316 : (.lays "java/lang/IllegalArgumentException" "java/lang/Throwable" "suppressedExceptions" "Ljava/util/List;" : Cond) ∈ TB := tb_2 49 rfl rfl
theorem tw_317 : (.lays "java/lang/IllegalArgumentException" "java/lang/Throwable" "detailMessage" "Ljava/lang/String;" : Cond) ∈ TB := tb_2 50 rfl rfl
theorem tw_318 : (.lays "java/lang/IllegalArgumentException" "java/lang/Throwable" "backtrace" "Ljava/lang/Object;" : Cond) ∈ TB := tb_2 51 rfl rfl
theorem tw_324 : (.lays "java/lang/IllegalArgumentException" "java/lang/Throwable" "depth" "I" : Cond) ∈ TB := tb_2 57 rfl rfl
theorem tw_326 : (.methodLink "DrawCommandsLaw" 60 y_L_put : Cond) ∈ TB := tb_2 59 rfl rfl
theorem tw_327 : (.static y_L_put : Cond) ∈ TB := tb_2 60 rfl rfl
theorem tw_329 : (.classLink "DrawCommandsLaw" 25 "java/lang/UnsupportedOperationException" : Cond) ∈ TB := tb_2 62 rfl rfl
theorem tw_330 : (.methodLink "DrawCommandsLaw" 21 y_D_put : Cond) ∈ TB := tb_2 63 rfl rfl
theorem tw_331 : (.instanceMethod y_D_put : Cond) ∈ TB := tb_2 64 rfl rfl
theorem tw_332 : (.selects "DrawCommands" y_D_put y_D_put : Cond) ∈ TB := tb_2 65 rfl rfl
theorem tw_333 : (.code y_D_put prog_1_method_4_code 2 (Option.some Jvm.ClassFile.FieldType.int) : Cond) ∈ TB := tb_2 66 rfl rfl
theorem tw_334 : (.classLink "DrawCommands" 67 "java/lang/UnsupportedOperationException" : Cond) ∈ TB := tb_2 67 rfl rfl
theorem tw_335 : (.instantiable "java/lang/UnsupportedOperationException" 6 : Cond) ∈ TB := tb_2 68 rfl rfl
theorem tw_338 : (.lays "java/lang/UnsupportedOperationException" "java/lang/Throwable" "cause" "Ljava/lang/Throwable;" : Cond) ∈ TB := tb_2 71 rfl rfl
theorem tw_339 : (.lays "java/lang/UnsupportedOperationException" "java/lang/Throwable" "stackTrace" "[Ljava/lang/StackTraceElement;" : Cond) ∈ TB := tb_2 72 rfl rfl
theorem tw_340 : (.lays "java/lang/UnsupportedOperationException" "java/lang/Throwable" "suppressedExceptions" "Ljava/util/List;" : Cond) ∈ TB := tb_2 73 rfl rfl
theorem tw_341 : (.lays "java/lang/UnsupportedOperationException" "java/lang/Throwable" "detailMessage" "Ljava/lang/String;" : Cond) ∈ TB := tb_2 74 rfl rfl
theorem tw_342 : (.lays "java/lang/UnsupportedOperationException" "java/lang/Throwable" "backtrace" "Ljava/lang/Object;" : Cond) ∈ TB := tb_2 75 rfl rfl
theorem tw_348 : (.lays "java/lang/UnsupportedOperationException" "java/lang/Throwable" "depth" "I" : Cond) ∈ TB := tb_2 81 rfl rfl
theorem tw_350 : (.methodLink "DrawCommandsLaw" 73 y_L_next : Cond) ∈ TB := tb_2 83 rfl rfl
theorem tw_351 : (.static y_L_next : Cond) ∈ TB := tb_2 84 rfl rfl
theorem tw_353 : (.classLink "DrawCommandsLaw" 31 "java/lang/IllegalStateException" : Cond) ∈ TB := tb_2 86 rfl rfl
theorem tw_354 : (.methodLink "DrawCommandsLaw" 27 y_D_next : Cond) ∈ TB := tb_2 87 rfl rfl
theorem tw_355 : (.instanceMethod y_D_next : Cond) ∈ TB := tb_2 88 rfl rfl
theorem tw_356 : (.selects "DrawCommands" y_D_next y_D_next : Cond) ∈ TB := tb_2 89 rfl rfl
theorem tw_357 : (.code y_D_next prog_1_method_7_code 2 (Option.some Jvm.ClassFile.FieldType.int) : Cond) ∈ TB := tb_2 90 rfl rfl
theorem tw_358 : (.classLink "DrawCommands" 82 "java/lang/IllegalStateException" : Cond) ∈ TB := tb_2 91 rfl rfl
theorem tw_359 : (.instantiable "java/lang/IllegalStateException" 6 : Cond) ∈ TB := tb_2 92 rfl rfl
theorem tw_362 : (.lays "java/lang/IllegalStateException" "java/lang/Throwable" "cause" "Ljava/lang/Throwable;" : Cond) ∈ TB := tb_2 95 rfl rfl
theorem tw_363 : (.lays "java/lang/IllegalStateException" "java/lang/Throwable" "stackTrace" "[Ljava/lang/StackTraceElement;" : Cond) ∈ TB := tb_2 96 rfl rfl
theorem tw_364 : (.lays "java/lang/IllegalStateException" "java/lang/Throwable" "suppressedExceptions" "Ljava/util/List;" : Cond) ∈ TB := tb_2 97 rfl rfl
theorem tw_365 : (.lays "java/lang/IllegalStateException" "java/lang/Throwable" "detailMessage" "Ljava/lang/String;" : Cond) ∈ TB := tb_2 98 rfl rfl
theorem tw_366 : (.lays "java/lang/IllegalStateException" "java/lang/Throwable" "backtrace" "Ljava/lang/Object;" : Cond) ∈ TB := tb_2 99 rfl rfl
theorem tw_372 : (.lays "java/lang/IllegalStateException" "java/lang/Throwable" "depth" "I" : Cond) ∈ TB := tb_2 105 rfl rfl
theorem tw_374 : (.methodLink "DrawCommands" 87 y_R_arrive : Cond) ∈ TB := tb_2 107 rfl rfl
theorem tw_375 : (.instanceMethod y_R_arrive : Cond) ∈ TB := tb_2 108 rfl rfl
theorem tw_376 : (.selects "DrawCommands$Run" y_R_arrive y_R_arrive : Cond) ∈ TB := tb_2 109 rfl rfl
theorem tw_377 : (.code y_R_arrive prog_3_method_3_code 1 (Option.none : Option Jvm.ClassFile.FieldType) : Cond) ∈ TB := tb_2 110 rfl rfl
theorem tw_378 : (.methodLink "DrawCommands" 90 y_D_refusalHere : Cond) ∈ TB := tb_2 111 rfl rfl
theorem tw_380 : (.instanceMethod y_D_refusalHere : Cond) ∈ TB := tb_2 113 rfl rfl
theorem tw_381 : (.code y_D_refusalHere prog_1_method_12_code 2 (Option.some Jvm.ClassFile.FieldType.int) : Cond) ∈ TB := tb_2 114 rfl rfl
theorem tw_382 : (.methodLink "DrawCommands" 147 y_D_readCommand : Cond) ∈ TB := tb_2 115 rfl rfl
theorem tw_384 : (.instanceMethod y_D_readCommand : Cond) ∈ TB := tb_2 117 rfl rfl
theorem tw_385 : (.code y_D_readCommand prog_1_method_13_code 5 (Option.some Jvm.ClassFile.FieldType.int) : Cond) ∈ TB := tb_2 118 rfl rfl
theorem tw_386 : (.methodLink "DrawCommands" 160 y_D_sourceLength : Cond) ∈ TB := tb_2 119 rfl rfl
theorem tw_388 : (.instanceMethod y_D_sourceLength : Cond) ∈ TB := tb_2 121 rfl rfl
theorem tw_389 : (.code y_D_sourceLength prog_1_method_16_code 1 (Option.some Jvm.ClassFile.FieldType.int) : Cond) ∈ TB := tb_2 122 rfl rfl
theorem tw_390 : (.methodLink "DrawCommands" 166 y_D_readBeyondTheEnd : Cond) ∈ TB := tb_2 123 rfl rfl
theorem tw_392 : (.instanceMethod y_D_readBeyondTheEnd : Cond) ∈ TB := tb_2 125 rfl rfl
theorem tw_393 : (.code y_D_readBeyondTheEnd prog_1_method_14_code 1 (Option.some Jvm.ClassFile.FieldType.int) : Cond) ∈ TB := tb_2 126 rfl rfl
theorem tw_394 : (.methodLink "DrawCommands" 179 y_C_become : Cond) ∈ TB := tb_2 127 rfl rfl
theorem tw_395 : (.methodLink "DrawCommands" 169 y_D_sourceWord : Cond) ∈ TB := tb_2 128 rfl rfl
theorem tw_397 : (.instanceMethod y_D_sourceWord : Cond) ∈ TB := tb_2 130 rfl rfl
theorem tw_398 : (.code y_D_sourceWord prog_1_method_17_code 2 (Option.some Jvm.ClassFile.FieldType.int) : Cond) ∈ TB := tb_2 131 rfl rfl
theorem tw_399 : (.methodLink "DrawCommands" 172 y_S_isKind : Cond) ∈ TB := tb_2 132 rfl rfl
theorem tw_400 : (.methodLink "DrawCommands" 176 y_D_argumentsHere : Cond) ∈ TB := tb_2 133 rfl rfl
theorem tw_402 : (.instanceMethod y_D_argumentsHere : Cond) ∈ TB := tb_2 135 rfl rfl
theorem tw_403 : (.code y_D_argumentsHere prog_1_method_15_code 4 (Option.some Jvm.ClassFile.FieldType.int) : Cond) ∈ TB := tb_2 136 rfl rfl
theorem tw_404 : (.methodLink "DrawCommands" 119 y_S_fixed : Cond) ∈ TB := tb_2 137 rfl rfl
theorem tw_405 : (.methodLink "DrawCommands" 189 y_J_min : Cond) ∈ TB := tb_2 138 rfl rfl
theorem tw_406 : (.static y_J_min : Cond) ∈ TB := tb_2 139 rfl rfl
theorem tw_407 : (.code y_J_min prog_12_method_69_code 2 (Option.some Jvm.ClassFile.FieldType.int) : Cond) ∈ TB := tb_2 140 rfl rfl
theorem tw_408 : (.methodLink "DrawCommands" 195 (⟨"java/lang/Math", "max", "(II)I"⟩ : MethodName) : Cond) ∈ TB := tb_2 141 rfl rfl
theorem tw_409 : (.methodLink "DrawCommands" 183 y_C_tell : Cond) ∈ TB := tb_2 142 rfl rfl
theorem tw_410 : (.instanceMethod y_C_tell : Cond) ∈ TB := tb_2 143 rfl rfl
theorem tw_411 : (.selects "DrawCommands$Command" y_C_tell y_C_tell : Cond) ∈ TB := tb_2 144 rfl rfl
theorem tw_412 : (.code y_C_tell prog_2_method_4_code 3 (Option.none : Option Jvm.ClassFile.FieldType) : Cond) ∈ TB := tb_2 145 rfl rfl
theorem tw_414 : (.methodLink "DrawCommands" 150 y_C_valuesMayBe : Cond) ∈ TB := tb_2 147 rfl rfl
theorem tw_415 : (.instanceMethod y_C_valuesMayBe : Cond) ∈ TB := tb_2 148 rfl rfl
theorem tw_416 : (.selects "DrawCommands$Command" y_C_valuesMayBe y_C_valuesMayBe : Cond) ∈ TB := tb_2 149 rfl rfl
theorem tw_417 : (.code y_C_valuesMayBe prog_2_method_6_code 3 (Option.some Jvm.ClassFile.FieldType.boolean) : Cond) ∈ TB := tb_2 150 rfl rfl
theorem tw_418 : (.methodLink "DrawCommands$Command" 34 y_S_fixed : Cond) ∈ TB := tb_2 151 rfl rfl
theorem tw_419 : (.methodLink "DrawCommands$Command" 40 y_C_at : Cond) ∈ TB := tb_2 152 rfl rfl
theorem tw_420 : (.instanceMethod y_C_at : Cond) ∈ TB := tb_2 153 rfl rfl
theorem tw_421 : (.selects "DrawCommands$Command" y_C_at y_C_at : Cond) ∈ TB := tb_2 154 rfl rfl
theorem tw_422 : (.code y_C_at prog_2_method_5_code 2 (Option.some Jvm.ClassFile.FieldType.int) : Cond) ∈ TB := tb_2 155 rfl rfl
theorem tw_424 : (.methodLink "DrawCommands$Command" 43 y_S_mayBe : Cond) ∈ TB := tb_2 157 rfl rfl
theorem tw_425 : (.static y_S_mayBe : Cond) ∈ TB := tb_2 158 rfl rfl
theorem tw_426 : (.code y_S_mayBe prog_4_method_5_code 3 (Option.some Jvm.ClassFile.FieldType.boolean) : Cond) ∈ TB := tb_2 159 rfl rfl
theorem tw_427 : (.methodLink "DrawCommands" 154 y_D_placesAreThere : Cond) ∈ TB := tb_2 160 rfl rfl
theorem tw_429 : (.instanceMethod y_D_placesAreThere : Cond) ∈ TB := tb_2 162 rfl rfl
theorem tw_430 : (.code y_D_placesAreThere prog_1_method_18_code 1 (Option.some Jvm.ClassFile.FieldType.boolean) : Cond) ∈ TB := tb_2 163 rfl rfl
theorem tw_431 : (.methodLink "DrawCommands" 110 y_C_at : Cond) ∈ TB := tb_2 164 rfl rfl
theorem tw_432 : (.methodLink "DrawCommands" 198 y_D_inMemory : Cond) ∈ TB := tb_2 165 rfl rfl
theorem tw_433 : (.static y_D_inMemory : Cond) ∈ TB := tb_2 166 rfl rfl
theorem tw_434 : (.code y_D_inMemory prog_1_method_19_code 2 (Option.some Jvm.ClassFile.FieldType.boolean) : Cond) ∈ TB := tb_2 167 rfl rfl
theorem tw_435 : (.methodLink "DrawCommands" 157 y_D_stateAllows : Cond) ∈ TB := tb_2 168 rfl rfl
theorem tw_437 : (.instanceMethod y_D_stateAllows : Cond) ∈ TB := tb_2 170 rfl rfl
theorem tw_438 : (.code y_D_stateAllows prog_1_method_20_code 1 (Option.some Jvm.ClassFile.FieldType.boolean) : Cond) ∈ TB := tb_2 171 rfl rfl
theorem tw_439 : (.methodLink "DrawCommands" 202 y_T_hasProgram : Cond) ∈ TB := tb_2 172 rfl rfl
theorem tw_440 : (.instanceMethod y_T_hasProgram : Cond) ∈ TB := tb_2 173 rfl rfl
theorem tw_441 : (.selects "DrawCommands$Told" y_T_hasProgram y_T_hasProgram : Cond) ∈ TB := tb_2 174 rfl rfl
theorem tw_442 : (.code y_T_hasProgram prog_5_method_7_code 2 (Option.some Jvm.ClassFile.FieldType.boolean) : Cond) ∈ TB := tb_2 175 rfl rfl
theorem tw_443 : (.methodLink "DrawCommands$Told" 71 y_T_at : Cond) ∈ TB := tb_2 176 rfl rfl
theorem tw_444 : (.instanceMethod y_T_at : Cond) ∈ TB := tb_2 177 rfl rfl
theorem tw_445 : (.selects "DrawCommands$Told" y_T_at y_T_at : Cond) ∈ TB := tb_2 178 rfl rfl
theorem tw_446 : (.code y_T_at prog_5_method_5_code 4 (Option.some Jvm.ClassFile.FieldType.int) : Cond) ∈ TB := tb_2 179 rfl rfl
theorem tw_447 : (.methodLink "DrawCommands" 95 y_R_refuse : Cond) ∈ TB := tb_2 180 rfl rfl
theorem tw_448 : (.instanceMethod y_R_refuse : Cond) ∈ TB := tb_2 181 rfl rfl
theorem tw_449 : (.selects "DrawCommands$Run" y_R_refuse y_R_refuse : Cond) ∈ TB := tb_2 182 rfl rfl
theorem tw_450 : (.code y_R_refuse prog_3_method_4_code 2 (Option.none : Option Jvm.ClassFile.FieldType) : Cond) ∈ TB := tb_2 183 rfl rfl
theorem tw_451 : (.methodLink "DrawCommands" 99 y_D_carryOut : Cond) ∈ TB := tb_2 184 rfl rfl
theorem tw_453 : (.instanceMethod y_D_carryOut : Cond) ∈ TB := tb_2 186 rfl rfl
theorem tw_454 : (.code y_D_carryOut prog_1_method_21_code 1 (Option.none : Option Jvm.ClassFile.FieldType) : Cond) ∈ TB := tb_2 187 rfl rfl
theorem tw_455 : (.methodLink "DrawCommands" 205 y_R_passOver : Cond) ∈ TB := tb_2 188 rfl rfl
theorem tw_456 : (.instanceMethod y_R_passOver : Cond) ∈ TB := tb_2 189 rfl rfl
theorem tw_457 : (.selects "DrawCommands$Run" y_R_passOver y_R_passOver : Cond) ∈ TB := tb_2 190 rfl rfl
theorem tw_458 : (.code y_R_passOver prog_3_method_5_code 2 (Option.none : Option Jvm.ClassFile.FieldType) : Cond) ∈ TB := tb_2 191 rfl rfl
theorem tw_459 : (.methodLink "DrawCommands" 208 y_R_leave : Cond) ∈ TB := tb_2 192 rfl rfl
theorem tw_460 : (.instanceMethod y_R_leave : Cond) ∈ TB := tb_2 193 rfl rfl
theorem tw_461 : (.selects "DrawCommands$Run" y_R_leave y_R_leave : Cond) ∈ TB := tb_2 194 rfl rfl
theorem tw_462 : (.code y_R_leave prog_3_method_7_code 1 (Option.none : Option Jvm.ClassFile.FieldType) : Cond) ∈ TB := tb_2 195 rfl rfl
theorem tw_464 : (.methodLink "DrawCommands" 211 y_D_keepUniforms : Cond) ∈ TB := tb_2 197 rfl rfl
theorem tw_466 : (.instanceMethod y_D_keepUniforms : Cond) ∈ TB := tb_2 199 rfl rfl
theorem tw_467 : (.code y_D_keepUniforms prog_1_method_22_code 6 (Option.none : Option Jvm.ClassFile.FieldType) : Cond) ∈ TB := tb_2 200 rfl rfl
theorem tw_468 : (.methodLink "DrawCommands" 224 y_T_set : Cond) ∈ TB := tb_2 201 rfl rfl
theorem tw_469 : (.instanceMethod y_T_set : Cond) ∈ TB := tb_2 202 rfl rfl
theorem tw_470 : (.selects "DrawCommands$Told" y_T_set y_T_set : Cond) ∈ TB := tb_2 203 rfl rfl
theorem tw_471 : (.code y_T_set prog_5_method_6_code 5 (Option.none : Option Jvm.ClassFile.FieldType) : Cond) ∈ TB := tb_2 204 rfl rfl
theorem tw_472 : (.methodLink "DrawCommands" 214 y_D_storeWords : Cond) ∈ TB := tb_2 205 rfl rfl
theorem tw_474 : (.instanceMethod y_D_storeWords : Cond) ∈ TB := tb_2 207 rfl rfl
theorem tw_475 : (.code y_D_storeWords prog_1_method_23_code 3 (Option.none : Option Jvm.ClassFile.FieldType) : Cond) ∈ TB := tb_2 208 rfl rfl
theorem tw_476 : (.methodLink "DrawCommands" 217 y_R_enter : Cond) ∈ TB := tb_2 209 rfl rfl
theorem tw_477 : (.instanceMethod y_R_enter : Cond) ∈ TB := tb_2 210 rfl rfl
theorem tw_478 : (.selects "DrawCommands$Run" y_R_enter y_R_enter : Cond) ∈ TB := tb_2 211 rfl rfl
theorem tw_479 : (.code y_R_enter prog_3_method_6_code 2 (Option.none : Option Jvm.ClassFile.FieldType) : Cond) ∈ TB := tb_2 212 rfl rfl
theorem tw_481 : (.methodLink "DrawCommands" 220 y_T_keep : Cond) ∈ TB := tb_2 214 rfl rfl
theorem tw_482 : (.instanceMethod y_T_keep : Cond) ∈ TB := tb_2 215 rfl rfl
theorem tw_483 : (.selects "DrawCommands$Told" y_T_keep y_T_keep : Cond) ∈ TB := tb_2 216 rfl rfl
theorem tw_484 : (.code y_T_keep prog_5_method_4_code 5 (Option.none : Option Jvm.ClassFile.FieldType) : Cond) ∈ TB := tb_2 217 rfl rfl
theorem tw_485 : (.methodLink "DrawCommands$Told" 61 y_C_at : Cond) ∈ TB := tb_2 218 rfl rfl
theorem tw_486 : (.methodLink "DrawCommandsLaw" 77 y_L_argument : Cond) ∈ TB := tb_2 219 rfl rfl
theorem tw_487 : (.static y_L_argument : Cond) ∈ TB := tb_2 220 rfl rfl
theorem tw_489 : (.methodLink "DrawCommandsLaw" 33 y_D_argument : Cond) ∈ TB := tb_2 222 rfl rfl
theorem tw_490 : (.instanceMethod y_D_argument : Cond) ∈ TB := tb_2 223 rfl rfl
theorem tw_491 : (.selects "DrawCommands" y_D_argument y_D_argument : Cond) ∈ TB := tb_2 224 rfl rfl
theorem tw_492 : (.code y_D_argument prog_1_method_8_code 2 (Option.some Jvm.ClassFile.FieldType.int) : Cond) ∈ TB := tb_2 225 rfl rfl
theorem tw_494 : (.methodLink "DrawCommandsLaw" 80 y_L_kept : Cond) ∈ TB := tb_2 227 rfl rfl
theorem tw_495 : (.static y_L_kept : Cond) ∈ TB := tb_2 228 rfl rfl
theorem tw_497 : (.methodLink "DrawCommandsLaw" 36 y_D_kept : Cond) ∈ TB := tb_2 230 rfl rfl
theorem tw_498 : (.instanceMethod y_D_kept : Cond) ∈ TB := tb_2 231 rfl rfl
theorem tw_499 : (.selects "DrawCommands" y_D_kept y_D_kept : Cond) ∈ TB := tb_2 232 rfl rfl
theorem tw_500 : (.code y_D_kept prog_1_method_9_code 4 (Option.some Jvm.ClassFile.FieldType.int) : Cond) ∈ TB := tb_2 233 rfl rfl
theorem tw_501 : (.methodLink "DrawCommands" 114 y_S_holders : Cond) ∈ TB := tb_2 234 rfl rfl
theorem tw_503 : (.methodLink "DrawCommands" 124 y_T_at : Cond) ∈ TB := tb_2 236 rfl rfl
theorem tw_504 : (.methodLink "DrawCommandsLaw" 84 y_L_about : Cond) ∈ TB := tb_2 237 rfl rfl
theorem tw_505 : (.static y_L_about : Cond) ∈ TB := tb_2 238 rfl rfl
theorem tw_507 : (.methodLink "DrawCommandsLaw" 40 y_D_about : Cond) ∈ TB := tb_3 0 rfl rfl
theorem tw_508 : (.instanceMethod y_D_about : Cond) ∈ TB := tb_3 1 rfl rfl
theorem tw_509 : (.selects "DrawCommands" y_D_about y_D_about : Cond) ∈ TB := tb_3 2 rfl rfl
theorem tw_510 : (.code y_D_about prog_1_method_10_code 2 (Option.some Jvm.ClassFile.FieldType.int) : Cond) ∈ TB := tb_3 3 rfl rfl
theorem tw_512 : (.classLink "DrawCommandsLaw" 44 "DrawCommandsModel" : Cond) ∈ TB := tb_3 5 rfl rfl
theorem tw_513 : (.instantiable "DrawCommandsModel" 18 : Cond) ∈ TB := tb_3 6 rfl rfl
theorem tw_514 : (.methodLink "DrawCommandsLaw" 46 y_M_init : Cond) ∈ TB := tb_3 7 rfl rfl
theorem tw_515 : (.instanceMethod y_M_init : Cond) ∈ TB := tb_3 8 rfl rfl
theorem tw_516 : (.code y_M_init prog_7_method_1_code 1 (Option.none : Option Jvm.ClassFile.FieldType) : Cond) ∈ TB := tb_3 9 rfl rfl
theorem tw_517 : (.methodLink "DrawCommandsModel" 1 objectInit : Cond) ∈ TB := tb_3 10 rfl rfl
theorem tw_518 : (.methodLink "DrawCommandsModel" 41 y_M_nothingTold : Cond) ∈ TB := tb_3 11 rfl rfl
theorem tw_520 : (.instanceMethod y_M_nothingTold : Cond) ∈ TB := tb_3 13 rfl rfl
theorem tw_521 : (.code y_M_nothingTold prog_7_method_13_code 3 (Option.none : Option Jvm.ClassFile.FieldType) : Cond) ∈ TB := tb_3 14 rfl rfl
theorem tw_522 : (.methodLink "DrawCommandsModel" 110 y_M_many : Cond) ∈ TB := tb_3 15 rfl rfl
theorem tw_523 : (.static y_M_many : Cond) ∈ TB := tb_3 16 rfl rfl
theorem tw_524 : (.code y_M_many prog_7_method_11_code 1 (Option.some Jvm.ClassFile.FieldType.int) : Cond) ∈ TB := tb_3 17 rfl rfl
theorem tw_525 : (.methodLink "DrawCommandsModel" 113 y_M_rowOf : Cond) ∈ TB := tb_3 18 rfl rfl
theorem tw_526 : (.static y_M_rowOf : Cond) ∈ TB := tb_3 19 rfl rfl
theorem tw_527 : (.code y_M_rowOf prog_7_method_12_code 2 (Option.some Jvm.ClassFile.FieldType.int) : Cond) ∈ TB := tb_3 20 rfl rfl
theorem tw_528 : (.methodLink "DrawCommandsModel" 106 y_M_count : Cond) ∈ TB := tb_3 21 rfl rfl
theorem tw_529 : (.static y_M_count : Cond) ∈ TB := tb_3 22 rfl rfl
theorem tw_530 : (.code y_M_count prog_7_method_5_code 1 (Option.some Jvm.ClassFile.FieldType.int) : Cond) ∈ TB := tb_3 23 rfl rfl
theorem tw_531 : (.constant "DrawCommandsModel" 117 16777215 : Cond) ∈ TB := tb_3 24 rfl rfl
theorem tw_532 : (.fieldLink "DrawCommandsModel" 44 "DrawCommandsModel" "thrown" "I" : Cond) ∈ TB := tb_3 25 rfl rfl
theorem tw_533 : (.fieldLink "DrawCommandsModel" 7 "DrawCommandsModel" "memory" "[I" : Cond) ∈ TB := tb_3 26 rfl rfl
theorem tw_534 : (.fieldLink "DrawCommandsModel" 13 "DrawCommandsModel" "wide" "I" : Cond) ∈ TB := tb_3 27 rfl rfl
theorem tw_535 : (.fieldLink "DrawCommandsModel" 17 "DrawCommandsModel" "high" "I" : Cond) ∈ TB := tb_3 28 rfl rfl
theorem tw_536 : (.fieldLink "DrawCommandsModel" 20 "DrawCommandsModel" "stream" "[I" : Cond) ∈ TB := tb_3 29 rfl rfl
theorem tw_537 : (.fieldLink "DrawCommandsModel" 124 "DrawCommandsModel" "size" "I" : Cond) ∈ TB := tb_3 30 rfl rfl
theorem tw_538 : (.fieldLink "DrawCommandsModel" 127 "DrawCommandsModel" "at" "I" : Cond) ∈ TB := tb_3 31 rfl rfl
theorem tw_539 : (.fieldLink "DrawCommandsModel" 130 "DrawCommandsModel" "depth" "I" : Cond) ∈ TB := tb_3 32 rfl rfl
theorem tw_540 : (.fieldLink "DrawCommandsModel" 23 "DrawCommandsModel" "back" "[I" : Cond) ∈ TB := tb_3 33 rfl rfl
theorem tw_541 : (.fieldLink "DrawCommandsModel" 133 "DrawCommandsModel" "over" "Z" : Cond) ∈ TB := tb_3 34 rfl rfl
theorem tw_542 : (.fieldLink "DrawCommandsModel" 137 "DrawCommandsModel" "refusal" "I" : Cond) ∈ TB := tb_3 35 rfl rfl
theorem tw_543 : (.fieldLink "DrawCommandsModel" 26 "DrawCommandsModel" "place" "I" : Cond) ∈ TB := tb_3 36 rfl rfl
theorem tw_544 : (.fieldLink "DrawCommandsModel" 29 "DrawCommandsModel" "deep" "I" : Cond) ∈ TB := tb_3 37 rfl rfl
theorem tw_545 : (.fieldLink "DrawCommandsModel" 140 "DrawCommandsModel" "done" "I" : Cond) ∈ TB := tb_3 38 rfl rfl
theorem tw_546 : (.fieldLink "DrawCommandsModel" 32 "DrawCommandsModel" "query" "I" : Cond) ∈ TB := tb_3 39 rfl rfl
theorem tw_547 : (.fieldLink "DrawCommandsModel" 143 "DrawCommandsModel" "arguments" "I" : Cond) ∈ TB := tb_3 40 rfl rfl
theorem tw_548 : (.fieldLink "DrawCommandsModel" 35 "DrawCommandsModel" "argument" "[I" : Cond) ∈ TB := tb_3 41 rfl rfl
theorem tw_549 : (.fieldLink "DrawCommandsModel" 38 "DrawCommandsModel" "kept" "[I" : Cond) ∈ TB := tb_3 42 rfl rfl
theorem tw_550 : (.lays "DrawCommandsModel" "DrawCommandsModel" "thrown" "I" : Cond) ∈ TB := tb_3 43 rfl rfl
theorem tw_552 : (.laysFinal "DrawCommandsModel" "DrawCommandsModel" "memory" "[I" : Cond) ∈ TB := tb_3 45 rfl rfl
theorem tw_554 : (.lays "DrawCommandsModel" "DrawCommandsModel" "wide" "I" : Cond) ∈ TB := tb_3 47 rfl rfl
theorem tw_556 : (.lays "DrawCommandsModel" "DrawCommandsModel" "high" "I" : Cond) ∈ TB := tb_3 49 rfl rfl
theorem tw_558 : (.laysFinal "DrawCommandsModel" "DrawCommandsModel" "stream" "[I" : Cond) ∈ TB := tb_3 51 rfl rfl
theorem tw_560 : (.lays "DrawCommandsModel" "DrawCommandsModel" "size" "I" : Cond) ∈ TB := tb_3 53 rfl rfl
theorem tw_562 : (.lays "DrawCommandsModel" "DrawCommandsModel" "at" "I" : Cond) ∈ TB := tb_3 55 rfl rfl
theorem tw_564 : (.lays "DrawCommandsModel" "DrawCommandsModel" "depth" "I" : Cond) ∈ TB := tb_3 57 rfl rfl
theorem tw_566 : (.laysFinal "DrawCommandsModel" "DrawCommandsModel" "back" "[I" : Cond) ∈ TB := tb_3 59 rfl rfl
theorem tw_568 : (.lays "DrawCommandsModel" "DrawCommandsModel" "over" "Z" : Cond) ∈ TB := tb_3 61 rfl rfl
theorem tw_570 : (.lays "DrawCommandsModel" "DrawCommandsModel" "refusal" "I" : Cond) ∈ TB := tb_3 63 rfl rfl
theorem tw_572 : (.lays "DrawCommandsModel" "DrawCommandsModel" "place" "I" : Cond) ∈ TB := tb_3 65 rfl rfl
theorem tw_574 : (.lays "DrawCommandsModel" "DrawCommandsModel" "deep" "I" : Cond) ∈ TB := tb_3 67 rfl rfl
theorem tw_576 : (.lays "DrawCommandsModel" "DrawCommandsModel" "done" "I" : Cond) ∈ TB := tb_3 69 rfl rfl
theorem tw_578 : (.lays "DrawCommandsModel" "DrawCommandsModel" "query" "I" : Cond) ∈ TB := tb_3 71 rfl rfl
theorem tw_580 : (.lays "DrawCommandsModel" "DrawCommandsModel" "arguments" "I" : Cond) ∈ TB := tb_3 73 rfl rfl
theorem tw_582 : (.laysFinal "DrawCommandsModel" "DrawCommandsModel" "argument" "[I" : Cond) ∈ TB := tb_3 75 rfl rfl
theorem tw_584 : (.laysFinal "DrawCommandsModel" "DrawCommandsModel" "kept" "[I" : Cond) ∈ TB := tb_3 77 rfl rfl
theorem tw_587 : (.methodLink "DrawCommandsLaw" 53 y_M_thrown : Cond) ∈ TB := tb_3 80 rfl rfl
theorem tw_588 : (.instanceMethod y_M_thrown : Cond) ∈ TB := tb_3 81 rfl rfl
theorem tw_589 : (.selects "DrawCommandsModel" y_M_thrown y_M_thrown : Cond) ∈ TB := tb_3 82 rfl rfl
theorem tw_590 : (.code y_M_thrown prog_7_method_2_code 1 (Option.some Jvm.ClassFile.FieldType.int) : Cond) ∈ TB := tb_3 83 rfl rfl
theorem tw_591 : (.methodLink "DrawCommandsLaw" 52 y_M_word : Cond) ∈ TB := tb_3 84 rfl rfl
theorem tw_592 : (.instanceMethod y_M_word : Cond) ∈ TB := tb_3 85 rfl rfl
theorem tw_593 : (.selects "DrawCommandsModel" y_M_word y_M_word : Cond) ∈ TB := tb_3 86 rfl rfl
theorem tw_594 : (.code y_M_word prog_7_method_14_code 4 (Option.some Jvm.ClassFile.FieldType.int) : Cond) ∈ TB := tb_3 87 rfl rfl
theorem tw_595 : (.constantLong "DrawCommandsModel" 118 4095 : Cond) ∈ TB := tb_3 88 rfl rfl
theorem tw_596 : (.methodLink "DrawCommandsModel" 51 y_M_in : Cond) ∈ TB := tb_3 89 rfl rfl
theorem tw_597 : (.static y_M_in : Cond) ∈ TB := tb_3 90 rfl rfl
theorem tw_598 : (.code y_M_in prog_7_method_4_code 6 (Option.some Jvm.ClassFile.FieldType.boolean) : Cond) ∈ TB := tb_3 91 rfl rfl
theorem tw_599 : (.methodLink "DrawCommandsModel" 120 y_M_refuse : Cond) ∈ TB := tb_3 92 rfl rfl
theorem tw_601 : (.instanceMethod y_M_refuse : Cond) ∈ TB := tb_3 94 rfl rfl
theorem tw_602 : (.code y_M_refuse prog_7_method_3_code 2 (Option.some Jvm.ClassFile.FieldType.boolean) : Cond) ∈ TB := tb_3 95 rfl rfl
theorem tw_603 : (.methodLink "DrawCommandsLaw" 59 y_M_frame : Cond) ∈ TB := tb_3 96 rfl rfl
theorem tw_604 : (.instanceMethod y_M_frame : Cond) ∈ TB := tb_3 97 rfl rfl
theorem tw_605 : (.selects "DrawCommandsModel" y_M_frame y_M_frame : Cond) ∈ TB := tb_3 98 rfl rfl
theorem tw_606 : (.code y_M_frame prog_7_method_15_code 3 (Option.none : Option Jvm.ClassFile.FieldType) : Cond) ∈ TB := tb_3 99 rfl rfl
theorem tw_607 : (.constantLong "DrawCommandsModel" 75 128 : Cond) ∈ TB := tb_3 100 rfl rfl
theorem tw_608 : (.methodLink "DrawCommandsLaw" 63 y_M_put : Cond) ∈ TB := tb_3 101 rfl rfl
theorem tw_609 : (.instanceMethod y_M_put : Cond) ∈ TB := tb_3 102 rfl rfl
theorem tw_610 : (.selects "DrawCommandsModel" y_M_put y_M_put : Cond) ∈ TB := tb_3 103 rfl rfl
theorem tw_611 : (.code y_M_put prog_7_method_16_code 2 (Option.some Jvm.ClassFile.FieldType.int) : Cond) ∈ TB := tb_3 104 rfl rfl
theorem tw_612 : (.methodLink "DrawCommandsLaw" 67 y_M_clear : Cond) ∈ TB := tb_3 105 rfl rfl
theorem tw_613 : (.instanceMethod y_M_clear : Cond) ∈ TB := tb_3 106 rfl rfl
theorem tw_614 : (.selects "DrawCommandsModel" y_M_clear y_M_clear : Cond) ∈ TB := tb_3 107 rfl rfl
theorem tw_615 : (.code y_M_clear prog_7_method_18_code 1 (Option.none : Option Jvm.ClassFile.FieldType) : Cond) ∈ TB := tb_3 108 rfl rfl
theorem tw_616 : (.methodLink "DrawCommandsModel" 146 y_M_anew : Cond) ∈ TB := tb_3 109 rfl rfl
theorem tw_618 : (.instanceMethod y_M_anew : Cond) ∈ TB := tb_3 111 rfl rfl
theorem tw_619 : (.code y_M_anew prog_7_method_17_code 1 (Option.none : Option Jvm.ClassFile.FieldType) : Cond) ∈ TB := tb_3 112 rfl rfl
theorem tw_620 : (.methodLink "DrawCommandsLaw" 72 y_M_begin : Cond) ∈ TB := tb_3 113 rfl rfl
theorem tw_621 : (.instanceMethod y_M_begin : Cond) ∈ TB := tb_3 114 rfl rfl
theorem tw_622 : (.selects "DrawCommandsModel" y_M_begin y_M_begin : Cond) ∈ TB := tb_3 115 rfl rfl
theorem tw_623 : (.code y_M_begin prog_7_method_19_code 2 (Option.none : Option Jvm.ClassFile.FieldType) : Cond) ∈ TB := tb_3 116 rfl rfl
theorem tw_624 : (.methodLink "DrawCommandsLaw" 76 y_M_next : Cond) ∈ TB := tb_3 117 rfl rfl
theorem tw_625 : (.instanceMethod y_M_next : Cond) ∈ TB := tb_3 118 rfl rfl
theorem tw_626 : (.selects "DrawCommandsModel" y_M_next y_M_next : Cond) ∈ TB := tb_3 119 rfl rfl
theorem tw_627 : (.code y_M_next prog_7_method_27_code 4 (Option.some Jvm.ClassFile.FieldType.int) : Cond) ∈ TB := tb_3 120 rfl rfl
theorem tw_628 : (.methodLink "DrawCommandsModel" 175 y_M_look : Cond) ∈ TB := tb_3 121 rfl rfl
theorem tw_630 : (.instanceMethod y_M_look : Cond) ∈ TB := tb_3 123 rfl rfl
theorem tw_631 : (.code y_M_look prog_7_method_26_code 6 (Option.some Jvm.ClassFile.FieldType.int) : Cond) ∈ TB := tb_3 124 rfl rfl
theorem tw_632 : (.methodLink "DrawCommandsModel" 149 y_M_isThere : Cond) ∈ TB := tb_3 125 rfl rfl
theorem tw_634 : (.instanceMethod y_M_isThere : Cond) ∈ TB := tb_3 127 rfl rfl
theorem tw_635 : (.code y_M_isThere prog_7_method_20_code 2 (Option.some Jvm.ClassFile.FieldType.boolean) : Cond) ∈ TB := tb_3 128 rfl rfl
theorem tw_636 : (.methodLink "DrawCommandsModel" 153 y_M_read : Cond) ∈ TB := tb_3 129 rfl rfl
theorem tw_638 : (.instanceMethod y_M_read : Cond) ∈ TB := tb_3 131 rfl rfl
theorem tw_639 : (.code y_M_read prog_7_method_21_code 2 (Option.some Jvm.ClassFile.FieldType.int) : Cond) ∈ TB := tb_3 132 rfl rfl
theorem tw_640 : (.constantLong "DrawCommandsModel" 160 25 : Cond) ∈ TB := tb_3 133 rfl rfl
theorem tw_641 : (.methodLink "DrawCommandsModel" 162 y_M_length : Cond) ∈ TB := tb_3 134 rfl rfl
theorem tw_643 : (.instanceMethod y_M_length : Cond) ∈ TB := tb_3 136 rfl rfl
theorem tw_644 : (.code y_M_length prog_7_method_22_code 3 (Option.some Jvm.ClassFile.FieldType.int) : Cond) ∈ TB := tb_3 137 rfl rfl
theorem tw_645 : (.methodLink "DrawCommandsModel" 165 y_M_may : Cond) ∈ TB := tb_3 138 rfl rfl
theorem tw_646 : (.static y_M_may : Cond) ∈ TB := tb_3 139 rfl rfl
theorem tw_647 : (.code y_M_may prog_7_method_10_code 3 (Option.some Jvm.ClassFile.FieldType.boolean) : Cond) ∈ TB := tb_3 140 rfl rfl
theorem tw_648 : (.constantLong "DrawCommandsModel" 61 7 : Cond) ∈ TB := tb_3 141 rfl rfl
theorem tw_649 : (.constantLong "DrawCommandsModel" 57 16777215 : Cond) ∈ TB := tb_3 142 rfl rfl
theorem tw_650 : (.constantLong "DrawCommandsModel" 63 255 : Cond) ∈ TB := tb_3 143 rfl rfl
theorem tw_651 : (.methodLink "DrawCommandsModel" 79 y_M_isViews : Cond) ∈ TB := tb_3 144 rfl rfl
theorem tw_652 : (.static y_M_isViews : Cond) ∈ TB := tb_3 145 rfl rfl
theorem tw_653 : (.code y_M_isViews prog_7_method_6_code 2 (Option.some Jvm.ClassFile.FieldType.boolean) : Cond) ∈ TB := tb_3 146 rfl rfl
theorem tw_654 : (.constantLong "DrawCommandsModel" 47 (-1023) : Cond) ∈ TB := tb_3 147 rfl rfl
theorem tw_655 : (.constantLong "DrawCommandsModel" 49 1023 : Cond) ∈ TB := tb_3 148 rfl rfl
theorem tw_656 : (.constantLong "DrawCommandsModel" 55 1024 : Cond) ∈ TB := tb_3 149 rfl rfl
theorem tw_657 : (.constantLong "DrawCommandsModel" 67 1048576 : Cond) ∈ TB := tb_3 150 rfl rfl
theorem tw_658 : (.constantLong "DrawCommandsModel" 83 4 : Cond) ∈ TB := tb_3 151 rfl rfl
theorem tw_659 : (.constantLong "DrawCommandsModel" 65 3 : Cond) ∈ TB := tb_3 152 rfl rfl
theorem tw_660 : (.constantLong "DrawCommandsModel" 85 31 : Cond) ∈ TB := tb_3 153 rfl rfl
theorem tw_661 : (.constantLong "DrawCommandsModel" 87 32 : Cond) ∈ TB := tb_3 154 rfl rfl
theorem tw_662 : (.constantLong "DrawCommandsModel" 89 256 : Cond) ∈ TB := tb_3 155 rfl rfl
theorem tw_663 : (.methodLink "DrawCommandsModel" 91 y_M_isTextures : Cond) ∈ TB := tb_3 156 rfl rfl
theorem tw_664 : (.static y_M_isTextures : Cond) ∈ TB := tb_3 157 rfl rfl
theorem tw_665 : (.code y_M_isTextures prog_7_method_8_code 2 (Option.some Jvm.ClassFile.FieldType.boolean) : Cond) ∈ TB := tb_3 158 rfl rfl
theorem tw_666 : (.constantLong "DrawCommandsModel" 69 10 : Cond) ∈ TB := tb_3 159 rfl rfl
theorem tw_667 : (.constantLong "DrawCommandsModel" 71 11 : Cond) ∈ TB := tb_3 160 rfl rfl
theorem tw_668 : (.constantLong "DrawCommandsModel" 59 (-1) : Cond) ∈ TB := tb_3 161 rfl rfl
theorem tw_669 : (.methodLink "DrawCommandsModel" 94 y_M_isStencils : Cond) ∈ TB := tb_3 162 rfl rfl
theorem tw_670 : (.static y_M_isStencils : Cond) ∈ TB := tb_3 163 rfl rfl
theorem tw_671 : (.code y_M_isStencils prog_7_method_7_code 2 (Option.some Jvm.ClassFile.FieldType.boolean) : Cond) ∈ TB := tb_3 164 rfl rfl
theorem tw_672 : (.constantLong "DrawCommandsModel" 97 14 : Cond) ∈ TB := tb_3 165 rfl rfl
theorem tw_673 : (.constantLong "DrawCommandsModel" 99 15 : Cond) ∈ TB := tb_3 166 rfl rfl
theorem tw_674 : (.constantLong "DrawCommandsModel" 77 2 : Cond) ∈ TB := tb_3 167 rfl rfl
theorem tw_675 : (.constantLong "DrawCommandsModel" 101 4096 : Cond) ∈ TB := tb_3 168 rfl rfl
theorem tw_676 : (.methodLink "DrawCommandsModel" 103 y_M_isCopys : Cond) ∈ TB := tb_3 169 rfl rfl
theorem tw_677 : (.static y_M_isCopys : Cond) ∈ TB := tb_3 170 rfl rfl
theorem tw_678 : (.code y_M_isCopys prog_7_method_9_code 2 (Option.some Jvm.ClassFile.FieldType.boolean) : Cond) ∈ TB := tb_3 171 rfl rfl
theorem tw_679 : (.constantLong "DrawCommandsModel" 73 127 : Cond) ∈ TB := tb_3 172 rfl rfl
theorem tw_680 : (.methodLink "DrawCommandsModel" 169 y_M_liesRight : Cond) ∈ TB := tb_3 173 rfl rfl
theorem tw_682 : (.instanceMethod y_M_liesRight : Cond) ∈ TB := tb_3 175 rfl rfl
theorem tw_683 : (.code y_M_liesRight prog_7_method_24_code 4 (Option.some Jvm.ClassFile.FieldType.boolean) : Cond) ∈ TB := tb_3 176 rfl rfl
theorem tw_684 : (.methodLink "DrawCommandsModel" 156 y_M_isInMemory : Cond) ∈ TB := tb_3 177 rfl rfl
theorem tw_686 : (.instanceMethod y_M_isInMemory : Cond) ∈ TB := tb_3 179 rfl rfl
theorem tw_687 : (.code y_M_isInMemory prog_7_method_23_code 5 (Option.some Jvm.ClassFile.FieldType.boolean) : Cond) ∈ TB := tb_3 180 rfl rfl
theorem tw_688 : (.methodLink "DrawCommandsModel" 172 y_M_fitsState : Cond) ∈ TB := tb_3 181 rfl rfl
theorem tw_690 : (.instanceMethod y_M_fitsState : Cond) ∈ TB := tb_3 183 rfl rfl
theorem tw_691 : (.code y_M_fitsState prog_7_method_25_code 2 (Option.some Jvm.ClassFile.FieldType.boolean) : Cond) ∈ TB := tb_3 184 rfl rfl
theorem tw_692 : (.methodLink "DrawCommandsModel" 179 y_M_perform : Cond) ∈ TB := tb_3 185 rfl rfl
theorem tw_694 : (.instanceMethod y_M_perform : Cond) ∈ TB := tb_3 187 rfl rfl
theorem tw_695 : (.code y_M_perform prog_7_method_28_code 3 (Option.none : Option Jvm.ClassFile.FieldType) : Cond) ∈ TB := tb_3 188 rfl rfl
theorem tw_696 : (.methodLink "DrawCommandsModel" 183 y_M_keep : Cond) ∈ TB := tb_3 189 rfl rfl
theorem tw_698 : (.instanceMethod y_M_keep : Cond) ∈ TB := tb_3 191 rfl rfl
theorem tw_699 : (.code y_M_keep prog_7_method_29_code 4 (Option.none : Option Jvm.ClassFile.FieldType) : Cond) ∈ TB := tb_3 192 rfl rfl
theorem tw_700 : (.methodLink "DrawCommandsLaw" 79 y_M_argument : Cond) ∈ TB := tb_3 193 rfl rfl
theorem tw_701 : (.instanceMethod y_M_argument : Cond) ∈ TB := tb_3 194 rfl rfl
theorem tw_702 : (.selects "DrawCommandsModel" y_M_argument y_M_argument : Cond) ∈ TB := tb_3 195 rfl rfl
theorem tw_703 : (.code y_M_argument prog_7_method_30_code 2 (Option.some Jvm.ClassFile.FieldType.int) : Cond) ∈ TB := tb_3 196 rfl rfl
theorem tw_704 : (.methodLink "DrawCommandsLaw" 83 y_M_kept : Cond) ∈ TB := tb_3 197 rfl rfl
theorem tw_705 : (.instanceMethod y_M_kept : Cond) ∈ TB := tb_3 198 rfl rfl
theorem tw_706 : (.selects "DrawCommandsModel" y_M_kept y_M_kept : Cond) ∈ TB := tb_3 199 rfl rfl
theorem tw_707 : (.code y_M_kept prog_7_method_31_code 5 (Option.some Jvm.ClassFile.FieldType.int) : Cond) ∈ TB := tb_3 200 rfl rfl
theorem tw_708 : (.methodLink "DrawCommandsLaw" 86 y_M_about : Cond) ∈ TB := tb_3 201 rfl rfl
theorem tw_709 : (.instanceMethod y_M_about : Cond) ∈ TB := tb_3 202 rfl rfl
theorem tw_710 : (.selects "DrawCommandsModel" y_M_about y_M_about : Cond) ∈ TB := tb_3 203 rfl rfl
theorem tw_711 : (.code y_M_about prog_7_method_32_code 2 (Option.some Jvm.ClassFile.FieldType.int) : Cond) ∈ TB := tb_3 204 rfl rfl
theorem tw_712 : (.constantLong "DrawCommandsModel" 186 6 : Cond) ∈ TB := tb_3 205 rfl rfl
theorem tw_713 : (.arrayClass Jvm.ClassFile.FieldType.long : Cond) ∈ TB := tb_3 206 rfl rfl
theorem tu_C : ∀ w ∈ u_ws R_C F_C 3, w ∈ TB := fun w h => by
  have e : u_ws R_C F_C 3 = [.laysFinal "DrawCommands$Command" "DrawCommands$Command" "words" "[I", .lays "DrawCommands$Command" "DrawCommands$Command" "kind" "I", .lays "DrawCommands$Command" "DrawCommands$Command" "many" "I"] := rfl
  rw [e] at h
  simp only [List.mem_cons, List.not_mem_nil, or_false] at h
  rcases h with rfl | rfl | rfl
  · exact tw_123
  · exact tw_125
  · exact tw_127
theorem tu_R : ∀ w ∈ u_ws R_R F_R 9, w ∈ TB := fun w h => by
  have e : u_ws R_R F_R 9 = [.laysFinal "DrawCommands$Run" "DrawCommands$Run" "backs" "[I", .lays "DrawCommands$Run" "DrawCommands$Run" "place" "I", .lays "DrawCommands$Run" "DrawCommands$Run" "depth" "I", .lays "DrawCommands$Run" "DrawCommands$Run" "lastPlace" "I", .lays "DrawCommands$Run" "DrawCommands$Run" "lastDepth" "I", .lays "DrawCommands$Run" "DrawCommands$Run" "done" "I", .lays "DrawCommands$Run" "DrawCommands$Run" "refusal" "I", .lays "DrawCommands$Run" "DrawCommands$Run" "query" "I", .lays "DrawCommands$Run" "DrawCommands$Run" "over" "Z"] := rfl
  rw [e] at h
  simp only [List.mem_cons, List.not_mem_nil, or_false] at h
  rcases h with rfl | rfl | rfl | rfl | rfl | rfl | rfl | rfl | rfl
  · exact tw_157
  · exact tw_159
  · exact tw_161
  · exact tw_163
  · exact tw_165
  · exact tw_167
  · exact tw_169
  · exact tw_171
  · exact tw_173
theorem tu_T : ∀ w ∈ u_ws R_T F_T 2, w ∈ TB := fun w h => by
  have e : u_ws R_T F_T 2 = [.laysFinal "DrawCommands$Told" "DrawCommands$Told" "starts" "[I", .laysFinal "DrawCommands$Told" "DrawCommands$Told" "words" "[I"] := rfl
  rw [e] at h
  simp only [List.mem_cons, List.not_mem_nil, or_false] at h
  rcases h with rfl | rfl
  · exact tw_104
  · exact tw_106
theorem tu_D : ∀ w ∈ u_ws R_D F_D 8, w ∈ TB := fun w h => by
  have e : u_ws R_D F_D 8 = [.laysFinal "DrawCommands" "DrawCommands" "memory" "[I", .laysFinal "DrawCommands" "DrawCommands" "stream" "[I", .laysFinal "DrawCommands" "DrawCommands" "told" "LDrawCommands$Told;", .laysFinal "DrawCommands" "DrawCommands" "command" "LDrawCommands$Command;", .laysFinal "DrawCommands" "DrawCommands" "run" "LDrawCommands$Run;", .lays "DrawCommands" "DrawCommands" "streamLength" "I", .lays "DrawCommands" "DrawCommands" "frameWide" "I", .lays "DrawCommands" "DrawCommands" "frameHigh" "I"] := rfl
  rw [e] at h
  simp only [List.mem_cons, List.not_mem_nil, or_false] at h
  rcases h with rfl | rfl | rfl | rfl | rfl | rfl | rfl | rfl
  · exact tw_184
  · exact tw_186
  · exact tw_188
  · exact tw_190
  · exact tw_192
  · exact tw_194
  · exact tw_196
  · exact tw_198
theorem tu_M : ∀ w ∈ u_ws R_M F_M 18, w ∈ TB := fun w h => by
  have e : u_ws R_M F_M 18 = [.lays "DrawCommandsModel" "DrawCommandsModel" "thrown" "I", .laysFinal "DrawCommandsModel" "DrawCommandsModel" "memory" "[I", .lays "DrawCommandsModel" "DrawCommandsModel" "wide" "I", .lays "DrawCommandsModel" "DrawCommandsModel" "high" "I", .laysFinal "DrawCommandsModel" "DrawCommandsModel" "stream" "[I", .lays "DrawCommandsModel" "DrawCommandsModel" "size" "I", .lays "DrawCommandsModel" "DrawCommandsModel" "at" "I", .lays "DrawCommandsModel" "DrawCommandsModel" "depth" "I", .laysFinal "DrawCommandsModel" "DrawCommandsModel" "back" "[I", .lays "DrawCommandsModel" "DrawCommandsModel" "over" "Z", .lays "DrawCommandsModel" "DrawCommandsModel" "refusal" "I", .lays "DrawCommandsModel" "DrawCommandsModel" "place" "I", .lays "DrawCommandsModel" "DrawCommandsModel" "deep" "I", .lays "DrawCommandsModel" "DrawCommandsModel" "done" "I", .lays "DrawCommandsModel" "DrawCommandsModel" "query" "I", .lays "DrawCommandsModel" "DrawCommandsModel" "arguments" "I", .laysFinal "DrawCommandsModel" "DrawCommandsModel" "argument" "[I", .laysFinal "DrawCommandsModel" "DrawCommandsModel" "kept" "[I"] := rfl
  rw [e] at h
  simp only [List.mem_cons, List.not_mem_nil, or_false] at h
  rcases h with rfl | rfl | rfl | rfl | rfl | rfl | rfl | rfl | rfl | rfl | rfl | rfl | rfl | rfl | rfl | rfl | rfl | rfl
  · exact tw_550
  · exact tw_552
  · exact tw_554
  · exact tw_556
  · exact tw_558
  · exact tw_560
  · exact tw_562
  · exact tw_564
  · exact tw_566
  · exact tw_568
  · exact tw_570
  · exact tw_572
  · exact tw_574
  · exact tw_576
  · exact tw_578
  · exact tw_580
  · exact tw_582
  · exact tw_584
end
section
theorem d_D_init_0 : decode b_D_init 0 = .ok (.aload_n 0, 1) := by decide +kernel
theorem d_D_init_1 : decode b_D_init 1 = .ok (.invokespecial 1, 3) := by decide +kernel
theorem d_D_init_4 : decode b_D_init 4 = .ok (.aload_n 0, 1) := by decide +kernel
theorem d_D_init_5 : decode b_D_init 5 = .ok (.sipush 4096, 3) := by decide +kernel
theorem d_D_init_8 : decode b_D_init 8 = .ok (.newarray .int, 2) := by decide +kernel
theorem d_D_init_10 : decode b_D_init 10 = .ok (.putfield 9, 3) := by decide +kernel
theorem d_D_init_13 : decode b_D_init 13 = .ok (.aload_n 0, 1) := by decide +kernel
theorem d_D_init_14 : decode b_D_init 14 = .ok (.sipush 4096, 3) := by decide +kernel
theorem d_D_init_17 : decode b_D_init 17 = .ok (.newarray .int, 2) := by decide +kernel
theorem d_D_init_19 : decode b_D_init 19 = .ok (.putfield 13, 3) := by decide +kernel
theorem d_D_init_22 : decode b_D_init 22 = .ok (.aload_n 0, 1) := by decide +kernel
theorem d_D_init_23 : decode b_D_init 23 = .ok (.new 16, 3) := by decide +kernel
theorem d_D_init_26 : decode b_D_init 26 = .ok (.dup, 1) := by decide +kernel
theorem d_D_init_27 : decode b_D_init 27 = .ok (.invokespecial 18, 3) := by decide +kernel
theorem d_D_init_30 : decode b_D_init 30 = .ok (.putfield 19, 3) := by decide +kernel
theorem d_D_init_33 : decode b_D_init 33 = .ok (.aload_n 0, 1) := by decide +kernel
theorem d_D_init_34 : decode b_D_init 34 = .ok (.new 23, 3) := by decide +kernel
theorem d_D_init_37 : decode b_D_init 37 = .ok (.dup, 1) := by decide +kernel
theorem d_D_init_38 : decode b_D_init 38 = .ok (.invokespecial 25, 3) := by decide +kernel
theorem d_D_init_41 : decode b_D_init 41 = .ok (.putfield 26, 3) := by decide +kernel
theorem d_D_init_44 : decode b_D_init 44 = .ok (.aload_n 0, 1) := by decide +kernel
theorem d_D_init_45 : decode b_D_init 45 = .ok (.new 30, 3) := by decide +kernel
theorem d_D_init_48 : decode b_D_init 48 = .ok (.dup, 1) := by decide +kernel
theorem d_D_init_49 : decode b_D_init 49 = .ok (.invokespecial 32, 3) := by decide +kernel
theorem d_D_init_52 : decode b_D_init 52 = .ok (.putfield 33, 3) := by decide +kernel
theorem d_D_init_55 : decode b_D_init 55 = .ok (.aload_n 0, 1) := by decide +kernel
theorem d_D_init_56 : decode b_D_init 56 = .ok (.iconst 0, 1) := by decide +kernel
theorem d_D_init_57 : decode b_D_init 57 = .ok (.putfield 37, 3) := by decide +kernel
theorem d_D_init_60 : decode b_D_init 60 = .ok (.aload_n 0, 1) := by decide +kernel
theorem d_D_init_61 : decode b_D_init 61 = .ok (.iconst 1, 1) := by decide +kernel
theorem d_D_init_62 : decode b_D_init 62 = .ok (.putfield 41, 3) := by decide +kernel
theorem d_D_init_65 : decode b_D_init 65 = .ok (.aload_n 0, 1) := by decide +kernel
theorem d_D_init_66 : decode b_D_init 66 = .ok (.iconst 1, 1) := by decide +kernel
theorem d_D_init_67 : decode b_D_init 67 = .ok (.putfield 44, 3) := by decide +kernel
theorem d_D_init_70 : decode b_D_init 70 = .ok (.return_, 1) := by decide +kernel
theorem d_T_init_0 : decode b_T_init 0 = .ok (.aload_n 0, 1) := by decide +kernel
theorem d_T_init_1 : decode b_T_init 1 = .ok (.invokespecial 3, 3) := by decide +kernel
theorem d_T_init_4 : decode b_T_init 4 = .ok (.aload_n 0, 1) := by decide +kernel
theorem d_T_init_5 : decode b_T_init 5 = .ok (.bipush 26, 2) := by decide +kernel
theorem d_T_init_7 : decode b_T_init 7 = .ok (.newarray .int, 2) := by decide +kernel
theorem d_T_init_9 : decode b_T_init 9 = .ok (.putfield 11, 3) := by decide +kernel
theorem d_T_init_12 : decode b_T_init 12 = .ok (.iconst 0, 1) := by decide +kernel
theorem d_T_init_13 : decode b_T_init 13 = .ok (.istore_n 1, 1) := by decide +kernel
theorem d_T_init_14 : decode b_T_init 14 = .ok (.iconst 0, 1) := by decide +kernel
theorem d_T_init_15 : decode b_T_init 15 = .ok (.istore_n 2, 1) := by decide +kernel
theorem d_T_init_16 : decode b_T_init 16 = .ok (.iload_n 2, 1) := by decide +kernel
theorem d_T_init_17 : decode b_T_init 17 = .ok (.bipush 26, 2) := by decide +kernel
theorem d_T_init_19 : decode b_T_init 19 = .ok (.if_icmp .ge 30, 3) := by decide +kernel
theorem d_T_init_22 : decode b_T_init 22 = .ok (.aload_n 0, 1) := by decide +kernel
theorem d_T_init_23 : decode b_T_init 23 = .ok (.getfield 11, 3) := by decide +kernel
theorem d_T_init_26 : decode b_T_init 26 = .ok (.iload_n 2, 1) := by decide +kernel
theorem d_T_init_27 : decode b_T_init 27 = .ok (.iload_n 1, 1) := by decide +kernel
theorem d_T_init_28 : decode b_T_init 28 = .ok (.invokestatic 17, 3) := by decide +kernel
theorem d_T_init_31 : decode b_T_init 31 = .ok (.iload_n 1, 1) := by decide +kernel
theorem d_T_init_32 : decode b_T_init 32 = .ok (.iload_n 2, 1) := by decide +kernel
theorem d_T_init_33 : decode b_T_init 33 = .ok (.invokestatic 21, 3) := by decide +kernel
theorem d_T_init_36 : decode b_T_init 36 = .ok (.iload_n 2, 1) := by decide +kernel
theorem d_T_init_37 : decode b_T_init 37 = .ok (.invokestatic 25, 3) := by decide +kernel
theorem d_T_init_40 : decode b_T_init 40 = .ok (.imul, 1) := by decide +kernel
theorem d_T_init_41 : decode b_T_init 41 = .ok (.iadd, 1) := by decide +kernel
theorem d_T_init_42 : decode b_T_init 42 = .ok (.istore_n 1, 1) := by decide +kernel
theorem d_T_init_43 : decode b_T_init 43 = .ok (.iinc 2 1, 3) := by decide +kernel
theorem d_T_init_46 : decode b_T_init 46 = .ok (.goto (-30), 3) := by decide +kernel
theorem d_T_init_49 : decode b_T_init 49 = .ok (.aload_n 0, 1) := by decide +kernel
theorem d_T_init_50 : decode b_T_init 50 = .ok (.iconst 0, 1) := by decide +kernel
theorem d_T_init_51 : decode b_T_init 51 = .ok (.iload_n 1, 1) := by decide +kernel
theorem d_T_init_52 : decode b_T_init 52 = .ok (.invokestatic 28, 3) := by decide +kernel
theorem d_T_init_55 : decode b_T_init 55 = .ok (.newarray .int, 2) := by decide +kernel
theorem d_T_init_57 : decode b_T_init 57 = .ok (.putfield 34, 3) := by decide +kernel
theorem d_T_init_60 : decode b_T_init 60 = .ok (.aload_n 0, 1) := by decide +kernel
theorem d_T_init_61 : decode b_T_init 61 = .ok (.invokevirtual 37, 3) := by decide +kernel
theorem d_T_init_64 : decode b_T_init 64 = .ok (.return_, 1) := by decide +kernel
theorem d_D_write_0 : decode b_D_write 0 = .ok (.iload_n 1, 1) := by decide +kernel
theorem d_D_write_1 : decode b_D_write 1 = .ok (.ifCond .lt 13, 3) := by decide +kernel
theorem d_D_write_4 : decode b_D_write 4 = .ok (.iload_n 1, 1) := by decide +kernel
theorem d_D_write_5 : decode b_D_write 5 = .ok (.aload_n 0, 1) := by decide +kernel
theorem d_D_write_6 : decode b_D_write 6 = .ok (.arraylength, 1) := by decide +kernel
theorem d_D_write_7 : decode b_D_write 7 = .ok (.if_icmp .ge 7, 3) := by decide +kernel
theorem d_D_write_10 : decode b_D_write 10 = .ok (.aload_n 0, 1) := by decide +kernel
theorem d_D_write_11 : decode b_D_write 11 = .ok (.iload_n 1, 1) := by decide +kernel
theorem d_D_write_12 : decode b_D_write 12 = .ok (.iload_n 2, 1) := by decide +kernel
theorem d_D_write_13 : decode b_D_write 13 = .ok (.iastore, 1) := by decide +kernel
theorem d_D_write_14 : decode b_D_write 14 = .ok (.return_, 1) := by decide +kernel
theorem d_S_holders_0 : decode b_S_holders 0 = .ok (.getstatic 23, 3) := by decide +kernel
theorem d_S_holders_3 : decode b_S_holders 3 = .ok (.iload_n 0, 1) := by decide +kernel
theorem d_S_holders_4 : decode b_S_holders 4 = .ok (.invokestatic 19, 3) := by decide +kernel
theorem d_S_holders_7 : decode b_S_holders 7 = .ok (.ireturn, 1) := by decide +kernel
theorem d_D_read_0 : decode b_D_read 0 = .ok (.iload_n 1, 1) := by decide +kernel
theorem d_D_read_1 : decode b_D_read 1 = .ok (.ifCond .lt 15, 3) := by decide +kernel
theorem d_D_read_4 : decode b_D_read 4 = .ok (.iload_n 1, 1) := by decide +kernel
theorem d_D_read_5 : decode b_D_read 5 = .ok (.aload_n 0, 1) := by decide +kernel
theorem d_D_read_6 : decode b_D_read 6 = .ok (.arraylength, 1) := by decide +kernel
theorem d_D_read_7 : decode b_D_read 7 = .ok (.if_icmp .ge 9, 3) := by decide +kernel
theorem d_D_read_10 : decode b_D_read 10 = .ok (.aload_n 0, 1) := by decide +kernel
theorem d_D_read_11 : decode b_D_read 11 = .ok (.iload_n 1, 1) := by decide +kernel
theorem d_D_read_12 : decode b_D_read 12 = .ok (.iaload, 1) := by decide +kernel
theorem d_D_read_13 : decode b_D_read 13 = .ok (.goto 4, 3) := by decide +kernel
theorem d_D_read_16 : decode b_D_read 16 = .ok (.iconst 0, 1) := by decide +kernel
theorem d_D_read_17 : decode b_D_read 17 = .ok (.ireturn, 1) := by decide +kernel
theorem d_S_fixed_0 : decode b_S_fixed 0 = .ok (.iload_n 0, 1) := by decide +kernel
theorem d_S_fixed_1 : decode b_S_fixed 1 = .ok (.invokestatic 11, 3) := by decide +kernel
theorem d_S_fixed_4 : decode b_S_fixed 4 = .ok (.ifCond .eq 23, 3) := by decide +kernel
theorem d_S_fixed_7 : decode b_S_fixed 7 = .ok (.getstatic 15, 3) := by decide +kernel
theorem d_S_fixed_10 : decode b_S_fixed 10 = .ok (.iload_n 0, 1) := by decide +kernel
theorem d_S_fixed_11 : decode b_S_fixed 11 = .ok (.iconst 1, 1) := by decide +kernel
theorem d_S_fixed_12 : decode b_S_fixed 12 = .ok (.iadd, 1) := by decide +kernel
theorem d_S_fixed_13 : decode b_S_fixed 13 = .ok (.invokestatic 19, 3) := by decide +kernel
theorem d_S_fixed_16 : decode b_S_fixed 16 = .ok (.getstatic 15, 3) := by decide +kernel
theorem d_S_fixed_19 : decode b_S_fixed 19 = .ok (.iload_n 0, 1) := by decide +kernel
theorem d_S_fixed_20 : decode b_S_fixed 20 = .ok (.invokestatic 19, 3) := by decide +kernel
theorem d_S_fixed_23 : decode b_S_fixed 23 = .ok (.isub, 1) := by decide +kernel
theorem d_S_fixed_24 : decode b_S_fixed 24 = .ok (.goto 4, 3) := by decide +kernel
theorem d_S_fixed_27 : decode b_S_fixed 27 = .ok (.iconst 0, 1) := by decide +kernel
theorem d_S_fixed_28 : decode b_S_fixed 28 = .ok (.ireturn, 1) := by decide +kernel
theorem d_S_isKind_0 : decode b_S_isKind 0 = .ok (.iload_n 0, 1) := by decide +kernel
theorem d_S_isKind_1 : decode b_S_isKind 1 = .ok (.ifCond .lt 13, 3) := by decide +kernel
theorem d_S_isKind_4 : decode b_S_isKind 4 = .ok (.iload_n 0, 1) := by decide +kernel
theorem d_S_isKind_5 : decode b_S_isKind 5 = .ok (.bipush 26, 2) := by decide +kernel
theorem d_S_isKind_7 : decode b_S_isKind 7 = .ok (.if_icmp .ge 7, 3) := by decide +kernel
theorem d_S_isKind_10 : decode b_S_isKind 10 = .ok (.iconst 1, 1) := by decide +kernel
theorem d_S_isKind_11 : decode b_S_isKind 11 = .ok (.goto 4, 3) := by decide +kernel
theorem d_S_isKind_14 : decode b_S_isKind 14 = .ok (.iconst 0, 1) := by decide +kernel
theorem d_S_isKind_15 : decode b_S_isKind 15 = .ok (.ireturn, 1) := by decide +kernel
theorem d_T_forget_0 : decode b_T_forget 0 = .ok (.iconst 0, 1) := by decide +kernel
theorem d_T_forget_1 : decode b_T_forget 1 = .ok (.istore_n 1, 1) := by decide +kernel
theorem d_T_forget_2 : decode b_T_forget 2 = .ok (.iload_n 1, 1) := by decide +kernel
theorem d_T_forget_3 : decode b_T_forget 3 = .ok (.bipush 26, 2) := by decide +kernel
theorem d_T_forget_5 : decode b_T_forget 5 = .ok (.if_icmp .ge 33, 3) := by decide +kernel
theorem d_T_forget_8 : decode b_T_forget 8 = .ok (.iload_n 1, 1) := by decide +kernel
theorem d_T_forget_9 : decode b_T_forget 9 = .ok (.invokestatic 21, 3) := by decide +kernel
theorem d_T_forget_12 : decode b_T_forget 12 = .ok (.istore_n 2, 1) := by decide +kernel
theorem d_T_forget_13 : decode b_T_forget 13 = .ok (.iconst 0, 1) := by decide +kernel
theorem d_T_forget_14 : decode b_T_forget 14 = .ok (.istore_n 3, 1) := by decide +kernel
theorem d_T_forget_15 : decode b_T_forget 15 = .ok (.iload_n 3, 1) := by decide +kernel
theorem d_T_forget_16 : decode b_T_forget 16 = .ok (.iload_n 2, 1) := by decide +kernel
theorem d_T_forget_17 : decode b_T_forget 17 = .ok (.if_icmp .ge 15, 3) := by decide +kernel
theorem d_T_forget_20 : decode b_T_forget 20 = .ok (.aload_n 0, 1) := by decide +kernel
theorem d_T_forget_21 : decode b_T_forget 21 = .ok (.iload_n 1, 1) := by decide +kernel
theorem d_T_forget_22 : decode b_T_forget 22 = .ok (.iload_n 3, 1) := by decide +kernel
theorem d_T_forget_23 : decode b_T_forget 23 = .ok (.invokevirtual 40, 3) := by decide +kernel
theorem d_T_forget_26 : decode b_T_forget 26 = .ok (.iinc 3 1, 3) := by decide +kernel
theorem d_T_forget_29 : decode b_T_forget 29 = .ok (.goto (-14), 3) := by decide +kernel
theorem d_T_forget_32 : decode b_T_forget 32 = .ok (.iinc 1 1, 3) := by decide +kernel
theorem d_T_forget_35 : decode b_T_forget 35 = .ok (.goto (-33), 3) := by decide +kernel
theorem d_T_forget_38 : decode b_T_forget 38 = .ok (.return_, 1) := by decide +kernel
theorem d_T_forgetOne_0 : decode b_T_forgetOne 0 = .ok (.aload_n 0, 1) := by decide +kernel
theorem d_T_forgetOne_1 : decode b_T_forgetOne 1 = .ok (.iload_n 1, 1) := by decide +kernel
theorem d_T_forgetOne_2 : decode b_T_forgetOne 2 = .ok (.iload_n 2, 1) := by decide +kernel
theorem d_T_forgetOne_3 : decode b_T_forgetOne 3 = .ok (.iconst 0, 1) := by decide +kernel
theorem d_T_forgetOne_4 : decode b_T_forgetOne 4 = .ok (.invokevirtual 44, 3) := by decide +kernel
theorem d_T_forgetOne_7 : decode b_T_forgetOne 7 = .ok (.istore_n 3, 1) := by decide +kernel
theorem d_T_forgetOne_8 : decode b_T_forgetOne 8 = .ok (.iload_n 1, 1) := by decide +kernel
theorem d_T_forgetOne_9 : decode b_T_forgetOne 9 = .ok (.invokestatic 25, 3) := by decide +kernel
theorem d_T_forgetOne_12 : decode b_T_forgetOne 12 = .ok (.istore 4, 2) := by decide +kernel
theorem d_T_forgetOne_14 : decode b_T_forgetOne 14 = .ok (.iconst 0, 1) := by decide +kernel
theorem d_T_forgetOne_15 : decode b_T_forgetOne 15 = .ok (.istore 5, 2) := by decide +kernel
theorem d_T_forgetOne_17 : decode b_T_forgetOne 17 = .ok (.iload 5, 2) := by decide +kernel
theorem d_T_forgetOne_19 : decode b_T_forgetOne 19 = .ok (.iload 4, 2) := by decide +kernel
theorem d_T_forgetOne_21 : decode b_T_forgetOne 21 = .ok (.if_icmp .ge 26, 3) := by decide +kernel
theorem d_T_forgetOne_24 : decode b_T_forgetOne 24 = .ok (.aload_n 0, 1) := by decide +kernel
theorem d_T_forgetOne_25 : decode b_T_forgetOne 25 = .ok (.getfield 34, 3) := by decide +kernel
theorem d_T_forgetOne_28 : decode b_T_forgetOne 28 = .ok (.iload_n 3, 1) := by decide +kernel
theorem d_T_forgetOne_29 : decode b_T_forgetOne 29 = .ok (.iload 5, 2) := by decide +kernel
theorem d_T_forgetOne_31 : decode b_T_forgetOne 31 = .ok (.iadd, 1) := by decide +kernel
theorem d_T_forgetOne_32 : decode b_T_forgetOne 32 = .ok (.iload_n 1, 1) := by decide +kernel
theorem d_T_forgetOne_33 : decode b_T_forgetOne 33 = .ok (.iload 5, 2) := by decide +kernel
theorem d_T_forgetOne_35 : decode b_T_forgetOne 35 = .ok (.invokestatic 48, 3) := by decide +kernel
theorem d_T_forgetOne_38 : decode b_T_forgetOne 38 = .ok (.invokestatic 17, 3) := by decide +kernel
theorem d_T_forgetOne_41 : decode b_T_forgetOne 41 = .ok (.iinc 5 1, 3) := by decide +kernel
theorem d_T_forgetOne_44 : decode b_T_forgetOne 44 = .ok (.goto (-27), 3) := by decide +kernel
theorem d_T_forgetOne_47 : decode b_T_forgetOne 47 = .ok (.iload_n 1, 1) := by decide +kernel
theorem d_T_forgetOne_48 : decode b_T_forgetOne 48 = .ok (.invokestatic 51, 3) := by decide +kernel
theorem d_T_forgetOne_51 : decode b_T_forgetOne 51 = .ok (.ifCond .eq 12, 3) := by decide +kernel
theorem d_T_forgetOne_54 : decode b_T_forgetOne 54 = .ok (.aload_n 0, 1) := by decide +kernel
theorem d_T_forgetOne_55 : decode b_T_forgetOne 55 = .ok (.getfield 34, 3) := by decide +kernel
theorem d_T_forgetOne_58 : decode b_T_forgetOne 58 = .ok (.iload_n 3, 1) := by decide +kernel
theorem d_T_forgetOne_59 : decode b_T_forgetOne 59 = .ok (.iload_n 2, 1) := by decide +kernel
theorem d_T_forgetOne_60 : decode b_T_forgetOne 60 = .ok (.invokestatic 17, 3) := by decide +kernel
theorem d_T_forgetOne_63 : decode b_T_forgetOne 63 = .ok (.return_, 1) := by decide +kernel
theorem d_T_placeOf_0 : decode b_T_placeOf 0 = .ok (.aload_n 0, 1) := by decide +kernel
theorem d_T_placeOf_1 : decode b_T_placeOf 1 = .ok (.getfield 11, 3) := by decide +kernel
theorem d_T_placeOf_4 : decode b_T_placeOf 4 = .ok (.iload_n 1, 1) := by decide +kernel
theorem d_T_placeOf_5 : decode b_T_placeOf 5 = .ok (.invokestatic 67, 3) := by decide +kernel
theorem d_T_placeOf_8 : decode b_T_placeOf 8 = .ok (.iload_n 2, 1) := by decide +kernel
theorem d_T_placeOf_9 : decode b_T_placeOf 9 = .ok (.iload_n 1, 1) := by decide +kernel
theorem d_T_placeOf_10 : decode b_T_placeOf 10 = .ok (.invokestatic 25, 3) := by decide +kernel
theorem d_T_placeOf_13 : decode b_T_placeOf 13 = .ok (.imul, 1) := by decide +kernel
theorem d_T_placeOf_14 : decode b_T_placeOf 14 = .ok (.iadd, 1) := by decide +kernel
theorem d_T_placeOf_15 : decode b_T_placeOf 15 = .ok (.iload_n 3, 1) := by decide +kernel
theorem d_T_placeOf_16 : decode b_T_placeOf 16 = .ok (.iadd, 1) := by decide +kernel
theorem d_T_placeOf_17 : decode b_T_placeOf 17 = .ok (.ireturn, 1) := by decide +kernel
theorem d_S_untold_0 : decode b_S_untold 0 = .ok (.iload_n 0, 1) := by decide +kernel
theorem d_S_untold_1 : decode b_S_untold 1 = .ok (.iload_n 1, 1) := by decide +kernel
theorem d_S_untold_2 : decode b_S_untold 2 = .ok (.iconst 2, 1) := by decide +kernel
theorem d_S_untold_3 : decode b_S_untold 3 = .ok (.invokestatic 26, 3) := by decide +kernel
theorem d_S_untold_6 : decode b_S_untold 6 = .ok (.ireturn, 1) := by decide +kernel
theorem d_S_column_0 : decode b_S_column 0 = .ok (.getstatic 30, 3) := by decide +kernel
theorem d_S_column_3 : decode b_S_column 3 = .ok (.iconst 3, 1) := by decide +kernel
theorem d_S_column_4 : decode b_S_column 4 = .ok (.getstatic 15, 3) := by decide +kernel
theorem d_S_column_7 : decode b_S_column 7 = .ok (.iload_n 0, 1) := by decide +kernel
theorem d_S_column_8 : decode b_S_column 8 = .ok (.invokestatic 19, 3) := by decide +kernel
theorem d_S_column_11 : decode b_S_column 11 = .ok (.iload_n 1, 1) := by decide +kernel
theorem d_S_column_12 : decode b_S_column 12 = .ok (.iadd, 1) := by decide +kernel
theorem d_S_column_13 : decode b_S_column 13 = .ok (.imul, 1) := by decide +kernel
theorem d_S_column_14 : decode b_S_column 14 = .ok (.iload_n 2, 1) := by decide +kernel
theorem d_S_column_15 : decode b_S_column 15 = .ok (.iadd, 1) := by decide +kernel
theorem d_S_column_16 : decode b_S_column 16 = .ok (.invokestatic 19, 3) := by decide +kernel
theorem d_S_column_19 : decode b_S_column 19 = .ok (.ireturn, 1) := by decide +kernel
theorem d_T_namesItsHolder_0 : decode b_T_namesItsHolder 0 = .ok (.iload_n 0, 1) := by decide +kernel
theorem d_T_namesItsHolder_1 : decode b_T_namesItsHolder 1 = .ok (.invokestatic 21, 3) := by decide +kernel
theorem d_T_namesItsHolder_4 : decode b_T_namesItsHolder 4 = .ok (.iconst 1, 1) := by decide +kernel
theorem d_T_namesItsHolder_5 : decode b_T_namesItsHolder 5 = .ok (.if_icmp .le 7, 3) := by decide +kernel
theorem d_T_namesItsHolder_8 : decode b_T_namesItsHolder 8 = .ok (.iconst 1, 1) := by decide +kernel
theorem d_T_namesItsHolder_9 : decode b_T_namesItsHolder 9 = .ok (.goto 4, 3) := by decide +kernel
theorem d_T_namesItsHolder_12 : decode b_T_namesItsHolder 12 = .ok (.iconst 0, 1) := by decide +kernel
theorem d_T_namesItsHolder_13 : decode b_T_namesItsHolder 13 = .ok (.ireturn, 1) := by decide +kernel
theorem d_C_init_0 : decode b_C_init 0 = .ok (.aload_n 0, 1) := by decide +kernel
theorem d_C_init_1 : decode b_C_init 1 = .ok (.invokespecial 3, 3) := by decide +kernel
theorem d_C_init_4 : decode b_C_init 4 = .ok (.aload_n 0, 1) := by decide +kernel
theorem d_C_init_5 : decode b_C_init 5 = .ok (.sipush 258, 3) := by decide +kernel
theorem d_C_init_8 : decode b_C_init 8 = .ok (.newarray .int, 2) := by decide +kernel
theorem d_C_init_10 : decode b_C_init 10 = .ok (.putfield 9, 3) := by decide +kernel
theorem d_C_init_13 : decode b_C_init 13 = .ok (.aload_n 0, 1) := by decide +kernel
theorem d_C_init_14 : decode b_C_init 14 = .ok (.iconst 0, 1) := by decide +kernel
theorem d_C_init_15 : decode b_C_init 15 = .ok (.putfield 15, 3) := by decide +kernel
theorem d_C_init_18 : decode b_C_init 18 = .ok (.aload_n 0, 1) := by decide +kernel
theorem d_C_init_19 : decode b_C_init 19 = .ok (.iconst 0, 1) := by decide +kernel
theorem d_C_init_20 : decode b_C_init 20 = .ok (.putfield 19, 3) := by decide +kernel
theorem d_C_init_23 : decode b_C_init 23 = .ok (.return_, 1) := by decide +kernel
theorem d_R_init_0 : decode b_R_init 0 = .ok (.aload_n 0, 1) := by decide +kernel
theorem d_R_init_1 : decode b_R_init 1 = .ok (.invokespecial 3, 3) := by decide +kernel
theorem d_R_init_4 : decode b_R_init 4 = .ok (.aload_n 0, 1) := by decide +kernel
theorem d_R_init_5 : decode b_R_init 5 = .ok (.iconst 4, 1) := by decide +kernel
theorem d_R_init_6 : decode b_R_init 6 = .ok (.newarray .int, 2) := by decide +kernel
theorem d_R_init_8 : decode b_R_init 8 = .ok (.putfield 9, 3) := by decide +kernel
theorem d_R_init_11 : decode b_R_init 11 = .ok (.aload_n 0, 1) := by decide +kernel
theorem d_R_init_12 : decode b_R_init 12 = .ok (.invokevirtual 15, 3) := by decide +kernel
theorem d_R_init_15 : decode b_R_init 15 = .ok (.return_, 1) := by decide +kernel
theorem d_R_restart_0 : decode b_R_restart 0 = .ok (.aload_n 0, 1) := by decide +kernel
theorem d_R_restart_1 : decode b_R_restart 1 = .ok (.iconst 0, 1) := by decide +kernel
theorem d_R_restart_2 : decode b_R_restart 2 = .ok (.putfield 18, 3) := by decide +kernel
theorem d_R_restart_5 : decode b_R_restart 5 = .ok (.aload_n 0, 1) := by decide +kernel
theorem d_R_restart_6 : decode b_R_restart 6 = .ok (.iconst 0, 1) := by decide +kernel
theorem d_R_restart_7 : decode b_R_restart 7 = .ok (.putfield 22, 3) := by decide +kernel
theorem d_R_restart_10 : decode b_R_restart 10 = .ok (.aload_n 0, 1) := by decide +kernel
theorem d_R_restart_11 : decode b_R_restart 11 = .ok (.iconst (-1), 1) := by decide +kernel
theorem d_R_restart_12 : decode b_R_restart 12 = .ok (.putfield 25, 3) := by decide +kernel
theorem d_R_restart_15 : decode b_R_restart 15 = .ok (.aload_n 0, 1) := by decide +kernel
theorem d_R_restart_16 : decode b_R_restart 16 = .ok (.iconst (-1), 1) := by decide +kernel
theorem d_R_restart_17 : decode b_R_restart 17 = .ok (.putfield 28, 3) := by decide +kernel
theorem d_R_restart_20 : decode b_R_restart 20 = .ok (.aload_n 0, 1) := by decide +kernel
theorem d_R_restart_21 : decode b_R_restart 21 = .ok (.iconst 0, 1) := by decide +kernel
theorem d_R_restart_22 : decode b_R_restart 22 = .ok (.putfield 31, 3) := by decide +kernel
theorem d_R_restart_25 : decode b_R_restart 25 = .ok (.aload_n 0, 1) := by decide +kernel
theorem d_R_restart_26 : decode b_R_restart 26 = .ok (.iconst 0, 1) := by decide +kernel
theorem d_R_restart_27 : decode b_R_restart 27 = .ok (.putfield 34, 3) := by decide +kernel
theorem d_R_restart_30 : decode b_R_restart 30 = .ok (.aload_n 0, 1) := by decide +kernel
theorem d_R_restart_31 : decode b_R_restart 31 = .ok (.iconst (-1), 1) := by decide +kernel
theorem d_R_restart_32 : decode b_R_restart 32 = .ok (.putfield 37, 3) := by decide +kernel
theorem d_R_restart_35 : decode b_R_restart 35 = .ok (.aload_n 0, 1) := by decide +kernel
theorem d_R_restart_36 : decode b_R_restart 36 = .ok (.iconst 0, 1) := by decide +kernel
theorem d_R_restart_37 : decode b_R_restart 37 = .ok (.putfield 40, 3) := by decide +kernel
theorem d_R_restart_40 : decode b_R_restart 40 = .ok (.return_, 1) := by decide +kernel
theorem d_D_clear_0 : decode b_D_clear 0 = .ok (.aload_n 0, 1) := by decide +kernel
theorem d_D_clear_1 : decode b_D_clear 1 = .ok (.iconst 0, 1) := by decide +kernel
theorem d_D_clear_2 : decode b_D_clear 2 = .ok (.putfield 37, 3) := by decide +kernel
theorem d_D_clear_5 : decode b_D_clear 5 = .ok (.aload_n 0, 1) := by decide +kernel
theorem d_D_clear_6 : decode b_D_clear 6 = .ok (.invokevirtual 72, 3) := by decide +kernel
theorem d_D_clear_9 : decode b_D_clear 9 = .ok (.return_, 1) := by decide +kernel
theorem d_D_startAnew_0 : decode b_D_startAnew 0 = .ok (.aload_n 0, 1) := by decide +kernel
theorem d_D_startAnew_1 : decode b_D_startAnew 1 = .ok (.getfield 26, 3) := by decide +kernel
theorem d_D_startAnew_4 : decode b_D_startAnew 4 = .ok (.invokevirtual 94, 3) := by decide +kernel
theorem d_D_startAnew_7 : decode b_D_startAnew 7 = .ok (.aload_n 0, 1) := by decide +kernel
theorem d_D_startAnew_8 : decode b_D_startAnew 8 = .ok (.getfield 33, 3) := by decide +kernel
theorem d_D_startAnew_11 : decode b_D_startAnew 11 = .ok (.invokevirtual 144, 3) := by decide +kernel
theorem d_D_startAnew_14 : decode b_D_startAnew 14 = .ok (.return_, 1) := by decide +kernel
theorem d_C_forget_0 : decode b_C_forget 0 = .ok (.aload_n 0, 1) := by decide +kernel
theorem d_C_forget_1 : decode b_C_forget 1 = .ok (.iconst 0, 1) := by decide +kernel
theorem d_C_forget_2 : decode b_C_forget 2 = .ok (.iconst 0, 1) := by decide +kernel
theorem d_C_forget_3 : decode b_C_forget 3 = .ok (.invokevirtual 22, 3) := by decide +kernel
theorem d_C_forget_6 : decode b_C_forget 6 = .ok (.return_, 1) := by decide +kernel
theorem d_C_become_0 : decode b_C_become 0 = .ok (.aload_n 0, 1) := by decide +kernel
theorem d_C_become_1 : decode b_C_become 1 = .ok (.iload_n 1, 1) := by decide +kernel
theorem d_C_become_2 : decode b_C_become 2 = .ok (.putfield 15, 3) := by decide +kernel
theorem d_C_become_5 : decode b_C_become 5 = .ok (.aload_n 0, 1) := by decide +kernel
theorem d_C_become_6 : decode b_C_become 6 = .ok (.iload_n 2, 1) := by decide +kernel
theorem d_C_become_7 : decode b_C_become 7 = .ok (.putfield 19, 3) := by decide +kernel
theorem d_C_become_10 : decode b_C_become 10 = .ok (.return_, 1) := by decide +kernel
theorem d_D_begin_0 : decode b_D_begin 0 = .ok (.iload_n 1, 1) := by decide +kernel
theorem d_D_begin_1 : decode b_D_begin 1 = .ok (.ifCond .ne 10, 3) := by decide +kernel
theorem d_D_begin_4 : decode b_D_begin 4 = .ok (.aload_n 0, 1) := by decide +kernel
theorem d_D_begin_5 : decode b_D_begin 5 = .ok (.getfield 19, 3) := by decide +kernel
theorem d_D_begin_8 : decode b_D_begin 8 = .ok (.invokevirtual 75, 3) := by decide +kernel
theorem d_D_begin_11 : decode b_D_begin 11 = .ok (.aload_n 0, 1) := by decide +kernel
theorem d_D_begin_12 : decode b_D_begin 12 = .ok (.invokevirtual 72, 3) := by decide +kernel
theorem d_D_begin_15 : decode b_D_begin 15 = .ok (.return_, 1) := by decide +kernel
theorem d_D_word_0 : decode b_D_word 0 = .ok (.iload_n 1, 1) := by decide +kernel
theorem d_D_word_1 : decode b_D_word 1 = .ok (.ifCond .lt 10, 3) := by decide +kernel
theorem d_D_word_4 : decode b_D_word 4 = .ok (.iload_n 1, 1) := by decide +kernel
theorem d_D_word_5 : decode b_D_word 5 = .ok (.sipush 4096, 3) := by decide +kernel
theorem d_D_word_8 : decode b_D_word 8 = .ok (.if_icmp .lt 13, 3) := by decide +kernel
theorem d_D_word_11 : decode b_D_word 11 = .ok (.new 47, 3) := by decide +kernel
theorem d_D_word_14 : decode b_D_word 14 = .ok (.dup, 1) := by decide +kernel
theorem d_D_word_15 : decode b_D_word 15 = .ok (.ldc 49, 2) := by decide +kernel
theorem d_D_word_17 : decode b_D_word 17 = .ok (.invokespecial 51, 3) := by decide +kernel
theorem d_D_word_20 : decode b_D_word 20 = .ok (.athrow, 1) := by decide +kernel
theorem d_D_word_21 : decode b_D_word 21 = .ok (.aload_n 0, 1) := by decide +kernel
theorem d_D_word_22 : decode b_D_word 22 = .ok (.getfield 9, 3) := by decide +kernel
theorem d_D_word_25 : decode b_D_word 25 = .ok (.iload_n 1, 1) := by decide +kernel
theorem d_D_word_26 : decode b_D_word 26 = .ok (.invokestatic 54, 3) := by decide +kernel
theorem d_D_word_29 : decode b_D_word 29 = .ok (.istore_n 3, 1) := by decide +kernel
theorem d_D_word_30 : decode b_D_word 30 = .ok (.aload_n 0, 1) := by decide +kernel
theorem d_D_word_31 : decode b_D_word 31 = .ok (.getfield 9, 3) := by decide +kernel
theorem d_D_word_34 : decode b_D_word 34 = .ok (.iload_n 1, 1) := by decide +kernel
theorem d_D_word_35 : decode b_D_word 35 = .ok (.iload_n 2, 1) := by decide +kernel
theorem d_D_word_36 : decode b_D_word 36 = .ok (.invokestatic 58, 3) := by decide +kernel
theorem d_D_word_39 : decode b_D_word 39 = .ok (.iload_n 3, 1) := by decide +kernel
theorem d_D_word_40 : decode b_D_word 40 = .ok (.ireturn, 1) := by decide +kernel
theorem d_D_frame_0 : decode b_D_frame 0 = .ok (.iload_n 1, 1) := by decide +kernel
theorem d_D_frame_1 : decode b_D_frame 1 = .ok (.iconst 1, 1) := by decide +kernel
theorem d_D_frame_2 : decode b_D_frame 2 = .ok (.if_icmp .lt 22, 3) := by decide +kernel
theorem d_D_frame_5 : decode b_D_frame 5 = .ok (.iload_n 1, 1) := by decide +kernel
theorem d_D_frame_6 : decode b_D_frame 6 = .ok (.sipush 128, 3) := by decide +kernel
theorem d_D_frame_9 : decode b_D_frame 9 = .ok (.if_icmp .gt 15, 3) := by decide +kernel
theorem d_D_frame_12 : decode b_D_frame 12 = .ok (.iload_n 2, 1) := by decide +kernel
theorem d_D_frame_13 : decode b_D_frame 13 = .ok (.iconst 1, 1) := by decide +kernel
theorem d_D_frame_14 : decode b_D_frame 14 = .ok (.if_icmp .lt 10, 3) := by decide +kernel
theorem d_D_frame_17 : decode b_D_frame 17 = .ok (.iload_n 2, 1) := by decide +kernel
theorem d_D_frame_18 : decode b_D_frame 18 = .ok (.sipush 128, 3) := by decide +kernel
theorem d_D_frame_21 : decode b_D_frame 21 = .ok (.if_icmp .le 13, 3) := by decide +kernel
theorem d_D_frame_24 : decode b_D_frame 24 = .ok (.new 62, 3) := by decide +kernel
theorem d_D_frame_27 : decode b_D_frame 27 = .ok (.dup, 1) := by decide +kernel
theorem d_D_frame_28 : decode b_D_frame 28 = .ok (.ldc 64, 2) := by decide +kernel
theorem d_D_frame_30 : decode b_D_frame 30 = .ok (.invokespecial 66, 3) := by decide +kernel
theorem d_D_frame_33 : decode b_D_frame 33 = .ok (.athrow, 1) := by decide +kernel
theorem d_D_frame_34 : decode b_D_frame 34 = .ok (.aload_n 0, 1) := by decide +kernel
theorem d_D_frame_35 : decode b_D_frame 35 = .ok (.iload_n 1, 1) := by decide +kernel
theorem d_D_frame_36 : decode b_D_frame 36 = .ok (.putfield 41, 3) := by decide +kernel
theorem d_D_frame_39 : decode b_D_frame 39 = .ok (.aload_n 0, 1) := by decide +kernel
theorem d_D_frame_40 : decode b_D_frame 40 = .ok (.iload_n 2, 1) := by decide +kernel
theorem d_D_frame_41 : decode b_D_frame 41 = .ok (.putfield 44, 3) := by decide +kernel
theorem d_D_frame_44 : decode b_D_frame 44 = .ok (.return_, 1) := by decide +kernel
theorem d_D_put_0 : decode b_D_put 0 = .ok (.aload_n 0, 1) := by decide +kernel
theorem d_D_put_1 : decode b_D_put 1 = .ok (.getfield 37, 3) := by decide +kernel
theorem d_D_put_4 : decode b_D_put 4 = .ok (.sipush 4096, 3) := by decide +kernel
theorem d_D_put_7 : decode b_D_put 7 = .ok (.if_icmp .lt 13, 3) := by decide +kernel
theorem d_D_put_10 : decode b_D_put 10 = .ok (.new 67, 3) := by decide +kernel
theorem d_D_put_13 : decode b_D_put 13 = .ok (.dup, 1) := by decide +kernel
theorem d_D_put_14 : decode b_D_put 14 = .ok (.ldc 69, 2) := by decide +kernel
theorem d_D_put_16 : decode b_D_put 16 = .ok (.invokespecial 71, 3) := by decide +kernel
theorem d_D_put_19 : decode b_D_put 19 = .ok (.athrow, 1) := by decide +kernel
theorem d_D_put_20 : decode b_D_put 20 = .ok (.aload_n 0, 1) := by decide +kernel
theorem d_D_put_21 : decode b_D_put 21 = .ok (.getfield 13, 3) := by decide +kernel
theorem d_D_put_24 : decode b_D_put 24 = .ok (.aload_n 0, 1) := by decide +kernel
theorem d_D_put_25 : decode b_D_put 25 = .ok (.getfield 37, 3) := by decide +kernel
theorem d_D_put_28 : decode b_D_put 28 = .ok (.iload_n 1, 1) := by decide +kernel
theorem d_D_put_29 : decode b_D_put 29 = .ok (.invokestatic 58, 3) := by decide +kernel
theorem d_D_put_32 : decode b_D_put 32 = .ok (.aload_n 0, 1) := by decide +kernel
theorem d_D_put_33 : decode b_D_put 33 = .ok (.dup, 1) := by decide +kernel
theorem d_D_put_34 : decode b_D_put 34 = .ok (.getfield 37, 3) := by decide +kernel
theorem d_D_put_37 : decode b_D_put 37 = .ok (.iconst 1, 1) := by decide +kernel
theorem d_D_put_38 : decode b_D_put 38 = .ok (.iadd, 1) := by decide +kernel
theorem d_D_put_39 : decode b_D_put 39 = .ok (.putfield 37, 3) := by decide +kernel
theorem d_D_put_42 : decode b_D_put 42 = .ok (.aload_n 0, 1) := by decide +kernel
theorem d_D_put_43 : decode b_D_put 43 = .ok (.getfield 37, 3) := by decide +kernel
theorem d_D_put_46 : decode b_D_put 46 = .ok (.ireturn, 1) := by decide +kernel
theorem d_D_next_0 : decode b_D_next 0 = .ok (.aload_n 0, 1) := by decide +kernel
theorem d_D_next_1 : decode b_D_next 1 = .ok (.getfield 33, 3) := by decide +kernel
theorem d_D_next_4 : decode b_D_next 4 = .ok (.getfield 78, 3) := by decide +kernel
theorem d_D_next_7 : decode b_D_next 7 = .ok (.ifCond .eq 13, 3) := by decide +kernel
theorem d_D_next_10 : decode b_D_next 10 = .ok (.new 82, 3) := by decide +kernel
theorem d_D_next_13 : decode b_D_next 13 = .ok (.dup, 1) := by decide +kernel
theorem d_D_next_14 : decode b_D_next 14 = .ok (.ldc 84, 2) := by decide +kernel
theorem d_D_next_16 : decode b_D_next 16 = .ok (.invokespecial 86, 3) := by decide +kernel
theorem d_D_next_19 : decode b_D_next 19 = .ok (.athrow, 1) := by decide +kernel
theorem d_D_next_20 : decode b_D_next 20 = .ok (.aload_n 0, 1) := by decide +kernel
theorem d_D_next_21 : decode b_D_next 21 = .ok (.getfield 33, 3) := by decide +kernel
theorem d_D_next_24 : decode b_D_next 24 = .ok (.invokevirtual 87, 3) := by decide +kernel
theorem d_D_next_27 : decode b_D_next 27 = .ok (.aload_n 0, 1) := by decide +kernel
theorem d_D_next_28 : decode b_D_next 28 = .ok (.invokevirtual 90, 3) := by decide +kernel
theorem d_D_next_31 : decode b_D_next 31 = .ok (.istore_n 1, 1) := by decide +kernel
theorem d_D_next_32 : decode b_D_next 32 = .ok (.iload_n 1, 1) := by decide +kernel
theorem d_D_next_33 : decode b_D_next 33 = .ok (.ifCond .eq 20, 3) := by decide +kernel
theorem d_D_next_36 : decode b_D_next 36 = .ok (.aload_n 0, 1) := by decide +kernel
theorem d_D_next_37 : decode b_D_next 37 = .ok (.getfield 26, 3) := by decide +kernel
theorem d_D_next_40 : decode b_D_next 40 = .ok (.invokevirtual 94, 3) := by decide +kernel
theorem d_D_next_43 : decode b_D_next 43 = .ok (.aload_n 0, 1) := by decide +kernel
theorem d_D_next_44 : decode b_D_next 44 = .ok (.getfield 33, 3) := by decide +kernel
theorem d_D_next_47 : decode b_D_next 47 = .ok (.iload_n 1, 1) := by decide +kernel
theorem d_D_next_48 : decode b_D_next 48 = .ok (.invokevirtual 95, 3) := by decide +kernel
theorem d_D_next_51 : decode b_D_next 51 = .ok (.iconst (-1), 1) := by decide +kernel
theorem d_D_next_52 : decode b_D_next 52 = .ok (.ireturn, 1) := by decide +kernel
theorem d_D_next_53 : decode b_D_next 53 = .ok (.aload_n 0, 1) := by decide +kernel
theorem d_D_next_54 : decode b_D_next 54 = .ok (.invokevirtual 99, 3) := by decide +kernel
theorem d_D_next_57 : decode b_D_next 57 = .ok (.aload_n 0, 1) := by decide +kernel
theorem d_D_next_58 : decode b_D_next 58 = .ok (.getfield 26, 3) := by decide +kernel
theorem d_D_next_61 : decode b_D_next 61 = .ok (.getfield 102, 3) := by decide +kernel
theorem d_D_next_64 : decode b_D_next 64 = .ok (.ireturn, 1) := by decide +kernel
theorem d_R_arrive_0 : decode b_R_arrive 0 = .ok (.aload_n 0, 1) := by decide +kernel
theorem d_R_arrive_1 : decode b_R_arrive 1 = .ok (.aload_n 0, 1) := by decide +kernel
theorem d_R_arrive_2 : decode b_R_arrive 2 = .ok (.getfield 18, 3) := by decide +kernel
theorem d_R_arrive_5 : decode b_R_arrive 5 = .ok (.putfield 25, 3) := by decide +kernel
theorem d_R_arrive_8 : decode b_R_arrive 8 = .ok (.aload_n 0, 1) := by decide +kernel
theorem d_R_arrive_9 : decode b_R_arrive 9 = .ok (.aload_n 0, 1) := by decide +kernel
theorem d_R_arrive_10 : decode b_R_arrive 10 = .ok (.getfield 22, 3) := by decide +kernel
theorem d_R_arrive_13 : decode b_R_arrive 13 = .ok (.putfield 28, 3) := by decide +kernel
theorem d_R_arrive_16 : decode b_R_arrive 16 = .ok (.return_, 1) := by decide +kernel
theorem d_D_refusalHere_0 : decode b_D_refusalHere 0 = .ok (.aload_n 0, 1) := by decide +kernel
theorem d_D_refusalHere_1 : decode b_D_refusalHere 1 = .ok (.getfield 33, 3) := by decide +kernel
theorem d_D_refusalHere_4 : decode b_D_refusalHere 4 = .ok (.getfield 136, 3) := by decide +kernel
theorem d_D_refusalHere_7 : decode b_D_refusalHere 7 = .ok (.sipush 2000, 3) := by decide +kernel
theorem d_D_refusalHere_10 : decode b_D_refusalHere 10 = .ok (.if_icmp .lt 6, 3) := by decide +kernel
theorem d_D_refusalHere_13 : decode b_D_refusalHere 13 = .ok (.bipush 7, 2) := by decide +kernel
theorem d_D_refusalHere_15 : decode b_D_refusalHere 15 = .ok (.ireturn, 1) := by decide +kernel
theorem d_D_refusalHere_16 : decode b_D_refusalHere 16 = .ok (.aload_n 0, 1) := by decide +kernel
theorem d_D_refusalHere_17 : decode b_D_refusalHere 17 = .ok (.invokevirtual 147, 3) := by decide +kernel
theorem d_D_refusalHere_20 : decode b_D_refusalHere 20 = .ok (.istore_n 1, 1) := by decide +kernel
theorem d_D_refusalHere_21 : decode b_D_refusalHere 21 = .ok (.iload_n 1, 1) := by decide +kernel
theorem d_D_refusalHere_22 : decode b_D_refusalHere 22 = .ok (.ifCond .eq 5, 3) := by decide +kernel
theorem d_D_refusalHere_25 : decode b_D_refusalHere 25 = .ok (.iload_n 1, 1) := by decide +kernel
theorem d_D_refusalHere_26 : decode b_D_refusalHere 26 = .ok (.ireturn, 1) := by decide +kernel
theorem d_D_refusalHere_27 : decode b_D_refusalHere 27 = .ok (.aload_n 0, 1) := by decide +kernel
theorem d_D_refusalHere_28 : decode b_D_refusalHere 28 = .ok (.getfield 26, 3) := by decide +kernel
theorem d_D_refusalHere_31 : decode b_D_refusalHere 31 = .ok (.invokevirtual 150, 3) := by decide +kernel
theorem d_D_refusalHere_34 : decode b_D_refusalHere 34 = .ok (.ifCond .ne 5, 3) := by decide +kernel
theorem d_D_refusalHere_37 : decode b_D_refusalHere 37 = .ok (.iconst 3, 1) := by decide +kernel
theorem d_D_refusalHere_38 : decode b_D_refusalHere 38 = .ok (.ireturn, 1) := by decide +kernel
theorem d_D_refusalHere_39 : decode b_D_refusalHere 39 = .ok (.aload_n 0, 1) := by decide +kernel
theorem d_D_refusalHere_40 : decode b_D_refusalHere 40 = .ok (.invokevirtual 154, 3) := by decide +kernel
theorem d_D_refusalHere_43 : decode b_D_refusalHere 43 = .ok (.ifCond .ne 5, 3) := by decide +kernel
theorem d_D_refusalHere_46 : decode b_D_refusalHere 46 = .ok (.iconst 5, 1) := by decide +kernel
theorem d_D_refusalHere_47 : decode b_D_refusalHere 47 = .ok (.ireturn, 1) := by decide +kernel
theorem d_D_refusalHere_48 : decode b_D_refusalHere 48 = .ok (.aload_n 0, 1) := by decide +kernel
theorem d_D_refusalHere_49 : decode b_D_refusalHere 49 = .ok (.invokevirtual 157, 3) := by decide +kernel
theorem d_D_refusalHere_52 : decode b_D_refusalHere 52 = .ok (.ifCond .eq 7, 3) := by decide +kernel
theorem d_D_refusalHere_55 : decode b_D_refusalHere 55 = .ok (.iconst 0, 1) := by decide +kernel
theorem d_D_refusalHere_56 : decode b_D_refusalHere 56 = .ok (.goto 5, 3) := by decide +kernel
theorem d_D_refusalHere_59 : decode b_D_refusalHere 59 = .ok (.bipush 6, 2) := by decide +kernel
theorem d_D_refusalHere_61 : decode b_D_refusalHere 61 = .ok (.ireturn, 1) := by decide +kernel
theorem d_D_readCommand_0 : decode b_D_readCommand 0 = .ok (.aload_n 0, 1) := by decide +kernel
theorem d_D_readCommand_1 : decode b_D_readCommand 1 = .ok (.invokevirtual 160, 3) := by decide +kernel
theorem d_D_readCommand_4 : decode b_D_readCommand 4 = .ok (.istore_n 1, 1) := by decide +kernel
theorem d_D_readCommand_5 : decode b_D_readCommand 5 = .ok (.aload_n 0, 1) := by decide +kernel
theorem d_D_readCommand_6 : decode b_D_readCommand 6 = .ok (.getfield 33, 3) := by decide +kernel
theorem d_D_readCommand_9 : decode b_D_readCommand 9 = .ok (.getfield 163, 3) := by decide +kernel
theorem d_D_readCommand_12 : decode b_D_readCommand 12 = .ok (.iload_n 1, 1) := by decide +kernel
theorem d_D_readCommand_13 : decode b_D_readCommand 13 = .ok (.if_icmp .lt 8, 3) := by decide +kernel
theorem d_D_readCommand_16 : decode b_D_readCommand 16 = .ok (.aload_n 0, 1) := by decide +kernel
theorem d_D_readCommand_17 : decode b_D_readCommand 17 = .ok (.invokevirtual 166, 3) := by decide +kernel
theorem d_D_readCommand_20 : decode b_D_readCommand 20 = .ok (.ireturn, 1) := by decide +kernel
theorem d_D_readCommand_21 : decode b_D_readCommand 21 = .ok (.aload_n 0, 1) := by decide +kernel
theorem d_D_readCommand_22 : decode b_D_readCommand 22 = .ok (.aload_n 0, 1) := by decide +kernel
theorem d_D_readCommand_23 : decode b_D_readCommand 23 = .ok (.getfield 33, 3) := by decide +kernel
theorem d_D_readCommand_26 : decode b_D_readCommand 26 = .ok (.getfield 163, 3) := by decide +kernel
theorem d_D_readCommand_29 : decode b_D_readCommand 29 = .ok (.invokevirtual 169, 3) := by decide +kernel
theorem d_D_readCommand_32 : decode b_D_readCommand 32 = .ok (.istore_n 2, 1) := by decide +kernel
theorem d_D_readCommand_33 : decode b_D_readCommand 33 = .ok (.iload_n 2, 1) := by decide +kernel
theorem d_D_readCommand_34 : decode b_D_readCommand 34 = .ok (.invokestatic 172, 3) := by decide +kernel
theorem d_D_readCommand_37 : decode b_D_readCommand 37 = .ok (.ifCond .ne 5, 3) := by decide +kernel
theorem d_D_readCommand_40 : decode b_D_readCommand 40 = .ok (.iconst 2, 1) := by decide +kernel
theorem d_D_readCommand_41 : decode b_D_readCommand 41 = .ok (.ireturn, 1) := by decide +kernel
theorem d_D_readCommand_42 : decode b_D_readCommand 42 = .ok (.aload_n 0, 1) := by decide +kernel
theorem d_D_readCommand_43 : decode b_D_readCommand 43 = .ok (.iload_n 2, 1) := by decide +kernel
theorem d_D_readCommand_44 : decode b_D_readCommand 44 = .ok (.invokevirtual 176, 3) := by decide +kernel
theorem d_D_readCommand_47 : decode b_D_readCommand 47 = .ok (.istore_n 3, 1) := by decide +kernel
theorem d_D_readCommand_48 : decode b_D_readCommand 48 = .ok (.aload_n 0, 1) := by decide +kernel
theorem d_D_readCommand_49 : decode b_D_readCommand 49 = .ok (.getfield 33, 3) := by decide +kernel
theorem d_D_readCommand_52 : decode b_D_readCommand 52 = .ok (.getfield 163, 3) := by decide +kernel
theorem d_D_readCommand_55 : decode b_D_readCommand 55 = .ok (.iload_n 3, 1) := by decide +kernel
theorem d_D_readCommand_56 : decode b_D_readCommand 56 = .ok (.iadd, 1) := by decide +kernel
theorem d_D_readCommand_57 : decode b_D_readCommand 57 = .ok (.iload_n 1, 1) := by decide +kernel
theorem d_D_readCommand_58 : decode b_D_readCommand 58 = .ok (.if_icmp .lt 5, 3) := by decide +kernel
theorem d_D_readCommand_61 : decode b_D_readCommand 61 = .ok (.iconst 1, 1) := by decide +kernel
theorem d_D_readCommand_62 : decode b_D_readCommand 62 = .ok (.ireturn, 1) := by decide +kernel
theorem d_D_readCommand_63 : decode b_D_readCommand 63 = .ok (.aload_n 0, 1) := by decide +kernel
theorem d_D_readCommand_64 : decode b_D_readCommand 64 = .ok (.getfield 26, 3) := by decide +kernel
theorem d_D_readCommand_67 : decode b_D_readCommand 67 = .ok (.iload_n 2, 1) := by decide +kernel
theorem d_D_readCommand_68 : decode b_D_readCommand 68 = .ok (.iload_n 3, 1) := by decide +kernel
theorem d_D_readCommand_69 : decode b_D_readCommand 69 = .ok (.invokevirtual 179, 3) := by decide +kernel
theorem d_D_readCommand_72 : decode b_D_readCommand 72 = .ok (.iconst 0, 1) := by decide +kernel
theorem d_D_readCommand_73 : decode b_D_readCommand 73 = .ok (.istore 4, 2) := by decide +kernel
theorem d_D_readCommand_75 : decode b_D_readCommand 75 = .ok (.iload 4, 2) := by decide +kernel
theorem d_D_readCommand_77 : decode b_D_readCommand 77 = .ok (.iload_n 3, 1) := by decide +kernel
theorem d_D_readCommand_78 : decode b_D_readCommand 78 = .ok (.if_icmp .ge 34, 3) := by decide +kernel
theorem d_D_readCommand_81 : decode b_D_readCommand 81 = .ok (.aload_n 0, 1) := by decide +kernel
theorem d_D_readCommand_82 : decode b_D_readCommand 82 = .ok (.getfield 26, 3) := by decide +kernel
theorem d_D_readCommand_85 : decode b_D_readCommand 85 = .ok (.iload 4, 2) := by decide +kernel
theorem d_D_readCommand_87 : decode b_D_readCommand 87 = .ok (.aload_n 0, 1) := by decide +kernel
theorem d_D_readCommand_88 : decode b_D_readCommand 88 = .ok (.aload_n 0, 1) := by decide +kernel
theorem d_D_readCommand_89 : decode b_D_readCommand 89 = .ok (.getfield 33, 3) := by decide +kernel
theorem d_D_readCommand_92 : decode b_D_readCommand 92 = .ok (.getfield 163, 3) := by decide +kernel
theorem d_D_readCommand_95 : decode b_D_readCommand 95 = .ok (.iconst 1, 1) := by decide +kernel
theorem d_D_readCommand_96 : decode b_D_readCommand 96 = .ok (.iadd, 1) := by decide +kernel
theorem d_D_readCommand_97 : decode b_D_readCommand 97 = .ok (.iload 4, 2) := by decide +kernel
theorem d_D_readCommand_99 : decode b_D_readCommand 99 = .ok (.iadd, 1) := by decide +kernel
theorem d_D_readCommand_100 : decode b_D_readCommand 100 = .ok (.invokevirtual 169, 3) := by decide +kernel
theorem d_D_readCommand_103 : decode b_D_readCommand 103 = .ok (.invokevirtual 183, 3) := by decide +kernel
theorem d_D_readCommand_106 : decode b_D_readCommand 106 = .ok (.iinc 4 1, 3) := by decide +kernel
theorem d_D_readCommand_109 : decode b_D_readCommand 109 = .ok (.goto (-34), 3) := by decide +kernel
theorem d_D_readCommand_112 : decode b_D_readCommand 112 = .ok (.iconst 0, 1) := by decide +kernel
theorem d_D_readCommand_113 : decode b_D_readCommand 113 = .ok (.ireturn, 1) := by decide +kernel
theorem d_D_sourceLength_0 : decode b_D_sourceLength 0 = .ok (.aload_n 0, 1) := by decide +kernel
theorem d_D_sourceLength_1 : decode b_D_sourceLength 1 = .ok (.getfield 33, 3) := by decide +kernel
theorem d_D_sourceLength_4 : decode b_D_sourceLength 4 = .ok (.getfield 186, 3) := by decide +kernel
theorem d_D_sourceLength_7 : decode b_D_sourceLength 7 = .ok (.ifCond .le 9, 3) := by decide +kernel
theorem d_D_sourceLength_10 : decode b_D_sourceLength 10 = .ok (.sipush 4096, 3) := by decide +kernel
theorem d_D_sourceLength_13 : decode b_D_sourceLength 13 = .ok (.goto 7, 3) := by decide +kernel
theorem d_D_sourceLength_16 : decode b_D_sourceLength 16 = .ok (.aload_n 0, 1) := by decide +kernel
theorem d_D_sourceLength_17 : decode b_D_sourceLength 17 = .ok (.getfield 37, 3) := by decide +kernel
theorem d_D_sourceLength_20 : decode b_D_sourceLength 20 = .ok (.ireturn, 1) := by decide +kernel
theorem d_D_readBeyondTheEnd_0 : decode b_D_readBeyondTheEnd 0 = .ok (.aload_n 0, 1) := by decide +kernel
theorem d_D_readBeyondTheEnd_1 : decode b_D_readBeyondTheEnd 1 = .ok (.getfield 33, 3) := by decide +kernel
theorem d_D_readBeyondTheEnd_4 : decode b_D_readBeyondTheEnd 4 = .ok (.getfield 186, 3) := by decide +kernel
theorem d_D_readBeyondTheEnd_7 : decode b_D_readBeyondTheEnd 7 = .ok (.ifCond .le 5, 3) := by decide +kernel
theorem d_D_readBeyondTheEnd_10 : decode b_D_readBeyondTheEnd 10 = .ok (.iconst 1, 1) := by decide +kernel
theorem d_D_readBeyondTheEnd_11 : decode b_D_readBeyondTheEnd 11 = .ok (.ireturn, 1) := by decide +kernel
theorem d_D_readBeyondTheEnd_12 : decode b_D_readBeyondTheEnd 12 = .ok (.aload_n 0, 1) := by decide +kernel
theorem d_D_readBeyondTheEnd_13 : decode b_D_readBeyondTheEnd 13 = .ok (.getfield 26, 3) := by decide +kernel
theorem d_D_readBeyondTheEnd_16 : decode b_D_readBeyondTheEnd 16 = .ok (.iconst 0, 1) := by decide +kernel
theorem d_D_readBeyondTheEnd_17 : decode b_D_readBeyondTheEnd 17 = .ok (.iconst 0, 1) := by decide +kernel
theorem d_D_readBeyondTheEnd_18 : decode b_D_readBeyondTheEnd 18 = .ok (.invokevirtual 179, 3) := by decide +kernel
theorem d_D_readBeyondTheEnd_21 : decode b_D_readBeyondTheEnd 21 = .ok (.iconst 0, 1) := by decide +kernel
theorem d_D_readBeyondTheEnd_22 : decode b_D_readBeyondTheEnd 22 = .ok (.ireturn, 1) := by decide +kernel
theorem d_D_sourceWord_0 : decode b_D_sourceWord 0 = .ok (.aload_n 0, 1) := by decide +kernel
theorem d_D_sourceWord_1 : decode b_D_sourceWord 1 = .ok (.getfield 33, 3) := by decide +kernel
theorem d_D_sourceWord_4 : decode b_D_sourceWord 4 = .ok (.getfield 186, 3) := by decide +kernel
theorem d_D_sourceWord_7 : decode b_D_sourceWord 7 = .ok (.ifCond .le 10, 3) := by decide +kernel
theorem d_D_sourceWord_10 : decode b_D_sourceWord 10 = .ok (.aload_n 0, 1) := by decide +kernel
theorem d_D_sourceWord_11 : decode b_D_sourceWord 11 = .ok (.getfield 9, 3) := by decide +kernel
theorem d_D_sourceWord_14 : decode b_D_sourceWord 14 = .ok (.goto 7, 3) := by decide +kernel
theorem d_D_sourceWord_17 : decode b_D_sourceWord 17 = .ok (.aload_n 0, 1) := by decide +kernel
theorem d_D_sourceWord_18 : decode b_D_sourceWord 18 = .ok (.getfield 13, 3) := by decide +kernel
theorem d_D_sourceWord_21 : decode b_D_sourceWord 21 = .ok (.iload_n 1, 1) := by decide +kernel
theorem d_D_sourceWord_22 : decode b_D_sourceWord 22 = .ok (.invokestatic 54, 3) := by decide +kernel
theorem d_D_sourceWord_25 : decode b_D_sourceWord 25 = .ok (.ireturn, 1) := by decide +kernel
theorem d_D_argumentsHere_0 : decode b_D_argumentsHere 0 = .ok (.iload_n 1, 1) := by decide +kernel
theorem d_D_argumentsHere_1 : decode b_D_argumentsHere 1 = .ok (.invokestatic 119, 3) := by decide +kernel
theorem d_D_argumentsHere_4 : decode b_D_argumentsHere 4 = .ok (.istore_n 2, 1) := by decide +kernel
theorem d_D_argumentsHere_5 : decode b_D_argumentsHere 5 = .ok (.iload_n 1, 1) := by decide +kernel
theorem d_D_argumentsHere_6 : decode b_D_argumentsHere 6 = .ok (.bipush 21, 2) := by decide +kernel
theorem d_D_argumentsHere_8 : decode b_D_argumentsHere 8 = .ok (.if_icmp .ne 19, 3) := by decide +kernel
theorem d_D_argumentsHere_11 : decode b_D_argumentsHere 11 = .ok (.aload_n 0, 1) := by decide +kernel
theorem d_D_argumentsHere_12 : decode b_D_argumentsHere 12 = .ok (.getfield 33, 3) := by decide +kernel
theorem d_D_argumentsHere_15 : decode b_D_argumentsHere 15 = .ok (.getfield 163, 3) := by decide +kernel
theorem d_D_argumentsHere_18 : decode b_D_argumentsHere 18 = .ok (.iload_n 2, 1) := by decide +kernel
theorem d_D_argumentsHere_19 : decode b_D_argumentsHere 19 = .ok (.iadd, 1) := by decide +kernel
theorem d_D_argumentsHere_20 : decode b_D_argumentsHere 20 = .ok (.aload_n 0, 1) := by decide +kernel
theorem d_D_argumentsHere_21 : decode b_D_argumentsHere 21 = .ok (.invokevirtual 160, 3) := by decide +kernel
theorem d_D_argumentsHere_24 : decode b_D_argumentsHere 24 = .ok (.if_icmp .lt 5, 3) := by decide +kernel
theorem d_D_argumentsHere_27 : decode b_D_argumentsHere 27 = .ok (.iload_n 2, 1) := by decide +kernel
theorem d_D_argumentsHere_28 : decode b_D_argumentsHere 28 = .ok (.ireturn, 1) := by decide +kernel
theorem d_D_argumentsHere_29 : decode b_D_argumentsHere 29 = .ok (.aload_n 0, 1) := by decide +kernel
theorem d_D_argumentsHere_30 : decode b_D_argumentsHere 30 = .ok (.aload_n 0, 1) := by decide +kernel
theorem d_D_argumentsHere_31 : decode b_D_argumentsHere 31 = .ok (.getfield 33, 3) := by decide +kernel
theorem d_D_argumentsHere_34 : decode b_D_argumentsHere 34 = .ok (.getfield 163, 3) := by decide +kernel
theorem d_D_argumentsHere_37 : decode b_D_argumentsHere 37 = .ok (.iload_n 2, 1) := by decide +kernel
theorem d_D_argumentsHere_38 : decode b_D_argumentsHere 38 = .ok (.iadd, 1) := by decide +kernel
theorem d_D_argumentsHere_39 : decode b_D_argumentsHere 39 = .ok (.invokevirtual 169, 3) := by decide +kernel
theorem d_D_argumentsHere_42 : decode b_D_argumentsHere 42 = .ok (.istore_n 3, 1) := by decide +kernel
theorem d_D_argumentsHere_43 : decode b_D_argumentsHere 43 = .ok (.iload_n 2, 1) := by decide +kernel
theorem d_D_argumentsHere_44 : decode b_D_argumentsHere 44 = .ok (.iconst 0, 1) := by decide +kernel
theorem d_D_argumentsHere_45 : decode b_D_argumentsHere 45 = .ok (.sipush 256, 3) := by decide +kernel
theorem d_D_argumentsHere_48 : decode b_D_argumentsHere 48 = .ok (.iload_n 3, 1) := by decide +kernel
theorem d_D_argumentsHere_49 : decode b_D_argumentsHere 49 = .ok (.invokestatic 189, 3) := by decide +kernel
theorem d_D_argumentsHere_52 : decode b_D_argumentsHere 52 = .ok (.invokestatic 195, 3) := by decide +kernel
theorem d_D_argumentsHere_55 : decode b_D_argumentsHere 55 = .ok (.iadd, 1) := by decide +kernel
theorem d_D_argumentsHere_56 : decode b_D_argumentsHere 56 = .ok (.ireturn, 1) := by decide +kernel
theorem d_C_tell_0 : decode b_C_tell 0 = .ok (.aload_n 0, 1) := by decide +kernel
theorem d_C_tell_1 : decode b_C_tell 1 = .ok (.getfield 9, 3) := by decide +kernel
theorem d_C_tell_4 : decode b_C_tell 4 = .ok (.iload_n 1, 1) := by decide +kernel
theorem d_C_tell_5 : decode b_C_tell 5 = .ok (.iload_n 2, 1) := by decide +kernel
theorem d_C_tell_6 : decode b_C_tell 6 = .ok (.invokestatic 26, 3) := by decide +kernel
theorem d_C_tell_9 : decode b_C_tell 9 = .ok (.return_, 1) := by decide +kernel
theorem d_C_valuesMayBe_0 : decode b_C_valuesMayBe 0 = .ok (.aload_n 0, 1) := by decide +kernel
theorem d_C_valuesMayBe_1 : decode b_C_valuesMayBe 1 = .ok (.getfield 15, 3) := by decide +kernel
theorem d_C_valuesMayBe_4 : decode b_C_valuesMayBe 4 = .ok (.invokestatic 34, 3) := by decide +kernel
theorem d_C_valuesMayBe_7 : decode b_C_valuesMayBe 7 = .ok (.istore_n 1, 1) := by decide +kernel
theorem d_C_valuesMayBe_8 : decode b_C_valuesMayBe 8 = .ok (.iconst 0, 1) := by decide +kernel
theorem d_C_valuesMayBe_9 : decode b_C_valuesMayBe 9 = .ok (.istore_n 2, 1) := by decide +kernel
theorem d_C_valuesMayBe_10 : decode b_C_valuesMayBe 10 = .ok (.iload_n 2, 1) := by decide +kernel
theorem d_C_valuesMayBe_11 : decode b_C_valuesMayBe 11 = .ok (.iload_n 1, 1) := by decide +kernel
theorem d_C_valuesMayBe_12 : decode b_C_valuesMayBe 12 = .ok (.if_icmp .ge 27, 3) := by decide +kernel
theorem d_C_valuesMayBe_15 : decode b_C_valuesMayBe 15 = .ok (.aload_n 0, 1) := by decide +kernel
theorem d_C_valuesMayBe_16 : decode b_C_valuesMayBe 16 = .ok (.getfield 15, 3) := by decide +kernel
theorem d_C_valuesMayBe_19 : decode b_C_valuesMayBe 19 = .ok (.iload_n 2, 1) := by decide +kernel
theorem d_C_valuesMayBe_20 : decode b_C_valuesMayBe 20 = .ok (.aload_n 0, 1) := by decide +kernel
theorem d_C_valuesMayBe_21 : decode b_C_valuesMayBe 21 = .ok (.iload_n 2, 1) := by decide +kernel
theorem d_C_valuesMayBe_22 : decode b_C_valuesMayBe 22 = .ok (.invokevirtual 40, 3) := by decide +kernel
theorem d_C_valuesMayBe_25 : decode b_C_valuesMayBe 25 = .ok (.invokestatic 43, 3) := by decide +kernel
theorem d_C_valuesMayBe_28 : decode b_C_valuesMayBe 28 = .ok (.ifCond .ne 5, 3) := by decide +kernel
theorem d_C_valuesMayBe_31 : decode b_C_valuesMayBe 31 = .ok (.iconst 0, 1) := by decide +kernel
theorem d_C_valuesMayBe_32 : decode b_C_valuesMayBe 32 = .ok (.ireturn, 1) := by decide +kernel
theorem d_C_valuesMayBe_33 : decode b_C_valuesMayBe 33 = .ok (.iinc 2 1, 3) := by decide +kernel
theorem d_C_valuesMayBe_36 : decode b_C_valuesMayBe 36 = .ok (.goto (-26), 3) := by decide +kernel
theorem d_C_valuesMayBe_39 : decode b_C_valuesMayBe 39 = .ok (.iconst 1, 1) := by decide +kernel
theorem d_C_valuesMayBe_40 : decode b_C_valuesMayBe 40 = .ok (.ireturn, 1) := by decide +kernel
theorem d_C_at_0 : decode b_C_at 0 = .ok (.aload_n 0, 1) := by decide +kernel
theorem d_C_at_1 : decode b_C_at 1 = .ok (.getfield 9, 3) := by decide +kernel
theorem d_C_at_4 : decode b_C_at 4 = .ok (.iload_n 1, 1) := by decide +kernel
theorem d_C_at_5 : decode b_C_at 5 = .ok (.invokestatic 30, 3) := by decide +kernel
theorem d_C_at_8 : decode b_C_at 8 = .ok (.ireturn, 1) := by decide +kernel
theorem d_S_mayBe_0 : decode b_S_mayBe 0 = .ok (.iload_n 2, 1) := by decide +kernel
theorem d_S_mayBe_1 : decode b_S_mayBe 1 = .ok (.iload_n 0, 1) := by decide +kernel
theorem d_S_mayBe_2 : decode b_S_mayBe 2 = .ok (.iload_n 1, 1) := by decide +kernel
theorem d_S_mayBe_3 : decode b_S_mayBe 3 = .ok (.iconst 0, 1) := by decide +kernel
theorem d_S_mayBe_4 : decode b_S_mayBe 4 = .ok (.invokestatic 26, 3) := by decide +kernel
theorem d_S_mayBe_7 : decode b_S_mayBe 7 = .ok (.if_icmp .lt 17, 3) := by decide +kernel
theorem d_S_mayBe_10 : decode b_S_mayBe 10 = .ok (.iload_n 2, 1) := by decide +kernel
theorem d_S_mayBe_11 : decode b_S_mayBe 11 = .ok (.iload_n 0, 1) := by decide +kernel
theorem d_S_mayBe_12 : decode b_S_mayBe 12 = .ok (.iload_n 1, 1) := by decide +kernel
theorem d_S_mayBe_13 : decode b_S_mayBe 13 = .ok (.iconst 1, 1) := by decide +kernel
theorem d_S_mayBe_14 : decode b_S_mayBe 14 = .ok (.invokestatic 26, 3) := by decide +kernel
theorem d_S_mayBe_17 : decode b_S_mayBe 17 = .ok (.if_icmp .gt 7, 3) := by decide +kernel
theorem d_S_mayBe_20 : decode b_S_mayBe 20 = .ok (.iconst 1, 1) := by decide +kernel
theorem d_S_mayBe_21 : decode b_S_mayBe 21 = .ok (.goto 4, 3) := by decide +kernel
theorem d_S_mayBe_24 : decode b_S_mayBe 24 = .ok (.iconst 0, 1) := by decide +kernel
theorem d_S_mayBe_25 : decode b_S_mayBe 25 = .ok (.ireturn, 1) := by decide +kernel
theorem d_D_placesAreThere_0 : decode b_D_placesAreThere 0 = .ok (.aload_n 0, 1) := by decide +kernel
theorem d_D_placesAreThere_1 : decode b_D_placesAreThere 1 = .ok (.getfield 26, 3) := by decide +kernel
theorem d_D_placesAreThere_4 : decode b_D_placesAreThere 4 = .ok (.getfield 102, 3) := by decide +kernel
theorem d_D_placesAreThere_7 : decode b_D_placesAreThere 7 = .ok (.tableswitch 277 6 23 #[85, 137, 137, 277, 277, 277, 277, 277, 277, 277, 277, 277, 277, 277, 159, 244, 277, 264], 85) := by decide +kernel
theorem d_D_placesAreThere_92 : decode b_D_placesAreThere 92 = .ok (.aload_n 0, 1) := by decide +kernel
theorem d_D_placesAreThere_93 : decode b_D_placesAreThere 93 = .ok (.getfield 26, 3) := by decide +kernel
theorem d_D_placesAreThere_96 : decode b_D_placesAreThere 96 = .ok (.iconst 0, 1) := by decide +kernel
theorem d_D_placesAreThere_97 : decode b_D_placesAreThere 97 = .ok (.invokevirtual 110, 3) := by decide +kernel
theorem d_D_placesAreThere_100 : decode b_D_placesAreThere 100 = .ok (.aload_n 0, 1) := by decide +kernel
theorem d_D_placesAreThere_101 : decode b_D_placesAreThere 101 = .ok (.getfield 26, 3) := by decide +kernel
theorem d_D_placesAreThere_104 : decode b_D_placesAreThere 104 = .ok (.iconst 1, 1) := by decide +kernel
theorem d_D_placesAreThere_105 : decode b_D_placesAreThere 105 = .ok (.invokevirtual 110, 3) := by decide +kernel
theorem d_D_placesAreThere_108 : decode b_D_placesAreThere 108 = .ok (.iadd, 1) := by decide +kernel
theorem d_D_placesAreThere_109 : decode b_D_placesAreThere 109 = .ok (.bipush 32, 2) := by decide +kernel
theorem d_D_placesAreThere_111 : decode b_D_placesAreThere 111 = .ok (.if_icmp .gt 31, 3) := by decide +kernel
theorem d_D_placesAreThere_114 : decode b_D_placesAreThere 114 = .ok (.aload_n 0, 1) := by decide +kernel
theorem d_D_placesAreThere_115 : decode b_D_placesAreThere 115 = .ok (.getfield 26, 3) := by decide +kernel
theorem d_D_placesAreThere_118 : decode b_D_placesAreThere 118 = .ok (.iconst 2, 1) := by decide +kernel
theorem d_D_placesAreThere_119 : decode b_D_placesAreThere 119 = .ok (.invokevirtual 110, 3) := by decide +kernel
theorem d_D_placesAreThere_122 : decode b_D_placesAreThere 122 = .ok (.iconst 4, 1) := by decide +kernel
theorem d_D_placesAreThere_123 : decode b_D_placesAreThere 123 = .ok (.aload_n 0, 1) := by decide +kernel
theorem d_D_placesAreThere_124 : decode b_D_placesAreThere 124 = .ok (.getfield 26, 3) := by decide +kernel
theorem d_D_placesAreThere_127 : decode b_D_placesAreThere 127 = .ok (.iconst 1, 1) := by decide +kernel
theorem d_D_placesAreThere_128 : decode b_D_placesAreThere 128 = .ok (.invokevirtual 110, 3) := by decide +kernel
theorem d_D_placesAreThere_131 : decode b_D_placesAreThere 131 = .ok (.imul, 1) := by decide +kernel
theorem d_D_placesAreThere_132 : decode b_D_placesAreThere 132 = .ok (.invokestatic 198, 3) := by decide +kernel
theorem d_D_placesAreThere_135 : decode b_D_placesAreThere 135 = .ok (.ifCond .eq 7, 3) := by decide +kernel
theorem d_D_placesAreThere_138 : decode b_D_placesAreThere 138 = .ok (.iconst 1, 1) := by decide +kernel
theorem d_D_placesAreThere_139 : decode b_D_placesAreThere 139 = .ok (.goto 4, 3) := by decide +kernel
theorem d_D_placesAreThere_142 : decode b_D_placesAreThere 142 = .ok (.iconst 0, 1) := by decide +kernel
theorem d_D_placesAreThere_143 : decode b_D_placesAreThere 143 = .ok (.ireturn, 1) := by decide +kernel
theorem d_D_placesAreThere_144 : decode b_D_placesAreThere 144 = .ok (.aload_n 0, 1) := by decide +kernel
theorem d_D_placesAreThere_145 : decode b_D_placesAreThere 145 = .ok (.getfield 26, 3) := by decide +kernel
theorem d_D_placesAreThere_148 : decode b_D_placesAreThere 148 = .ok (.iconst 0, 1) := by decide +kernel
theorem d_D_placesAreThere_149 : decode b_D_placesAreThere 149 = .ok (.invokevirtual 110, 3) := by decide +kernel
theorem d_D_placesAreThere_152 : decode b_D_placesAreThere 152 = .ok (.iconst 3, 1) := by decide +kernel
theorem d_D_placesAreThere_153 : decode b_D_placesAreThere 153 = .ok (.aload_n 0, 1) := by decide +kernel
theorem d_D_placesAreThere_154 : decode b_D_placesAreThere 154 = .ok (.getfield 26, 3) := by decide +kernel
theorem d_D_placesAreThere_157 : decode b_D_placesAreThere 157 = .ok (.iconst 1, 1) := by decide +kernel
theorem d_D_placesAreThere_158 : decode b_D_placesAreThere 158 = .ok (.invokevirtual 110, 3) := by decide +kernel
theorem d_D_placesAreThere_161 : decode b_D_placesAreThere 161 = .ok (.imul, 1) := by decide +kernel
theorem d_D_placesAreThere_162 : decode b_D_placesAreThere 162 = .ok (.invokestatic 198, 3) := by decide +kernel
theorem d_D_placesAreThere_165 : decode b_D_placesAreThere 165 = .ok (.ireturn, 1) := by decide +kernel
theorem d_D_placesAreThere_166 : decode b_D_placesAreThere 166 = .ok (.aload_n 0, 1) := by decide +kernel
theorem d_D_placesAreThere_167 : decode b_D_placesAreThere 167 = .ok (.getfield 26, 3) := by decide +kernel
theorem d_D_placesAreThere_170 : decode b_D_placesAreThere 170 = .ok (.iconst 0, 1) := by decide +kernel
theorem d_D_placesAreThere_171 : decode b_D_placesAreThere 171 = .ok (.invokevirtual 110, 3) := by decide +kernel
theorem d_D_placesAreThere_174 : decode b_D_placesAreThere 174 = .ok (.aload_n 0, 1) := by decide +kernel
theorem d_D_placesAreThere_175 : decode b_D_placesAreThere 175 = .ok (.getfield 26, 3) := by decide +kernel
theorem d_D_placesAreThere_178 : decode b_D_placesAreThere 178 = .ok (.iconst 2, 1) := by decide +kernel
theorem d_D_placesAreThere_179 : decode b_D_placesAreThere 179 = .ok (.invokevirtual 110, 3) := by decide +kernel
theorem d_D_placesAreThere_182 : decode b_D_placesAreThere 182 = .ok (.iadd, 1) := by decide +kernel
theorem d_D_placesAreThere_183 : decode b_D_placesAreThere 183 = .ok (.aload_n 0, 1) := by decide +kernel
theorem d_D_placesAreThere_184 : decode b_D_placesAreThere 184 = .ok (.getfield 41, 3) := by decide +kernel
theorem d_D_placesAreThere_187 : decode b_D_placesAreThere 187 = .ok (.if_icmp .gt 62, 3) := by decide +kernel
theorem d_D_placesAreThere_190 : decode b_D_placesAreThere 190 = .ok (.aload_n 0, 1) := by decide +kernel
theorem d_D_placesAreThere_191 : decode b_D_placesAreThere 191 = .ok (.getfield 26, 3) := by decide +kernel
theorem d_D_placesAreThere_194 : decode b_D_placesAreThere 194 = .ok (.iconst 1, 1) := by decide +kernel
theorem d_D_placesAreThere_195 : decode b_D_placesAreThere 195 = .ok (.invokevirtual 110, 3) := by decide +kernel
theorem d_D_placesAreThere_198 : decode b_D_placesAreThere 198 = .ok (.aload_n 0, 1) := by decide +kernel
theorem d_D_placesAreThere_199 : decode b_D_placesAreThere 199 = .ok (.getfield 26, 3) := by decide +kernel
theorem d_D_placesAreThere_202 : decode b_D_placesAreThere 202 = .ok (.iconst 3, 1) := by decide +kernel
theorem d_D_placesAreThere_203 : decode b_D_placesAreThere 203 = .ok (.invokevirtual 110, 3) := by decide +kernel
theorem d_D_placesAreThere_206 : decode b_D_placesAreThere 206 = .ok (.iadd, 1) := by decide +kernel
theorem d_D_placesAreThere_207 : decode b_D_placesAreThere 207 = .ok (.aload_n 0, 1) := by decide +kernel
theorem d_D_placesAreThere_208 : decode b_D_placesAreThere 208 = .ok (.getfield 44, 3) := by decide +kernel
theorem d_D_placesAreThere_211 : decode b_D_placesAreThere 211 = .ok (.if_icmp .gt 38, 3) := by decide +kernel
theorem d_D_placesAreThere_214 : decode b_D_placesAreThere 214 = .ok (.aload_n 0, 1) := by decide +kernel
theorem d_D_placesAreThere_215 : decode b_D_placesAreThere 215 = .ok (.getfield 26, 3) := by decide +kernel
theorem d_D_placesAreThere_218 : decode b_D_placesAreThere 218 = .ok (.iconst 4, 1) := by decide +kernel
theorem d_D_placesAreThere_219 : decode b_D_placesAreThere 219 = .ok (.invokevirtual 110, 3) := by decide +kernel
theorem d_D_placesAreThere_222 : decode b_D_placesAreThere 222 = .ok (.aload_n 0, 1) := by decide +kernel
theorem d_D_placesAreThere_223 : decode b_D_placesAreThere 223 = .ok (.getfield 26, 3) := by decide +kernel
theorem d_D_placesAreThere_226 : decode b_D_placesAreThere 226 = .ok (.iconst 2, 1) := by decide +kernel
theorem d_D_placesAreThere_227 : decode b_D_placesAreThere 227 = .ok (.invokevirtual 110, 3) := by decide +kernel
theorem d_D_placesAreThere_230 : decode b_D_placesAreThere 230 = .ok (.aload_n 0, 1) := by decide +kernel
theorem d_D_placesAreThere_231 : decode b_D_placesAreThere 231 = .ok (.getfield 26, 3) := by decide +kernel
theorem d_D_placesAreThere_234 : decode b_D_placesAreThere 234 = .ok (.iconst 3, 1) := by decide +kernel
theorem d_D_placesAreThere_235 : decode b_D_placesAreThere 235 = .ok (.invokevirtual 110, 3) := by decide +kernel
theorem d_D_placesAreThere_238 : decode b_D_placesAreThere 238 = .ok (.imul, 1) := by decide +kernel
theorem d_D_placesAreThere_239 : decode b_D_placesAreThere 239 = .ok (.invokestatic 198, 3) := by decide +kernel
theorem d_D_placesAreThere_242 : decode b_D_placesAreThere 242 = .ok (.ifCond .eq 7, 3) := by decide +kernel
theorem d_D_placesAreThere_245 : decode b_D_placesAreThere 245 = .ok (.iconst 1, 1) := by decide +kernel
theorem d_D_placesAreThere_246 : decode b_D_placesAreThere 246 = .ok (.goto 4, 3) := by decide +kernel
theorem d_D_placesAreThere_249 : decode b_D_placesAreThere 249 = .ok (.iconst 0, 1) := by decide +kernel
theorem d_D_placesAreThere_250 : decode b_D_placesAreThere 250 = .ok (.ireturn, 1) := by decide +kernel
theorem d_D_placesAreThere_251 : decode b_D_placesAreThere 251 = .ok (.aload_n 0, 1) := by decide +kernel
theorem d_D_placesAreThere_252 : decode b_D_placesAreThere 252 = .ok (.getfield 26, 3) := by decide +kernel
theorem d_D_placesAreThere_255 : decode b_D_placesAreThere 255 = .ok (.iconst 0, 1) := by decide +kernel
theorem d_D_placesAreThere_256 : decode b_D_placesAreThere 256 = .ok (.invokevirtual 110, 3) := by decide +kernel
theorem d_D_placesAreThere_259 : decode b_D_placesAreThere 259 = .ok (.aload_n 0, 1) := by decide +kernel
theorem d_D_placesAreThere_260 : decode b_D_placesAreThere 260 = .ok (.getfield 26, 3) := by decide +kernel
theorem d_D_placesAreThere_263 : decode b_D_placesAreThere 263 = .ok (.iconst 1, 1) := by decide +kernel
theorem d_D_placesAreThere_264 : decode b_D_placesAreThere 264 = .ok (.invokevirtual 110, 3) := by decide +kernel
theorem d_D_placesAreThere_267 : decode b_D_placesAreThere 267 = .ok (.invokestatic 198, 3) := by decide +kernel
theorem d_D_placesAreThere_270 : decode b_D_placesAreThere 270 = .ok (.ireturn, 1) := by decide +kernel
theorem d_D_placesAreThere_271 : decode b_D_placesAreThere 271 = .ok (.aload_n 0, 1) := by decide +kernel
theorem d_D_placesAreThere_272 : decode b_D_placesAreThere 272 = .ok (.getfield 26, 3) := by decide +kernel
theorem d_D_placesAreThere_275 : decode b_D_placesAreThere 275 = .ok (.iconst 0, 1) := by decide +kernel
theorem d_D_placesAreThere_276 : decode b_D_placesAreThere 276 = .ok (.invokevirtual 110, 3) := by decide +kernel
theorem d_D_placesAreThere_279 : decode b_D_placesAreThere 279 = .ok (.iconst 1, 1) := by decide +kernel
theorem d_D_placesAreThere_280 : decode b_D_placesAreThere 280 = .ok (.invokestatic 198, 3) := by decide +kernel
theorem d_D_placesAreThere_283 : decode b_D_placesAreThere 283 = .ok (.ireturn, 1) := by decide +kernel
theorem d_D_placesAreThere_284 : decode b_D_placesAreThere 284 = .ok (.iconst 1, 1) := by decide +kernel
theorem d_D_placesAreThere_285 : decode b_D_placesAreThere 285 = .ok (.ireturn, 1) := by decide +kernel
theorem d_D_inMemory_0 : decode b_D_inMemory 0 = .ok (.iload_n 1, 1) := by decide +kernel
theorem d_D_inMemory_1 : decode b_D_inMemory 1 = .ok (.ifCond .eq 12, 3) := by decide +kernel
theorem d_D_inMemory_4 : decode b_D_inMemory 4 = .ok (.iload_n 0, 1) := by decide +kernel
theorem d_D_inMemory_5 : decode b_D_inMemory 5 = .ok (.iload_n 1, 1) := by decide +kernel
theorem d_D_inMemory_6 : decode b_D_inMemory 6 = .ok (.iadd, 1) := by decide +kernel
theorem d_D_inMemory_7 : decode b_D_inMemory 7 = .ok (.sipush 4096, 3) := by decide +kernel
theorem d_D_inMemory_10 : decode b_D_inMemory 10 = .ok (.if_icmp .gt 7, 3) := by decide +kernel
theorem d_D_inMemory_13 : decode b_D_inMemory 13 = .ok (.iconst 1, 1) := by decide +kernel
theorem d_D_inMemory_14 : decode b_D_inMemory 14 = .ok (.goto 4, 3) := by decide +kernel
theorem d_D_inMemory_17 : decode b_D_inMemory 17 = .ok (.iconst 0, 1) := by decide +kernel
theorem d_D_inMemory_18 : decode b_D_inMemory 18 = .ok (.ireturn, 1) := by decide +kernel
theorem d_D_stateAllows_0 : decode b_D_stateAllows 0 = .ok (.aload_n 0, 1) := by decide +kernel
theorem d_D_stateAllows_1 : decode b_D_stateAllows 1 = .ok (.getfield 26, 3) := by decide +kernel
theorem d_D_stateAllows_4 : decode b_D_stateAllows 4 = .ok (.getfield 102, 3) := by decide +kernel
theorem d_D_stateAllows_7 : decode b_D_stateAllows 7 = .ok (.tableswitch 128 17 23 #[41, 41, 71, 128, 128, 128, 111], 41) := by decide +kernel
theorem d_D_stateAllows_48 : decode b_D_stateAllows 48 = .ok (.aload_n 0, 1) := by decide +kernel
theorem d_D_stateAllows_49 : decode b_D_stateAllows 49 = .ok (.getfield 19, 3) := by decide +kernel
theorem d_D_stateAllows_52 : decode b_D_stateAllows 52 = .ok (.bipush 7, 2) := by decide +kernel
theorem d_D_stateAllows_54 : decode b_D_stateAllows 54 = .ok (.invokevirtual 202, 3) := by decide +kernel
theorem d_D_stateAllows_57 : decode b_D_stateAllows 57 = .ok (.ifCond .eq 19, 3) := by decide +kernel
theorem d_D_stateAllows_60 : decode b_D_stateAllows 60 = .ok (.aload_n 0, 1) := by decide +kernel
theorem d_D_stateAllows_61 : decode b_D_stateAllows 61 = .ok (.getfield 19, 3) := by decide +kernel
theorem d_D_stateAllows_64 : decode b_D_stateAllows 64 = .ok (.bipush 8, 2) := by decide +kernel
theorem d_D_stateAllows_66 : decode b_D_stateAllows 66 = .ok (.invokevirtual 202, 3) := by decide +kernel
theorem d_D_stateAllows_69 : decode b_D_stateAllows 69 = .ok (.ifCond .eq 7, 3) := by decide +kernel
theorem d_D_stateAllows_72 : decode b_D_stateAllows 72 = .ok (.iconst 1, 1) := by decide +kernel
theorem d_D_stateAllows_73 : decode b_D_stateAllows 73 = .ok (.goto 4, 3) := by decide +kernel
theorem d_D_stateAllows_76 : decode b_D_stateAllows 76 = .ok (.iconst 0, 1) := by decide +kernel
theorem d_D_stateAllows_77 : decode b_D_stateAllows 77 = .ok (.ireturn, 1) := by decide +kernel
theorem d_D_stateAllows_78 : decode b_D_stateAllows 78 = .ok (.aload_n 0, 1) := by decide +kernel
theorem d_D_stateAllows_79 : decode b_D_stateAllows 79 = .ok (.getfield 33, 3) := by decide +kernel
theorem d_D_stateAllows_82 : decode b_D_stateAllows 82 = .ok (.getfield 139, 3) := by decide +kernel
theorem d_D_stateAllows_85 : decode b_D_stateAllows 85 = .ok (.aload_n 0, 1) := by decide +kernel
theorem d_D_stateAllows_86 : decode b_D_stateAllows 86 = .ok (.getfield 26, 3) := by decide +kernel
theorem d_D_stateAllows_89 : decode b_D_stateAllows 89 = .ok (.iconst 1, 1) := by decide +kernel
theorem d_D_stateAllows_90 : decode b_D_stateAllows 90 = .ok (.invokevirtual 110, 3) := by decide +kernel
theorem d_D_stateAllows_93 : decode b_D_stateAllows 93 = .ok (.iconst 1, 1) := by decide +kernel
theorem d_D_stateAllows_94 : decode b_D_stateAllows 94 = .ok (.if_icmp .ne 7, 3) := by decide +kernel
theorem d_D_stateAllows_97 : decode b_D_stateAllows 97 = .ok (.iconst (-1), 1) := by decide +kernel
theorem d_D_stateAllows_98 : decode b_D_stateAllows 98 = .ok (.goto 11, 3) := by decide +kernel
theorem d_D_stateAllows_101 : decode b_D_stateAllows 101 = .ok (.aload_n 0, 1) := by decide +kernel
theorem d_D_stateAllows_102 : decode b_D_stateAllows 102 = .ok (.getfield 26, 3) := by decide +kernel
theorem d_D_stateAllows_105 : decode b_D_stateAllows 105 = .ok (.iconst 0, 1) := by decide +kernel
theorem d_D_stateAllows_106 : decode b_D_stateAllows 106 = .ok (.invokevirtual 110, 3) := by decide +kernel
theorem d_D_stateAllows_109 : decode b_D_stateAllows 109 = .ok (.if_icmp .ne 7, 3) := by decide +kernel
theorem d_D_stateAllows_112 : decode b_D_stateAllows 112 = .ok (.iconst 1, 1) := by decide +kernel
theorem d_D_stateAllows_113 : decode b_D_stateAllows 113 = .ok (.goto 4, 3) := by decide +kernel
theorem d_D_stateAllows_116 : decode b_D_stateAllows 116 = .ok (.iconst 0, 1) := by decide +kernel
theorem d_D_stateAllows_117 : decode b_D_stateAllows 117 = .ok (.ireturn, 1) := by decide +kernel
theorem d_D_stateAllows_118 : decode b_D_stateAllows 118 = .ok (.aload_n 0, 1) := by decide +kernel
theorem d_D_stateAllows_119 : decode b_D_stateAllows 119 = .ok (.getfield 33, 3) := by decide +kernel
theorem d_D_stateAllows_122 : decode b_D_stateAllows 122 = .ok (.getfield 186, 3) := by decide +kernel
theorem d_D_stateAllows_125 : decode b_D_stateAllows 125 = .ok (.iconst 4, 1) := by decide +kernel
theorem d_D_stateAllows_126 : decode b_D_stateAllows 126 = .ok (.if_icmp .ge 7, 3) := by decide +kernel
theorem d_D_stateAllows_129 : decode b_D_stateAllows 129 = .ok (.iconst 1, 1) := by decide +kernel
theorem d_D_stateAllows_130 : decode b_D_stateAllows 130 = .ok (.goto 4, 3) := by decide +kernel
theorem d_D_stateAllows_133 : decode b_D_stateAllows 133 = .ok (.iconst 0, 1) := by decide +kernel
theorem d_D_stateAllows_134 : decode b_D_stateAllows 134 = .ok (.ireturn, 1) := by decide +kernel
theorem d_D_stateAllows_135 : decode b_D_stateAllows 135 = .ok (.iconst 1, 1) := by decide +kernel
theorem d_D_stateAllows_136 : decode b_D_stateAllows 136 = .ok (.ireturn, 1) := by decide +kernel
theorem d_T_hasProgram_0 : decode b_T_hasProgram 0 = .ok (.aload_n 0, 1) := by decide +kernel
theorem d_T_hasProgram_1 : decode b_T_hasProgram 1 = .ok (.iload_n 1, 1) := by decide +kernel
theorem d_T_hasProgram_2 : decode b_T_hasProgram 2 = .ok (.iconst 0, 1) := by decide +kernel
theorem d_T_hasProgram_3 : decode b_T_hasProgram 3 = .ok (.iconst 0, 1) := by decide +kernel
theorem d_T_hasProgram_4 : decode b_T_hasProgram 4 = .ok (.invokevirtual 71, 3) := by decide +kernel
theorem d_T_hasProgram_7 : decode b_T_hasProgram 7 = .ok (.iconst (-1), 1) := by decide +kernel
theorem d_T_hasProgram_8 : decode b_T_hasProgram 8 = .ok (.if_icmp .eq 7, 3) := by decide +kernel
theorem d_T_hasProgram_11 : decode b_T_hasProgram 11 = .ok (.iconst 1, 1) := by decide +kernel
theorem d_T_hasProgram_12 : decode b_T_hasProgram 12 = .ok (.goto 4, 3) := by decide +kernel
theorem d_T_hasProgram_15 : decode b_T_hasProgram 15 = .ok (.iconst 0, 1) := by decide +kernel
theorem d_T_hasProgram_16 : decode b_T_hasProgram 16 = .ok (.ireturn, 1) := by decide +kernel
theorem d_T_at_0 : decode b_T_at 0 = .ok (.aload_n 0, 1) := by decide +kernel
theorem d_T_at_1 : decode b_T_at 1 = .ok (.getfield 34, 3) := by decide +kernel
theorem d_T_at_4 : decode b_T_at 4 = .ok (.aload_n 0, 1) := by decide +kernel
theorem d_T_at_5 : decode b_T_at 5 = .ok (.iload_n 1, 1) := by decide +kernel
theorem d_T_at_6 : decode b_T_at 6 = .ok (.iload_n 2, 1) := by decide +kernel
theorem d_T_at_7 : decode b_T_at 7 = .ok (.iload_n 3, 1) := by decide +kernel
theorem d_T_at_8 : decode b_T_at 8 = .ok (.invokevirtual 44, 3) := by decide +kernel
theorem d_T_at_11 : decode b_T_at 11 = .ok (.invokestatic 67, 3) := by decide +kernel
theorem d_T_at_14 : decode b_T_at 14 = .ok (.ireturn, 1) := by decide +kernel
theorem d_R_refuse_0 : decode b_R_refuse 0 = .ok (.aload_n 0, 1) := by decide +kernel
theorem d_R_refuse_1 : decode b_R_refuse 1 = .ok (.iload_n 1, 1) := by decide +kernel
theorem d_R_refuse_2 : decode b_R_refuse 2 = .ok (.putfield 34, 3) := by decide +kernel
theorem d_R_refuse_5 : decode b_R_refuse 5 = .ok (.aload_n 0, 1) := by decide +kernel
theorem d_R_refuse_6 : decode b_R_refuse 6 = .ok (.iconst 1, 1) := by decide +kernel
theorem d_R_refuse_7 : decode b_R_refuse 7 = .ok (.putfield 40, 3) := by decide +kernel
theorem d_R_refuse_10 : decode b_R_refuse 10 = .ok (.return_, 1) := by decide +kernel
theorem d_D_carryOut_0 : decode b_D_carryOut 0 = .ok (.aload_n 0, 1) := by decide +kernel
theorem d_D_carryOut_1 : decode b_D_carryOut 1 = .ok (.getfield 33, 3) := by decide +kernel
theorem d_D_carryOut_4 : decode b_D_carryOut 4 = .ok (.aload_n 0, 1) := by decide +kernel
theorem d_D_carryOut_5 : decode b_D_carryOut 5 = .ok (.getfield 26, 3) := by decide +kernel
theorem d_D_carryOut_8 : decode b_D_carryOut 8 = .ok (.getfield 105, 3) := by decide +kernel
theorem d_D_carryOut_11 : decode b_D_carryOut 11 = .ok (.invokevirtual 205, 3) := by decide +kernel
theorem d_D_carryOut_14 : decode b_D_carryOut 14 = .ok (.aload_n 0, 1) := by decide +kernel
theorem d_D_carryOut_15 : decode b_D_carryOut 15 = .ok (.getfield 26, 3) := by decide +kernel
theorem d_D_carryOut_18 : decode b_D_carryOut 18 = .ok (.getfield 102, 3) := by decide +kernel
theorem d_D_carryOut_21 : decode b_D_carryOut 21 = .ok (.lookupswitch 127 #[(0, 51), (6, 61), (19, 68), (21, 102), (23, 109)], 51) := by decide +kernel
theorem d_D_carryOut_72 : decode b_D_carryOut 72 = .ok (.aload_n 0, 1) := by decide +kernel
theorem d_D_carryOut_73 : decode b_D_carryOut 73 = .ok (.getfield 33, 3) := by decide +kernel
theorem d_D_carryOut_76 : decode b_D_carryOut 76 = .ok (.invokevirtual 208, 3) := by decide +kernel
theorem d_D_carryOut_79 : decode b_D_carryOut 79 = .ok (.goto 80, 3) := by decide +kernel
theorem d_D_carryOut_82 : decode b_D_carryOut 82 = .ok (.aload_n 0, 1) := by decide +kernel
theorem d_D_carryOut_83 : decode b_D_carryOut 83 = .ok (.invokevirtual 211, 3) := by decide +kernel
theorem d_D_carryOut_86 : decode b_D_carryOut 86 = .ok (.goto 73, 3) := by decide +kernel
theorem d_D_carryOut_89 : decode b_D_carryOut 89 = .ok (.aload_n 0, 1) := by decide +kernel
theorem d_D_carryOut_90 : decode b_D_carryOut 90 = .ok (.getfield 33, 3) := by decide +kernel
theorem d_D_carryOut_93 : decode b_D_carryOut 93 = .ok (.aload_n 0, 1) := by decide +kernel
theorem d_D_carryOut_94 : decode b_D_carryOut 94 = .ok (.getfield 26, 3) := by decide +kernel
theorem d_D_carryOut_97 : decode b_D_carryOut 97 = .ok (.iconst 1, 1) := by decide +kernel
theorem d_D_carryOut_98 : decode b_D_carryOut 98 = .ok (.invokevirtual 110, 3) := by decide +kernel
theorem d_D_carryOut_101 : decode b_D_carryOut 101 = .ok (.iconst 1, 1) := by decide +kernel
theorem d_D_carryOut_102 : decode b_D_carryOut 102 = .ok (.if_icmp .ne 14, 3) := by decide +kernel
theorem d_D_carryOut_105 : decode b_D_carryOut 105 = .ok (.aload_n 0, 1) := by decide +kernel
theorem d_D_carryOut_106 : decode b_D_carryOut 106 = .ok (.getfield 26, 3) := by decide +kernel
theorem d_D_carryOut_109 : decode b_D_carryOut 109 = .ok (.iconst 0, 1) := by decide +kernel
theorem d_D_carryOut_110 : decode b_D_carryOut 110 = .ok (.invokevirtual 110, 3) := by decide +kernel
theorem d_D_carryOut_113 : decode b_D_carryOut 113 = .ok (.goto 4, 3) := by decide +kernel
theorem d_D_carryOut_116 : decode b_D_carryOut 116 = .ok (.iconst (-1), 1) := by decide +kernel
theorem d_D_carryOut_117 : decode b_D_carryOut 117 = .ok (.putfield 139, 3) := by decide +kernel
theorem d_D_carryOut_120 : decode b_D_carryOut 120 = .ok (.goto 39, 3) := by decide +kernel
theorem d_D_carryOut_123 : decode b_D_carryOut 123 = .ok (.aload_n 0, 1) := by decide +kernel
theorem d_D_carryOut_124 : decode b_D_carryOut 124 = .ok (.invokevirtual 214, 3) := by decide +kernel
theorem d_D_carryOut_127 : decode b_D_carryOut 127 = .ok (.goto 32, 3) := by decide +kernel
theorem d_D_carryOut_130 : decode b_D_carryOut 130 = .ok (.aload_n 0, 1) := by decide +kernel
theorem d_D_carryOut_131 : decode b_D_carryOut 131 = .ok (.getfield 33, 3) := by decide +kernel
theorem d_D_carryOut_134 : decode b_D_carryOut 134 = .ok (.aload_n 0, 1) := by decide +kernel
theorem d_D_carryOut_135 : decode b_D_carryOut 135 = .ok (.getfield 26, 3) := by decide +kernel
theorem d_D_carryOut_138 : decode b_D_carryOut 138 = .ok (.iconst 0, 1) := by decide +kernel
theorem d_D_carryOut_139 : decode b_D_carryOut 139 = .ok (.invokevirtual 110, 3) := by decide +kernel
theorem d_D_carryOut_142 : decode b_D_carryOut 142 = .ok (.invokevirtual 217, 3) := by decide +kernel
theorem d_D_carryOut_145 : decode b_D_carryOut 145 = .ok (.goto 14, 3) := by decide +kernel
theorem d_D_carryOut_148 : decode b_D_carryOut 148 = .ok (.aload_n 0, 1) := by decide +kernel
theorem d_D_carryOut_149 : decode b_D_carryOut 149 = .ok (.getfield 19, 3) := by decide +kernel
theorem d_D_carryOut_152 : decode b_D_carryOut 152 = .ok (.aload_n 0, 1) := by decide +kernel
theorem d_D_carryOut_153 : decode b_D_carryOut 153 = .ok (.getfield 26, 3) := by decide +kernel
theorem d_D_carryOut_156 : decode b_D_carryOut 156 = .ok (.invokevirtual 220, 3) := by decide +kernel
theorem d_D_carryOut_159 : decode b_D_carryOut 159 = .ok (.return_, 1) := by decide +kernel
theorem d_R_passOver_0 : decode b_R_passOver 0 = .ok (.aload_n 0, 1) := by decide +kernel
theorem d_R_passOver_1 : decode b_R_passOver 1 = .ok (.dup, 1) := by decide +kernel
theorem d_R_passOver_2 : decode b_R_passOver 2 = .ok (.getfield 18, 3) := by decide +kernel
theorem d_R_passOver_5 : decode b_R_passOver 5 = .ok (.iconst 1, 1) := by decide +kernel
theorem d_R_passOver_6 : decode b_R_passOver 6 = .ok (.iload_n 1, 1) := by decide +kernel
theorem d_R_passOver_7 : decode b_R_passOver 7 = .ok (.iadd, 1) := by decide +kernel
theorem d_R_passOver_8 : decode b_R_passOver 8 = .ok (.iadd, 1) := by decide +kernel
theorem d_R_passOver_9 : decode b_R_passOver 9 = .ok (.putfield 18, 3) := by decide +kernel
theorem d_R_passOver_12 : decode b_R_passOver 12 = .ok (.aload_n 0, 1) := by decide +kernel
theorem d_R_passOver_13 : decode b_R_passOver 13 = .ok (.dup, 1) := by decide +kernel
theorem d_R_passOver_14 : decode b_R_passOver 14 = .ok (.getfield 31, 3) := by decide +kernel
theorem d_R_passOver_17 : decode b_R_passOver 17 = .ok (.iconst 1, 1) := by decide +kernel
theorem d_R_passOver_18 : decode b_R_passOver 18 = .ok (.iadd, 1) := by decide +kernel
theorem d_R_passOver_19 : decode b_R_passOver 19 = .ok (.putfield 31, 3) := by decide +kernel
theorem d_R_passOver_22 : decode b_R_passOver 22 = .ok (.return_, 1) := by decide +kernel
theorem d_R_leave_0 : decode b_R_leave 0 = .ok (.aload_n 0, 1) := by decide +kernel
theorem d_R_leave_1 : decode b_R_leave 1 = .ok (.getfield 22, 3) := by decide +kernel
theorem d_R_leave_4 : decode b_R_leave 4 = .ok (.ifCond .ne 9, 3) := by decide +kernel
theorem d_R_leave_7 : decode b_R_leave 7 = .ok (.aload_n 0, 1) := by decide +kernel
theorem d_R_leave_8 : decode b_R_leave 8 = .ok (.iconst 1, 1) := by decide +kernel
theorem d_R_leave_9 : decode b_R_leave 9 = .ok (.putfield 40, 3) := by decide +kernel
theorem d_R_leave_12 : decode b_R_leave 12 = .ok (.return_, 1) := by decide +kernel
theorem d_R_leave_13 : decode b_R_leave 13 = .ok (.aload_n 0, 1) := by decide +kernel
theorem d_R_leave_14 : decode b_R_leave 14 = .ok (.dup, 1) := by decide +kernel
theorem d_R_leave_15 : decode b_R_leave 15 = .ok (.getfield 22, 3) := by decide +kernel
theorem d_R_leave_18 : decode b_R_leave 18 = .ok (.iconst 1, 1) := by decide +kernel
theorem d_R_leave_19 : decode b_R_leave 19 = .ok (.isub, 1) := by decide +kernel
theorem d_R_leave_20 : decode b_R_leave 20 = .ok (.putfield 22, 3) := by decide +kernel
theorem d_R_leave_23 : decode b_R_leave 23 = .ok (.aload_n 0, 1) := by decide +kernel
theorem d_R_leave_24 : decode b_R_leave 24 = .ok (.aload_n 0, 1) := by decide +kernel
theorem d_R_leave_25 : decode b_R_leave 25 = .ok (.getfield 9, 3) := by decide +kernel
theorem d_R_leave_28 : decode b_R_leave 28 = .ok (.aload_n 0, 1) := by decide +kernel
theorem d_R_leave_29 : decode b_R_leave 29 = .ok (.getfield 22, 3) := by decide +kernel
theorem d_R_leave_32 : decode b_R_leave 32 = .ok (.invokestatic 48, 3) := by decide +kernel
theorem d_R_leave_35 : decode b_R_leave 35 = .ok (.putfield 18, 3) := by decide +kernel
theorem d_R_leave_38 : decode b_R_leave 38 = .ok (.return_, 1) := by decide +kernel
theorem d_D_keepUniforms_0 : decode b_D_keepUniforms 0 = .ok (.aload_n 0, 1) := by decide +kernel
theorem d_D_keepUniforms_1 : decode b_D_keepUniforms 1 = .ok (.getfield 26, 3) := by decide +kernel
theorem d_D_keepUniforms_4 : decode b_D_keepUniforms 4 = .ok (.iconst 1, 1) := by decide +kernel
theorem d_D_keepUniforms_5 : decode b_D_keepUniforms 5 = .ok (.invokevirtual 110, 3) := by decide +kernel
theorem d_D_keepUniforms_8 : decode b_D_keepUniforms 8 = .ok (.istore_n 1, 1) := by decide +kernel
theorem d_D_keepUniforms_9 : decode b_D_keepUniforms 9 = .ok (.iconst 0, 1) := by decide +kernel
theorem d_D_keepUniforms_10 : decode b_D_keepUniforms 10 = .ok (.istore_n 2, 1) := by decide +kernel
theorem d_D_keepUniforms_11 : decode b_D_keepUniforms 11 = .ok (.iload_n 2, 1) := by decide +kernel
theorem d_D_keepUniforms_12 : decode b_D_keepUniforms 12 = .ok (.iload_n 1, 1) := by decide +kernel
theorem d_D_keepUniforms_13 : decode b_D_keepUniforms 13 = .ok (.if_icmp .ge 74, 3) := by decide +kernel
theorem d_D_keepUniforms_16 : decode b_D_keepUniforms 16 = .ok (.aload_n 0, 1) := by decide +kernel
theorem d_D_keepUniforms_17 : decode b_D_keepUniforms 17 = .ok (.getfield 26, 3) := by decide +kernel
theorem d_D_keepUniforms_20 : decode b_D_keepUniforms 20 = .ok (.iconst 0, 1) := by decide +kernel
theorem d_D_keepUniforms_21 : decode b_D_keepUniforms 21 = .ok (.invokevirtual 110, 3) := by decide +kernel
theorem d_D_keepUniforms_24 : decode b_D_keepUniforms 24 = .ok (.iload_n 2, 1) := by decide +kernel
theorem d_D_keepUniforms_25 : decode b_D_keepUniforms 25 = .ok (.iadd, 1) := by decide +kernel
theorem d_D_keepUniforms_26 : decode b_D_keepUniforms 26 = .ok (.istore_n 3, 1) := by decide +kernel
theorem d_D_keepUniforms_27 : decode b_D_keepUniforms 27 = .ok (.aload_n 0, 1) := by decide +kernel
theorem d_D_keepUniforms_28 : decode b_D_keepUniforms 28 = .ok (.getfield 26, 3) := by decide +kernel
theorem d_D_keepUniforms_31 : decode b_D_keepUniforms 31 = .ok (.iconst 2, 1) := by decide +kernel
theorem d_D_keepUniforms_32 : decode b_D_keepUniforms 32 = .ok (.invokevirtual 110, 3) := by decide +kernel
theorem d_D_keepUniforms_35 : decode b_D_keepUniforms 35 = .ok (.iconst 4, 1) := by decide +kernel
theorem d_D_keepUniforms_36 : decode b_D_keepUniforms 36 = .ok (.iload_n 2, 1) := by decide +kernel
theorem d_D_keepUniforms_37 : decode b_D_keepUniforms 37 = .ok (.imul, 1) := by decide +kernel
theorem d_D_keepUniforms_38 : decode b_D_keepUniforms 38 = .ok (.iadd, 1) := by decide +kernel
theorem d_D_keepUniforms_39 : decode b_D_keepUniforms 39 = .ok (.istore 4, 2) := by decide +kernel
theorem d_D_keepUniforms_41 : decode b_D_keepUniforms 41 = .ok (.iconst 0, 1) := by decide +kernel
theorem d_D_keepUniforms_42 : decode b_D_keepUniforms 42 = .ok (.istore 5, 2) := by decide +kernel
theorem d_D_keepUniforms_44 : decode b_D_keepUniforms 44 = .ok (.iload 5, 2) := by decide +kernel
theorem d_D_keepUniforms_46 : decode b_D_keepUniforms 46 = .ok (.iconst 4, 1) := by decide +kernel
theorem d_D_keepUniforms_47 : decode b_D_keepUniforms 47 = .ok (.if_icmp .ge 34, 3) := by decide +kernel
theorem d_D_keepUniforms_50 : decode b_D_keepUniforms 50 = .ok (.aload_n 0, 1) := by decide +kernel
theorem d_D_keepUniforms_51 : decode b_D_keepUniforms 51 = .ok (.getfield 19, 3) := by decide +kernel
theorem d_D_keepUniforms_54 : decode b_D_keepUniforms 54 = .ok (.iconst 5, 1) := by decide +kernel
theorem d_D_keepUniforms_55 : decode b_D_keepUniforms 55 = .ok (.iload_n 3, 1) := by decide +kernel
theorem d_D_keepUniforms_56 : decode b_D_keepUniforms 56 = .ok (.iload 5, 2) := by decide +kernel
theorem d_D_keepUniforms_58 : decode b_D_keepUniforms 58 = .ok (.iconst 1, 1) := by decide +kernel
theorem d_D_keepUniforms_59 : decode b_D_keepUniforms 59 = .ok (.iadd, 1) := by decide +kernel
theorem d_D_keepUniforms_60 : decode b_D_keepUniforms 60 = .ok (.aload_n 0, 1) := by decide +kernel
theorem d_D_keepUniforms_61 : decode b_D_keepUniforms 61 = .ok (.getfield 9, 3) := by decide +kernel
theorem d_D_keepUniforms_64 : decode b_D_keepUniforms 64 = .ok (.iload 4, 2) := by decide +kernel
theorem d_D_keepUniforms_66 : decode b_D_keepUniforms 66 = .ok (.iload 5, 2) := by decide +kernel
theorem d_D_keepUniforms_68 : decode b_D_keepUniforms 68 = .ok (.iadd, 1) := by decide +kernel
theorem d_D_keepUniforms_69 : decode b_D_keepUniforms 69 = .ok (.invokestatic 54, 3) := by decide +kernel
theorem d_D_keepUniforms_72 : decode b_D_keepUniforms 72 = .ok (.invokevirtual 224, 3) := by decide +kernel
theorem d_D_keepUniforms_75 : decode b_D_keepUniforms 75 = .ok (.iinc 5 1, 3) := by decide +kernel
theorem d_D_keepUniforms_78 : decode b_D_keepUniforms 78 = .ok (.goto (-34), 3) := by decide +kernel
theorem d_D_keepUniforms_81 : decode b_D_keepUniforms 81 = .ok (.iinc 2 1, 3) := by decide +kernel
theorem d_D_keepUniforms_84 : decode b_D_keepUniforms 84 = .ok (.goto (-73), 3) := by decide +kernel
theorem d_D_keepUniforms_87 : decode b_D_keepUniforms 87 = .ok (.return_, 1) := by decide +kernel
theorem d_T_set_0 : decode b_T_set 0 = .ok (.aload_n 0, 1) := by decide +kernel
theorem d_T_set_1 : decode b_T_set 1 = .ok (.getfield 34, 3) := by decide +kernel
theorem d_T_set_4 : decode b_T_set 4 = .ok (.aload_n 0, 1) := by decide +kernel
theorem d_T_set_5 : decode b_T_set 5 = .ok (.iload_n 1, 1) := by decide +kernel
theorem d_T_set_6 : decode b_T_set 6 = .ok (.iload_n 2, 1) := by decide +kernel
theorem d_T_set_7 : decode b_T_set 7 = .ok (.iload_n 3, 1) := by decide +kernel
theorem d_T_set_8 : decode b_T_set 8 = .ok (.invokevirtual 44, 3) := by decide +kernel
theorem d_T_set_11 : decode b_T_set 11 = .ok (.iload 4, 2) := by decide +kernel
theorem d_T_set_13 : decode b_T_set 13 = .ok (.invokestatic 17, 3) := by decide +kernel
theorem d_T_set_16 : decode b_T_set 16 = .ok (.return_, 1) := by decide +kernel
theorem d_D_storeWords_0 : decode b_D_storeWords 0 = .ok (.aload_n 0, 1) := by decide +kernel
theorem d_D_storeWords_1 : decode b_D_storeWords 1 = .ok (.getfield 26, 3) := by decide +kernel
theorem d_D_storeWords_4 : decode b_D_storeWords 4 = .ok (.iconst 1, 1) := by decide +kernel
theorem d_D_storeWords_5 : decode b_D_storeWords 5 = .ok (.invokevirtual 110, 3) := by decide +kernel
theorem d_D_storeWords_8 : decode b_D_storeWords 8 = .ok (.istore_n 1, 1) := by decide +kernel
theorem d_D_storeWords_9 : decode b_D_storeWords 9 = .ok (.iconst 0, 1) := by decide +kernel
theorem d_D_storeWords_10 : decode b_D_storeWords 10 = .ok (.istore_n 2, 1) := by decide +kernel
theorem d_D_storeWords_11 : decode b_D_storeWords 11 = .ok (.iload_n 2, 1) := by decide +kernel
theorem d_D_storeWords_12 : decode b_D_storeWords 12 = .ok (.iload_n 1, 1) := by decide +kernel
theorem d_D_storeWords_13 : decode b_D_storeWords 13 = .ok (.if_icmp .ge 36, 3) := by decide +kernel
theorem d_D_storeWords_16 : decode b_D_storeWords 16 = .ok (.aload_n 0, 1) := by decide +kernel
theorem d_D_storeWords_17 : decode b_D_storeWords 17 = .ok (.getfield 9, 3) := by decide +kernel
theorem d_D_storeWords_20 : decode b_D_storeWords 20 = .ok (.aload_n 0, 1) := by decide +kernel
theorem d_D_storeWords_21 : decode b_D_storeWords 21 = .ok (.getfield 26, 3) := by decide +kernel
theorem d_D_storeWords_24 : decode b_D_storeWords 24 = .ok (.iconst 0, 1) := by decide +kernel
theorem d_D_storeWords_25 : decode b_D_storeWords 25 = .ok (.invokevirtual 110, 3) := by decide +kernel
theorem d_D_storeWords_28 : decode b_D_storeWords 28 = .ok (.iload_n 2, 1) := by decide +kernel
theorem d_D_storeWords_29 : decode b_D_storeWords 29 = .ok (.iadd, 1) := by decide +kernel
theorem d_D_storeWords_30 : decode b_D_storeWords 30 = .ok (.aload_n 0, 1) := by decide +kernel
theorem d_D_storeWords_31 : decode b_D_storeWords 31 = .ok (.getfield 26, 3) := by decide +kernel
theorem d_D_storeWords_34 : decode b_D_storeWords 34 = .ok (.iconst 2, 1) := by decide +kernel
theorem d_D_storeWords_35 : decode b_D_storeWords 35 = .ok (.iload_n 2, 1) := by decide +kernel
theorem d_D_storeWords_36 : decode b_D_storeWords 36 = .ok (.iadd, 1) := by decide +kernel
theorem d_D_storeWords_37 : decode b_D_storeWords 37 = .ok (.invokevirtual 110, 3) := by decide +kernel
theorem d_D_storeWords_40 : decode b_D_storeWords 40 = .ok (.invokestatic 58, 3) := by decide +kernel
theorem d_D_storeWords_43 : decode b_D_storeWords 43 = .ok (.iinc 2 1, 3) := by decide +kernel
theorem d_D_storeWords_46 : decode b_D_storeWords 46 = .ok (.goto (-35), 3) := by decide +kernel
theorem d_D_storeWords_49 : decode b_D_storeWords 49 = .ok (.return_, 1) := by decide +kernel
theorem d_R_enter_0 : decode b_R_enter 0 = .ok (.aload_n 0, 1) := by decide +kernel
theorem d_R_enter_1 : decode b_R_enter 1 = .ok (.getfield 9, 3) := by decide +kernel
theorem d_R_enter_4 : decode b_R_enter 4 = .ok (.aload_n 0, 1) := by decide +kernel
theorem d_R_enter_5 : decode b_R_enter 5 = .ok (.getfield 22, 3) := by decide +kernel
theorem d_R_enter_8 : decode b_R_enter 8 = .ok (.aload_n 0, 1) := by decide +kernel
theorem d_R_enter_9 : decode b_R_enter 9 = .ok (.getfield 18, 3) := by decide +kernel
theorem d_R_enter_12 : decode b_R_enter 12 = .ok (.invokestatic 44, 3) := by decide +kernel
theorem d_R_enter_15 : decode b_R_enter 15 = .ok (.aload_n 0, 1) := by decide +kernel
theorem d_R_enter_16 : decode b_R_enter 16 = .ok (.dup, 1) := by decide +kernel
theorem d_R_enter_17 : decode b_R_enter 17 = .ok (.getfield 22, 3) := by decide +kernel
theorem d_R_enter_20 : decode b_R_enter 20 = .ok (.iconst 1, 1) := by decide +kernel
theorem d_R_enter_21 : decode b_R_enter 21 = .ok (.iadd, 1) := by decide +kernel
theorem d_R_enter_22 : decode b_R_enter 22 = .ok (.putfield 22, 3) := by decide +kernel
theorem d_R_enter_25 : decode b_R_enter 25 = .ok (.aload_n 0, 1) := by decide +kernel
theorem d_R_enter_26 : decode b_R_enter 26 = .ok (.iload_n 1, 1) := by decide +kernel
theorem d_R_enter_27 : decode b_R_enter 27 = .ok (.putfield 18, 3) := by decide +kernel
theorem d_R_enter_30 : decode b_R_enter 30 = .ok (.return_, 1) := by decide +kernel
theorem d_T_keep_0 : decode b_T_keep 0 = .ok (.aload_n 1, 1) := by decide +kernel
theorem d_T_keep_1 : decode b_T_keep 1 = .ok (.getfield 55, 3) := by decide +kernel
theorem d_T_keep_4 : decode b_T_keep 4 = .ok (.istore_n 2, 1) := by decide +kernel
theorem d_T_keep_5 : decode b_T_keep 5 = .ok (.iload_n 2, 1) := by decide +kernel
theorem d_T_keep_6 : decode b_T_keep 6 = .ok (.invokestatic 21, 3) := by decide +kernel
theorem d_T_keep_9 : decode b_T_keep 9 = .ok (.ifCond .ne 4, 3) := by decide +kernel
theorem d_T_keep_12 : decode b_T_keep 12 = .ok (.return_, 1) := by decide +kernel
theorem d_T_keep_13 : decode b_T_keep 13 = .ok (.aload_n 0, 1) := by decide +kernel
theorem d_T_keep_14 : decode b_T_keep 14 = .ok (.iload_n 2, 1) := by decide +kernel
theorem d_T_keep_15 : decode b_T_keep 15 = .ok (.iload_n 2, 1) := by decide +kernel
theorem d_T_keep_16 : decode b_T_keep 16 = .ok (.invokestatic 51, 3) := by decide +kernel
theorem d_T_keep_19 : decode b_T_keep 19 = .ok (.ifCond .eq 11, 3) := by decide +kernel
theorem d_T_keep_22 : decode b_T_keep 22 = .ok (.aload_n 1, 1) := by decide +kernel
theorem d_T_keep_23 : decode b_T_keep 23 = .ok (.iconst 0, 1) := by decide +kernel
theorem d_T_keep_24 : decode b_T_keep 24 = .ok (.invokevirtual 61, 3) := by decide +kernel
theorem d_T_keep_27 : decode b_T_keep 27 = .ok (.goto 4, 3) := by decide +kernel
theorem d_T_keep_30 : decode b_T_keep 30 = .ok (.iconst 0, 1) := by decide +kernel
theorem d_T_keep_31 : decode b_T_keep 31 = .ok (.iconst 0, 1) := by decide +kernel
theorem d_T_keep_32 : decode b_T_keep 32 = .ok (.invokevirtual 44, 3) := by decide +kernel
theorem d_T_keep_35 : decode b_T_keep 35 = .ok (.istore_n 3, 1) := by decide +kernel
theorem d_T_keep_36 : decode b_T_keep 36 = .ok (.iconst 0, 1) := by decide +kernel
theorem d_T_keep_37 : decode b_T_keep 37 = .ok (.istore 4, 2) := by decide +kernel
theorem d_T_keep_39 : decode b_T_keep 39 = .ok (.iload 4, 2) := by decide +kernel
theorem d_T_keep_41 : decode b_T_keep 41 = .ok (.aload_n 1, 1) := by decide +kernel
theorem d_T_keep_42 : decode b_T_keep 42 = .ok (.getfield 64, 3) := by decide +kernel
theorem d_T_keep_45 : decode b_T_keep 45 = .ok (.if_icmp .ge 26, 3) := by decide +kernel
theorem d_T_keep_48 : decode b_T_keep 48 = .ok (.aload_n 0, 1) := by decide +kernel
theorem d_T_keep_49 : decode b_T_keep 49 = .ok (.getfield 34, 3) := by decide +kernel
theorem d_T_keep_52 : decode b_T_keep 52 = .ok (.iload_n 3, 1) := by decide +kernel
theorem d_T_keep_53 : decode b_T_keep 53 = .ok (.iload 4, 2) := by decide +kernel
theorem d_T_keep_55 : decode b_T_keep 55 = .ok (.iadd, 1) := by decide +kernel
theorem d_T_keep_56 : decode b_T_keep 56 = .ok (.aload_n 1, 1) := by decide +kernel
theorem d_T_keep_57 : decode b_T_keep 57 = .ok (.iload 4, 2) := by decide +kernel
theorem d_T_keep_59 : decode b_T_keep 59 = .ok (.invokevirtual 61, 3) := by decide +kernel
theorem d_T_keep_62 : decode b_T_keep 62 = .ok (.invokestatic 17, 3) := by decide +kernel
theorem d_T_keep_65 : decode b_T_keep 65 = .ok (.iinc 4 1, 3) := by decide +kernel
theorem d_T_keep_68 : decode b_T_keep 68 = .ok (.goto (-29), 3) := by decide +kernel
theorem d_T_keep_71 : decode b_T_keep 71 = .ok (.return_, 1) := by decide +kernel
theorem d_D_argument_0 : decode b_D_argument 0 = .ok (.iload_n 1, 1) := by decide +kernel
theorem d_D_argument_1 : decode b_D_argument 1 = .ok (.ifCond .lt 14, 3) := by decide +kernel
theorem d_D_argument_4 : decode b_D_argument 4 = .ok (.iload_n 1, 1) := by decide +kernel
theorem d_D_argument_5 : decode b_D_argument 5 = .ok (.aload_n 0, 1) := by decide +kernel
theorem d_D_argument_6 : decode b_D_argument 6 = .ok (.getfield 26, 3) := by decide +kernel
theorem d_D_argument_9 : decode b_D_argument 9 = .ok (.getfield 105, 3) := by decide +kernel
theorem d_D_argument_12 : decode b_D_argument 12 = .ok (.if_icmp .lt 13, 3) := by decide +kernel
theorem d_D_argument_15 : decode b_D_argument 15 = .ok (.new 47, 3) := by decide +kernel
theorem d_D_argument_18 : decode b_D_argument 18 = .ok (.dup, 1) := by decide +kernel
theorem d_D_argument_19 : decode b_D_argument 19 = .ok (.ldc 108, 2) := by decide +kernel
theorem d_D_argument_21 : decode b_D_argument 21 = .ok (.invokespecial 51, 3) := by decide +kernel
theorem d_D_argument_24 : decode b_D_argument 24 = .ok (.athrow, 1) := by decide +kernel
theorem d_D_argument_25 : decode b_D_argument 25 = .ok (.aload_n 0, 1) := by decide +kernel
theorem d_D_argument_26 : decode b_D_argument 26 = .ok (.getfield 26, 3) := by decide +kernel
theorem d_D_argument_29 : decode b_D_argument 29 = .ok (.iload_n 1, 1) := by decide +kernel
theorem d_D_argument_30 : decode b_D_argument 30 = .ok (.invokevirtual 110, 3) := by decide +kernel
theorem d_D_argument_33 : decode b_D_argument 33 = .ok (.ireturn, 1) := by decide +kernel
theorem d_D_kept_0 : decode b_D_kept 0 = .ok (.iload_n 2, 1) := by decide +kernel
theorem d_D_kept_1 : decode b_D_kept 1 = .ok (.ifCond .lt 23, 3) := by decide +kernel
theorem d_D_kept_4 : decode b_D_kept 4 = .ok (.iload_n 2, 1) := by decide +kernel
theorem d_D_kept_5 : decode b_D_kept 5 = .ok (.iload_n 1, 1) := by decide +kernel
theorem d_D_kept_6 : decode b_D_kept 6 = .ok (.invokestatic 114, 3) := by decide +kernel
theorem d_D_kept_9 : decode b_D_kept 9 = .ok (.if_icmp .ge 15, 3) := by decide +kernel
theorem d_D_kept_12 : decode b_D_kept 12 = .ok (.iload_n 3, 1) := by decide +kernel
theorem d_D_kept_13 : decode b_D_kept 13 = .ok (.ifCond .lt 11, 3) := by decide +kernel
theorem d_D_kept_16 : decode b_D_kept 16 = .ok (.iload_n 3, 1) := by decide +kernel
theorem d_D_kept_17 : decode b_D_kept 17 = .ok (.iload_n 1, 1) := by decide +kernel
theorem d_D_kept_18 : decode b_D_kept 18 = .ok (.invokestatic 119, 3) := by decide +kernel
theorem d_D_kept_21 : decode b_D_kept 21 = .ok (.if_icmp .lt 13, 3) := by decide +kernel
theorem d_D_kept_24 : decode b_D_kept 24 = .ok (.new 62, 3) := by decide +kernel
theorem d_D_kept_27 : decode b_D_kept 27 = .ok (.dup, 1) := by decide +kernel
theorem d_D_kept_28 : decode b_D_kept 28 = .ok (.ldc 122, 2) := by decide +kernel
theorem d_D_kept_30 : decode b_D_kept 30 = .ok (.invokespecial 66, 3) := by decide +kernel
theorem d_D_kept_33 : decode b_D_kept 33 = .ok (.athrow, 1) := by decide +kernel
theorem d_D_kept_34 : decode b_D_kept 34 = .ok (.aload_n 0, 1) := by decide +kernel
theorem d_D_kept_35 : decode b_D_kept 35 = .ok (.getfield 19, 3) := by decide +kernel
theorem d_D_kept_38 : decode b_D_kept 38 = .ok (.iload_n 1, 1) := by decide +kernel
theorem d_D_kept_39 : decode b_D_kept 39 = .ok (.iload_n 2, 1) := by decide +kernel
theorem d_D_kept_40 : decode b_D_kept 40 = .ok (.iload_n 3, 1) := by decide +kernel
theorem d_D_kept_41 : decode b_D_kept 41 = .ok (.invokevirtual 124, 3) := by decide +kernel
theorem d_D_kept_44 : decode b_D_kept 44 = .ok (.ireturn, 1) := by decide +kernel
theorem d_D_about_0 : decode b_D_about 0 = .ok (.iload_n 1, 1) := by decide +kernel
theorem d_D_about_1 : decode b_D_about 1 = .ok (.tableswitch 104 0 6 #[43, 59, 67, 75, 83, 91, 99], 43) := by decide +kernel
theorem d_D_about_44 : decode b_D_about 44 = .ok (.aload_n 0, 1) := by decide +kernel
theorem d_D_about_45 : decode b_D_about 45 = .ok (.getfield 33, 3) := by decide +kernel
theorem d_D_about_48 : decode b_D_about 48 = .ok (.getfield 78, 3) := by decide +kernel
theorem d_D_about_51 : decode b_D_about 51 = .ok (.ifCond .eq 7, 3) := by decide +kernel
theorem d_D_about_54 : decode b_D_about 54 = .ok (.iconst 1, 1) := by decide +kernel
theorem d_D_about_55 : decode b_D_about 55 = .ok (.goto 4, 3) := by decide +kernel
theorem d_D_about_58 : decode b_D_about 58 = .ok (.iconst 0, 1) := by decide +kernel
theorem d_D_about_59 : decode b_D_about 59 = .ok (.ireturn, 1) := by decide +kernel
theorem d_D_about_60 : decode b_D_about 60 = .ok (.aload_n 0, 1) := by decide +kernel
theorem d_D_about_61 : decode b_D_about 61 = .ok (.getfield 33, 3) := by decide +kernel
theorem d_D_about_64 : decode b_D_about 64 = .ok (.getfield 127, 3) := by decide +kernel
theorem d_D_about_67 : decode b_D_about 67 = .ok (.ireturn, 1) := by decide +kernel
theorem d_D_about_68 : decode b_D_about 68 = .ok (.aload_n 0, 1) := by decide +kernel
theorem d_D_about_69 : decode b_D_about 69 = .ok (.getfield 33, 3) := by decide +kernel
theorem d_D_about_72 : decode b_D_about 72 = .ok (.getfield 130, 3) := by decide +kernel
theorem d_D_about_75 : decode b_D_about 75 = .ok (.ireturn, 1) := by decide +kernel
theorem d_D_about_76 : decode b_D_about 76 = .ok (.aload_n 0, 1) := by decide +kernel
theorem d_D_about_77 : decode b_D_about 77 = .ok (.getfield 33, 3) := by decide +kernel
theorem d_D_about_80 : decode b_D_about 80 = .ok (.getfield 133, 3) := by decide +kernel
theorem d_D_about_83 : decode b_D_about 83 = .ok (.ireturn, 1) := by decide +kernel
theorem d_D_about_84 : decode b_D_about 84 = .ok (.aload_n 0, 1) := by decide +kernel
theorem d_D_about_85 : decode b_D_about 85 = .ok (.getfield 33, 3) := by decide +kernel
theorem d_D_about_88 : decode b_D_about 88 = .ok (.getfield 136, 3) := by decide +kernel
theorem d_D_about_91 : decode b_D_about 91 = .ok (.ireturn, 1) := by decide +kernel
theorem d_D_about_92 : decode b_D_about 92 = .ok (.aload_n 0, 1) := by decide +kernel
theorem d_D_about_93 : decode b_D_about 93 = .ok (.getfield 33, 3) := by decide +kernel
theorem d_D_about_96 : decode b_D_about 96 = .ok (.getfield 139, 3) := by decide +kernel
theorem d_D_about_99 : decode b_D_about 99 = .ok (.ireturn, 1) := by decide +kernel
theorem d_D_about_100 : decode b_D_about 100 = .ok (.aload_n 0, 1) := by decide +kernel
theorem d_D_about_101 : decode b_D_about 101 = .ok (.getfield 37, 3) := by decide +kernel
theorem d_D_about_104 : decode b_D_about 104 = .ok (.ireturn, 1) := by decide +kernel
theorem d_D_about_105 : decode b_D_about 105 = .ok (.new 62, 3) := by decide +kernel
theorem d_D_about_108 : decode b_D_about 108 = .ok (.dup, 1) := by decide +kernel
theorem d_D_about_109 : decode b_D_about 109 = .ok (.ldc 142, 2) := by decide +kernel
theorem d_D_about_111 : decode b_D_about 111 = .ok (.invokespecial 66, 3) := by decide +kernel
theorem d_D_about_114 : decode b_D_about 114 = .ok (.athrow, 1) := by decide +kernel
end
section
theorem d_M_init_0 : decode b_M_init 0 = .ok (.aload_n 0, 1) := by decide +kernel
theorem d_M_init_1 : decode b_M_init 1 = .ok (.invokespecial 1, 3) := by decide +kernel
theorem d_M_init_4 : decode b_M_init 4 = .ok (.aload_n 0, 1) := by decide +kernel
theorem d_M_init_5 : decode b_M_init 5 = .ok (.sipush 4096, 3) := by decide +kernel
theorem d_M_init_8 : decode b_M_init 8 = .ok (.newarray .int, 2) := by decide +kernel
theorem d_M_init_10 : decode b_M_init 10 = .ok (.putfield 7, 3) := by decide +kernel
theorem d_M_init_13 : decode b_M_init 13 = .ok (.aload_n 0, 1) := by decide +kernel
theorem d_M_init_14 : decode b_M_init 14 = .ok (.iconst 1, 1) := by decide +kernel
theorem d_M_init_15 : decode b_M_init 15 = .ok (.putfield 13, 3) := by decide +kernel
theorem d_M_init_18 : decode b_M_init 18 = .ok (.aload_n 0, 1) := by decide +kernel
theorem d_M_init_19 : decode b_M_init 19 = .ok (.iconst 1, 1) := by decide +kernel
theorem d_M_init_20 : decode b_M_init 20 = .ok (.putfield 17, 3) := by decide +kernel
theorem d_M_init_23 : decode b_M_init 23 = .ok (.aload_n 0, 1) := by decide +kernel
theorem d_M_init_24 : decode b_M_init 24 = .ok (.sipush 4096, 3) := by decide +kernel
theorem d_M_init_27 : decode b_M_init 27 = .ok (.newarray .int, 2) := by decide +kernel
theorem d_M_init_29 : decode b_M_init 29 = .ok (.putfield 20, 3) := by decide +kernel
theorem d_M_init_32 : decode b_M_init 32 = .ok (.aload_n 0, 1) := by decide +kernel
theorem d_M_init_33 : decode b_M_init 33 = .ok (.iconst 4, 1) := by decide +kernel
theorem d_M_init_34 : decode b_M_init 34 = .ok (.newarray .int, 2) := by decide +kernel
theorem d_M_init_36 : decode b_M_init 36 = .ok (.putfield 23, 3) := by decide +kernel
theorem d_M_init_39 : decode b_M_init 39 = .ok (.aload_n 0, 1) := by decide +kernel
theorem d_M_init_40 : decode b_M_init 40 = .ok (.iconst (-1), 1) := by decide +kernel
theorem d_M_init_41 : decode b_M_init 41 = .ok (.putfield 26, 3) := by decide +kernel
theorem d_M_init_44 : decode b_M_init 44 = .ok (.aload_n 0, 1) := by decide +kernel
theorem d_M_init_45 : decode b_M_init 45 = .ok (.iconst (-1), 1) := by decide +kernel
theorem d_M_init_46 : decode b_M_init 46 = .ok (.putfield 29, 3) := by decide +kernel
theorem d_M_init_49 : decode b_M_init 49 = .ok (.aload_n 0, 1) := by decide +kernel
theorem d_M_init_50 : decode b_M_init 50 = .ok (.iconst (-1), 1) := by decide +kernel
theorem d_M_init_51 : decode b_M_init 51 = .ok (.putfield 32, 3) := by decide +kernel
theorem d_M_init_54 : decode b_M_init 54 = .ok (.aload_n 0, 1) := by decide +kernel
theorem d_M_init_55 : decode b_M_init 55 = .ok (.sipush 300, 3) := by decide +kernel
theorem d_M_init_58 : decode b_M_init 58 = .ok (.newarray .int, 2) := by decide +kernel
theorem d_M_init_60 : decode b_M_init 60 = .ok (.putfield 35, 3) := by decide +kernel
theorem d_M_init_63 : decode b_M_init 63 = .ok (.aload_n 0, 1) := by decide +kernel
theorem d_M_init_64 : decode b_M_init 64 = .ok (.sipush 4160, 3) := by decide +kernel
theorem d_M_init_67 : decode b_M_init 67 = .ok (.newarray .int, 2) := by decide +kernel
theorem d_M_init_69 : decode b_M_init 69 = .ok (.putfield 38, 3) := by decide +kernel
theorem d_M_init_72 : decode b_M_init 72 = .ok (.aload_n 0, 1) := by decide +kernel
theorem d_M_init_73 : decode b_M_init 73 = .ok (.invokevirtual 41, 3) := by decide +kernel
theorem d_M_init_76 : decode b_M_init 76 = .ok (.return_, 1) := by decide +kernel
theorem d_M_nothingTold_0 : decode b_M_nothingTold 0 = .ok (.iconst 0, 1) := by decide +kernel
theorem d_M_nothingTold_1 : decode b_M_nothingTold 1 = .ok (.istore_n 1, 1) := by decide +kernel
theorem d_M_nothingTold_2 : decode b_M_nothingTold 2 = .ok (.iload_n 1, 1) := by decide +kernel
theorem d_M_nothingTold_3 : decode b_M_nothingTold 3 = .ok (.sipush 4160, 3) := by decide +kernel
theorem d_M_nothingTold_6 : decode b_M_nothingTold 6 = .ok (.if_icmp .ge 16, 3) := by decide +kernel
theorem d_M_nothingTold_9 : decode b_M_nothingTold 9 = .ok (.aload_n 0, 1) := by decide +kernel
theorem d_M_nothingTold_10 : decode b_M_nothingTold 10 = .ok (.getfield 38, 3) := by decide +kernel
theorem d_M_nothingTold_13 : decode b_M_nothingTold 13 = .ok (.iload_n 1, 1) := by decide +kernel
theorem d_M_nothingTold_14 : decode b_M_nothingTold 14 = .ok (.iconst 0, 1) := by decide +kernel
theorem d_M_nothingTold_15 : decode b_M_nothingTold 15 = .ok (.iastore, 1) := by decide +kernel
theorem d_M_nothingTold_16 : decode b_M_nothingTold 16 = .ok (.iinc 1 1, 3) := by decide +kernel
theorem d_M_nothingTold_19 : decode b_M_nothingTold 19 = .ok (.goto (-17), 3) := by decide +kernel
theorem d_M_nothingTold_22 : decode b_M_nothingTold 22 = .ok (.iconst 0, 1) := by decide +kernel
theorem d_M_nothingTold_23 : decode b_M_nothingTold 23 = .ok (.istore_n 1, 1) := by decide +kernel
theorem d_M_nothingTold_24 : decode b_M_nothingTold 24 = .ok (.iload_n 1, 1) := by decide +kernel
theorem d_M_nothingTold_25 : decode b_M_nothingTold 25 = .ok (.bipush 26, 2) := by decide +kernel
theorem d_M_nothingTold_27 : decode b_M_nothingTold 27 = .ok (.if_icmp .ge 44, 3) := by decide +kernel
theorem d_M_nothingTold_30 : decode b_M_nothingTold 30 = .ok (.iconst 0, 1) := by decide +kernel
theorem d_M_nothingTold_31 : decode b_M_nothingTold 31 = .ok (.istore_n 2, 1) := by decide +kernel
theorem d_M_nothingTold_32 : decode b_M_nothingTold 32 = .ok (.iload_n 2, 1) := by decide +kernel
theorem d_M_nothingTold_33 : decode b_M_nothingTold 33 = .ok (.iload_n 1, 1) := by decide +kernel
theorem d_M_nothingTold_34 : decode b_M_nothingTold 34 = .ok (.invokestatic 110, 3) := by decide +kernel
theorem d_M_nothingTold_37 : decode b_M_nothingTold 37 = .ok (.if_icmp .ge 28, 3) := by decide +kernel
theorem d_M_nothingTold_40 : decode b_M_nothingTold 40 = .ok (.iload_n 1, 1) := by decide +kernel
theorem d_M_nothingTold_41 : decode b_M_nothingTold 41 = .ok (.invokestatic 110, 3) := by decide +kernel
theorem d_M_nothingTold_44 : decode b_M_nothingTold 44 = .ok (.iconst 1, 1) := by decide +kernel
theorem d_M_nothingTold_45 : decode b_M_nothingTold 45 = .ok (.if_icmp .le 20, 3) := by decide +kernel
theorem d_M_nothingTold_48 : decode b_M_nothingTold 48 = .ok (.aload_n 0, 1) := by decide +kernel
theorem d_M_nothingTold_49 : decode b_M_nothingTold 49 = .ok (.getfield 38, 3) := by decide +kernel
theorem d_M_nothingTold_52 : decode b_M_nothingTold 52 = .ok (.iload_n 1, 1) := by decide +kernel
theorem d_M_nothingTold_53 : decode b_M_nothingTold 53 = .ok (.iload_n 2, 1) := by decide +kernel
theorem d_M_nothingTold_54 : decode b_M_nothingTold 54 = .ok (.invokestatic 113, 3) := by decide +kernel
theorem d_M_nothingTold_57 : decode b_M_nothingTold 57 = .ok (.iload_n 2, 1) := by decide +kernel
theorem d_M_nothingTold_58 : decode b_M_nothingTold 58 = .ok (.iastore, 1) := by decide +kernel
theorem d_M_nothingTold_59 : decode b_M_nothingTold 59 = .ok (.iinc 2 1, 3) := by decide +kernel
theorem d_M_nothingTold_62 : decode b_M_nothingTold 62 = .ok (.goto (-30), 3) := by decide +kernel
theorem d_M_nothingTold_65 : decode b_M_nothingTold 65 = .ok (.iinc 1 1, 3) := by decide +kernel
theorem d_M_nothingTold_68 : decode b_M_nothingTold 68 = .ok (.goto (-44), 3) := by decide +kernel
theorem d_M_nothingTold_71 : decode b_M_nothingTold 71 = .ok (.aload_n 0, 1) := by decide +kernel
theorem d_M_nothingTold_72 : decode b_M_nothingTold 72 = .ok (.getfield 38, 3) := by decide +kernel
theorem d_M_nothingTold_75 : decode b_M_nothingTold 75 = .ok (.iconst 2, 1) := by decide +kernel
theorem d_M_nothingTold_76 : decode b_M_nothingTold 76 = .ok (.iconst 0, 1) := by decide +kernel
theorem d_M_nothingTold_77 : decode b_M_nothingTold 77 = .ok (.invokestatic 113, 3) := by decide +kernel
theorem d_M_nothingTold_80 : decode b_M_nothingTold 80 = .ok (.iconst 2, 1) := by decide +kernel
theorem d_M_nothingTold_81 : decode b_M_nothingTold 81 = .ok (.iadd, 1) := by decide +kernel
theorem d_M_nothingTold_82 : decode b_M_nothingTold 82 = .ok (.iconst 1, 1) := by decide +kernel
theorem d_M_nothingTold_83 : decode b_M_nothingTold 83 = .ok (.iastore, 1) := by decide +kernel
theorem d_M_nothingTold_84 : decode b_M_nothingTold 84 = .ok (.aload_n 0, 1) := by decide +kernel
theorem d_M_nothingTold_85 : decode b_M_nothingTold 85 = .ok (.getfield 38, 3) := by decide +kernel
theorem d_M_nothingTold_88 : decode b_M_nothingTold 88 = .ok (.iconst 2, 1) := by decide +kernel
theorem d_M_nothingTold_89 : decode b_M_nothingTold 89 = .ok (.iconst 0, 1) := by decide +kernel
theorem d_M_nothingTold_90 : decode b_M_nothingTold 90 = .ok (.invokestatic 113, 3) := by decide +kernel
theorem d_M_nothingTold_93 : decode b_M_nothingTold 93 = .ok (.iconst 3, 1) := by decide +kernel
theorem d_M_nothingTold_94 : decode b_M_nothingTold 94 = .ok (.iadd, 1) := by decide +kernel
theorem d_M_nothingTold_95 : decode b_M_nothingTold 95 = .ok (.iconst 1, 1) := by decide +kernel
theorem d_M_nothingTold_96 : decode b_M_nothingTold 96 = .ok (.iastore, 1) := by decide +kernel
theorem d_M_nothingTold_97 : decode b_M_nothingTold 97 = .ok (.aload_n 0, 1) := by decide +kernel
theorem d_M_nothingTold_98 : decode b_M_nothingTold 98 = .ok (.getfield 38, 3) := by decide +kernel
theorem d_M_nothingTold_101 : decode b_M_nothingTold 101 = .ok (.iconst 2, 1) := by decide +kernel
theorem d_M_nothingTold_102 : decode b_M_nothingTold 102 = .ok (.iconst 0, 1) := by decide +kernel
theorem d_M_nothingTold_103 : decode b_M_nothingTold 103 = .ok (.invokestatic 113, 3) := by decide +kernel
theorem d_M_nothingTold_106 : decode b_M_nothingTold 106 = .ok (.iconst 5, 1) := by decide +kernel
theorem d_M_nothingTold_107 : decode b_M_nothingTold 107 = .ok (.iadd, 1) := by decide +kernel
theorem d_M_nothingTold_108 : decode b_M_nothingTold 108 = .ok (.ldc 117, 2) := by decide +kernel
theorem d_M_nothingTold_110 : decode b_M_nothingTold 110 = .ok (.iastore, 1) := by decide +kernel
theorem d_M_nothingTold_111 : decode b_M_nothingTold 111 = .ok (.aload_n 0, 1) := by decide +kernel
theorem d_M_nothingTold_112 : decode b_M_nothingTold 112 = .ok (.getfield 38, 3) := by decide +kernel
theorem d_M_nothingTold_115 : decode b_M_nothingTold 115 = .ok (.iconst 3, 1) := by decide +kernel
theorem d_M_nothingTold_116 : decode b_M_nothingTold 116 = .ok (.iconst 0, 1) := by decide +kernel
theorem d_M_nothingTold_117 : decode b_M_nothingTold 117 = .ok (.invokestatic 113, 3) := by decide +kernel
theorem d_M_nothingTold_120 : decode b_M_nothingTold 120 = .ok (.iconst 2, 1) := by decide +kernel
theorem d_M_nothingTold_121 : decode b_M_nothingTold 121 = .ok (.iadd, 1) := by decide +kernel
theorem d_M_nothingTold_122 : decode b_M_nothingTold 122 = .ok (.iconst (-1), 1) := by decide +kernel
theorem d_M_nothingTold_123 : decode b_M_nothingTold 123 = .ok (.iastore, 1) := by decide +kernel
theorem d_M_nothingTold_124 : decode b_M_nothingTold 124 = .ok (.aload_n 0, 1) := by decide +kernel
theorem d_M_nothingTold_125 : decode b_M_nothingTold 125 = .ok (.getfield 38, 3) := by decide +kernel
theorem d_M_nothingTold_128 : decode b_M_nothingTold 128 = .ok (.bipush 7, 2) := by decide +kernel
theorem d_M_nothingTold_130 : decode b_M_nothingTold 130 = .ok (.iconst 0, 1) := by decide +kernel
theorem d_M_nothingTold_131 : decode b_M_nothingTold 131 = .ok (.invokestatic 113, 3) := by decide +kernel
theorem d_M_nothingTold_134 : decode b_M_nothingTold 134 = .ok (.iconst (-1), 1) := by decide +kernel
theorem d_M_nothingTold_135 : decode b_M_nothingTold 135 = .ok (.iastore, 1) := by decide +kernel
theorem d_M_nothingTold_136 : decode b_M_nothingTold 136 = .ok (.aload_n 0, 1) := by decide +kernel
theorem d_M_nothingTold_137 : decode b_M_nothingTold 137 = .ok (.getfield 38, 3) := by decide +kernel
theorem d_M_nothingTold_140 : decode b_M_nothingTold 140 = .ok (.bipush 8, 2) := by decide +kernel
theorem d_M_nothingTold_142 : decode b_M_nothingTold 142 = .ok (.iconst 0, 1) := by decide +kernel
theorem d_M_nothingTold_143 : decode b_M_nothingTold 143 = .ok (.invokestatic 113, 3) := by decide +kernel
theorem d_M_nothingTold_146 : decode b_M_nothingTold 146 = .ok (.iconst (-1), 1) := by decide +kernel
theorem d_M_nothingTold_147 : decode b_M_nothingTold 147 = .ok (.iastore, 1) := by decide +kernel
theorem d_M_nothingTold_148 : decode b_M_nothingTold 148 = .ok (.aload_n 0, 1) := by decide +kernel
theorem d_M_nothingTold_149 : decode b_M_nothingTold 149 = .ok (.getfield 38, 3) := by decide +kernel
theorem d_M_nothingTold_152 : decode b_M_nothingTold 152 = .ok (.bipush 10, 2) := by decide +kernel
theorem d_M_nothingTold_154 : decode b_M_nothingTold 154 = .ok (.iconst 0, 1) := by decide +kernel
theorem d_M_nothingTold_155 : decode b_M_nothingTold 155 = .ok (.invokestatic 113, 3) := by decide +kernel
theorem d_M_nothingTold_158 : decode b_M_nothingTold 158 = .ok (.iconst (-1), 1) := by decide +kernel
theorem d_M_nothingTold_159 : decode b_M_nothingTold 159 = .ok (.iastore, 1) := by decide +kernel
theorem d_M_nothingTold_160 : decode b_M_nothingTold 160 = .ok (.aload_n 0, 1) := by decide +kernel
theorem d_M_nothingTold_161 : decode b_M_nothingTold 161 = .ok (.getfield 38, 3) := by decide +kernel
theorem d_M_nothingTold_164 : decode b_M_nothingTold 164 = .ok (.bipush 12, 2) := by decide +kernel
theorem d_M_nothingTold_166 : decode b_M_nothingTold 166 = .ok (.iconst 0, 1) := by decide +kernel
theorem d_M_nothingTold_167 : decode b_M_nothingTold 167 = .ok (.invokestatic 113, 3) := by decide +kernel
theorem d_M_nothingTold_170 : decode b_M_nothingTold 170 = .ok (.iconst 4, 1) := by decide +kernel
theorem d_M_nothingTold_171 : decode b_M_nothingTold 171 = .ok (.iadd, 1) := by decide +kernel
theorem d_M_nothingTold_172 : decode b_M_nothingTold 172 = .ok (.iconst (-1), 1) := by decide +kernel
theorem d_M_nothingTold_173 : decode b_M_nothingTold 173 = .ok (.iastore, 1) := by decide +kernel
theorem d_M_nothingTold_174 : decode b_M_nothingTold 174 = .ok (.aload_n 0, 1) := by decide +kernel
theorem d_M_nothingTold_175 : decode b_M_nothingTold 175 = .ok (.getfield 38, 3) := by decide +kernel
theorem d_M_nothingTold_178 : decode b_M_nothingTold 178 = .ok (.bipush 14, 2) := by decide +kernel
theorem d_M_nothingTold_180 : decode b_M_nothingTold 180 = .ok (.iconst 0, 1) := by decide +kernel
theorem d_M_nothingTold_181 : decode b_M_nothingTold 181 = .ok (.invokestatic 113, 3) := by decide +kernel
theorem d_M_nothingTold_184 : decode b_M_nothingTold 184 = .ok (.iconst (-1), 1) := by decide +kernel
theorem d_M_nothingTold_185 : decode b_M_nothingTold 185 = .ok (.iastore, 1) := by decide +kernel
theorem d_M_nothingTold_186 : decode b_M_nothingTold 186 = .ok (.aload_n 0, 1) := by decide +kernel
theorem d_M_nothingTold_187 : decode b_M_nothingTold 187 = .ok (.getfield 38, 3) := by decide +kernel
theorem d_M_nothingTold_190 : decode b_M_nothingTold 190 = .ok (.bipush 15, 2) := by decide +kernel
theorem d_M_nothingTold_192 : decode b_M_nothingTold 192 = .ok (.iconst 0, 1) := by decide +kernel
theorem d_M_nothingTold_193 : decode b_M_nothingTold 193 = .ok (.invokestatic 113, 3) := by decide +kernel
theorem d_M_nothingTold_196 : decode b_M_nothingTold 196 = .ok (.bipush 15, 2) := by decide +kernel
theorem d_M_nothingTold_198 : decode b_M_nothingTold 198 = .ok (.iastore, 1) := by decide +kernel
theorem d_M_nothingTold_199 : decode b_M_nothingTold 199 = .ok (.iconst 0, 1) := by decide +kernel
theorem d_M_nothingTold_200 : decode b_M_nothingTold 200 = .ok (.istore_n 1, 1) := by decide +kernel
theorem d_M_nothingTold_201 : decode b_M_nothingTold 201 = .ok (.iload_n 1, 1) := by decide +kernel
theorem d_M_nothingTold_202 : decode b_M_nothingTold 202 = .ok (.iconst 4, 1) := by decide +kernel
theorem d_M_nothingTold_203 : decode b_M_nothingTold 203 = .ok (.if_icmp .ge 23, 3) := by decide +kernel
theorem d_M_nothingTold_206 : decode b_M_nothingTold 206 = .ok (.aload_n 0, 1) := by decide +kernel
theorem d_M_nothingTold_207 : decode b_M_nothingTold 207 = .ok (.getfield 38, 3) := by decide +kernel
theorem d_M_nothingTold_210 : decode b_M_nothingTold 210 = .ok (.bipush 9, 2) := by decide +kernel
theorem d_M_nothingTold_212 : decode b_M_nothingTold 212 = .ok (.iload_n 1, 1) := by decide +kernel
theorem d_M_nothingTold_213 : decode b_M_nothingTold 213 = .ok (.invokestatic 113, 3) := by decide +kernel
theorem d_M_nothingTold_216 : decode b_M_nothingTold 216 = .ok (.iconst 4, 1) := by decide +kernel
theorem d_M_nothingTold_217 : decode b_M_nothingTold 217 = .ok (.iadd, 1) := by decide +kernel
theorem d_M_nothingTold_218 : decode b_M_nothingTold 218 = .ok (.iconst 1, 1) := by decide +kernel
theorem d_M_nothingTold_219 : decode b_M_nothingTold 219 = .ok (.iastore, 1) := by decide +kernel
theorem d_M_nothingTold_220 : decode b_M_nothingTold 220 = .ok (.iinc 1 1, 3) := by decide +kernel
theorem d_M_nothingTold_223 : decode b_M_nothingTold 223 = .ok (.goto (-22), 3) := by decide +kernel
theorem d_M_nothingTold_226 : decode b_M_nothingTold 226 = .ok (.iconst 0, 1) := by decide +kernel
theorem d_M_nothingTold_227 : decode b_M_nothingTold 227 = .ok (.istore_n 1, 1) := by decide +kernel
theorem d_M_nothingTold_228 : decode b_M_nothingTold 228 = .ok (.iload_n 1, 1) := by decide +kernel
theorem d_M_nothingTold_229 : decode b_M_nothingTold 229 = .ok (.iconst 2, 1) := by decide +kernel
theorem d_M_nothingTold_230 : decode b_M_nothingTold 230 = .ok (.if_icmp .ge 23, 3) := by decide +kernel
theorem d_M_nothingTold_233 : decode b_M_nothingTold 233 = .ok (.aload_n 0, 1) := by decide +kernel
theorem d_M_nothingTold_234 : decode b_M_nothingTold 234 = .ok (.getfield 38, 3) := by decide +kernel
theorem d_M_nothingTold_237 : decode b_M_nothingTold 237 = .ok (.bipush 11, 2) := by decide +kernel
theorem d_M_nothingTold_239 : decode b_M_nothingTold 239 = .ok (.iload_n 1, 1) := by decide +kernel
theorem d_M_nothingTold_240 : decode b_M_nothingTold 240 = .ok (.invokestatic 113, 3) := by decide +kernel
theorem d_M_nothingTold_243 : decode b_M_nothingTold 243 = .ok (.iconst 1, 1) := by decide +kernel
theorem d_M_nothingTold_244 : decode b_M_nothingTold 244 = .ok (.iadd, 1) := by decide +kernel
theorem d_M_nothingTold_245 : decode b_M_nothingTold 245 = .ok (.iconst (-1), 1) := by decide +kernel
theorem d_M_nothingTold_246 : decode b_M_nothingTold 246 = .ok (.iastore, 1) := by decide +kernel
theorem d_M_nothingTold_247 : decode b_M_nothingTold 247 = .ok (.iinc 1 1, 3) := by decide +kernel
theorem d_M_nothingTold_250 : decode b_M_nothingTold 250 = .ok (.goto (-22), 3) := by decide +kernel
theorem d_M_nothingTold_253 : decode b_M_nothingTold 253 = .ok (.return_, 1) := by decide +kernel
theorem d_M_many_0 : decode b_M_many 0 = .ok (.iload_n 0, 1) := by decide +kernel
theorem d_M_many_1 : decode b_M_many 1 = .ok (.tableswitch 123 2 25 #[121, 121, 111, 114, 123, 121, 121, 117, 121, 119, 121, 121, 121, 121, 121, 123, 123, 123, 123, 123, 123, 123, 117, 117], 111) := by decide +kernel
theorem d_M_many_112 : decode b_M_many 112 = .ok (.bipush 8, 2) := by decide +kernel
theorem d_M_many_114 : decode b_M_many 114 = .ok (.ireturn, 1) := by decide +kernel
theorem d_M_many_115 : decode b_M_many 115 = .ok (.bipush 32, 2) := by decide +kernel
theorem d_M_many_117 : decode b_M_many 117 = .ok (.ireturn, 1) := by decide +kernel
theorem d_M_many_118 : decode b_M_many 118 = .ok (.iconst 4, 1) := by decide +kernel
theorem d_M_many_119 : decode b_M_many 119 = .ok (.ireturn, 1) := by decide +kernel
theorem d_M_many_120 : decode b_M_many 120 = .ok (.iconst 2, 1) := by decide +kernel
theorem d_M_many_121 : decode b_M_many 121 = .ok (.ireturn, 1) := by decide +kernel
theorem d_M_many_122 : decode b_M_many 122 = .ok (.iconst 1, 1) := by decide +kernel
theorem d_M_many_123 : decode b_M_many 123 = .ok (.ireturn, 1) := by decide +kernel
theorem d_M_many_124 : decode b_M_many 124 = .ok (.iconst 0, 1) := by decide +kernel
theorem d_M_many_125 : decode b_M_many 125 = .ok (.ireturn, 1) := by decide +kernel
theorem d_M_rowOf_0 : decode b_M_rowOf 0 = .ok (.sipush 160, 3) := by decide +kernel
theorem d_M_rowOf_3 : decode b_M_rowOf 3 = .ok (.iload_n 0, 1) := by decide +kernel
theorem d_M_rowOf_4 : decode b_M_rowOf 4 = .ok (.imul, 1) := by decide +kernel
theorem d_M_rowOf_5 : decode b_M_rowOf 5 = .ok (.iload_n 1, 1) := by decide +kernel
theorem d_M_rowOf_6 : decode b_M_rowOf 6 = .ok (.iload_n 0, 1) := by decide +kernel
theorem d_M_rowOf_7 : decode b_M_rowOf 7 = .ok (.invokestatic 106, 3) := by decide +kernel
theorem d_M_rowOf_10 : decode b_M_rowOf 10 = .ok (.imul, 1) := by decide +kernel
theorem d_M_rowOf_11 : decode b_M_rowOf 11 = .ok (.iadd, 1) := by decide +kernel
theorem d_M_rowOf_12 : decode b_M_rowOf 12 = .ok (.ireturn, 1) := by decide +kernel
theorem d_M_count_0 : decode b_M_count 0 = .ok (.iload_n 0, 1) := by decide +kernel
theorem d_M_count_1 : decode b_M_count 1 = .ok (.tableswitch 134 0 25 #[119, 127, 134, 127, 129, 129, 125, 123, 123, 134, 123, 131, 134, 121, 121, 121, 123, 125, 129, 123, 134, 123, 119, 121, 127, 129], 119) := by decide +kernel
theorem d_M_count_120 : decode b_M_count 120 = .ok (.iconst 0, 1) := by decide +kernel
theorem d_M_count_121 : decode b_M_count 121 = .ok (.ireturn, 1) := by decide +kernel
theorem d_M_count_122 : decode b_M_count 122 = .ok (.iconst 1, 1) := by decide +kernel
theorem d_M_count_123 : decode b_M_count 123 = .ok (.ireturn, 1) := by decide +kernel
theorem d_M_count_124 : decode b_M_count 124 = .ok (.iconst 2, 1) := by decide +kernel
theorem d_M_count_125 : decode b_M_count 125 = .ok (.ireturn, 1) := by decide +kernel
theorem d_M_count_126 : decode b_M_count 126 = .ok (.iconst 3, 1) := by decide +kernel
theorem d_M_count_127 : decode b_M_count 127 = .ok (.ireturn, 1) := by decide +kernel
theorem d_M_count_128 : decode b_M_count 128 = .ok (.iconst 4, 1) := by decide +kernel
theorem d_M_count_129 : decode b_M_count 129 = .ok (.ireturn, 1) := by decide +kernel
theorem d_M_count_130 : decode b_M_count 130 = .ok (.iconst 5, 1) := by decide +kernel
theorem d_M_count_131 : decode b_M_count 131 = .ok (.ireturn, 1) := by decide +kernel
theorem d_M_count_132 : decode b_M_count 132 = .ok (.bipush 8, 2) := by decide +kernel
theorem d_M_count_134 : decode b_M_count 134 = .ok (.ireturn, 1) := by decide +kernel
theorem d_M_count_135 : decode b_M_count 135 = .ok (.bipush 6, 2) := by decide +kernel
theorem d_M_count_137 : decode b_M_count 137 = .ok (.ireturn, 1) := by decide +kernel
theorem d_M_thrown_0 : decode b_M_thrown 0 = .ok (.aload_n 0, 1) := by decide +kernel
theorem d_M_thrown_1 : decode b_M_thrown 1 = .ok (.getfield 44, 3) := by decide +kernel
theorem d_M_thrown_4 : decode b_M_thrown 4 = .ok (.ireturn, 1) := by decide +kernel
theorem d_M_word_0 : decode b_M_word 0 = .ok (.aload_n 0, 1) := by decide +kernel
theorem d_M_word_1 : decode b_M_word 1 = .ok (.iload_n 1, 1) := by decide +kernel
theorem d_M_word_2 : decode b_M_word 2 = .ok (.i2l, 1) := by decide +kernel
theorem d_M_word_3 : decode b_M_word 3 = .ok (.lconst 0, 1) := by decide +kernel
theorem d_M_word_4 : decode b_M_word 4 = .ok (.ldc2_w 118, 3) := by decide +kernel
theorem d_M_word_7 : decode b_M_word 7 = .ok (.invokestatic 51, 3) := by decide +kernel
theorem d_M_word_10 : decode b_M_word 10 = .ok (.ifCond .ne 7, 3) := by decide +kernel
theorem d_M_word_13 : decode b_M_word 13 = .ok (.iconst 1, 1) := by decide +kernel
theorem d_M_word_14 : decode b_M_word 14 = .ok (.goto 4, 3) := by decide +kernel
theorem d_M_word_17 : decode b_M_word 17 = .ok (.iconst 0, 1) := by decide +kernel
theorem d_M_word_18 : decode b_M_word 18 = .ok (.invokevirtual 120, 3) := by decide +kernel
theorem d_M_word_21 : decode b_M_word 21 = .ok (.ifCond .eq 5, 3) := by decide +kernel
theorem d_M_word_24 : decode b_M_word 24 = .ok (.iconst 0, 1) := by decide +kernel
theorem d_M_word_25 : decode b_M_word 25 = .ok (.ireturn, 1) := by decide +kernel
theorem d_M_word_26 : decode b_M_word 26 = .ok (.aload_n 0, 1) := by decide +kernel
theorem d_M_word_27 : decode b_M_word 27 = .ok (.getfield 7, 3) := by decide +kernel
theorem d_M_word_30 : decode b_M_word 30 = .ok (.iload_n 1, 1) := by decide +kernel
theorem d_M_word_31 : decode b_M_word 31 = .ok (.iaload, 1) := by decide +kernel
theorem d_M_word_32 : decode b_M_word 32 = .ok (.istore_n 3, 1) := by decide +kernel
theorem d_M_word_33 : decode b_M_word 33 = .ok (.aload_n 0, 1) := by decide +kernel
theorem d_M_word_34 : decode b_M_word 34 = .ok (.getfield 7, 3) := by decide +kernel
theorem d_M_word_37 : decode b_M_word 37 = .ok (.iload_n 1, 1) := by decide +kernel
theorem d_M_word_38 : decode b_M_word 38 = .ok (.iload_n 2, 1) := by decide +kernel
theorem d_M_word_39 : decode b_M_word 39 = .ok (.iastore, 1) := by decide +kernel
theorem d_M_word_40 : decode b_M_word 40 = .ok (.iload_n 3, 1) := by decide +kernel
theorem d_M_word_41 : decode b_M_word 41 = .ok (.ireturn, 1) := by decide +kernel
theorem d_M_in_0 : decode b_M_in 0 = .ok (.lload_n 0, 1) := by decide +kernel
theorem d_M_in_1 : decode b_M_in 1 = .ok (.lload_n 2, 1) := by decide +kernel
theorem d_M_in_2 : decode b_M_in 2 = .ok (.lcmp, 1) := by decide +kernel
theorem d_M_in_3 : decode b_M_in 3 = .ok (.ifCond .lt 14, 3) := by decide +kernel
theorem d_M_in_6 : decode b_M_in 6 = .ok (.lload_n 0, 1) := by decide +kernel
theorem d_M_in_7 : decode b_M_in 7 = .ok (.lload 4, 2) := by decide +kernel
theorem d_M_in_9 : decode b_M_in 9 = .ok (.lcmp, 1) := by decide +kernel
theorem d_M_in_10 : decode b_M_in 10 = .ok (.ifCond .gt 7, 3) := by decide +kernel
theorem d_M_in_13 : decode b_M_in 13 = .ok (.iconst 1, 1) := by decide +kernel
theorem d_M_in_14 : decode b_M_in 14 = .ok (.goto 4, 3) := by decide +kernel
theorem d_M_in_17 : decode b_M_in 17 = .ok (.iconst 0, 1) := by decide +kernel
theorem d_M_in_18 : decode b_M_in 18 = .ok (.ireturn, 1) := by decide +kernel
theorem d_M_refuse_0 : decode b_M_refuse 0 = .ok (.aload_n 0, 1) := by decide +kernel
theorem d_M_refuse_1 : decode b_M_refuse 1 = .ok (.iload_n 1, 1) := by decide +kernel
theorem d_M_refuse_2 : decode b_M_refuse 2 = .ok (.ifCond .eq 7, 3) := by decide +kernel
theorem d_M_refuse_5 : decode b_M_refuse 5 = .ok (.iconst 1, 1) := by decide +kernel
theorem d_M_refuse_6 : decode b_M_refuse 6 = .ok (.goto 4, 3) := by decide +kernel
theorem d_M_refuse_9 : decode b_M_refuse 9 = .ok (.iconst 0, 1) := by decide +kernel
theorem d_M_refuse_10 : decode b_M_refuse 10 = .ok (.putfield 44, 3) := by decide +kernel
theorem d_M_refuse_13 : decode b_M_refuse 13 = .ok (.iload_n 1, 1) := by decide +kernel
theorem d_M_refuse_14 : decode b_M_refuse 14 = .ok (.ireturn, 1) := by decide +kernel
theorem d_M_frame_0 : decode b_M_frame 0 = .ok (.aload_n 0, 1) := by decide +kernel
theorem d_M_frame_1 : decode b_M_frame 1 = .ok (.iload_n 1, 1) := by decide +kernel
theorem d_M_frame_2 : decode b_M_frame 2 = .ok (.i2l, 1) := by decide +kernel
theorem d_M_frame_3 : decode b_M_frame 3 = .ok (.lconst 1, 1) := by decide +kernel
theorem d_M_frame_4 : decode b_M_frame 4 = .ok (.ldc2_w 75, 3) := by decide +kernel
theorem d_M_frame_7 : decode b_M_frame 7 = .ok (.invokestatic 51, 3) := by decide +kernel
theorem d_M_frame_10 : decode b_M_frame 10 = .ok (.ifCond .eq 15, 3) := by decide +kernel
theorem d_M_frame_13 : decode b_M_frame 13 = .ok (.iload_n 2, 1) := by decide +kernel
theorem d_M_frame_14 : decode b_M_frame 14 = .ok (.i2l, 1) := by decide +kernel
theorem d_M_frame_15 : decode b_M_frame 15 = .ok (.lconst 1, 1) := by decide +kernel
theorem d_M_frame_16 : decode b_M_frame 16 = .ok (.ldc2_w 75, 3) := by decide +kernel
theorem d_M_frame_19 : decode b_M_frame 19 = .ok (.invokestatic 51, 3) := by decide +kernel
theorem d_M_frame_22 : decode b_M_frame 22 = .ok (.ifCond .ne 7, 3) := by decide +kernel
theorem d_M_frame_25 : decode b_M_frame 25 = .ok (.iconst 1, 1) := by decide +kernel
theorem d_M_frame_26 : decode b_M_frame 26 = .ok (.goto 4, 3) := by decide +kernel
theorem d_M_frame_29 : decode b_M_frame 29 = .ok (.iconst 0, 1) := by decide +kernel
theorem d_M_frame_30 : decode b_M_frame 30 = .ok (.invokevirtual 120, 3) := by decide +kernel
theorem d_M_frame_33 : decode b_M_frame 33 = .ok (.ifCond .eq 4, 3) := by decide +kernel
theorem d_M_frame_36 : decode b_M_frame 36 = .ok (.return_, 1) := by decide +kernel
theorem d_M_frame_37 : decode b_M_frame 37 = .ok (.aload_n 0, 1) := by decide +kernel
theorem d_M_frame_38 : decode b_M_frame 38 = .ok (.iload_n 1, 1) := by decide +kernel
theorem d_M_frame_39 : decode b_M_frame 39 = .ok (.putfield 13, 3) := by decide +kernel
theorem d_M_frame_42 : decode b_M_frame 42 = .ok (.aload_n 0, 1) := by decide +kernel
theorem d_M_frame_43 : decode b_M_frame 43 = .ok (.iload_n 2, 1) := by decide +kernel
theorem d_M_frame_44 : decode b_M_frame 44 = .ok (.putfield 17, 3) := by decide +kernel
theorem d_M_frame_47 : decode b_M_frame 47 = .ok (.return_, 1) := by decide +kernel
theorem d_M_put_0 : decode b_M_put 0 = .ok (.aload_n 0, 1) := by decide +kernel
theorem d_M_put_1 : decode b_M_put 1 = .ok (.aload_n 0, 1) := by decide +kernel
theorem d_M_put_2 : decode b_M_put 2 = .ok (.getfield 124, 3) := by decide +kernel
theorem d_M_put_5 : decode b_M_put 5 = .ok (.sipush 4096, 3) := by decide +kernel
theorem d_M_put_8 : decode b_M_put 8 = .ok (.if_icmp .ne 7, 3) := by decide +kernel
theorem d_M_put_11 : decode b_M_put 11 = .ok (.iconst 1, 1) := by decide +kernel
theorem d_M_put_12 : decode b_M_put 12 = .ok (.goto 4, 3) := by decide +kernel
theorem d_M_put_15 : decode b_M_put 15 = .ok (.iconst 0, 1) := by decide +kernel
theorem d_M_put_16 : decode b_M_put 16 = .ok (.invokevirtual 120, 3) := by decide +kernel
theorem d_M_put_19 : decode b_M_put 19 = .ok (.ifCond .eq 5, 3) := by decide +kernel
theorem d_M_put_22 : decode b_M_put 22 = .ok (.iconst 0, 1) := by decide +kernel
theorem d_M_put_23 : decode b_M_put 23 = .ok (.ireturn, 1) := by decide +kernel
theorem d_M_put_24 : decode b_M_put 24 = .ok (.aload_n 0, 1) := by decide +kernel
theorem d_M_put_25 : decode b_M_put 25 = .ok (.getfield 20, 3) := by decide +kernel
theorem d_M_put_28 : decode b_M_put 28 = .ok (.aload_n 0, 1) := by decide +kernel
theorem d_M_put_29 : decode b_M_put 29 = .ok (.getfield 124, 3) := by decide +kernel
theorem d_M_put_32 : decode b_M_put 32 = .ok (.iload_n 1, 1) := by decide +kernel
theorem d_M_put_33 : decode b_M_put 33 = .ok (.iastore, 1) := by decide +kernel
theorem d_M_put_34 : decode b_M_put 34 = .ok (.aload_n 0, 1) := by decide +kernel
theorem d_M_put_35 : decode b_M_put 35 = .ok (.dup, 1) := by decide +kernel
theorem d_M_put_36 : decode b_M_put 36 = .ok (.getfield 124, 3) := by decide +kernel
theorem d_M_put_39 : decode b_M_put 39 = .ok (.iconst 1, 1) := by decide +kernel
theorem d_M_put_40 : decode b_M_put 40 = .ok (.iadd, 1) := by decide +kernel
theorem d_M_put_41 : decode b_M_put 41 = .ok (.putfield 124, 3) := by decide +kernel
theorem d_M_put_44 : decode b_M_put 44 = .ok (.aload_n 0, 1) := by decide +kernel
theorem d_M_put_45 : decode b_M_put 45 = .ok (.getfield 124, 3) := by decide +kernel
theorem d_M_put_48 : decode b_M_put 48 = .ok (.ireturn, 1) := by decide +kernel
theorem d_M_clear_0 : decode b_M_clear 0 = .ok (.aload_n 0, 1) := by decide +kernel
theorem d_M_clear_1 : decode b_M_clear 1 = .ok (.iconst 0, 1) := by decide +kernel
theorem d_M_clear_2 : decode b_M_clear 2 = .ok (.putfield 44, 3) := by decide +kernel
theorem d_M_clear_5 : decode b_M_clear 5 = .ok (.aload_n 0, 1) := by decide +kernel
theorem d_M_clear_6 : decode b_M_clear 6 = .ok (.iconst 0, 1) := by decide +kernel
theorem d_M_clear_7 : decode b_M_clear 7 = .ok (.putfield 124, 3) := by decide +kernel
theorem d_M_clear_10 : decode b_M_clear 10 = .ok (.aload_n 0, 1) := by decide +kernel
theorem d_M_clear_11 : decode b_M_clear 11 = .ok (.invokevirtual 146, 3) := by decide +kernel
theorem d_M_clear_14 : decode b_M_clear 14 = .ok (.return_, 1) := by decide +kernel
theorem d_M_anew_0 : decode b_M_anew 0 = .ok (.aload_n 0, 1) := by decide +kernel
theorem d_M_anew_1 : decode b_M_anew 1 = .ok (.iconst 0, 1) := by decide +kernel
theorem d_M_anew_2 : decode b_M_anew 2 = .ok (.putfield 127, 3) := by decide +kernel
theorem d_M_anew_5 : decode b_M_anew 5 = .ok (.aload_n 0, 1) := by decide +kernel
theorem d_M_anew_6 : decode b_M_anew 6 = .ok (.iconst 0, 1) := by decide +kernel
theorem d_M_anew_7 : decode b_M_anew 7 = .ok (.putfield 130, 3) := by decide +kernel
theorem d_M_anew_10 : decode b_M_anew 10 = .ok (.aload_n 0, 1) := by decide +kernel
theorem d_M_anew_11 : decode b_M_anew 11 = .ok (.iconst 0, 1) := by decide +kernel
theorem d_M_anew_12 : decode b_M_anew 12 = .ok (.putfield 133, 3) := by decide +kernel
theorem d_M_anew_15 : decode b_M_anew 15 = .ok (.aload_n 0, 1) := by decide +kernel
theorem d_M_anew_16 : decode b_M_anew 16 = .ok (.iconst 0, 1) := by decide +kernel
theorem d_M_anew_17 : decode b_M_anew 17 = .ok (.putfield 137, 3) := by decide +kernel
theorem d_M_anew_20 : decode b_M_anew 20 = .ok (.aload_n 0, 1) := by decide +kernel
theorem d_M_anew_21 : decode b_M_anew 21 = .ok (.iconst (-1), 1) := by decide +kernel
theorem d_M_anew_22 : decode b_M_anew 22 = .ok (.putfield 26, 3) := by decide +kernel
theorem d_M_anew_25 : decode b_M_anew 25 = .ok (.aload_n 0, 1) := by decide +kernel
theorem d_M_anew_26 : decode b_M_anew 26 = .ok (.iconst (-1), 1) := by decide +kernel
theorem d_M_anew_27 : decode b_M_anew 27 = .ok (.putfield 29, 3) := by decide +kernel
theorem d_M_anew_30 : decode b_M_anew 30 = .ok (.aload_n 0, 1) := by decide +kernel
theorem d_M_anew_31 : decode b_M_anew 31 = .ok (.iconst 0, 1) := by decide +kernel
theorem d_M_anew_32 : decode b_M_anew 32 = .ok (.putfield 140, 3) := by decide +kernel
theorem d_M_anew_35 : decode b_M_anew 35 = .ok (.aload_n 0, 1) := by decide +kernel
theorem d_M_anew_36 : decode b_M_anew 36 = .ok (.iconst (-1), 1) := by decide +kernel
theorem d_M_anew_37 : decode b_M_anew 37 = .ok (.putfield 32, 3) := by decide +kernel
theorem d_M_anew_40 : decode b_M_anew 40 = .ok (.aload_n 0, 1) := by decide +kernel
theorem d_M_anew_41 : decode b_M_anew 41 = .ok (.iconst 0, 1) := by decide +kernel
theorem d_M_anew_42 : decode b_M_anew 42 = .ok (.putfield 143, 3) := by decide +kernel
theorem d_M_anew_45 : decode b_M_anew 45 = .ok (.return_, 1) := by decide +kernel
theorem d_M_begin_0 : decode b_M_begin 0 = .ok (.aload_n 0, 1) := by decide +kernel
theorem d_M_begin_1 : decode b_M_begin 1 = .ok (.iconst 0, 1) := by decide +kernel
theorem d_M_begin_2 : decode b_M_begin 2 = .ok (.putfield 44, 3) := by decide +kernel
theorem d_M_begin_5 : decode b_M_begin 5 = .ok (.aload_n 0, 1) := by decide +kernel
theorem d_M_begin_6 : decode b_M_begin 6 = .ok (.invokevirtual 146, 3) := by decide +kernel
theorem d_M_begin_9 : decode b_M_begin 9 = .ok (.iload_n 1, 1) := by decide +kernel
theorem d_M_begin_10 : decode b_M_begin 10 = .ok (.ifCond .ne 7, 3) := by decide +kernel
theorem d_M_begin_13 : decode b_M_begin 13 = .ok (.aload_n 0, 1) := by decide +kernel
theorem d_M_begin_14 : decode b_M_begin 14 = .ok (.invokevirtual 41, 3) := by decide +kernel
theorem d_M_begin_17 : decode b_M_begin 17 = .ok (.return_, 1) := by decide +kernel
theorem d_M_next_0 : decode b_M_next 0 = .ok (.aload_n 0, 1) := by decide +kernel
theorem d_M_next_1 : decode b_M_next 1 = .ok (.aload_n 0, 1) := by decide +kernel
theorem d_M_next_2 : decode b_M_next 2 = .ok (.getfield 133, 3) := by decide +kernel
theorem d_M_next_5 : decode b_M_next 5 = .ok (.invokevirtual 120, 3) := by decide +kernel
theorem d_M_next_8 : decode b_M_next 8 = .ok (.ifCond .eq 5, 3) := by decide +kernel
theorem d_M_next_11 : decode b_M_next 11 = .ok (.iconst 0, 1) := by decide +kernel
theorem d_M_next_12 : decode b_M_next 12 = .ok (.ireturn, 1) := by decide +kernel
theorem d_M_next_13 : decode b_M_next 13 = .ok (.aload_n 0, 1) := by decide +kernel
theorem d_M_next_14 : decode b_M_next 14 = .ok (.aload_n 0, 1) := by decide +kernel
theorem d_M_next_15 : decode b_M_next 15 = .ok (.getfield 127, 3) := by decide +kernel
theorem d_M_next_18 : decode b_M_next 18 = .ok (.putfield 26, 3) := by decide +kernel
theorem d_M_next_21 : decode b_M_next 21 = .ok (.aload_n 0, 1) := by decide +kernel
theorem d_M_next_22 : decode b_M_next 22 = .ok (.aload_n 0, 1) := by decide +kernel
theorem d_M_next_23 : decode b_M_next 23 = .ok (.getfield 130, 3) := by decide +kernel
theorem d_M_next_26 : decode b_M_next 26 = .ok (.putfield 29, 3) := by decide +kernel
theorem d_M_next_29 : decode b_M_next 29 = .ok (.aload_n 0, 1) := by decide +kernel
theorem d_M_next_30 : decode b_M_next 30 = .ok (.invokevirtual 175, 3) := by decide +kernel
theorem d_M_next_33 : decode b_M_next 33 = .ok (.istore_n 1, 1) := by decide +kernel
theorem d_M_next_34 : decode b_M_next 34 = .ok (.iload_n 1, 1) := by decide +kernel
theorem d_M_next_35 : decode b_M_next 35 = .ok (.ifCond .le 20, 3) := by decide +kernel
theorem d_M_next_38 : decode b_M_next 38 = .ok (.aload_n 0, 1) := by decide +kernel
theorem d_M_next_39 : decode b_M_next 39 = .ok (.iload_n 1, 1) := by decide +kernel
theorem d_M_next_40 : decode b_M_next 40 = .ok (.putfield 137, 3) := by decide +kernel
theorem d_M_next_43 : decode b_M_next 43 = .ok (.aload_n 0, 1) := by decide +kernel
theorem d_M_next_44 : decode b_M_next 44 = .ok (.iconst 1, 1) := by decide +kernel
theorem d_M_next_45 : decode b_M_next 45 = .ok (.putfield 133, 3) := by decide +kernel
theorem d_M_next_48 : decode b_M_next 48 = .ok (.aload_n 0, 1) := by decide +kernel
theorem d_M_next_49 : decode b_M_next 49 = .ok (.iconst 0, 1) := by decide +kernel
theorem d_M_next_50 : decode b_M_next 50 = .ok (.putfield 143, 3) := by decide +kernel
theorem d_M_next_53 : decode b_M_next 53 = .ok (.iconst (-1), 1) := by decide +kernel
theorem d_M_next_54 : decode b_M_next 54 = .ok (.ireturn, 1) := by decide +kernel
theorem d_M_next_55 : decode b_M_next 55 = .ok (.aload_n 0, 1) := by decide +kernel
theorem d_M_next_56 : decode b_M_next 56 = .ok (.dup, 1) := by decide +kernel
theorem d_M_next_57 : decode b_M_next 57 = .ok (.getfield 140, 3) := by decide +kernel
theorem d_M_next_60 : decode b_M_next 60 = .ok (.iconst 1, 1) := by decide +kernel
theorem d_M_next_61 : decode b_M_next 61 = .ok (.iadd, 1) := by decide +kernel
theorem d_M_next_62 : decode b_M_next 62 = .ok (.putfield 140, 3) := by decide +kernel
theorem d_M_next_65 : decode b_M_next 65 = .ok (.aload_n 0, 1) := by decide +kernel
theorem d_M_next_66 : decode b_M_next 66 = .ok (.getfield 130, 3) := by decide +kernel
theorem d_M_next_69 : decode b_M_next 69 = .ok (.ifCond .ne 18, 3) := by decide +kernel
theorem d_M_next_72 : decode b_M_next 72 = .ok (.aload_n 0, 1) := by decide +kernel
theorem d_M_next_73 : decode b_M_next 73 = .ok (.getfield 127, 3) := by decide +kernel
theorem d_M_next_76 : decode b_M_next 76 = .ok (.aload_n 0, 1) := by decide +kernel
theorem d_M_next_77 : decode b_M_next 77 = .ok (.getfield 124, 3) := by decide +kernel
theorem d_M_next_80 : decode b_M_next 80 = .ok (.if_icmp .ne 7, 3) := by decide +kernel
theorem d_M_next_83 : decode b_M_next 83 = .ok (.iconst 1, 1) := by decide +kernel
theorem d_M_next_84 : decode b_M_next 84 = .ok (.goto 4, 3) := by decide +kernel
theorem d_M_next_87 : decode b_M_next 87 = .ok (.iconst 0, 1) := by decide +kernel
theorem d_M_next_88 : decode b_M_next 88 = .ok (.istore_n 2, 1) := by decide +kernel
theorem d_M_next_89 : decode b_M_next 89 = .ok (.iload_n 2, 1) := by decide +kernel
theorem d_M_next_90 : decode b_M_next 90 = .ok (.ifCond .eq 7, 3) := by decide +kernel
theorem d_M_next_93 : decode b_M_next 93 = .ok (.iconst 0, 1) := by decide +kernel
theorem d_M_next_94 : decode b_M_next 94 = .ok (.goto 11, 3) := by decide +kernel
theorem d_M_next_97 : decode b_M_next 97 = .ok (.aload_n 0, 1) := by decide +kernel
theorem d_M_next_98 : decode b_M_next 98 = .ok (.aload_n 0, 1) := by decide +kernel
theorem d_M_next_99 : decode b_M_next 99 = .ok (.getfield 127, 3) := by decide +kernel
theorem d_M_next_102 : decode b_M_next 102 = .ok (.invokevirtual 153, 3) := by decide +kernel
theorem d_M_next_105 : decode b_M_next 105 = .ok (.istore_n 3, 1) := by decide +kernel
theorem d_M_next_106 : decode b_M_next 106 = .ok (.aload_n 0, 1) := by decide +kernel
theorem d_M_next_107 : decode b_M_next 107 = .ok (.iload_n 2, 1) := by decide +kernel
theorem d_M_next_108 : decode b_M_next 108 = .ok (.ifCond .eq 10, 3) := by decide +kernel
theorem d_M_next_111 : decode b_M_next 111 = .ok (.aload_n 0, 1) := by decide +kernel
theorem d_M_next_112 : decode b_M_next 112 = .ok (.getfield 127, 3) := by decide +kernel
theorem d_M_next_115 : decode b_M_next 115 = .ok (.goto 14, 3) := by decide +kernel
theorem d_M_next_118 : decode b_M_next 118 = .ok (.aload_n 0, 1) := by decide +kernel
theorem d_M_next_119 : decode b_M_next 119 = .ok (.getfield 127, 3) := by decide +kernel
theorem d_M_next_122 : decode b_M_next 122 = .ok (.iconst 1, 1) := by decide +kernel
theorem d_M_next_123 : decode b_M_next 123 = .ok (.iadd, 1) := by decide +kernel
theorem d_M_next_124 : decode b_M_next 124 = .ok (.aload_n 0, 1) := by decide +kernel
theorem d_M_next_125 : decode b_M_next 125 = .ok (.getfield 143, 3) := by decide +kernel
theorem d_M_next_128 : decode b_M_next 128 = .ok (.iadd, 1) := by decide +kernel
theorem d_M_next_129 : decode b_M_next 129 = .ok (.putfield 127, 3) := by decide +kernel
theorem d_M_next_132 : decode b_M_next 132 = .ok (.aload_n 0, 1) := by decide +kernel
theorem d_M_next_133 : decode b_M_next 133 = .ok (.iload_n 3, 1) := by decide +kernel
theorem d_M_next_134 : decode b_M_next 134 = .ok (.invokevirtual 179, 3) := by decide +kernel
theorem d_M_next_137 : decode b_M_next 137 = .ok (.iload_n 3, 1) := by decide +kernel
theorem d_M_next_138 : decode b_M_next 138 = .ok (.ireturn, 1) := by decide +kernel
theorem d_M_look_0 : decode b_M_look 0 = .ok (.aload_n 0, 1) := by decide +kernel
theorem d_M_look_1 : decode b_M_look 1 = .ok (.getfield 130, 3) := by decide +kernel
theorem d_M_look_4 : decode b_M_look 4 = .ok (.ifCond .ne 18, 3) := by decide +kernel
theorem d_M_look_7 : decode b_M_look 7 = .ok (.aload_n 0, 1) := by decide +kernel
theorem d_M_look_8 : decode b_M_look 8 = .ok (.getfield 127, 3) := by decide +kernel
theorem d_M_look_11 : decode b_M_look 11 = .ok (.aload_n 0, 1) := by decide +kernel
theorem d_M_look_12 : decode b_M_look 12 = .ok (.getfield 124, 3) := by decide +kernel
theorem d_M_look_15 : decode b_M_look 15 = .ok (.if_icmp .ne 7, 3) := by decide +kernel
theorem d_M_look_18 : decode b_M_look 18 = .ok (.iconst 1, 1) := by decide +kernel
theorem d_M_look_19 : decode b_M_look 19 = .ok (.goto 4, 3) := by decide +kernel
theorem d_M_look_22 : decode b_M_look 22 = .ok (.iconst 0, 1) := by decide +kernel
theorem d_M_look_23 : decode b_M_look 23 = .ok (.istore_n 1, 1) := by decide +kernel
theorem d_M_look_24 : decode b_M_look 24 = .ok (.aload_n 0, 1) := by decide +kernel
theorem d_M_look_25 : decode b_M_look 25 = .ok (.getfield 140, 3) := by decide +kernel
theorem d_M_look_28 : decode b_M_look 28 = .ok (.sipush 2000, 3) := by decide +kernel
theorem d_M_look_31 : decode b_M_look 31 = .ok (.if_icmp .ne 6, 3) := by decide +kernel
theorem d_M_look_34 : decode b_M_look 34 = .ok (.bipush 7, 2) := by decide +kernel
theorem d_M_look_36 : decode b_M_look 36 = .ok (.ireturn, 1) := by decide +kernel
theorem d_M_look_37 : decode b_M_look 37 = .ok (.iload_n 1, 1) := by decide +kernel
theorem d_M_look_38 : decode b_M_look 38 = .ok (.ifCond .eq 10, 3) := by decide +kernel
theorem d_M_look_41 : decode b_M_look 41 = .ok (.aload_n 0, 1) := by decide +kernel
theorem d_M_look_42 : decode b_M_look 42 = .ok (.iconst 0, 1) := by decide +kernel
theorem d_M_look_43 : decode b_M_look 43 = .ok (.putfield 143, 3) := by decide +kernel
theorem d_M_look_46 : decode b_M_look 46 = .ok (.iconst 0, 1) := by decide +kernel
theorem d_M_look_47 : decode b_M_look 47 = .ok (.ireturn, 1) := by decide +kernel
theorem d_M_look_48 : decode b_M_look 48 = .ok (.aload_n 0, 1) := by decide +kernel
theorem d_M_look_49 : decode b_M_look 49 = .ok (.aload_n 0, 1) := by decide +kernel
theorem d_M_look_50 : decode b_M_look 50 = .ok (.getfield 127, 3) := by decide +kernel
theorem d_M_look_53 : decode b_M_look 53 = .ok (.invokevirtual 149, 3) := by decide +kernel
theorem d_M_look_56 : decode b_M_look 56 = .ok (.ifCond .ne 5, 3) := by decide +kernel
theorem d_M_look_59 : decode b_M_look 59 = .ok (.iconst 1, 1) := by decide +kernel
theorem d_M_look_60 : decode b_M_look 60 = .ok (.ireturn, 1) := by decide +kernel
theorem d_M_look_61 : decode b_M_look 61 = .ok (.aload_n 0, 1) := by decide +kernel
theorem d_M_look_62 : decode b_M_look 62 = .ok (.aload_n 0, 1) := by decide +kernel
theorem d_M_look_63 : decode b_M_look 63 = .ok (.getfield 127, 3) := by decide +kernel
theorem d_M_look_66 : decode b_M_look 66 = .ok (.invokevirtual 153, 3) := by decide +kernel
theorem d_M_look_69 : decode b_M_look 69 = .ok (.istore_n 2, 1) := by decide +kernel
theorem d_M_look_70 : decode b_M_look 70 = .ok (.iload_n 2, 1) := by decide +kernel
theorem d_M_look_71 : decode b_M_look 71 = .ok (.i2l, 1) := by decide +kernel
theorem d_M_look_72 : decode b_M_look 72 = .ok (.lconst 0, 1) := by decide +kernel
theorem d_M_look_73 : decode b_M_look 73 = .ok (.ldc2_w 160, 3) := by decide +kernel
theorem d_M_look_76 : decode b_M_look 76 = .ok (.invokestatic 51, 3) := by decide +kernel
theorem d_M_look_79 : decode b_M_look 79 = .ok (.ifCond .ne 5, 3) := by decide +kernel
theorem d_M_look_82 : decode b_M_look 82 = .ok (.iconst 2, 1) := by decide +kernel
theorem d_M_look_83 : decode b_M_look 83 = .ok (.ireturn, 1) := by decide +kernel
theorem d_M_look_84 : decode b_M_look 84 = .ok (.aload_n 0, 1) := by decide +kernel
theorem d_M_look_85 : decode b_M_look 85 = .ok (.iload_n 2, 1) := by decide +kernel
theorem d_M_look_86 : decode b_M_look 86 = .ok (.invokevirtual 162, 3) := by decide +kernel
theorem d_M_look_89 : decode b_M_look 89 = .ok (.istore_n 3, 1) := by decide +kernel
theorem d_M_look_90 : decode b_M_look 90 = .ok (.aload_n 0, 1) := by decide +kernel
theorem d_M_look_91 : decode b_M_look 91 = .ok (.aload_n 0, 1) := by decide +kernel
theorem d_M_look_92 : decode b_M_look 92 = .ok (.getfield 127, 3) := by decide +kernel
theorem d_M_look_95 : decode b_M_look 95 = .ok (.iload_n 3, 1) := by decide +kernel
theorem d_M_look_96 : decode b_M_look 96 = .ok (.iadd, 1) := by decide +kernel
theorem d_M_look_97 : decode b_M_look 97 = .ok (.invokevirtual 149, 3) := by decide +kernel
theorem d_M_look_100 : decode b_M_look 100 = .ok (.ifCond .ne 5, 3) := by decide +kernel
theorem d_M_look_103 : decode b_M_look 103 = .ok (.iconst 1, 1) := by decide +kernel
theorem d_M_look_104 : decode b_M_look 104 = .ok (.ireturn, 1) := by decide +kernel
theorem d_M_look_105 : decode b_M_look 105 = .ok (.iconst 1, 1) := by decide +kernel
theorem d_M_look_106 : decode b_M_look 106 = .ok (.istore 4, 2) := by decide +kernel
theorem d_M_look_108 : decode b_M_look 108 = .ok (.iconst 0, 1) := by decide +kernel
theorem d_M_look_109 : decode b_M_look 109 = .ok (.istore 5, 2) := by decide +kernel
theorem d_M_look_111 : decode b_M_look 111 = .ok (.iload 5, 2) := by decide +kernel
theorem d_M_look_113 : decode b_M_look 113 = .ok (.iload_n 3, 1) := by decide +kernel
theorem d_M_look_114 : decode b_M_look 114 = .ok (.if_icmp .ge 57, 3) := by decide +kernel
theorem d_M_look_117 : decode b_M_look 117 = .ok (.aload_n 0, 1) := by decide +kernel
theorem d_M_look_118 : decode b_M_look 118 = .ok (.getfield 35, 3) := by decide +kernel
theorem d_M_look_121 : decode b_M_look 121 = .ok (.iload 5, 2) := by decide +kernel
theorem d_M_look_123 : decode b_M_look 123 = .ok (.aload_n 0, 1) := by decide +kernel
theorem d_M_look_124 : decode b_M_look 124 = .ok (.aload_n 0, 1) := by decide +kernel
theorem d_M_look_125 : decode b_M_look 125 = .ok (.getfield 127, 3) := by decide +kernel
theorem d_M_look_128 : decode b_M_look 128 = .ok (.iconst 1, 1) := by decide +kernel
theorem d_M_look_129 : decode b_M_look 129 = .ok (.iadd, 1) := by decide +kernel
theorem d_M_look_130 : decode b_M_look 130 = .ok (.iload 5, 2) := by decide +kernel
theorem d_M_look_132 : decode b_M_look 132 = .ok (.iadd, 1) := by decide +kernel
theorem d_M_look_133 : decode b_M_look 133 = .ok (.invokevirtual 153, 3) := by decide +kernel
theorem d_M_look_136 : decode b_M_look 136 = .ok (.iastore, 1) := by decide +kernel
theorem d_M_look_137 : decode b_M_look 137 = .ok (.iload 4, 2) := by decide +kernel
theorem d_M_look_139 : decode b_M_look 139 = .ok (.ifCond .eq 23, 3) := by decide +kernel
theorem d_M_look_142 : decode b_M_look 142 = .ok (.iload_n 2, 1) := by decide +kernel
theorem d_M_look_143 : decode b_M_look 143 = .ok (.iload 5, 2) := by decide +kernel
theorem d_M_look_145 : decode b_M_look 145 = .ok (.aload_n 0, 1) := by decide +kernel
theorem d_M_look_146 : decode b_M_look 146 = .ok (.getfield 35, 3) := by decide +kernel
theorem d_M_look_149 : decode b_M_look 149 = .ok (.iload 5, 2) := by decide +kernel
theorem d_M_look_151 : decode b_M_look 151 = .ok (.iaload, 1) := by decide +kernel
theorem d_M_look_152 : decode b_M_look 152 = .ok (.invokestatic 165, 3) := by decide +kernel
theorem d_M_look_155 : decode b_M_look 155 = .ok (.ifCond .eq 7, 3) := by decide +kernel
theorem d_M_look_158 : decode b_M_look 158 = .ok (.iconst 1, 1) := by decide +kernel
theorem d_M_look_159 : decode b_M_look 159 = .ok (.goto 4, 3) := by decide +kernel
theorem d_M_look_162 : decode b_M_look 162 = .ok (.iconst 0, 1) := by decide +kernel
theorem d_M_look_163 : decode b_M_look 163 = .ok (.istore 4, 2) := by decide +kernel
theorem d_M_look_165 : decode b_M_look 165 = .ok (.iinc 5 1, 3) := by decide +kernel
theorem d_M_look_168 : decode b_M_look 168 = .ok (.goto (-57), 3) := by decide +kernel
theorem d_M_look_171 : decode b_M_look 171 = .ok (.aload_n 0, 1) := by decide +kernel
theorem d_M_look_172 : decode b_M_look 172 = .ok (.iload_n 3, 1) := by decide +kernel
theorem d_M_look_173 : decode b_M_look 173 = .ok (.putfield 143, 3) := by decide +kernel
theorem d_M_look_176 : decode b_M_look 176 = .ok (.iload 4, 2) := by decide +kernel
theorem d_M_look_178 : decode b_M_look 178 = .ok (.ifCond .ne 7, 3) := by decide +kernel
theorem d_M_look_181 : decode b_M_look 181 = .ok (.iconst 3, 1) := by decide +kernel
theorem d_M_look_182 : decode b_M_look 182 = .ok (.goto 29, 3) := by decide +kernel
theorem d_M_look_185 : decode b_M_look 185 = .ok (.aload_n 0, 1) := by decide +kernel
theorem d_M_look_186 : decode b_M_look 186 = .ok (.iload_n 2, 1) := by decide +kernel
theorem d_M_look_187 : decode b_M_look 187 = .ok (.invokevirtual 169, 3) := by decide +kernel
theorem d_M_look_190 : decode b_M_look 190 = .ok (.ifCond .ne 7, 3) := by decide +kernel
theorem d_M_look_193 : decode b_M_look 193 = .ok (.iconst 5, 1) := by decide +kernel
theorem d_M_look_194 : decode b_M_look 194 = .ok (.goto 17, 3) := by decide +kernel
theorem d_M_look_197 : decode b_M_look 197 = .ok (.aload_n 0, 1) := by decide +kernel
theorem d_M_look_198 : decode b_M_look 198 = .ok (.iload_n 2, 1) := by decide +kernel
theorem d_M_look_199 : decode b_M_look 199 = .ok (.invokevirtual 172, 3) := by decide +kernel
theorem d_M_look_202 : decode b_M_look 202 = .ok (.ifCond .ne 8, 3) := by decide +kernel
theorem d_M_look_205 : decode b_M_look 205 = .ok (.bipush 6, 2) := by decide +kernel
theorem d_M_look_207 : decode b_M_look 207 = .ok (.goto 4, 3) := by decide +kernel
theorem d_M_look_210 : decode b_M_look 210 = .ok (.iconst 0, 1) := by decide +kernel
theorem d_M_look_211 : decode b_M_look 211 = .ok (.ireturn, 1) := by decide +kernel
theorem d_M_isThere_0 : decode b_M_isThere 0 = .ok (.iload_n 1, 1) := by decide +kernel
theorem d_M_isThere_1 : decode b_M_isThere 1 = .ok (.aload_n 0, 1) := by decide +kernel
theorem d_M_isThere_2 : decode b_M_isThere 2 = .ok (.getfield 130, 3) := by decide +kernel
theorem d_M_isThere_5 : decode b_M_isThere 5 = .ok (.ifCond .ne 10, 3) := by decide +kernel
theorem d_M_isThere_8 : decode b_M_isThere 8 = .ok (.aload_n 0, 1) := by decide +kernel
theorem d_M_isThere_9 : decode b_M_isThere 9 = .ok (.getfield 124, 3) := by decide +kernel
theorem d_M_isThere_12 : decode b_M_isThere 12 = .ok (.goto 6, 3) := by decide +kernel
theorem d_M_isThere_15 : decode b_M_isThere 15 = .ok (.sipush 4096, 3) := by decide +kernel
theorem d_M_isThere_18 : decode b_M_isThere 18 = .ok (.if_icmp .ge 7, 3) := by decide +kernel
theorem d_M_isThere_21 : decode b_M_isThere 21 = .ok (.iconst 1, 1) := by decide +kernel
theorem d_M_isThere_22 : decode b_M_isThere 22 = .ok (.goto 4, 3) := by decide +kernel
theorem d_M_isThere_25 : decode b_M_isThere 25 = .ok (.iconst 0, 1) := by decide +kernel
theorem d_M_isThere_26 : decode b_M_isThere 26 = .ok (.ireturn, 1) := by decide +kernel
theorem d_M_read_0 : decode b_M_read 0 = .ok (.aload_n 0, 1) := by decide +kernel
theorem d_M_read_1 : decode b_M_read 1 = .ok (.getfield 130, 3) := by decide +kernel
theorem d_M_read_4 : decode b_M_read 4 = .ok (.ifCond .ne 12, 3) := by decide +kernel
theorem d_M_read_7 : decode b_M_read 7 = .ok (.aload_n 0, 1) := by decide +kernel
theorem d_M_read_8 : decode b_M_read 8 = .ok (.getfield 20, 3) := by decide +kernel
theorem d_M_read_11 : decode b_M_read 11 = .ok (.iload_n 1, 1) := by decide +kernel
theorem d_M_read_12 : decode b_M_read 12 = .ok (.iaload, 1) := by decide +kernel
theorem d_M_read_13 : decode b_M_read 13 = .ok (.goto 9, 3) := by decide +kernel
theorem d_M_read_16 : decode b_M_read 16 = .ok (.aload_n 0, 1) := by decide +kernel
theorem d_M_read_17 : decode b_M_read 17 = .ok (.getfield 7, 3) := by decide +kernel
theorem d_M_read_20 : decode b_M_read 20 = .ok (.iload_n 1, 1) := by decide +kernel
theorem d_M_read_21 : decode b_M_read 21 = .ok (.iaload, 1) := by decide +kernel
theorem d_M_read_22 : decode b_M_read 22 = .ok (.ireturn, 1) := by decide +kernel
theorem d_M_length_0 : decode b_M_length 0 = .ok (.iconst 0, 1) := by decide +kernel
theorem d_M_length_1 : decode b_M_length 1 = .ok (.istore_n 2, 1) := by decide +kernel
theorem d_M_length_2 : decode b_M_length 2 = .ok (.iload_n 1, 1) := by decide +kernel
theorem d_M_length_3 : decode b_M_length 3 = .ok (.bipush 21, 2) := by decide +kernel
theorem d_M_length_5 : decode b_M_length 5 = .ok (.if_icmp .ne 50, 3) := by decide +kernel
theorem d_M_length_8 : decode b_M_length 8 = .ok (.aload_n 0, 1) := by decide +kernel
theorem d_M_length_9 : decode b_M_length 9 = .ok (.aload_n 0, 1) := by decide +kernel
theorem d_M_length_10 : decode b_M_length 10 = .ok (.getfield 127, 3) := by decide +kernel
theorem d_M_length_13 : decode b_M_length 13 = .ok (.iconst 2, 1) := by decide +kernel
theorem d_M_length_14 : decode b_M_length 14 = .ok (.iadd, 1) := by decide +kernel
theorem d_M_length_15 : decode b_M_length 15 = .ok (.invokevirtual 149, 3) := by decide +kernel
theorem d_M_length_18 : decode b_M_length 18 = .ok (.ifCond .eq 37, 3) := by decide +kernel
theorem d_M_length_21 : decode b_M_length 21 = .ok (.aload_n 0, 1) := by decide +kernel
theorem d_M_length_22 : decode b_M_length 22 = .ok (.aload_n 0, 1) := by decide +kernel
theorem d_M_length_23 : decode b_M_length 23 = .ok (.getfield 127, 3) := by decide +kernel
theorem d_M_length_26 : decode b_M_length 26 = .ok (.iconst 2, 1) := by decide +kernel
theorem d_M_length_27 : decode b_M_length 27 = .ok (.iadd, 1) := by decide +kernel
theorem d_M_length_28 : decode b_M_length 28 = .ok (.invokevirtual 153, 3) := by decide +kernel
theorem d_M_length_31 : decode b_M_length 31 = .ok (.istore_n 2, 1) := by decide +kernel
theorem d_M_length_32 : decode b_M_length 32 = .ok (.iload_n 2, 1) := by decide +kernel
theorem d_M_length_33 : decode b_M_length 33 = .ok (.ifCond .ge 7, 3) := by decide +kernel
theorem d_M_length_36 : decode b_M_length 36 = .ok (.iconst 0, 1) := by decide +kernel
theorem d_M_length_37 : decode b_M_length 37 = .ok (.goto 17, 3) := by decide +kernel
theorem d_M_length_40 : decode b_M_length 40 = .ok (.iload_n 2, 1) := by decide +kernel
theorem d_M_length_41 : decode b_M_length 41 = .ok (.sipush 256, 3) := by decide +kernel
theorem d_M_length_44 : decode b_M_length 44 = .ok (.if_icmp .le 9, 3) := by decide +kernel
theorem d_M_length_47 : decode b_M_length 47 = .ok (.sipush 256, 3) := by decide +kernel
theorem d_M_length_50 : decode b_M_length 50 = .ok (.goto 4, 3) := by decide +kernel
theorem d_M_length_53 : decode b_M_length 53 = .ok (.iload_n 2, 1) := by decide +kernel
theorem d_M_length_54 : decode b_M_length 54 = .ok (.istore_n 2, 1) := by decide +kernel
theorem d_M_length_55 : decode b_M_length 55 = .ok (.iload_n 1, 1) := by decide +kernel
theorem d_M_length_56 : decode b_M_length 56 = .ok (.invokestatic 106, 3) := by decide +kernel
theorem d_M_length_59 : decode b_M_length 59 = .ok (.iload_n 2, 1) := by decide +kernel
theorem d_M_length_60 : decode b_M_length 60 = .ok (.iadd, 1) := by decide +kernel
theorem d_M_length_61 : decode b_M_length 61 = .ok (.ireturn, 1) := by decide +kernel
theorem d_M_may_0 : decode b_M_may 0 = .ok (.iload_n 0, 1) := by decide +kernel
theorem d_M_may_1 : decode b_M_may 1 = .ok (.tableswitch 574 1 24 #[111, 161, 167, 169, 222, 244, 275, 275, 301, 307, 333, 339, 167, 377, 389, 399, 417, 448, 497, 515, 521, 574, 554, 564], 111) := by decide +kernel
theorem d_M_may_112 : decode b_M_may 112 = .ok (.iload_n 1, 1) := by decide +kernel
theorem d_M_may_113 : decode b_M_may 113 = .ok (.ifCond .ne 15, 3) := by decide +kernel
theorem d_M_may_116 : decode b_M_may 116 = .ok (.iload_n 2, 1) := by decide +kernel
theorem d_M_may_117 : decode b_M_may 117 = .ok (.i2l, 1) := by decide +kernel
theorem d_M_may_118 : decode b_M_may 118 = .ok (.lconst 0, 1) := by decide +kernel
theorem d_M_may_119 : decode b_M_may 119 = .ok (.ldc2_w 61, 3) := by decide +kernel
theorem d_M_may_122 : decode b_M_may 122 = .ok (.invokestatic 51, 3) := by decide +kernel
theorem d_M_may_125 : decode b_M_may 125 = .ok (.goto 36, 3) := by decide +kernel
theorem d_M_may_128 : decode b_M_may 128 = .ok (.iload_n 1, 1) := by decide +kernel
theorem d_M_may_129 : decode b_M_may 129 = .ok (.iconst 1, 1) := by decide +kernel
theorem d_M_may_130 : decode b_M_may 130 = .ok (.if_icmp .eq 26, 3) := by decide +kernel
theorem d_M_may_133 : decode b_M_may 133 = .ok (.iload_n 2, 1) := by decide +kernel
theorem d_M_may_134 : decode b_M_may 134 = .ok (.i2l, 1) := by decide +kernel
theorem d_M_may_135 : decode b_M_may 135 = .ok (.lconst 0, 1) := by decide +kernel
theorem d_M_may_136 : decode b_M_may 136 = .ok (.iload_n 1, 1) := by decide +kernel
theorem d_M_may_137 : decode b_M_may 137 = .ok (.iconst 2, 1) := by decide +kernel
theorem d_M_may_138 : decode b_M_may 138 = .ok (.if_icmp .ne 9, 3) := by decide +kernel
theorem d_M_may_141 : decode b_M_may 141 = .ok (.ldc2_w 57, 3) := by decide +kernel
theorem d_M_may_144 : decode b_M_may 144 = .ok (.goto 6, 3) := by decide +kernel
theorem d_M_may_147 : decode b_M_may 147 = .ok (.ldc2_w 63, 3) := by decide +kernel
theorem d_M_may_150 : decode b_M_may 150 = .ok (.invokestatic 51, 3) := by decide +kernel
theorem d_M_may_153 : decode b_M_may 153 = .ok (.ifCond .eq 7, 3) := by decide +kernel
theorem d_M_may_156 : decode b_M_may 156 = .ok (.iconst 1, 1) := by decide +kernel
theorem d_M_may_157 : decode b_M_may 157 = .ok (.goto 4, 3) := by decide +kernel
theorem d_M_may_160 : decode b_M_may 160 = .ok (.iconst 0, 1) := by decide +kernel
theorem d_M_may_161 : decode b_M_may 161 = .ok (.ireturn, 1) := by decide +kernel
theorem d_M_may_162 : decode b_M_may 162 = .ok (.iload_n 1, 1) := by decide +kernel
theorem d_M_may_163 : decode b_M_may 163 = .ok (.iload_n 2, 1) := by decide +kernel
theorem d_M_may_164 : decode b_M_may 164 = .ok (.invokestatic 79, 3) := by decide +kernel
theorem d_M_may_167 : decode b_M_may 167 = .ok (.ireturn, 1) := by decide +kernel
theorem d_M_may_168 : decode b_M_may 168 = .ok (.iconst 1, 1) := by decide +kernel
theorem d_M_may_169 : decode b_M_may 169 = .ok (.ireturn, 1) := by decide +kernel
theorem d_M_may_170 : decode b_M_may 170 = .ok (.iload_n 2, 1) := by decide +kernel
theorem d_M_may_171 : decode b_M_may 171 = .ok (.i2l, 1) := by decide +kernel
theorem d_M_may_172 : decode b_M_may 172 = .ok (.lconst 0, 1) := by decide +kernel
theorem d_M_may_173 : decode b_M_may 173 = .ok (.iload_n 1, 1) := by decide +kernel
theorem d_M_may_174 : decode b_M_may 174 = .ok (.ifCond .ne 9, 3) := by decide +kernel
theorem d_M_may_177 : decode b_M_may 177 = .ok (.ldc2_w 61, 3) := by decide +kernel
theorem d_M_may_180 : decode b_M_may 180 = .ok (.goto 39, 3) := by decide +kernel
theorem d_M_may_183 : decode b_M_may 183 = .ok (.iload_n 1, 1) := by decide +kernel
theorem d_M_may_184 : decode b_M_may 184 = .ok (.iconst 1, 1) := by decide +kernel
theorem d_M_may_185 : decode b_M_may 185 = .ok (.if_icmp .ne 9, 3) := by decide +kernel
theorem d_M_may_188 : decode b_M_may 188 = .ok (.ldc2_w 67, 3) := by decide +kernel
theorem d_M_may_191 : decode b_M_may 191 = .ok (.goto 28, 3) := by decide +kernel
theorem d_M_may_194 : decode b_M_may 194 = .ok (.iload_n 1, 1) := by decide +kernel
theorem d_M_may_195 : decode b_M_may 195 = .ok (.iconst 2, 1) := by decide +kernel
theorem d_M_may_196 : decode b_M_may 196 = .ok (.if_icmp .ne 9, 3) := by decide +kernel
theorem d_M_may_199 : decode b_M_may 199 = .ok (.ldc2_w 55, 3) := by decide +kernel
theorem d_M_may_202 : decode b_M_may 202 = .ok (.goto 17, 3) := by decide +kernel
theorem d_M_may_205 : decode b_M_may 205 = .ok (.iload_n 1, 1) := by decide +kernel
theorem d_M_may_206 : decode b_M_may 206 = .ok (.iconst 3, 1) := by decide +kernel
theorem d_M_may_207 : decode b_M_may 207 = .ok (.if_icmp .ne 9, 3) := by decide +kernel
theorem d_M_may_210 : decode b_M_may 210 = .ok (.ldc2_w 83, 3) := by decide +kernel
theorem d_M_may_213 : decode b_M_may 213 = .ok (.goto 6, 3) := by decide +kernel
theorem d_M_may_216 : decode b_M_may 216 = .ok (.ldc2_w 65, 3) := by decide +kernel
theorem d_M_may_219 : decode b_M_may 219 = .ok (.invokestatic 51, 3) := by decide +kernel
theorem d_M_may_222 : decode b_M_may 222 = .ok (.ireturn, 1) := by decide +kernel
theorem d_M_may_223 : decode b_M_may 223 = .ok (.iload_n 1, 1) := by decide +kernel
theorem d_M_may_224 : decode b_M_may 224 = .ok (.ifCond .gt 15, 3) := by decide +kernel
theorem d_M_may_227 : decode b_M_may 227 = .ok (.iload_n 2, 1) := by decide +kernel
theorem d_M_may_228 : decode b_M_may 228 = .ok (.i2l, 1) := by decide +kernel
theorem d_M_may_229 : decode b_M_may 229 = .ok (.lconst 0, 1) := by decide +kernel
theorem d_M_may_230 : decode b_M_may 230 = .ok (.ldc2_w 85, 3) := by decide +kernel
theorem d_M_may_233 : decode b_M_may 233 = .ok (.invokestatic 51, 3) := by decide +kernel
theorem d_M_may_236 : decode b_M_may 236 = .ok (.ifCond .eq 7, 3) := by decide +kernel
theorem d_M_may_239 : decode b_M_may 239 = .ok (.iconst 1, 1) := by decide +kernel
theorem d_M_may_240 : decode b_M_may 240 = .ok (.goto 4, 3) := by decide +kernel
theorem d_M_may_243 : decode b_M_may 243 = .ok (.iconst 0, 1) := by decide +kernel
theorem d_M_may_244 : decode b_M_may 244 = .ok (.ireturn, 1) := by decide +kernel
theorem d_M_may_245 : decode b_M_may 245 = .ok (.iload_n 2, 1) := by decide +kernel
theorem d_M_may_246 : decode b_M_may 246 = .ok (.i2l, 1) := by decide +kernel
theorem d_M_may_247 : decode b_M_may 247 = .ok (.lconst 0, 1) := by decide +kernel
theorem d_M_may_248 : decode b_M_may 248 = .ok (.iload_n 1, 1) := by decide +kernel
theorem d_M_may_249 : decode b_M_may 249 = .ok (.ifCond .ne 9, 3) := by decide +kernel
theorem d_M_may_252 : decode b_M_may 252 = .ok (.ldc2_w 85, 3) := by decide +kernel
theorem d_M_may_255 : decode b_M_may 255 = .ok (.goto 17, 3) := by decide +kernel
theorem d_M_may_258 : decode b_M_may 258 = .ok (.iload_n 1, 1) := by decide +kernel
theorem d_M_may_259 : decode b_M_may 259 = .ok (.iconst 1, 1) := by decide +kernel
theorem d_M_may_260 : decode b_M_may 260 = .ok (.if_icmp .ne 9, 3) := by decide +kernel
theorem d_M_may_263 : decode b_M_may 263 = .ok (.ldc2_w 87, 3) := by decide +kernel
theorem d_M_may_266 : decode b_M_may 266 = .ok (.goto 6, 3) := by decide +kernel
theorem d_M_may_269 : decode b_M_may 269 = .ok (.ldc2_w 67, 3) := by decide +kernel
theorem d_M_may_272 : decode b_M_may 272 = .ok (.invokestatic 51, 3) := by decide +kernel
theorem d_M_may_275 : decode b_M_may 275 = .ok (.ireturn, 1) := by decide +kernel
theorem d_M_may_276 : decode b_M_may 276 = .ok (.iload_n 1, 1) := by decide +kernel
theorem d_M_may_277 : decode b_M_may 277 = .ok (.ifCond .ne 15, 3) := by decide +kernel
theorem d_M_may_280 : decode b_M_may 280 = .ok (.iload_n 2, 1) := by decide +kernel
theorem d_M_may_281 : decode b_M_may 281 = .ok (.i2l, 1) := by decide +kernel
theorem d_M_may_282 : decode b_M_may 282 = .ok (.lconst 0, 1) := by decide +kernel
theorem d_M_may_283 : decode b_M_may 283 = .ok (.ldc2_w 67, 3) := by decide +kernel
theorem d_M_may_286 : decode b_M_may 286 = .ok (.invokestatic 51, 3) := by decide +kernel
theorem d_M_may_289 : decode b_M_may 289 = .ok (.goto 12, 3) := by decide +kernel
theorem d_M_may_292 : decode b_M_may 292 = .ok (.iload_n 2, 1) := by decide +kernel
theorem d_M_may_293 : decode b_M_may 293 = .ok (.i2l, 1) := by decide +kernel
theorem d_M_may_294 : decode b_M_may 294 = .ok (.lconst 1, 1) := by decide +kernel
theorem d_M_may_295 : decode b_M_may 295 = .ok (.ldc2_w 89, 3) := by decide +kernel
end
section
theorem d_M_may_298 : decode b_M_may 298 = .ok (.invokestatic 51, 3) := by decide +kernel
theorem d_M_may_301 : decode b_M_may 301 = .ok (.ireturn, 1) := by decide +kernel
theorem d_M_may_302 : decode b_M_may 302 = .ok (.iload_n 1, 1) := by decide +kernel
theorem d_M_may_303 : decode b_M_may 303 = .ok (.iload_n 2, 1) := by decide +kernel
theorem d_M_may_304 : decode b_M_may 304 = .ok (.invokestatic 91, 3) := by decide +kernel
theorem d_M_may_307 : decode b_M_may 307 = .ok (.ireturn, 1) := by decide +kernel
theorem d_M_may_308 : decode b_M_may 308 = .ok (.iload_n 1, 1) := by decide +kernel
theorem d_M_may_309 : decode b_M_may 309 = .ok (.ifCond .ne 17, 3) := by decide +kernel
theorem d_M_may_312 : decode b_M_may 312 = .ok (.iload_n 2, 1) := by decide +kernel
theorem d_M_may_313 : decode b_M_may 313 = .ok (.i2l, 1) := by decide +kernel
theorem d_M_may_314 : decode b_M_may 314 = .ok (.ldc2_w 59, 3) := by decide +kernel
theorem d_M_may_317 : decode b_M_may 317 = .ok (.ldc2_w 61, 3) := by decide +kernel
theorem d_M_may_320 : decode b_M_may 320 = .ok (.invokestatic 51, 3) := by decide +kernel
theorem d_M_may_323 : decode b_M_may 323 = .ok (.goto 10, 3) := by decide +kernel
theorem d_M_may_326 : decode b_M_may 326 = .ok (.iload_n 2, 1) := by decide +kernel
theorem d_M_may_327 : decode b_M_may 327 = .ok (.i2l, 1) := by decide +kernel
theorem d_M_may_328 : decode b_M_may 328 = .ok (.lconst 0, 1) := by decide +kernel
theorem d_M_may_329 : decode b_M_may 329 = .ok (.lconst 1, 1) := by decide +kernel
theorem d_M_may_330 : decode b_M_may 330 = .ok (.invokestatic 51, 3) := by decide +kernel
theorem d_M_may_333 : decode b_M_may 333 = .ok (.ireturn, 1) := by decide +kernel
theorem d_M_may_334 : decode b_M_may 334 = .ok (.iload_n 1, 1) := by decide +kernel
theorem d_M_may_335 : decode b_M_may 335 = .ok (.iload_n 2, 1) := by decide +kernel
theorem d_M_may_336 : decode b_M_may 336 = .ok (.invokestatic 94, 3) := by decide +kernel
theorem d_M_may_339 : decode b_M_may 339 = .ok (.ireturn, 1) := by decide +kernel
theorem d_M_may_340 : decode b_M_may 340 = .ok (.iload_n 1, 1) := by decide +kernel
theorem d_M_may_341 : decode b_M_may 341 = .ok (.iconst 4, 1) := by decide +kernel
theorem d_M_may_342 : decode b_M_may 342 = .ok (.if_icmp .ge 15, 3) := by decide +kernel
theorem d_M_may_345 : decode b_M_may 345 = .ok (.iload_n 2, 1) := by decide +kernel
theorem d_M_may_346 : decode b_M_may 346 = .ok (.i2l, 1) := by decide +kernel
theorem d_M_may_347 : decode b_M_may 347 = .ok (.lconst 0, 1) := by decide +kernel
theorem d_M_may_348 : decode b_M_may 348 = .ok (.ldc2_w 97, 3) := by decide +kernel
theorem d_M_may_351 : decode b_M_may 351 = .ok (.invokestatic 51, 3) := by decide +kernel
theorem d_M_may_354 : decode b_M_may 354 = .ok (.goto 23, 3) := by decide +kernel
theorem d_M_may_357 : decode b_M_may 357 = .ok (.iload_n 2, 1) := by decide +kernel
theorem d_M_may_358 : decode b_M_may 358 = .ok (.i2l, 1) := by decide +kernel
theorem d_M_may_359 : decode b_M_may 359 = .ok (.iload_n 1, 1) := by decide +kernel
theorem d_M_may_360 : decode b_M_may 360 = .ok (.iconst 4, 1) := by decide +kernel
theorem d_M_may_361 : decode b_M_may 361 = .ok (.if_icmp .ne 9, 3) := by decide +kernel
theorem d_M_may_364 : decode b_M_may 364 = .ok (.ldc2_w 59, 3) := by decide +kernel
theorem d_M_may_367 : decode b_M_may 367 = .ok (.goto 4, 3) := by decide +kernel
theorem d_M_may_370 : decode b_M_may 370 = .ok (.lconst 0, 1) := by decide +kernel
theorem d_M_may_371 : decode b_M_may 371 = .ok (.ldc2_w 83, 3) := by decide +kernel
theorem d_M_may_374 : decode b_M_may 374 = .ok (.invokestatic 51, 3) := by decide +kernel
theorem d_M_may_377 : decode b_M_may 377 = .ok (.ireturn, 1) := by decide +kernel
theorem d_M_may_378 : decode b_M_may 378 = .ok (.iload_n 2, 1) := by decide +kernel
theorem d_M_may_379 : decode b_M_may 379 = .ok (.i2l, 1) := by decide +kernel
theorem d_M_may_380 : decode b_M_may 380 = .ok (.ldc2_w 59, 3) := by decide +kernel
theorem d_M_may_383 : decode b_M_may 383 = .ok (.ldc2_w 99, 3) := by decide +kernel
theorem d_M_may_386 : decode b_M_may 386 = .ok (.invokestatic 51, 3) := by decide +kernel
theorem d_M_may_389 : decode b_M_may 389 = .ok (.ireturn, 1) := by decide +kernel
theorem d_M_may_390 : decode b_M_may 390 = .ok (.iload_n 2, 1) := by decide +kernel
theorem d_M_may_391 : decode b_M_may 391 = .ok (.i2l, 1) := by decide +kernel
theorem d_M_may_392 : decode b_M_may 392 = .ok (.lconst 0, 1) := by decide +kernel
theorem d_M_may_393 : decode b_M_may 393 = .ok (.ldc2_w 99, 3) := by decide +kernel
theorem d_M_may_396 : decode b_M_may 396 = .ok (.invokestatic 51, 3) := by decide +kernel
theorem d_M_may_399 : decode b_M_may 399 = .ok (.ireturn, 1) := by decide +kernel
theorem d_M_may_400 : decode b_M_may 400 = .ok (.iload_n 2, 1) := by decide +kernel
theorem d_M_may_401 : decode b_M_may 401 = .ok (.i2l, 1) := by decide +kernel
theorem d_M_may_402 : decode b_M_may 402 = .ok (.lconst 0, 1) := by decide +kernel
theorem d_M_may_403 : decode b_M_may 403 = .ok (.iload_n 1, 1) := by decide +kernel
theorem d_M_may_404 : decode b_M_may 404 = .ok (.ifCond .ne 9, 3) := by decide +kernel
theorem d_M_may_407 : decode b_M_may 407 = .ok (.ldc2_w 65, 3) := by decide +kernel
theorem d_M_may_410 : decode b_M_may 410 = .ok (.goto 4, 3) := by decide +kernel
theorem d_M_may_413 : decode b_M_may 413 = .ok (.lconst 1, 1) := by decide +kernel
theorem d_M_may_414 : decode b_M_may 414 = .ok (.invokestatic 51, 3) := by decide +kernel
theorem d_M_may_417 : decode b_M_may 417 = .ok (.ireturn, 1) := by decide +kernel
theorem d_M_may_418 : decode b_M_may 418 = .ok (.iload_n 2, 1) := by decide +kernel
theorem d_M_may_419 : decode b_M_may 419 = .ok (.i2l, 1) := by decide +kernel
theorem d_M_may_420 : decode b_M_may 420 = .ok (.lconst 0, 1) := by decide +kernel
theorem d_M_may_421 : decode b_M_may 421 = .ok (.iload_n 1, 1) := by decide +kernel
theorem d_M_may_422 : decode b_M_may 422 = .ok (.ifCond .ne 9, 3) := by decide +kernel
theorem d_M_may_425 : decode b_M_may 425 = .ok (.ldc2_w 77, 3) := by decide +kernel
theorem d_M_may_428 : decode b_M_may 428 = .ok (.goto 17, 3) := by decide +kernel
theorem d_M_may_431 : decode b_M_may 431 = .ok (.iload_n 1, 1) := by decide +kernel
theorem d_M_may_432 : decode b_M_may 432 = .ok (.iconst 1, 1) := by decide +kernel
theorem d_M_may_433 : decode b_M_may 433 = .ok (.if_icmp .ne 9, 3) := by decide +kernel
theorem d_M_may_436 : decode b_M_may 436 = .ok (.ldc2_w 67, 3) := by decide +kernel
theorem d_M_may_439 : decode b_M_may 439 = .ok (.goto 6, 3) := by decide +kernel
theorem d_M_may_442 : decode b_M_may 442 = .ok (.ldc2_w 101, 3) := by decide +kernel
theorem d_M_may_445 : decode b_M_may 445 = .ok (.invokestatic 51, 3) := by decide +kernel
theorem d_M_may_448 : decode b_M_may 448 = .ok (.ireturn, 1) := by decide +kernel
theorem d_M_may_449 : decode b_M_may 449 = .ok (.iload_n 1, 1) := by decide +kernel
theorem d_M_may_450 : decode b_M_may 450 = .ok (.iconst 4, 1) := by decide +kernel
theorem d_M_may_451 : decode b_M_may 451 = .ok (.if_icmp .eq 41, 3) := by decide +kernel
theorem d_M_may_454 : decode b_M_may 454 = .ok (.iload_n 2, 1) := by decide +kernel
theorem d_M_may_455 : decode b_M_may 455 = .ok (.i2l, 1) := by decide +kernel
theorem d_M_may_456 : decode b_M_may 456 = .ok (.lconst 0, 1) := by decide +kernel
theorem d_M_may_457 : decode b_M_may 457 = .ok (.iload_n 1, 1) := by decide +kernel
theorem d_M_may_458 : decode b_M_may 458 = .ok (.ifCond .eq 8, 3) := by decide +kernel
theorem d_M_may_461 : decode b_M_may 461 = .ok (.iload_n 1, 1) := by decide +kernel
theorem d_M_may_462 : decode b_M_may 462 = .ok (.iconst 3, 1) := by decide +kernel
theorem d_M_may_463 : decode b_M_may 463 = .ok (.if_icmp .ne 9, 3) := by decide +kernel
theorem d_M_may_466 : decode b_M_may 466 = .ok (.ldc2_w 77, 3) := by decide +kernel
theorem d_M_may_469 : decode b_M_may 469 = .ok (.goto 17, 3) := by decide +kernel
theorem d_M_may_472 : decode b_M_may 472 = .ok (.iload_n 1, 1) := by decide +kernel
theorem d_M_may_473 : decode b_M_may 473 = .ok (.iconst 1, 1) := by decide +kernel
theorem d_M_may_474 : decode b_M_may 474 = .ok (.if_icmp .ne 9, 3) := by decide +kernel
theorem d_M_may_477 : decode b_M_may 477 = .ok (.ldc2_w 67, 3) := by decide +kernel
theorem d_M_may_480 : decode b_M_may 480 = .ok (.goto 6, 3) := by decide +kernel
theorem d_M_may_483 : decode b_M_may 483 = .ok (.ldc2_w 101, 3) := by decide +kernel
theorem d_M_may_486 : decode b_M_may 486 = .ok (.invokestatic 51, 3) := by decide +kernel
theorem d_M_may_489 : decode b_M_may 489 = .ok (.ifCond .eq 7, 3) := by decide +kernel
theorem d_M_may_492 : decode b_M_may 492 = .ok (.iconst 1, 1) := by decide +kernel
theorem d_M_may_493 : decode b_M_may 493 = .ok (.goto 4, 3) := by decide +kernel
theorem d_M_may_496 : decode b_M_may 496 = .ok (.iconst 0, 1) := by decide +kernel
theorem d_M_may_497 : decode b_M_may 497 = .ok (.ireturn, 1) := by decide +kernel
theorem d_M_may_498 : decode b_M_may 498 = .ok (.iload_n 2, 1) := by decide +kernel
theorem d_M_may_499 : decode b_M_may 499 = .ok (.i2l, 1) := by decide +kernel
theorem d_M_may_500 : decode b_M_may 500 = .ok (.lconst 0, 1) := by decide +kernel
theorem d_M_may_501 : decode b_M_may 501 = .ok (.iload_n 1, 1) := by decide +kernel
theorem d_M_may_502 : decode b_M_may 502 = .ok (.ifCond .ne 9, 3) := by decide +kernel
theorem d_M_may_505 : decode b_M_may 505 = .ok (.ldc2_w 61, 3) := by decide +kernel
theorem d_M_may_508 : decode b_M_may 508 = .ok (.goto 4, 3) := by decide +kernel
theorem d_M_may_511 : decode b_M_may 511 = .ok (.lconst 1, 1) := by decide +kernel
theorem d_M_may_512 : decode b_M_may 512 = .ok (.invokestatic 51, 3) := by decide +kernel
theorem d_M_may_515 : decode b_M_may 515 = .ok (.ireturn, 1) := by decide +kernel
theorem d_M_may_516 : decode b_M_may 516 = .ok (.iload_n 1, 1) := by decide +kernel
theorem d_M_may_517 : decode b_M_may 517 = .ok (.iload_n 2, 1) := by decide +kernel
theorem d_M_may_518 : decode b_M_may 518 = .ok (.invokestatic 103, 3) := by decide +kernel
theorem d_M_may_521 : decode b_M_may 521 = .ok (.ireturn, 1) := by decide +kernel
theorem d_M_may_522 : decode b_M_may 522 = .ok (.iload_n 1, 1) := by decide +kernel
theorem d_M_may_523 : decode b_M_may 523 = .ok (.iconst 1, 1) := by decide +kernel
theorem d_M_may_524 : decode b_M_may 524 = .ok (.if_icmp .gt 25, 3) := by decide +kernel
theorem d_M_may_527 : decode b_M_may 527 = .ok (.iload_n 2, 1) := by decide +kernel
theorem d_M_may_528 : decode b_M_may 528 = .ok (.i2l, 1) := by decide +kernel
theorem d_M_may_529 : decode b_M_may 529 = .ok (.lconst 0, 1) := by decide +kernel
theorem d_M_may_530 : decode b_M_may 530 = .ok (.iload_n 1, 1) := by decide +kernel
theorem d_M_may_531 : decode b_M_may 531 = .ok (.ifCond .ne 9, 3) := by decide +kernel
theorem d_M_may_534 : decode b_M_may 534 = .ok (.ldc2_w 67, 3) := by decide +kernel
theorem d_M_may_537 : decode b_M_may 537 = .ok (.goto 6, 3) := by decide +kernel
theorem d_M_may_540 : decode b_M_may 540 = .ok (.ldc2_w 89, 3) := by decide +kernel
theorem d_M_may_543 : decode b_M_may 543 = .ok (.invokestatic 51, 3) := by decide +kernel
theorem d_M_may_546 : decode b_M_may 546 = .ok (.ifCond .eq 7, 3) := by decide +kernel
theorem d_M_may_549 : decode b_M_may 549 = .ok (.iconst 1, 1) := by decide +kernel
theorem d_M_may_550 : decode b_M_may 550 = .ok (.goto 4, 3) := by decide +kernel
theorem d_M_may_553 : decode b_M_may 553 = .ok (.iconst 0, 1) := by decide +kernel
theorem d_M_may_554 : decode b_M_may 554 = .ok (.ireturn, 1) := by decide +kernel
theorem d_M_may_555 : decode b_M_may 555 = .ok (.iload_n 2, 1) := by decide +kernel
theorem d_M_may_556 : decode b_M_may 556 = .ok (.i2l, 1) := by decide +kernel
theorem d_M_may_557 : decode b_M_may 557 = .ok (.lconst 0, 1) := by decide +kernel
theorem d_M_may_558 : decode b_M_may 558 = .ok (.ldc2_w 67, 3) := by decide +kernel
theorem d_M_may_561 : decode b_M_may 561 = .ok (.invokestatic 51, 3) := by decide +kernel
theorem d_M_may_564 : decode b_M_may 564 = .ok (.ireturn, 1) := by decide +kernel
theorem d_M_may_565 : decode b_M_may 565 = .ok (.iload_n 2, 1) := by decide +kernel
theorem d_M_may_566 : decode b_M_may 566 = .ok (.i2l, 1) := by decide +kernel
theorem d_M_may_567 : decode b_M_may 567 = .ok (.lconst 0, 1) := by decide +kernel
theorem d_M_may_568 : decode b_M_may 568 = .ok (.ldc2_w 65, 3) := by decide +kernel
theorem d_M_may_571 : decode b_M_may 571 = .ok (.invokestatic 51, 3) := by decide +kernel
theorem d_M_may_574 : decode b_M_may 574 = .ok (.ireturn, 1) := by decide +kernel
theorem d_M_may_575 : decode b_M_may 575 = .ok (.iload_n 1, 1) := by decide +kernel
theorem d_M_may_576 : decode b_M_may 576 = .ok (.ifCond .gt 15, 3) := by decide +kernel
theorem d_M_may_579 : decode b_M_may 579 = .ok (.iload_n 2, 1) := by decide +kernel
theorem d_M_may_580 : decode b_M_may 580 = .ok (.i2l, 1) := by decide +kernel
theorem d_M_may_581 : decode b_M_may 581 = .ok (.lconst 0, 1) := by decide +kernel
theorem d_M_may_582 : decode b_M_may 582 = .ok (.ldc2_w 65, 3) := by decide +kernel
theorem d_M_may_585 : decode b_M_may 585 = .ok (.invokestatic 51, 3) := by decide +kernel
theorem d_M_may_588 : decode b_M_may 588 = .ok (.ifCond .eq 7, 3) := by decide +kernel
theorem d_M_may_591 : decode b_M_may 591 = .ok (.iconst 1, 1) := by decide +kernel
theorem d_M_may_592 : decode b_M_may 592 = .ok (.goto 4, 3) := by decide +kernel
theorem d_M_may_595 : decode b_M_may 595 = .ok (.iconst 0, 1) := by decide +kernel
theorem d_M_may_596 : decode b_M_may 596 = .ok (.ireturn, 1) := by decide +kernel
theorem d_M_isViews_0 : decode b_M_isViews 0 = .ok (.iload_n 0, 1) := by decide +kernel
theorem d_M_isViews_1 : decode b_M_isViews 1 = .ok (.iconst 2, 1) := by decide +kernel
theorem d_M_isViews_2 : decode b_M_isViews 2 = .ok (.if_icmp .ge 17, 3) := by decide +kernel
theorem d_M_isViews_5 : decode b_M_isViews 5 = .ok (.iload_n 1, 1) := by decide +kernel
theorem d_M_isViews_6 : decode b_M_isViews 6 = .ok (.i2l, 1) := by decide +kernel
theorem d_M_isViews_7 : decode b_M_isViews 7 = .ok (.ldc2_w 47, 3) := by decide +kernel
theorem d_M_isViews_10 : decode b_M_isViews 10 = .ok (.ldc2_w 49, 3) := by decide +kernel
theorem d_M_isViews_13 : decode b_M_isViews 13 = .ok (.invokestatic 51, 3) := by decide +kernel
theorem d_M_isViews_16 : decode b_M_isViews 16 = .ok (.goto 29, 3) := by decide +kernel
theorem d_M_isViews_19 : decode b_M_isViews 19 = .ok (.iload_n 0, 1) := by decide +kernel
theorem d_M_isViews_20 : decode b_M_isViews 20 = .ok (.iconst 4, 1) := by decide +kernel
theorem d_M_isViews_21 : decode b_M_isViews 21 = .ok (.if_icmp .ge 15, 3) := by decide +kernel
theorem d_M_isViews_24 : decode b_M_isViews 24 = .ok (.iload_n 1, 1) := by decide +kernel
theorem d_M_isViews_25 : decode b_M_isViews 25 = .ok (.i2l, 1) := by decide +kernel
theorem d_M_isViews_26 : decode b_M_isViews 26 = .ok (.lconst 1, 1) := by decide +kernel
theorem d_M_isViews_27 : decode b_M_isViews 27 = .ok (.ldc2_w 55, 3) := by decide +kernel
theorem d_M_isViews_30 : decode b_M_isViews 30 = .ok (.invokestatic 51, 3) := by decide +kernel
theorem d_M_isViews_33 : decode b_M_isViews 33 = .ok (.goto 12, 3) := by decide +kernel
theorem d_M_isViews_36 : decode b_M_isViews 36 = .ok (.iload_n 1, 1) := by decide +kernel
theorem d_M_isViews_37 : decode b_M_isViews 37 = .ok (.i2l, 1) := by decide +kernel
theorem d_M_isViews_38 : decode b_M_isViews 38 = .ok (.lconst 0, 1) := by decide +kernel
theorem d_M_isViews_39 : decode b_M_isViews 39 = .ok (.ldc2_w 57, 3) := by decide +kernel
theorem d_M_isViews_42 : decode b_M_isViews 42 = .ok (.invokestatic 51, 3) := by decide +kernel
theorem d_M_isViews_45 : decode b_M_isViews 45 = .ok (.ireturn, 1) := by decide +kernel
theorem d_M_isTextures_0 : decode b_M_isTextures 0 = .ok (.iload_n 0, 1) := by decide +kernel
theorem d_M_isTextures_1 : decode b_M_isTextures 1 = .ok (.ifCond .ne 15, 3) := by decide +kernel
theorem d_M_isTextures_4 : decode b_M_isTextures 4 = .ok (.iload_n 1, 1) := by decide +kernel
theorem d_M_isTextures_5 : decode b_M_isTextures 5 = .ok (.i2l, 1) := by decide +kernel
theorem d_M_isTextures_6 : decode b_M_isTextures 6 = .ok (.lconst 0, 1) := by decide +kernel
theorem d_M_isTextures_7 : decode b_M_isTextures 7 = .ok (.ldc2_w 65, 3) := by decide +kernel
theorem d_M_isTextures_10 : decode b_M_isTextures 10 = .ok (.invokestatic 51, 3) := by decide +kernel
theorem d_M_isTextures_13 : decode b_M_isTextures 13 = .ok (.goto 63, 3) := by decide +kernel
theorem d_M_isTextures_16 : decode b_M_isTextures 16 = .ok (.iload_n 0, 1) := by decide +kernel
theorem d_M_isTextures_17 : decode b_M_isTextures 17 = .ok (.iconst 1, 1) := by decide +kernel
theorem d_M_isTextures_18 : decode b_M_isTextures 18 = .ok (.if_icmp .ne 15, 3) := by decide +kernel
theorem d_M_isTextures_21 : decode b_M_isTextures 21 = .ok (.iload_n 1, 1) := by decide +kernel
theorem d_M_isTextures_22 : decode b_M_isTextures 22 = .ok (.i2l, 1) := by decide +kernel
theorem d_M_isTextures_23 : decode b_M_isTextures 23 = .ok (.lconst 0, 1) := by decide +kernel
theorem d_M_isTextures_24 : decode b_M_isTextures 24 = .ok (.ldc2_w 67, 3) := by decide +kernel
theorem d_M_isTextures_27 : decode b_M_isTextures 27 = .ok (.invokestatic 51, 3) := by decide +kernel
theorem d_M_isTextures_30 : decode b_M_isTextures 30 = .ok (.goto 46, 3) := by decide +kernel
theorem d_M_isTextures_33 : decode b_M_isTextures 33 = .ok (.iload_n 0, 1) := by decide +kernel
theorem d_M_isTextures_34 : decode b_M_isTextures 34 = .ok (.iconst 4, 1) := by decide +kernel
theorem d_M_isTextures_35 : decode b_M_isTextures 35 = .ok (.if_icmp .ge 15, 3) := by decide +kernel
theorem d_M_isTextures_38 : decode b_M_isTextures 38 = .ok (.iload_n 1, 1) := by decide +kernel
theorem d_M_isTextures_39 : decode b_M_isTextures 39 = .ok (.i2l, 1) := by decide +kernel
theorem d_M_isTextures_40 : decode b_M_isTextures 40 = .ok (.lconst 0, 1) := by decide +kernel
theorem d_M_isTextures_41 : decode b_M_isTextures 41 = .ok (.ldc2_w 69, 3) := by decide +kernel
theorem d_M_isTextures_44 : decode b_M_isTextures 44 = .ok (.invokestatic 51, 3) := by decide +kernel
theorem d_M_isTextures_47 : decode b_M_isTextures 47 = .ok (.goto 29, 3) := by decide +kernel
theorem d_M_isTextures_50 : decode b_M_isTextures 50 = .ok (.iload_n 0, 1) := by decide +kernel
theorem d_M_isTextures_51 : decode b_M_isTextures 51 = .ok (.iconst 4, 1) := by decide +kernel
theorem d_M_isTextures_52 : decode b_M_isTextures 52 = .ok (.if_icmp .ne 15, 3) := by decide +kernel
theorem d_M_isTextures_55 : decode b_M_isTextures 55 = .ok (.iload_n 1, 1) := by decide +kernel
theorem d_M_isTextures_56 : decode b_M_isTextures 56 = .ok (.i2l, 1) := by decide +kernel
theorem d_M_isTextures_57 : decode b_M_isTextures 57 = .ok (.lconst 1, 1) := by decide +kernel
theorem d_M_isTextures_58 : decode b_M_isTextures 58 = .ok (.ldc2_w 71, 3) := by decide +kernel
theorem d_M_isTextures_61 : decode b_M_isTextures 61 = .ok (.invokestatic 51, 3) := by decide +kernel
theorem d_M_isTextures_64 : decode b_M_isTextures 64 = .ok (.goto 12, 3) := by decide +kernel
theorem d_M_isTextures_67 : decode b_M_isTextures 67 = .ok (.iload_n 1, 1) := by decide +kernel
theorem d_M_isTextures_68 : decode b_M_isTextures 68 = .ok (.i2l, 1) := by decide +kernel
theorem d_M_isTextures_69 : decode b_M_isTextures 69 = .ok (.lconst 0, 1) := by decide +kernel
theorem d_M_isTextures_70 : decode b_M_isTextures 70 = .ok (.ldc2_w 61, 3) := by decide +kernel
theorem d_M_isTextures_73 : decode b_M_isTextures 73 = .ok (.invokestatic 51, 3) := by decide +kernel
theorem d_M_isTextures_76 : decode b_M_isTextures 76 = .ok (.ireturn, 1) := by decide +kernel
theorem d_M_isStencils_0 : decode b_M_isStencils 0 = .ok (.iload_n 0, 1) := by decide +kernel
theorem d_M_isStencils_1 : decode b_M_isStencils 1 = .ok (.ifCond .ne 13, 3) := by decide +kernel
theorem d_M_isStencils_4 : decode b_M_isStencils 4 = .ok (.iload_n 1, 1) := by decide +kernel
theorem d_M_isStencils_5 : decode b_M_isStencils 5 = .ok (.i2l, 1) := by decide +kernel
theorem d_M_isStencils_6 : decode b_M_isStencils 6 = .ok (.lconst 0, 1) := by decide +kernel
theorem d_M_isStencils_7 : decode b_M_isStencils 7 = .ok (.lconst 1, 1) := by decide +kernel
theorem d_M_isStencils_8 : decode b_M_isStencils 8 = .ok (.invokestatic 51, 3) := by decide +kernel
theorem d_M_isStencils_11 : decode b_M_isStencils 11 = .ok (.goto 48, 3) := by decide +kernel
theorem d_M_isStencils_14 : decode b_M_isStencils 14 = .ok (.iload_n 0, 1) := by decide +kernel
theorem d_M_isStencils_15 : decode b_M_isStencils 15 = .ok (.iconst 1, 1) := by decide +kernel
theorem d_M_isStencils_16 : decode b_M_isStencils 16 = .ok (.if_icmp .ne 17, 3) := by decide +kernel
theorem d_M_isStencils_19 : decode b_M_isStencils 19 = .ok (.iload_n 1, 1) := by decide +kernel
theorem d_M_isStencils_20 : decode b_M_isStencils 20 = .ok (.i2l, 1) := by decide +kernel
theorem d_M_isStencils_21 : decode b_M_isStencils 21 = .ok (.ldc2_w 59, 3) := by decide +kernel
theorem d_M_isStencils_24 : decode b_M_isStencils 24 = .ok (.ldc2_w 61, 3) := by decide +kernel
theorem d_M_isStencils_27 : decode b_M_isStencils 27 = .ok (.invokestatic 51, 3) := by decide +kernel
theorem d_M_isStencils_30 : decode b_M_isStencils 30 = .ok (.goto 29, 3) := by decide +kernel
theorem d_M_isStencils_33 : decode b_M_isStencils 33 = .ok (.iload_n 0, 1) := by decide +kernel
theorem d_M_isStencils_34 : decode b_M_isStencils 34 = .ok (.iconst 5, 1) := by decide +kernel
theorem d_M_isStencils_35 : decode b_M_isStencils 35 = .ok (.if_icmp .ge 15, 3) := by decide +kernel
theorem d_M_isStencils_38 : decode b_M_isStencils 38 = .ok (.iload_n 1, 1) := by decide +kernel
theorem d_M_isStencils_39 : decode b_M_isStencils 39 = .ok (.i2l, 1) := by decide +kernel
theorem d_M_isStencils_40 : decode b_M_isStencils 40 = .ok (.lconst 0, 1) := by decide +kernel
theorem d_M_isStencils_41 : decode b_M_isStencils 41 = .ok (.ldc2_w 63, 3) := by decide +kernel
theorem d_M_isStencils_44 : decode b_M_isStencils 44 = .ok (.invokestatic 51, 3) := by decide +kernel
theorem d_M_isStencils_47 : decode b_M_isStencils 47 = .ok (.goto 12, 3) := by decide +kernel
theorem d_M_isStencils_50 : decode b_M_isStencils 50 = .ok (.iload_n 1, 1) := by decide +kernel
theorem d_M_isStencils_51 : decode b_M_isStencils 51 = .ok (.i2l, 1) := by decide +kernel
theorem d_M_isStencils_52 : decode b_M_isStencils 52 = .ok (.lconst 0, 1) := by decide +kernel
theorem d_M_isStencils_53 : decode b_M_isStencils 53 = .ok (.ldc2_w 61, 3) := by decide +kernel
theorem d_M_isStencils_56 : decode b_M_isStencils 56 = .ok (.invokestatic 51, 3) := by decide +kernel
theorem d_M_isStencils_59 : decode b_M_isStencils 59 = .ok (.ireturn, 1) := by decide +kernel
theorem d_M_isCopys_0 : decode b_M_isCopys 0 = .ok (.iload_n 0, 1) := by decide +kernel
theorem d_M_isCopys_1 : decode b_M_isCopys 1 = .ok (.iconst 2, 1) := by decide +kernel
theorem d_M_isCopys_2 : decode b_M_isCopys 2 = .ok (.if_icmp .ge 15, 3) := by decide +kernel
theorem d_M_isCopys_5 : decode b_M_isCopys 5 = .ok (.iload_n 1, 1) := by decide +kernel
theorem d_M_isCopys_6 : decode b_M_isCopys 6 = .ok (.i2l, 1) := by decide +kernel
theorem d_M_isCopys_7 : decode b_M_isCopys 7 = .ok (.lconst 0, 1) := by decide +kernel
theorem d_M_isCopys_8 : decode b_M_isCopys 8 = .ok (.ldc2_w 73, 3) := by decide +kernel
theorem d_M_isCopys_11 : decode b_M_isCopys 11 = .ok (.invokestatic 51, 3) := by decide +kernel
theorem d_M_isCopys_14 : decode b_M_isCopys 14 = .ok (.goto 46, 3) := by decide +kernel
theorem d_M_isCopys_17 : decode b_M_isCopys 17 = .ok (.iload_n 0, 1) := by decide +kernel
theorem d_M_isCopys_18 : decode b_M_isCopys 18 = .ok (.iconst 4, 1) := by decide +kernel
theorem d_M_isCopys_19 : decode b_M_isCopys 19 = .ok (.if_icmp .ge 15, 3) := by decide +kernel
theorem d_M_isCopys_22 : decode b_M_isCopys 22 = .ok (.iload_n 1, 1) := by decide +kernel
theorem d_M_isCopys_23 : decode b_M_isCopys 23 = .ok (.i2l, 1) := by decide +kernel
theorem d_M_isCopys_24 : decode b_M_isCopys 24 = .ok (.lconst 1, 1) := by decide +kernel
theorem d_M_isCopys_25 : decode b_M_isCopys 25 = .ok (.ldc2_w 75, 3) := by decide +kernel
theorem d_M_isCopys_28 : decode b_M_isCopys 28 = .ok (.invokestatic 51, 3) := by decide +kernel
theorem d_M_isCopys_31 : decode b_M_isCopys 31 = .ok (.goto 29, 3) := by decide +kernel
theorem d_M_isCopys_34 : decode b_M_isCopys 34 = .ok (.iload_n 0, 1) := by decide +kernel
theorem d_M_isCopys_35 : decode b_M_isCopys 35 = .ok (.iconst 4, 1) := by decide +kernel
theorem d_M_isCopys_36 : decode b_M_isCopys 36 = .ok (.if_icmp .ne 15, 3) := by decide +kernel
theorem d_M_isCopys_39 : decode b_M_isCopys 39 = .ok (.iload_n 1, 1) := by decide +kernel
theorem d_M_isCopys_40 : decode b_M_isCopys 40 = .ok (.i2l, 1) := by decide +kernel
theorem d_M_isCopys_41 : decode b_M_isCopys 41 = .ok (.lconst 0, 1) := by decide +kernel
theorem d_M_isCopys_42 : decode b_M_isCopys 42 = .ok (.ldc2_w 67, 3) := by decide +kernel
theorem d_M_isCopys_45 : decode b_M_isCopys 45 = .ok (.invokestatic 51, 3) := by decide +kernel
theorem d_M_isCopys_48 : decode b_M_isCopys 48 = .ok (.goto 12, 3) := by decide +kernel
theorem d_M_isCopys_51 : decode b_M_isCopys 51 = .ok (.iload_n 1, 1) := by decide +kernel
theorem d_M_isCopys_52 : decode b_M_isCopys 52 = .ok (.i2l, 1) := by decide +kernel
theorem d_M_isCopys_53 : decode b_M_isCopys 53 = .ok (.lconst 0, 1) := by decide +kernel
theorem d_M_isCopys_54 : decode b_M_isCopys 54 = .ok (.ldc2_w 77, 3) := by decide +kernel
theorem d_M_isCopys_57 : decode b_M_isCopys 57 = .ok (.invokestatic 51, 3) := by decide +kernel
theorem d_M_isCopys_60 : decode b_M_isCopys 60 = .ok (.ireturn, 1) := by decide +kernel
theorem d_M_liesRight_0 : decode b_M_liesRight 0 = .ok (.aload_n 0, 1) := by decide +kernel
theorem d_M_liesRight_1 : decode b_M_liesRight 1 = .ok (.getfield 35, 3) := by decide +kernel
theorem d_M_liesRight_4 : decode b_M_liesRight 4 = .ok (.iconst 0, 1) := by decide +kernel
theorem d_M_liesRight_5 : decode b_M_liesRight 5 = .ok (.iaload, 1) := by decide +kernel
theorem d_M_liesRight_6 : decode b_M_liesRight 6 = .ok (.istore_n 2, 1) := by decide +kernel
theorem d_M_liesRight_7 : decode b_M_liesRight 7 = .ok (.aload_n 0, 1) := by decide +kernel
theorem d_M_liesRight_8 : decode b_M_liesRight 8 = .ok (.getfield 35, 3) := by decide +kernel
theorem d_M_liesRight_11 : decode b_M_liesRight 11 = .ok (.iconst 1, 1) := by decide +kernel
theorem d_M_liesRight_12 : decode b_M_liesRight 12 = .ok (.iaload, 1) := by decide +kernel
theorem d_M_liesRight_13 : decode b_M_liesRight 13 = .ok (.istore_n 3, 1) := by decide +kernel
theorem d_M_liesRight_14 : decode b_M_liesRight 14 = .ok (.iload_n 1, 1) := by decide +kernel
theorem d_M_liesRight_15 : decode b_M_liesRight 15 = .ok (.tableswitch 219 6 23 #[85, 119, 119, 219, 219, 219, 219, 219, 219, 219, 219, 219, 219, 219, 132, 197, 219, 206], 85) := by decide +kernel
theorem d_M_liesRight_100 : decode b_M_liesRight 100 = .ok (.iload_n 2, 1) := by decide +kernel
theorem d_M_liesRight_101 : decode b_M_liesRight 101 = .ok (.iload_n 3, 1) := by decide +kernel
theorem d_M_liesRight_102 : decode b_M_liesRight 102 = .ok (.iadd, 1) := by decide +kernel
theorem d_M_liesRight_103 : decode b_M_liesRight 103 = .ok (.bipush 32, 2) := by decide +kernel
theorem d_M_liesRight_105 : decode b_M_liesRight 105 = .ok (.if_icmp .gt 27, 3) := by decide +kernel
theorem d_M_liesRight_108 : decode b_M_liesRight 108 = .ok (.aload_n 0, 1) := by decide +kernel
theorem d_M_liesRight_109 : decode b_M_liesRight 109 = .ok (.aload_n 0, 1) := by decide +kernel
theorem d_M_liesRight_110 : decode b_M_liesRight 110 = .ok (.getfield 35, 3) := by decide +kernel
theorem d_M_liesRight_113 : decode b_M_liesRight 113 = .ok (.iconst 2, 1) := by decide +kernel
theorem d_M_liesRight_114 : decode b_M_liesRight 114 = .ok (.iaload, 1) := by decide +kernel
theorem d_M_liesRight_115 : decode b_M_liesRight 115 = .ok (.i2l, 1) := by decide +kernel
theorem d_M_liesRight_116 : decode b_M_liesRight 116 = .ok (.ldc2_w 83, 3) := by decide +kernel
theorem d_M_liesRight_119 : decode b_M_liesRight 119 = .ok (.iload_n 3, 1) := by decide +kernel
theorem d_M_liesRight_120 : decode b_M_liesRight 120 = .ok (.i2l, 1) := by decide +kernel
theorem d_M_liesRight_121 : decode b_M_liesRight 121 = .ok (.lmul, 1) := by decide +kernel
theorem d_M_liesRight_122 : decode b_M_liesRight 122 = .ok (.invokevirtual 156, 3) := by decide +kernel
theorem d_M_liesRight_125 : decode b_M_liesRight 125 = .ok (.ifCond .eq 7, 3) := by decide +kernel
theorem d_M_liesRight_128 : decode b_M_liesRight 128 = .ok (.iconst 1, 1) := by decide +kernel
theorem d_M_liesRight_129 : decode b_M_liesRight 129 = .ok (.goto 4, 3) := by decide +kernel
theorem d_M_liesRight_132 : decode b_M_liesRight 132 = .ok (.iconst 0, 1) := by decide +kernel
theorem d_M_liesRight_133 : decode b_M_liesRight 133 = .ok (.ireturn, 1) := by decide +kernel
theorem d_M_liesRight_134 : decode b_M_liesRight 134 = .ok (.aload_n 0, 1) := by decide +kernel
theorem d_M_liesRight_135 : decode b_M_liesRight 135 = .ok (.iload_n 2, 1) := by decide +kernel
theorem d_M_liesRight_136 : decode b_M_liesRight 136 = .ok (.i2l, 1) := by decide +kernel
theorem d_M_liesRight_137 : decode b_M_liesRight 137 = .ok (.ldc2_w 65, 3) := by decide +kernel
theorem d_M_liesRight_140 : decode b_M_liesRight 140 = .ok (.iload_n 3, 1) := by decide +kernel
theorem d_M_liesRight_141 : decode b_M_liesRight 141 = .ok (.i2l, 1) := by decide +kernel
theorem d_M_liesRight_142 : decode b_M_liesRight 142 = .ok (.lmul, 1) := by decide +kernel
theorem d_M_liesRight_143 : decode b_M_liesRight 143 = .ok (.invokevirtual 156, 3) := by decide +kernel
theorem d_M_liesRight_146 : decode b_M_liesRight 146 = .ok (.ireturn, 1) := by decide +kernel
theorem d_M_liesRight_147 : decode b_M_liesRight 147 = .ok (.iload_n 2, 1) := by decide +kernel
theorem d_M_liesRight_148 : decode b_M_liesRight 148 = .ok (.aload_n 0, 1) := by decide +kernel
theorem d_M_liesRight_149 : decode b_M_liesRight 149 = .ok (.getfield 35, 3) := by decide +kernel
theorem d_M_liesRight_152 : decode b_M_liesRight 152 = .ok (.iconst 2, 1) := by decide +kernel
theorem d_M_liesRight_153 : decode b_M_liesRight 153 = .ok (.iaload, 1) := by decide +kernel
theorem d_M_liesRight_154 : decode b_M_liesRight 154 = .ok (.iadd, 1) := by decide +kernel
theorem d_M_liesRight_155 : decode b_M_liesRight 155 = .ok (.aload_n 0, 1) := by decide +kernel
theorem d_M_liesRight_156 : decode b_M_liesRight 156 = .ok (.getfield 13, 3) := by decide +kernel
theorem d_M_liesRight_159 : decode b_M_liesRight 159 = .ok (.if_icmp .gt 51, 3) := by decide +kernel
theorem d_M_liesRight_162 : decode b_M_liesRight 162 = .ok (.iload_n 3, 1) := by decide +kernel
theorem d_M_liesRight_163 : decode b_M_liesRight 163 = .ok (.aload_n 0, 1) := by decide +kernel
theorem d_M_liesRight_164 : decode b_M_liesRight 164 = .ok (.getfield 35, 3) := by decide +kernel
theorem d_M_liesRight_167 : decode b_M_liesRight 167 = .ok (.iconst 3, 1) := by decide +kernel
theorem d_M_liesRight_168 : decode b_M_liesRight 168 = .ok (.iaload, 1) := by decide +kernel
theorem d_M_liesRight_169 : decode b_M_liesRight 169 = .ok (.iadd, 1) := by decide +kernel
theorem d_M_liesRight_170 : decode b_M_liesRight 170 = .ok (.aload_n 0, 1) := by decide +kernel
theorem d_M_liesRight_171 : decode b_M_liesRight 171 = .ok (.getfield 17, 3) := by decide +kernel
theorem d_M_liesRight_174 : decode b_M_liesRight 174 = .ok (.if_icmp .gt 36, 3) := by decide +kernel
theorem d_M_liesRight_177 : decode b_M_liesRight 177 = .ok (.aload_n 0, 1) := by decide +kernel
theorem d_M_liesRight_178 : decode b_M_liesRight 178 = .ok (.aload_n 0, 1) := by decide +kernel
theorem d_M_liesRight_179 : decode b_M_liesRight 179 = .ok (.getfield 35, 3) := by decide +kernel
theorem d_M_liesRight_182 : decode b_M_liesRight 182 = .ok (.iconst 4, 1) := by decide +kernel
theorem d_M_liesRight_183 : decode b_M_liesRight 183 = .ok (.iaload, 1) := by decide +kernel
theorem d_M_liesRight_184 : decode b_M_liesRight 184 = .ok (.i2l, 1) := by decide +kernel
theorem d_M_liesRight_185 : decode b_M_liesRight 185 = .ok (.aload_n 0, 1) := by decide +kernel
theorem d_M_liesRight_186 : decode b_M_liesRight 186 = .ok (.getfield 35, 3) := by decide +kernel
theorem d_M_liesRight_189 : decode b_M_liesRight 189 = .ok (.iconst 2, 1) := by decide +kernel
theorem d_M_liesRight_190 : decode b_M_liesRight 190 = .ok (.iaload, 1) := by decide +kernel
theorem d_M_liesRight_191 : decode b_M_liesRight 191 = .ok (.i2l, 1) := by decide +kernel
theorem d_M_liesRight_192 : decode b_M_liesRight 192 = .ok (.aload_n 0, 1) := by decide +kernel
theorem d_M_liesRight_193 : decode b_M_liesRight 193 = .ok (.getfield 35, 3) := by decide +kernel
theorem d_M_liesRight_196 : decode b_M_liesRight 196 = .ok (.iconst 3, 1) := by decide +kernel
theorem d_M_liesRight_197 : decode b_M_liesRight 197 = .ok (.iaload, 1) := by decide +kernel
theorem d_M_liesRight_198 : decode b_M_liesRight 198 = .ok (.i2l, 1) := by decide +kernel
theorem d_M_liesRight_199 : decode b_M_liesRight 199 = .ok (.lmul, 1) := by decide +kernel
theorem d_M_liesRight_200 : decode b_M_liesRight 200 = .ok (.invokevirtual 156, 3) := by decide +kernel
theorem d_M_liesRight_203 : decode b_M_liesRight 203 = .ok (.ifCond .eq 7, 3) := by decide +kernel
theorem d_M_liesRight_206 : decode b_M_liesRight 206 = .ok (.iconst 1, 1) := by decide +kernel
theorem d_M_liesRight_207 : decode b_M_liesRight 207 = .ok (.goto 4, 3) := by decide +kernel
theorem d_M_liesRight_210 : decode b_M_liesRight 210 = .ok (.iconst 0, 1) := by decide +kernel
theorem d_M_liesRight_211 : decode b_M_liesRight 211 = .ok (.ireturn, 1) := by decide +kernel
theorem d_M_liesRight_212 : decode b_M_liesRight 212 = .ok (.aload_n 0, 1) := by decide +kernel
theorem d_M_liesRight_213 : decode b_M_liesRight 213 = .ok (.iload_n 2, 1) := by decide +kernel
theorem d_M_liesRight_214 : decode b_M_liesRight 214 = .ok (.i2l, 1) := by decide +kernel
theorem d_M_liesRight_215 : decode b_M_liesRight 215 = .ok (.iload_n 3, 1) := by decide +kernel
theorem d_M_liesRight_216 : decode b_M_liesRight 216 = .ok (.i2l, 1) := by decide +kernel
theorem d_M_liesRight_217 : decode b_M_liesRight 217 = .ok (.invokevirtual 156, 3) := by decide +kernel
theorem d_M_liesRight_220 : decode b_M_liesRight 220 = .ok (.ireturn, 1) := by decide +kernel
theorem d_M_liesRight_221 : decode b_M_liesRight 221 = .ok (.iload_n 2, 1) := by decide +kernel
theorem d_M_liesRight_222 : decode b_M_liesRight 222 = .ok (.sipush 4096, 3) := by decide +kernel
theorem d_M_liesRight_225 : decode b_M_liesRight 225 = .ok (.if_icmp .ge 7, 3) := by decide +kernel
theorem d_M_liesRight_228 : decode b_M_liesRight 228 = .ok (.iconst 1, 1) := by decide +kernel
theorem d_M_liesRight_229 : decode b_M_liesRight 229 = .ok (.goto 4, 3) := by decide +kernel
theorem d_M_liesRight_232 : decode b_M_liesRight 232 = .ok (.iconst 0, 1) := by decide +kernel
theorem d_M_liesRight_233 : decode b_M_liesRight 233 = .ok (.ireturn, 1) := by decide +kernel
theorem d_M_liesRight_234 : decode b_M_liesRight 234 = .ok (.iconst 1, 1) := by decide +kernel
theorem d_M_liesRight_235 : decode b_M_liesRight 235 = .ok (.ireturn, 1) := by decide +kernel
theorem d_M_isInMemory_0 : decode b_M_isInMemory 0 = .ok (.lload_n 3, 1) := by decide +kernel
theorem d_M_isInMemory_1 : decode b_M_isInMemory 1 = .ok (.lconst 0, 1) := by decide +kernel
theorem d_M_isInMemory_2 : decode b_M_isInMemory 2 = .ok (.lcmp, 1) := by decide +kernel
theorem d_M_isInMemory_3 : decode b_M_isInMemory 3 = .ok (.ifCond .eq 13, 3) := by decide +kernel
theorem d_M_isInMemory_6 : decode b_M_isInMemory 6 = .ok (.lload_n 1, 1) := by decide +kernel
theorem d_M_isInMemory_7 : decode b_M_isInMemory 7 = .ok (.lload_n 3, 1) := by decide +kernel
theorem d_M_isInMemory_8 : decode b_M_isInMemory 8 = .ok (.ladd, 1) := by decide +kernel
theorem d_M_isInMemory_9 : decode b_M_isInMemory 9 = .ok (.ldc2_w 101, 3) := by decide +kernel
theorem d_M_isInMemory_12 : decode b_M_isInMemory 12 = .ok (.lcmp, 1) := by decide +kernel
theorem d_M_isInMemory_13 : decode b_M_isInMemory 13 = .ok (.ifCond .gt 7, 3) := by decide +kernel
theorem d_M_isInMemory_16 : decode b_M_isInMemory 16 = .ok (.iconst 1, 1) := by decide +kernel
theorem d_M_isInMemory_17 : decode b_M_isInMemory 17 = .ok (.goto 4, 3) := by decide +kernel
theorem d_M_isInMemory_20 : decode b_M_isInMemory 20 = .ok (.iconst 0, 1) := by decide +kernel
theorem d_M_isInMemory_21 : decode b_M_isInMemory 21 = .ok (.ireturn, 1) := by decide +kernel
theorem d_M_fitsState_0 : decode b_M_fitsState 0 = .ok (.iload_n 1, 1) := by decide +kernel
theorem d_M_fitsState_1 : decode b_M_fitsState 1 = .ok (.tableswitch 136 17 23 #[43, 43, 77, 136, 136, 136, 122], 43) := by decide +kernel
theorem d_M_fitsState_44 : decode b_M_fitsState 44 = .ok (.aload_n 0, 1) := by decide +kernel
theorem d_M_fitsState_45 : decode b_M_fitsState 45 = .ok (.getfield 38, 3) := by decide +kernel
theorem d_M_fitsState_48 : decode b_M_fitsState 48 = .ok (.bipush 7, 2) := by decide +kernel
theorem d_M_fitsState_50 : decode b_M_fitsState 50 = .ok (.iconst 0, 1) := by decide +kernel
theorem d_M_fitsState_51 : decode b_M_fitsState 51 = .ok (.invokestatic 113, 3) := by decide +kernel
theorem d_M_fitsState_54 : decode b_M_fitsState 54 = .ok (.iaload, 1) := by decide +kernel
theorem d_M_fitsState_55 : decode b_M_fitsState 55 = .ok (.ifCond .lt 21, 3) := by decide +kernel
theorem d_M_fitsState_58 : decode b_M_fitsState 58 = .ok (.aload_n 0, 1) := by decide +kernel
theorem d_M_fitsState_59 : decode b_M_fitsState 59 = .ok (.getfield 38, 3) := by decide +kernel
theorem d_M_fitsState_62 : decode b_M_fitsState 62 = .ok (.bipush 8, 2) := by decide +kernel
theorem d_M_fitsState_64 : decode b_M_fitsState 64 = .ok (.iconst 0, 1) := by decide +kernel
theorem d_M_fitsState_65 : decode b_M_fitsState 65 = .ok (.invokestatic 113, 3) := by decide +kernel
theorem d_M_fitsState_68 : decode b_M_fitsState 68 = .ok (.iaload, 1) := by decide +kernel
theorem d_M_fitsState_69 : decode b_M_fitsState 69 = .ok (.ifCond .lt 7, 3) := by decide +kernel
theorem d_M_fitsState_72 : decode b_M_fitsState 72 = .ok (.iconst 1, 1) := by decide +kernel
theorem d_M_fitsState_73 : decode b_M_fitsState 73 = .ok (.goto 4, 3) := by decide +kernel
theorem d_M_fitsState_76 : decode b_M_fitsState 76 = .ok (.iconst 0, 1) := by decide +kernel
theorem d_M_fitsState_77 : decode b_M_fitsState 77 = .ok (.ireturn, 1) := by decide +kernel
theorem d_M_fitsState_78 : decode b_M_fitsState 78 = .ok (.aload_n 0, 1) := by decide +kernel
theorem d_M_fitsState_79 : decode b_M_fitsState 79 = .ok (.getfield 35, 3) := by decide +kernel
theorem d_M_fitsState_82 : decode b_M_fitsState 82 = .ok (.iconst 1, 1) := by decide +kernel
theorem d_M_fitsState_83 : decode b_M_fitsState 83 = .ok (.iaload, 1) := by decide +kernel
theorem d_M_fitsState_84 : decode b_M_fitsState 84 = .ok (.iconst 1, 1) := by decide +kernel
theorem d_M_fitsState_85 : decode b_M_fitsState 85 = .ok (.if_icmp .ne 19, 3) := by decide +kernel
theorem d_M_fitsState_88 : decode b_M_fitsState 88 = .ok (.aload_n 0, 1) := by decide +kernel
theorem d_M_fitsState_89 : decode b_M_fitsState 89 = .ok (.getfield 32, 3) := by decide +kernel
theorem d_M_fitsState_92 : decode b_M_fitsState 92 = .ok (.iconst (-1), 1) := by decide +kernel
theorem d_M_fitsState_93 : decode b_M_fitsState 93 = .ok (.if_icmp .ne 7, 3) := by decide +kernel
theorem d_M_fitsState_96 : decode b_M_fitsState 96 = .ok (.iconst 1, 1) := by decide +kernel
theorem d_M_fitsState_97 : decode b_M_fitsState 97 = .ok (.goto 25, 3) := by decide +kernel
theorem d_M_fitsState_100 : decode b_M_fitsState 100 = .ok (.iconst 0, 1) := by decide +kernel
theorem d_M_fitsState_101 : decode b_M_fitsState 101 = .ok (.goto 21, 3) := by decide +kernel
theorem d_M_fitsState_104 : decode b_M_fitsState 104 = .ok (.aload_n 0, 1) := by decide +kernel
theorem d_M_fitsState_105 : decode b_M_fitsState 105 = .ok (.getfield 32, 3) := by decide +kernel
theorem d_M_fitsState_108 : decode b_M_fitsState 108 = .ok (.aload_n 0, 1) := by decide +kernel
theorem d_M_fitsState_109 : decode b_M_fitsState 109 = .ok (.getfield 35, 3) := by decide +kernel
theorem d_M_fitsState_112 : decode b_M_fitsState 112 = .ok (.iconst 0, 1) := by decide +kernel
theorem d_M_fitsState_113 : decode b_M_fitsState 113 = .ok (.iaload, 1) := by decide +kernel
theorem d_M_fitsState_114 : decode b_M_fitsState 114 = .ok (.if_icmp .ne 7, 3) := by decide +kernel
theorem d_M_fitsState_117 : decode b_M_fitsState 117 = .ok (.iconst 1, 1) := by decide +kernel
theorem d_M_fitsState_118 : decode b_M_fitsState 118 = .ok (.goto 4, 3) := by decide +kernel
theorem d_M_fitsState_121 : decode b_M_fitsState 121 = .ok (.iconst 0, 1) := by decide +kernel
theorem d_M_fitsState_122 : decode b_M_fitsState 122 = .ok (.ireturn, 1) := by decide +kernel
theorem d_M_fitsState_123 : decode b_M_fitsState 123 = .ok (.aload_n 0, 1) := by decide +kernel
theorem d_M_fitsState_124 : decode b_M_fitsState 124 = .ok (.getfield 130, 3) := by decide +kernel
theorem d_M_fitsState_127 : decode b_M_fitsState 127 = .ok (.iconst 4, 1) := by decide +kernel
theorem d_M_fitsState_128 : decode b_M_fitsState 128 = .ok (.if_icmp .ge 7, 3) := by decide +kernel
theorem d_M_fitsState_131 : decode b_M_fitsState 131 = .ok (.iconst 1, 1) := by decide +kernel
theorem d_M_fitsState_132 : decode b_M_fitsState 132 = .ok (.goto 4, 3) := by decide +kernel
theorem d_M_fitsState_135 : decode b_M_fitsState 135 = .ok (.iconst 0, 1) := by decide +kernel
theorem d_M_fitsState_136 : decode b_M_fitsState 136 = .ok (.ireturn, 1) := by decide +kernel
theorem d_M_fitsState_137 : decode b_M_fitsState 137 = .ok (.iconst 1, 1) := by decide +kernel
theorem d_M_fitsState_138 : decode b_M_fitsState 138 = .ok (.ireturn, 1) := by decide +kernel
theorem d_M_perform_0 : decode b_M_perform 0 = .ok (.iload_n 1, 1) := by decide +kernel
theorem d_M_perform_1 : decode b_M_perform 1 = .ok (.lookupswitch 266 #[(0, 51), (6, 205), (19, 136), (21, 163), (23, 100)], 51) := by decide +kernel
theorem d_M_perform_52 : decode b_M_perform 52 = .ok (.aload_n 0, 1) := by decide +kernel
theorem d_M_perform_53 : decode b_M_perform 53 = .ok (.aload_n 0, 1) := by decide +kernel
theorem d_M_perform_54 : decode b_M_perform 54 = .ok (.getfield 130, 3) := by decide +kernel
theorem d_M_perform_57 : decode b_M_perform 57 = .ok (.ifCond .ne 7, 3) := by decide +kernel
theorem d_M_perform_60 : decode b_M_perform 60 = .ok (.iconst 1, 1) := by decide +kernel
theorem d_M_perform_61 : decode b_M_perform 61 = .ok (.goto 4, 3) := by decide +kernel
theorem d_M_perform_64 : decode b_M_perform 64 = .ok (.iconst 0, 1) := by decide +kernel
theorem d_M_perform_65 : decode b_M_perform 65 = .ok (.putfield 133, 3) := by decide +kernel
theorem d_M_perform_68 : decode b_M_perform 68 = .ok (.aload_n 0, 1) := by decide +kernel
theorem d_M_perform_69 : decode b_M_perform 69 = .ok (.getfield 130, 3) := by decide +kernel
theorem d_M_perform_72 : decode b_M_perform 72 = .ok (.ifCond .le 200, 3) := by decide +kernel
theorem d_M_perform_75 : decode b_M_perform 75 = .ok (.aload_n 0, 1) := by decide +kernel
theorem d_M_perform_76 : decode b_M_perform 76 = .ok (.dup, 1) := by decide +kernel
theorem d_M_perform_77 : decode b_M_perform 77 = .ok (.getfield 130, 3) := by decide +kernel
theorem d_M_perform_80 : decode b_M_perform 80 = .ok (.iconst 1, 1) := by decide +kernel
theorem d_M_perform_81 : decode b_M_perform 81 = .ok (.isub, 1) := by decide +kernel
theorem d_M_perform_82 : decode b_M_perform 82 = .ok (.putfield 130, 3) := by decide +kernel
theorem d_M_perform_85 : decode b_M_perform 85 = .ok (.aload_n 0, 1) := by decide +kernel
theorem d_M_perform_86 : decode b_M_perform 86 = .ok (.aload_n 0, 1) := by decide +kernel
theorem d_M_perform_87 : decode b_M_perform 87 = .ok (.getfield 23, 3) := by decide +kernel
theorem d_M_perform_90 : decode b_M_perform 90 = .ok (.aload_n 0, 1) := by decide +kernel
theorem d_M_perform_91 : decode b_M_perform 91 = .ok (.getfield 130, 3) := by decide +kernel
theorem d_M_perform_94 : decode b_M_perform 94 = .ok (.iaload, 1) := by decide +kernel
theorem d_M_perform_95 : decode b_M_perform 95 = .ok (.putfield 127, 3) := by decide +kernel
theorem d_M_perform_98 : decode b_M_perform 98 = .ok (.goto 174, 3) := by decide +kernel
theorem d_M_perform_101 : decode b_M_perform 101 = .ok (.aload_n 0, 1) := by decide +kernel
theorem d_M_perform_102 : decode b_M_perform 102 = .ok (.getfield 23, 3) := by decide +kernel
theorem d_M_perform_105 : decode b_M_perform 105 = .ok (.aload_n 0, 1) := by decide +kernel
theorem d_M_perform_106 : decode b_M_perform 106 = .ok (.getfield 130, 3) := by decide +kernel
theorem d_M_perform_109 : decode b_M_perform 109 = .ok (.aload_n 0, 1) := by decide +kernel
theorem d_M_perform_110 : decode b_M_perform 110 = .ok (.getfield 127, 3) := by decide +kernel
theorem d_M_perform_113 : decode b_M_perform 113 = .ok (.iastore, 1) := by decide +kernel
theorem d_M_perform_114 : decode b_M_perform 114 = .ok (.aload_n 0, 1) := by decide +kernel
theorem d_M_perform_115 : decode b_M_perform 115 = .ok (.dup, 1) := by decide +kernel
theorem d_M_perform_116 : decode b_M_perform 116 = .ok (.getfield 130, 3) := by decide +kernel
theorem d_M_perform_119 : decode b_M_perform 119 = .ok (.iconst 1, 1) := by decide +kernel
theorem d_M_perform_120 : decode b_M_perform 120 = .ok (.iadd, 1) := by decide +kernel
theorem d_M_perform_121 : decode b_M_perform 121 = .ok (.putfield 130, 3) := by decide +kernel
theorem d_M_perform_124 : decode b_M_perform 124 = .ok (.aload_n 0, 1) := by decide +kernel
theorem d_M_perform_125 : decode b_M_perform 125 = .ok (.aload_n 0, 1) := by decide +kernel
theorem d_M_perform_126 : decode b_M_perform 126 = .ok (.getfield 35, 3) := by decide +kernel
theorem d_M_perform_129 : decode b_M_perform 129 = .ok (.iconst 0, 1) := by decide +kernel
theorem d_M_perform_130 : decode b_M_perform 130 = .ok (.iaload, 1) := by decide +kernel
theorem d_M_perform_131 : decode b_M_perform 131 = .ok (.putfield 127, 3) := by decide +kernel
theorem d_M_perform_134 : decode b_M_perform 134 = .ok (.goto 138, 3) := by decide +kernel
theorem d_M_perform_137 : decode b_M_perform 137 = .ok (.aload_n 0, 1) := by decide +kernel
theorem d_M_perform_138 : decode b_M_perform 138 = .ok (.aload_n 0, 1) := by decide +kernel
theorem d_M_perform_139 : decode b_M_perform 139 = .ok (.getfield 35, 3) := by decide +kernel
theorem d_M_perform_142 : decode b_M_perform 142 = .ok (.iconst 1, 1) := by decide +kernel
theorem d_M_perform_143 : decode b_M_perform 143 = .ok (.iaload, 1) := by decide +kernel
theorem d_M_perform_144 : decode b_M_perform 144 = .ok (.iconst 1, 1) := by decide +kernel
theorem d_M_perform_145 : decode b_M_perform 145 = .ok (.if_icmp .ne 12, 3) := by decide +kernel
theorem d_M_perform_148 : decode b_M_perform 148 = .ok (.aload_n 0, 1) := by decide +kernel
theorem d_M_perform_149 : decode b_M_perform 149 = .ok (.getfield 35, 3) := by decide +kernel
theorem d_M_perform_152 : decode b_M_perform 152 = .ok (.iconst 0, 1) := by decide +kernel
theorem d_M_perform_153 : decode b_M_perform 153 = .ok (.iaload, 1) := by decide +kernel
theorem d_M_perform_154 : decode b_M_perform 154 = .ok (.goto 4, 3) := by decide +kernel
theorem d_M_perform_157 : decode b_M_perform 157 = .ok (.iconst (-1), 1) := by decide +kernel
theorem d_M_perform_158 : decode b_M_perform 158 = .ok (.putfield 32, 3) := by decide +kernel
theorem d_M_perform_161 : decode b_M_perform 161 = .ok (.goto 111, 3) := by decide +kernel
theorem d_M_perform_164 : decode b_M_perform 164 = .ok (.iconst 0, 1) := by decide +kernel
theorem d_M_perform_165 : decode b_M_perform 165 = .ok (.istore_n 2, 1) := by decide +kernel
theorem d_M_perform_166 : decode b_M_perform 166 = .ok (.iload_n 2, 1) := by decide +kernel
theorem d_M_perform_167 : decode b_M_perform 167 = .ok (.aload_n 0, 1) := by decide +kernel
theorem d_M_perform_168 : decode b_M_perform 168 = .ok (.getfield 35, 3) := by decide +kernel
theorem d_M_perform_171 : decode b_M_perform 171 = .ok (.iconst 1, 1) := by decide +kernel
theorem d_M_perform_172 : decode b_M_perform 172 = .ok (.iaload, 1) := by decide +kernel
theorem d_M_perform_173 : decode b_M_perform 173 = .ok (.if_icmp .ge 30, 3) := by decide +kernel
theorem d_M_perform_176 : decode b_M_perform 176 = .ok (.aload_n 0, 1) := by decide +kernel
theorem d_M_perform_177 : decode b_M_perform 177 = .ok (.getfield 7, 3) := by decide +kernel
theorem d_M_perform_180 : decode b_M_perform 180 = .ok (.aload_n 0, 1) := by decide +kernel
theorem d_M_perform_181 : decode b_M_perform 181 = .ok (.getfield 35, 3) := by decide +kernel
theorem d_M_perform_184 : decode b_M_perform 184 = .ok (.iconst 0, 1) := by decide +kernel
theorem d_M_perform_185 : decode b_M_perform 185 = .ok (.iaload, 1) := by decide +kernel
theorem d_M_perform_186 : decode b_M_perform 186 = .ok (.iload_n 2, 1) := by decide +kernel
theorem d_M_perform_187 : decode b_M_perform 187 = .ok (.iadd, 1) := by decide +kernel
theorem d_M_perform_188 : decode b_M_perform 188 = .ok (.aload_n 0, 1) := by decide +kernel
theorem d_M_perform_189 : decode b_M_perform 189 = .ok (.getfield 35, 3) := by decide +kernel
theorem d_M_perform_192 : decode b_M_perform 192 = .ok (.iconst 2, 1) := by decide +kernel
theorem d_M_perform_193 : decode b_M_perform 193 = .ok (.iload_n 2, 1) := by decide +kernel
theorem d_M_perform_194 : decode b_M_perform 194 = .ok (.iadd, 1) := by decide +kernel
theorem d_M_perform_195 : decode b_M_perform 195 = .ok (.iaload, 1) := by decide +kernel
theorem d_M_perform_196 : decode b_M_perform 196 = .ok (.iastore, 1) := by decide +kernel
theorem d_M_perform_197 : decode b_M_perform 197 = .ok (.iinc 2 1, 3) := by decide +kernel
theorem d_M_perform_200 : decode b_M_perform 200 = .ok (.goto (-34), 3) := by decide +kernel
theorem d_M_perform_203 : decode b_M_perform 203 = .ok (.goto 69, 3) := by decide +kernel
theorem d_M_perform_206 : decode b_M_perform 206 = .ok (.iconst 0, 1) := by decide +kernel
theorem d_M_perform_207 : decode b_M_perform 207 = .ok (.istore_n 2, 1) := by decide +kernel
theorem d_M_perform_208 : decode b_M_perform 208 = .ok (.iload_n 2, 1) := by decide +kernel
theorem d_M_perform_209 : decode b_M_perform 209 = .ok (.iconst 4, 1) := by decide +kernel
theorem d_M_perform_210 : decode b_M_perform 210 = .ok (.aload_n 0, 1) := by decide +kernel
theorem d_M_perform_211 : decode b_M_perform 211 = .ok (.getfield 35, 3) := by decide +kernel
theorem d_M_perform_214 : decode b_M_perform 214 = .ok (.iconst 1, 1) := by decide +kernel
theorem d_M_perform_215 : decode b_M_perform 215 = .ok (.iaload, 1) := by decide +kernel
theorem d_M_perform_216 : decode b_M_perform 216 = .ok (.imul, 1) := by decide +kernel
theorem d_M_perform_217 : decode b_M_perform 217 = .ok (.if_icmp .ge 47, 3) := by decide +kernel
theorem d_M_perform_220 : decode b_M_perform 220 = .ok (.aload_n 0, 1) := by decide +kernel
theorem d_M_perform_221 : decode b_M_perform 221 = .ok (.getfield 38, 3) := by decide +kernel
theorem d_M_perform_224 : decode b_M_perform 224 = .ok (.iconst 5, 1) := by decide +kernel
theorem d_M_perform_225 : decode b_M_perform 225 = .ok (.aload_n 0, 1) := by decide +kernel
theorem d_M_perform_226 : decode b_M_perform 226 = .ok (.getfield 35, 3) := by decide +kernel
theorem d_M_perform_229 : decode b_M_perform 229 = .ok (.iconst 0, 1) := by decide +kernel
theorem d_M_perform_230 : decode b_M_perform 230 = .ok (.iaload, 1) := by decide +kernel
theorem d_M_perform_231 : decode b_M_perform 231 = .ok (.iload_n 2, 1) := by decide +kernel
theorem d_M_perform_232 : decode b_M_perform 232 = .ok (.iconst 4, 1) := by decide +kernel
theorem d_M_perform_233 : decode b_M_perform 233 = .ok (.idiv, 1) := by decide +kernel
theorem d_M_perform_234 : decode b_M_perform 234 = .ok (.iadd, 1) := by decide +kernel
theorem d_M_perform_235 : decode b_M_perform 235 = .ok (.invokestatic 113, 3) := by decide +kernel
theorem d_M_perform_238 : decode b_M_perform 238 = .ok (.iconst 1, 1) := by decide +kernel
theorem d_M_perform_239 : decode b_M_perform 239 = .ok (.iadd, 1) := by decide +kernel
theorem d_M_perform_240 : decode b_M_perform 240 = .ok (.iload_n 2, 1) := by decide +kernel
theorem d_M_perform_241 : decode b_M_perform 241 = .ok (.iconst 4, 1) := by decide +kernel
theorem d_M_perform_242 : decode b_M_perform 242 = .ok (.irem, 1) := by decide +kernel
theorem d_M_perform_243 : decode b_M_perform 243 = .ok (.iadd, 1) := by decide +kernel
theorem d_M_perform_244 : decode b_M_perform 244 = .ok (.aload_n 0, 1) := by decide +kernel
theorem d_M_perform_245 : decode b_M_perform 245 = .ok (.getfield 7, 3) := by decide +kernel
theorem d_M_perform_248 : decode b_M_perform 248 = .ok (.aload_n 0, 1) := by decide +kernel
theorem d_M_perform_249 : decode b_M_perform 249 = .ok (.getfield 35, 3) := by decide +kernel
theorem d_M_perform_252 : decode b_M_perform 252 = .ok (.iconst 2, 1) := by decide +kernel
theorem d_M_perform_253 : decode b_M_perform 253 = .ok (.iaload, 1) := by decide +kernel
theorem d_M_perform_254 : decode b_M_perform 254 = .ok (.iload_n 2, 1) := by decide +kernel
theorem d_M_perform_255 : decode b_M_perform 255 = .ok (.iadd, 1) := by decide +kernel
theorem d_M_perform_256 : decode b_M_perform 256 = .ok (.iaload, 1) := by decide +kernel
theorem d_M_perform_257 : decode b_M_perform 257 = .ok (.iastore, 1) := by decide +kernel
theorem d_M_perform_258 : decode b_M_perform 258 = .ok (.iinc 2 1, 3) := by decide +kernel
theorem d_M_perform_261 : decode b_M_perform 261 = .ok (.goto (-53), 3) := by decide +kernel
theorem d_M_perform_264 : decode b_M_perform 264 = .ok (.goto 8, 3) := by decide +kernel
theorem d_M_perform_267 : decode b_M_perform 267 = .ok (.aload_n 0, 1) := by decide +kernel
theorem d_M_perform_268 : decode b_M_perform 268 = .ok (.iload_n 1, 1) := by decide +kernel
theorem d_M_perform_269 : decode b_M_perform 269 = .ok (.invokevirtual 183, 3) := by decide +kernel
theorem d_M_perform_272 : decode b_M_perform 272 = .ok (.return_, 1) := by decide +kernel
theorem d_M_keep_0 : decode b_M_keep 0 = .ok (.iload_n 1, 1) := by decide +kernel
theorem d_M_keep_1 : decode b_M_keep 1 = .ok (.invokestatic 110, 3) := by decide +kernel
theorem d_M_keep_4 : decode b_M_keep 4 = .ok (.ifCond .ne 4, 3) := by decide +kernel
theorem d_M_keep_7 : decode b_M_keep 7 = .ok (.return_, 1) := by decide +kernel
theorem d_M_keep_8 : decode b_M_keep 8 = .ok (.iload_n 1, 1) := by decide +kernel
theorem d_M_keep_9 : decode b_M_keep 9 = .ok (.iload_n 1, 1) := by decide +kernel
theorem d_M_keep_10 : decode b_M_keep 10 = .ok (.invokestatic 110, 3) := by decide +kernel
theorem d_M_keep_13 : decode b_M_keep 13 = .ok (.iconst 1, 1) := by decide +kernel
theorem d_M_keep_14 : decode b_M_keep 14 = .ok (.if_icmp .le 12, 3) := by decide +kernel
theorem d_M_keep_17 : decode b_M_keep 17 = .ok (.aload_n 0, 1) := by decide +kernel
theorem d_M_keep_18 : decode b_M_keep 18 = .ok (.getfield 35, 3) := by decide +kernel
theorem d_M_keep_21 : decode b_M_keep 21 = .ok (.iconst 0, 1) := by decide +kernel
theorem d_M_keep_22 : decode b_M_keep 22 = .ok (.iaload, 1) := by decide +kernel
theorem d_M_keep_23 : decode b_M_keep 23 = .ok (.goto 4, 3) := by decide +kernel
theorem d_M_keep_26 : decode b_M_keep 26 = .ok (.iconst 0, 1) := by decide +kernel
theorem d_M_keep_27 : decode b_M_keep 27 = .ok (.invokestatic 113, 3) := by decide +kernel
theorem d_M_keep_30 : decode b_M_keep 30 = .ok (.istore_n 2, 1) := by decide +kernel
theorem d_M_keep_31 : decode b_M_keep 31 = .ok (.iconst 0, 1) := by decide +kernel
theorem d_M_keep_32 : decode b_M_keep 32 = .ok (.istore_n 3, 1) := by decide +kernel
theorem d_M_keep_33 : decode b_M_keep 33 = .ok (.iload_n 3, 1) := by decide +kernel
theorem d_M_keep_34 : decode b_M_keep 34 = .ok (.aload_n 0, 1) := by decide +kernel
theorem d_M_keep_35 : decode b_M_keep 35 = .ok (.getfield 143, 3) := by decide +kernel
theorem d_M_keep_38 : decode b_M_keep 38 = .ok (.if_icmp .ge 23, 3) := by decide +kernel
theorem d_M_keep_41 : decode b_M_keep 41 = .ok (.aload_n 0, 1) := by decide +kernel
theorem d_M_keep_42 : decode b_M_keep 42 = .ok (.getfield 38, 3) := by decide +kernel
theorem d_M_keep_45 : decode b_M_keep 45 = .ok (.iload_n 2, 1) := by decide +kernel
theorem d_M_keep_46 : decode b_M_keep 46 = .ok (.iload_n 3, 1) := by decide +kernel
theorem d_M_keep_47 : decode b_M_keep 47 = .ok (.iadd, 1) := by decide +kernel
theorem d_M_keep_48 : decode b_M_keep 48 = .ok (.aload_n 0, 1) := by decide +kernel
theorem d_M_keep_49 : decode b_M_keep 49 = .ok (.getfield 35, 3) := by decide +kernel
theorem d_M_keep_52 : decode b_M_keep 52 = .ok (.iload_n 3, 1) := by decide +kernel
theorem d_M_keep_53 : decode b_M_keep 53 = .ok (.iaload, 1) := by decide +kernel
theorem d_M_keep_54 : decode b_M_keep 54 = .ok (.iastore, 1) := by decide +kernel
theorem d_M_keep_55 : decode b_M_keep 55 = .ok (.iinc 3 1, 3) := by decide +kernel
theorem d_M_keep_58 : decode b_M_keep 58 = .ok (.goto (-25), 3) := by decide +kernel
theorem d_M_keep_61 : decode b_M_keep 61 = .ok (.return_, 1) := by decide +kernel
theorem d_M_argument_0 : decode b_M_argument 0 = .ok (.aload_n 0, 1) := by decide +kernel
theorem d_M_argument_1 : decode b_M_argument 1 = .ok (.iload_n 1, 1) := by decide +kernel
theorem d_M_argument_2 : decode b_M_argument 2 = .ok (.i2l, 1) := by decide +kernel
theorem d_M_argument_3 : decode b_M_argument 3 = .ok (.lconst 0, 1) := by decide +kernel
theorem d_M_argument_4 : decode b_M_argument 4 = .ok (.aload_n 0, 1) := by decide +kernel
theorem d_M_argument_5 : decode b_M_argument 5 = .ok (.getfield 143, 3) := by decide +kernel
theorem d_M_argument_8 : decode b_M_argument 8 = .ok (.iconst 1, 1) := by decide +kernel
theorem d_M_argument_9 : decode b_M_argument 9 = .ok (.isub, 1) := by decide +kernel
theorem d_M_argument_10 : decode b_M_argument 10 = .ok (.i2l, 1) := by decide +kernel
theorem d_M_argument_11 : decode b_M_argument 11 = .ok (.invokestatic 51, 3) := by decide +kernel
theorem d_M_argument_14 : decode b_M_argument 14 = .ok (.ifCond .ne 7, 3) := by decide +kernel
theorem d_M_argument_17 : decode b_M_argument 17 = .ok (.iconst 1, 1) := by decide +kernel
theorem d_M_argument_18 : decode b_M_argument 18 = .ok (.goto 4, 3) := by decide +kernel
theorem d_M_argument_21 : decode b_M_argument 21 = .ok (.iconst 0, 1) := by decide +kernel
theorem d_M_argument_22 : decode b_M_argument 22 = .ok (.invokevirtual 120, 3) := by decide +kernel
theorem d_M_argument_25 : decode b_M_argument 25 = .ok (.ifCond .eq 5, 3) := by decide +kernel
theorem d_M_argument_28 : decode b_M_argument 28 = .ok (.iconst 0, 1) := by decide +kernel
theorem d_M_argument_29 : decode b_M_argument 29 = .ok (.ireturn, 1) := by decide +kernel
theorem d_M_argument_30 : decode b_M_argument 30 = .ok (.aload_n 0, 1) := by decide +kernel
theorem d_M_argument_31 : decode b_M_argument 31 = .ok (.getfield 35, 3) := by decide +kernel
theorem d_M_argument_34 : decode b_M_argument 34 = .ok (.iload_n 1, 1) := by decide +kernel
theorem d_M_argument_35 : decode b_M_argument 35 = .ok (.iaload, 1) := by decide +kernel
theorem d_M_argument_36 : decode b_M_argument 36 = .ok (.ireturn, 1) := by decide +kernel
theorem d_M_kept_0 : decode b_M_kept 0 = .ok (.iload_n 1, 1) := by decide +kernel
theorem d_M_kept_1 : decode b_M_kept 1 = .ok (.i2l, 1) := by decide +kernel
theorem d_M_kept_2 : decode b_M_kept 2 = .ok (.lconst 0, 1) := by decide +kernel
theorem d_M_kept_3 : decode b_M_kept 3 = .ok (.ldc2_w 160, 3) := by decide +kernel
theorem d_M_kept_6 : decode b_M_kept 6 = .ok (.invokestatic 51, 3) := by decide +kernel
theorem d_M_kept_9 : decode b_M_kept 9 = .ok (.ifCond .eq 31, 3) := by decide +kernel
theorem d_M_kept_12 : decode b_M_kept 12 = .ok (.iload_n 2, 1) := by decide +kernel
theorem d_M_kept_13 : decode b_M_kept 13 = .ok (.ifCond .lt 27, 3) := by decide +kernel
theorem d_M_kept_16 : decode b_M_kept 16 = .ok (.iload_n 2, 1) := by decide +kernel
theorem d_M_kept_17 : decode b_M_kept 17 = .ok (.iload_n 1, 1) := by decide +kernel
theorem d_M_kept_18 : decode b_M_kept 18 = .ok (.invokestatic 110, 3) := by decide +kernel
theorem d_M_kept_21 : decode b_M_kept 21 = .ok (.if_icmp .ge 19, 3) := by decide +kernel
theorem d_M_kept_24 : decode b_M_kept 24 = .ok (.iload_n 3, 1) := by decide +kernel
theorem d_M_kept_25 : decode b_M_kept 25 = .ok (.ifCond .lt 15, 3) := by decide +kernel
theorem d_M_kept_28 : decode b_M_kept 28 = .ok (.iload_n 3, 1) := by decide +kernel
theorem d_M_kept_29 : decode b_M_kept 29 = .ok (.iload_n 1, 1) := by decide +kernel
theorem d_M_kept_30 : decode b_M_kept 30 = .ok (.invokestatic 106, 3) := by decide +kernel
theorem d_M_kept_33 : decode b_M_kept 33 = .ok (.if_icmp .ge 7, 3) := by decide +kernel
theorem d_M_kept_36 : decode b_M_kept 36 = .ok (.iconst 1, 1) := by decide +kernel
theorem d_M_kept_37 : decode b_M_kept 37 = .ok (.goto 4, 3) := by decide +kernel
theorem d_M_kept_40 : decode b_M_kept 40 = .ok (.iconst 0, 1) := by decide +kernel
theorem d_M_kept_41 : decode b_M_kept 41 = .ok (.istore 4, 2) := by decide +kernel
theorem d_M_kept_43 : decode b_M_kept 43 = .ok (.aload_n 0, 1) := by decide +kernel
theorem d_M_kept_44 : decode b_M_kept 44 = .ok (.iload 4, 2) := by decide +kernel
theorem d_M_kept_46 : decode b_M_kept 46 = .ok (.ifCond .ne 7, 3) := by decide +kernel
theorem d_M_kept_49 : decode b_M_kept 49 = .ok (.iconst 1, 1) := by decide +kernel
theorem d_M_kept_50 : decode b_M_kept 50 = .ok (.goto 4, 3) := by decide +kernel
theorem d_M_kept_53 : decode b_M_kept 53 = .ok (.iconst 0, 1) := by decide +kernel
theorem d_M_kept_54 : decode b_M_kept 54 = .ok (.invokevirtual 120, 3) := by decide +kernel
theorem d_M_kept_57 : decode b_M_kept 57 = .ok (.ifCond .eq 5, 3) := by decide +kernel
theorem d_M_kept_60 : decode b_M_kept 60 = .ok (.iconst 0, 1) := by decide +kernel
theorem d_M_kept_61 : decode b_M_kept 61 = .ok (.ireturn, 1) := by decide +kernel
theorem d_M_kept_62 : decode b_M_kept 62 = .ok (.aload_n 0, 1) := by decide +kernel
theorem d_M_kept_63 : decode b_M_kept 63 = .ok (.getfield 38, 3) := by decide +kernel
theorem d_M_kept_66 : decode b_M_kept 66 = .ok (.iload_n 1, 1) := by decide +kernel
theorem d_M_kept_67 : decode b_M_kept 67 = .ok (.iload_n 2, 1) := by decide +kernel
theorem d_M_kept_68 : decode b_M_kept 68 = .ok (.invokestatic 113, 3) := by decide +kernel
theorem d_M_kept_71 : decode b_M_kept 71 = .ok (.iload_n 3, 1) := by decide +kernel
theorem d_M_kept_72 : decode b_M_kept 72 = .ok (.iadd, 1) := by decide +kernel
theorem d_M_kept_73 : decode b_M_kept 73 = .ok (.iaload, 1) := by decide +kernel
theorem d_M_kept_74 : decode b_M_kept 74 = .ok (.ireturn, 1) := by decide +kernel
theorem d_M_about_0 : decode b_M_about 0 = .ok (.aload_n 0, 1) := by decide +kernel
theorem d_M_about_1 : decode b_M_about 1 = .ok (.iload_n 1, 1) := by decide +kernel
theorem d_M_about_2 : decode b_M_about 2 = .ok (.i2l, 1) := by decide +kernel
theorem d_M_about_3 : decode b_M_about 3 = .ok (.lconst 0, 1) := by decide +kernel
theorem d_M_about_4 : decode b_M_about 4 = .ok (.ldc2_w 186, 3) := by decide +kernel
theorem d_M_about_7 : decode b_M_about 7 = .ok (.invokestatic 51, 3) := by decide +kernel
theorem d_M_about_10 : decode b_M_about 10 = .ok (.ifCond .ne 7, 3) := by decide +kernel
theorem d_M_about_13 : decode b_M_about 13 = .ok (.iconst 1, 1) := by decide +kernel
theorem d_M_about_14 : decode b_M_about 14 = .ok (.goto 4, 3) := by decide +kernel
theorem d_M_about_17 : decode b_M_about 17 = .ok (.iconst 0, 1) := by decide +kernel
theorem d_M_about_18 : decode b_M_about 18 = .ok (.invokevirtual 120, 3) := by decide +kernel
theorem d_M_about_21 : decode b_M_about 21 = .ok (.ifCond .eq 5, 3) := by decide +kernel
theorem d_M_about_24 : decode b_M_about 24 = .ok (.iconst 0, 1) := by decide +kernel
theorem d_M_about_25 : decode b_M_about 25 = .ok (.ireturn, 1) := by decide +kernel
theorem d_M_about_26 : decode b_M_about 26 = .ok (.iload_n 1, 1) := by decide +kernel
theorem d_M_about_27 : decode b_M_about 27 = .ok (.tableswitch 75 0 5 #[37, 50, 55, 60, 65, 70], 37) := by decide +kernel
theorem d_M_about_64 : decode b_M_about 64 = .ok (.aload_n 0, 1) := by decide +kernel
theorem d_M_about_65 : decode b_M_about 65 = .ok (.getfield 133, 3) := by decide +kernel
theorem d_M_about_68 : decode b_M_about 68 = .ok (.ifCond .eq 7, 3) := by decide +kernel
theorem d_M_about_71 : decode b_M_about 71 = .ok (.iconst 1, 1) := by decide +kernel
theorem d_M_about_72 : decode b_M_about 72 = .ok (.goto 4, 3) := by decide +kernel
theorem d_M_about_75 : decode b_M_about 75 = .ok (.iconst 0, 1) := by decide +kernel
theorem d_M_about_76 : decode b_M_about 76 = .ok (.ireturn, 1) := by decide +kernel
theorem d_M_about_77 : decode b_M_about 77 = .ok (.aload_n 0, 1) := by decide +kernel
theorem d_M_about_78 : decode b_M_about 78 = .ok (.getfield 137, 3) := by decide +kernel
theorem d_M_about_81 : decode b_M_about 81 = .ok (.ireturn, 1) := by decide +kernel
theorem d_M_about_82 : decode b_M_about 82 = .ok (.aload_n 0, 1) := by decide +kernel
theorem d_M_about_83 : decode b_M_about 83 = .ok (.getfield 26, 3) := by decide +kernel
theorem d_M_about_86 : decode b_M_about 86 = .ok (.ireturn, 1) := by decide +kernel
theorem d_M_about_87 : decode b_M_about 87 = .ok (.aload_n 0, 1) := by decide +kernel
theorem d_M_about_88 : decode b_M_about 88 = .ok (.getfield 29, 3) := by decide +kernel
theorem d_M_about_91 : decode b_M_about 91 = .ok (.ireturn, 1) := by decide +kernel
theorem d_M_about_92 : decode b_M_about 92 = .ok (.aload_n 0, 1) := by decide +kernel
theorem d_M_about_93 : decode b_M_about 93 = .ok (.getfield 140, 3) := by decide +kernel
theorem d_M_about_96 : decode b_M_about 96 = .ok (.ireturn, 1) := by decide +kernel
theorem d_M_about_97 : decode b_M_about 97 = .ok (.aload_n 0, 1) := by decide +kernel
theorem d_M_about_98 : decode b_M_about 98 = .ok (.getfield 32, 3) := by decide +kernel
theorem d_M_about_101 : decode b_M_about 101 = .ok (.ireturn, 1) := by decide +kernel
theorem d_M_about_102 : decode b_M_about 102 = .ok (.aload_n 0, 1) := by decide +kernel
theorem d_M_about_103 : decode b_M_about 103 = .ok (.getfield 124, 3) := by decide +kernel
theorem d_M_about_106 : decode b_M_about 106 = .ok (.ireturn, 1) := by decide +kernel
end
section
theorem d_L_word_0 : decode b_L_word 0 = .ok (.aload_n 3, 1) := by decide +kernel
theorem d_L_word_1 : decode b_L_word 1 = .ok (.iconst 0, 1) := by decide +kernel
theorem d_L_word_2 : decode b_L_word 2 = .ok (.aload_n 0, 1) := by decide +kernel
theorem d_L_word_3 : decode b_L_word 3 = .ok (.iload_n 1, 1) := by decide +kernel
theorem d_L_word_4 : decode b_L_word 4 = .ok (.iload_n 2, 1) := by decide +kernel
theorem d_L_word_5 : decode b_L_word 5 = .ok (.invokevirtual 7, 3) := by decide +kernel
theorem d_L_word_8 : decode b_L_word 8 = .ok (.i2l, 1) := by decide +kernel
theorem d_L_word_9 : decode b_L_word 9 = .ok (.lastore, 1) := by decide +kernel
theorem d_L_word_10 : decode b_L_word 10 = .ok (.goto 7, 3) := by decide +kernel
theorem d_L_word_13 : decode b_L_word 13 = .ok (.astore 4, 2) := by decide +kernel
theorem d_L_word_15 : decode b_L_word 15 = .ok (.iconst 1, 1) := by decide +kernel
theorem d_L_word_16 : decode b_L_word 16 = .ok (.ireturn, 1) := by decide +kernel
theorem d_L_word_17 : decode b_L_word 17 = .ok (.iconst 0, 1) := by decide +kernel
theorem d_L_word_18 : decode b_L_word 18 = .ok (.ireturn, 1) := by decide +kernel
theorem d_L_frame_0 : decode b_L_frame 0 = .ok (.aload_n 0, 1) := by decide +kernel
theorem d_L_frame_1 : decode b_L_frame 1 = .ok (.iload_n 1, 1) := by decide +kernel
theorem d_L_frame_2 : decode b_L_frame 2 = .ok (.iload_n 2, 1) := by decide +kernel
theorem d_L_frame_3 : decode b_L_frame 3 = .ok (.invokevirtual 15, 3) := by decide +kernel
theorem d_L_frame_6 : decode b_L_frame 6 = .ok (.goto 6, 3) := by decide +kernel
theorem d_L_frame_9 : decode b_L_frame 9 = .ok (.astore_n 3, 1) := by decide +kernel
theorem d_L_frame_10 : decode b_L_frame 10 = .ok (.iconst 1, 1) := by decide +kernel
theorem d_L_frame_11 : decode b_L_frame 11 = .ok (.ireturn, 1) := by decide +kernel
theorem d_L_frame_12 : decode b_L_frame 12 = .ok (.iconst 0, 1) := by decide +kernel
theorem d_L_frame_13 : decode b_L_frame 13 = .ok (.ireturn, 1) := by decide +kernel
theorem d_L_put_0 : decode b_L_put 0 = .ok (.aload_n 2, 1) := by decide +kernel
theorem d_L_put_1 : decode b_L_put 1 = .ok (.iconst 0, 1) := by decide +kernel
theorem d_L_put_2 : decode b_L_put 2 = .ok (.aload_n 0, 1) := by decide +kernel
theorem d_L_put_3 : decode b_L_put 3 = .ok (.iload_n 1, 1) := by decide +kernel
theorem d_L_put_4 : decode b_L_put 4 = .ok (.invokevirtual 21, 3) := by decide +kernel
theorem d_L_put_7 : decode b_L_put 7 = .ok (.i2l, 1) := by decide +kernel
theorem d_L_put_8 : decode b_L_put 8 = .ok (.lastore, 1) := by decide +kernel
theorem d_L_put_9 : decode b_L_put 9 = .ok (.goto 6, 3) := by decide +kernel
theorem d_L_put_12 : decode b_L_put 12 = .ok (.astore_n 3, 1) := by decide +kernel
theorem d_L_put_13 : decode b_L_put 13 = .ok (.iconst 1, 1) := by decide +kernel
theorem d_L_put_14 : decode b_L_put 14 = .ok (.ireturn, 1) := by decide +kernel
theorem d_L_put_15 : decode b_L_put 15 = .ok (.iconst 0, 1) := by decide +kernel
theorem d_L_put_16 : decode b_L_put 16 = .ok (.ireturn, 1) := by decide +kernel
theorem d_L_next_0 : decode b_L_next 0 = .ok (.aload_n 1, 1) := by decide +kernel
theorem d_L_next_1 : decode b_L_next 1 = .ok (.iconst 0, 1) := by decide +kernel
theorem d_L_next_2 : decode b_L_next 2 = .ok (.aload_n 0, 1) := by decide +kernel
theorem d_L_next_3 : decode b_L_next 3 = .ok (.invokevirtual 27, 3) := by decide +kernel
theorem d_L_next_6 : decode b_L_next 6 = .ok (.i2l, 1) := by decide +kernel
theorem d_L_next_7 : decode b_L_next 7 = .ok (.lastore, 1) := by decide +kernel
theorem d_L_next_8 : decode b_L_next 8 = .ok (.goto 6, 3) := by decide +kernel
theorem d_L_next_11 : decode b_L_next 11 = .ok (.astore_n 2, 1) := by decide +kernel
theorem d_L_next_12 : decode b_L_next 12 = .ok (.iconst 1, 1) := by decide +kernel
theorem d_L_next_13 : decode b_L_next 13 = .ok (.ireturn, 1) := by decide +kernel
theorem d_L_next_14 : decode b_L_next 14 = .ok (.iconst 0, 1) := by decide +kernel
theorem d_L_next_15 : decode b_L_next 15 = .ok (.ireturn, 1) := by decide +kernel
theorem d_L_argument_0 : decode b_L_argument 0 = .ok (.aload_n 2, 1) := by decide +kernel
theorem d_L_argument_1 : decode b_L_argument 1 = .ok (.iconst 0, 1) := by decide +kernel
theorem d_L_argument_2 : decode b_L_argument 2 = .ok (.aload_n 0, 1) := by decide +kernel
theorem d_L_argument_3 : decode b_L_argument 3 = .ok (.iload_n 1, 1) := by decide +kernel
theorem d_L_argument_4 : decode b_L_argument 4 = .ok (.invokevirtual 33, 3) := by decide +kernel
theorem d_L_argument_7 : decode b_L_argument 7 = .ok (.i2l, 1) := by decide +kernel
theorem d_L_argument_8 : decode b_L_argument 8 = .ok (.lastore, 1) := by decide +kernel
theorem d_L_argument_9 : decode b_L_argument 9 = .ok (.goto 6, 3) := by decide +kernel
theorem d_L_argument_12 : decode b_L_argument 12 = .ok (.astore_n 3, 1) := by decide +kernel
theorem d_L_argument_13 : decode b_L_argument 13 = .ok (.iconst 1, 1) := by decide +kernel
theorem d_L_argument_14 : decode b_L_argument 14 = .ok (.ireturn, 1) := by decide +kernel
theorem d_L_argument_15 : decode b_L_argument 15 = .ok (.iconst 0, 1) := by decide +kernel
theorem d_L_argument_16 : decode b_L_argument 16 = .ok (.ireturn, 1) := by decide +kernel
theorem d_L_kept_0 : decode b_L_kept 0 = .ok (.aload 4, 2) := by decide +kernel
theorem d_L_kept_2 : decode b_L_kept 2 = .ok (.iconst 0, 1) := by decide +kernel
theorem d_L_kept_3 : decode b_L_kept 3 = .ok (.aload_n 0, 1) := by decide +kernel
theorem d_L_kept_4 : decode b_L_kept 4 = .ok (.iload_n 1, 1) := by decide +kernel
theorem d_L_kept_5 : decode b_L_kept 5 = .ok (.iload_n 2, 1) := by decide +kernel
theorem d_L_kept_6 : decode b_L_kept 6 = .ok (.iload_n 3, 1) := by decide +kernel
theorem d_L_kept_7 : decode b_L_kept 7 = .ok (.invokevirtual 36, 3) := by decide +kernel
theorem d_L_kept_10 : decode b_L_kept 10 = .ok (.i2l, 1) := by decide +kernel
theorem d_L_kept_11 : decode b_L_kept 11 = .ok (.lastore, 1) := by decide +kernel
theorem d_L_kept_12 : decode b_L_kept 12 = .ok (.goto 7, 3) := by decide +kernel
theorem d_L_kept_15 : decode b_L_kept 15 = .ok (.astore 5, 2) := by decide +kernel
theorem d_L_kept_17 : decode b_L_kept 17 = .ok (.iconst 1, 1) := by decide +kernel
theorem d_L_kept_18 : decode b_L_kept 18 = .ok (.ireturn, 1) := by decide +kernel
theorem d_L_kept_19 : decode b_L_kept 19 = .ok (.iconst 0, 1) := by decide +kernel
theorem d_L_kept_20 : decode b_L_kept 20 = .ok (.ireturn, 1) := by decide +kernel
theorem d_L_about_0 : decode b_L_about 0 = .ok (.aload_n 2, 1) := by decide +kernel
theorem d_L_about_1 : decode b_L_about 1 = .ok (.iconst 0, 1) := by decide +kernel
theorem d_L_about_2 : decode b_L_about 2 = .ok (.aload_n 0, 1) := by decide +kernel
theorem d_L_about_3 : decode b_L_about 3 = .ok (.iload_n 1, 1) := by decide +kernel
theorem d_L_about_4 : decode b_L_about 4 = .ok (.invokevirtual 40, 3) := by decide +kernel
theorem d_L_about_7 : decode b_L_about 7 = .ok (.i2l, 1) := by decide +kernel
theorem d_L_about_8 : decode b_L_about 8 = .ok (.lastore, 1) := by decide +kernel
theorem d_L_about_9 : decode b_L_about 9 = .ok (.goto 6, 3) := by decide +kernel
theorem d_L_about_12 : decode b_L_about 12 = .ok (.astore_n 3, 1) := by decide +kernel
theorem d_L_about_13 : decode b_L_about 13 = .ok (.iconst 1, 1) := by decide +kernel
theorem d_L_about_14 : decode b_L_about 14 = .ok (.ireturn, 1) := by decide +kernel
theorem d_L_about_15 : decode b_L_about 15 = .ok (.iconst 0, 1) := by decide +kernel
theorem d_L_about_16 : decode b_L_about 16 = .ok (.ireturn, 1) := by decide +kernel
theorem d_L_law_0 : decode b_L_law 0 = .ok (.new 8, 3) := by decide +kernel
theorem d_L_law_3 : decode b_L_law 3 = .ok (.dup, 1) := by decide +kernel
theorem d_L_law_4 : decode b_L_law 4 = .ok (.invokespecial 43, 3) := by decide +kernel
theorem d_L_law_7 : decode b_L_law 7 = .ok (.astore_n 1, 1) := by decide +kernel
theorem d_L_law_8 : decode b_L_law 8 = .ok (.new 44, 3) := by decide +kernel
theorem d_L_law_11 : decode b_L_law 11 = .ok (.dup, 1) := by decide +kernel
theorem d_L_law_12 : decode b_L_law 12 = .ok (.invokespecial 46, 3) := by decide +kernel
theorem d_L_law_15 : decode b_L_law 15 = .ok (.astore_n 2, 1) := by decide +kernel
theorem d_L_law_16 : decode b_L_law 16 = .ok (.iconst 1, 1) := by decide +kernel
theorem d_L_law_17 : decode b_L_law 17 = .ok (.newarray .long, 2) := by decide +kernel
theorem d_L_law_19 : decode b_L_law 19 = .ok (.astore_n 3, 1) := by decide +kernel
theorem d_L_law_20 : decode b_L_law 20 = .ok (.iconst 0, 1) := by decide +kernel
theorem d_L_law_21 : decode b_L_law 21 = .ok (.istore 4, 2) := by decide +kernel
theorem d_L_law_23 : decode b_L_law 23 = .ok (.iload 4, 2) := by decide +kernel
theorem d_L_law_25 : decode b_L_law 25 = .ok (.aload_n 0, 1) := by decide +kernel
theorem d_L_law_26 : decode b_L_law 26 = .ok (.arraylength, 1) := by decide +kernel
theorem d_L_law_27 : decode b_L_law 27 = .ok (.iconst 4, 1) := by decide +kernel
theorem d_L_law_28 : decode b_L_law 28 = .ok (.isub, 1) := by decide +kernel
theorem d_L_law_29 : decode b_L_law 29 = .ok (.if_icmp .gt 523, 3) := by decide +kernel
theorem d_L_law_32 : decode b_L_law 32 = .ok (.aload_n 0, 1) := by decide +kernel
theorem d_L_law_33 : decode b_L_law 33 = .ok (.iload 4, 2) := by decide +kernel
theorem d_L_law_35 : decode b_L_law 35 = .ok (.iaload, 1) := by decide +kernel
theorem d_L_law_36 : decode b_L_law 36 = .ok (.bipush 15, 2) := by decide +kernel
theorem d_L_law_38 : decode b_L_law 38 = .ok (.iand, 1) := by decide +kernel
theorem d_L_law_39 : decode b_L_law 39 = .ok (.tableswitch 507 0 8 #[49, 117, 165, 221, 232, 271, 315, 371, 451], 49) := by decide +kernel
theorem d_L_law_88 : decode b_L_law 88 = .ok (.aload_n 1, 1) := by decide +kernel
theorem d_L_law_89 : decode b_L_law 89 = .ok (.aload_n 0, 1) := by decide +kernel
theorem d_L_law_90 : decode b_L_law 90 = .ok (.iload 4, 2) := by decide +kernel
theorem d_L_law_92 : decode b_L_law 92 = .ok (.iconst 1, 1) := by decide +kernel
theorem d_L_law_93 : decode b_L_law 93 = .ok (.iadd, 1) := by decide +kernel
theorem d_L_law_94 : decode b_L_law 94 = .ok (.iaload, 1) := by decide +kernel
theorem d_L_law_95 : decode b_L_law 95 = .ok (.aload_n 0, 1) := by decide +kernel
theorem d_L_law_96 : decode b_L_law 96 = .ok (.iload 4, 2) := by decide +kernel
theorem d_L_law_98 : decode b_L_law 98 = .ok (.iconst 2, 1) := by decide +kernel
theorem d_L_law_99 : decode b_L_law 99 = .ok (.iadd, 1) := by decide +kernel
theorem d_L_law_100 : decode b_L_law 100 = .ok (.iaload, 1) := by decide +kernel
theorem d_L_law_101 : decode b_L_law 101 = .ok (.aload_n 3, 1) := by decide +kernel
theorem d_L_law_102 : decode b_L_law 102 = .ok (.invokestatic 47, 3) := by decide +kernel
theorem d_L_law_105 : decode b_L_law 105 = .ok (.istore 5, 2) := by decide +kernel
theorem d_L_law_107 : decode b_L_law 107 = .ok (.aload_n 2, 1) := by decide +kernel
theorem d_L_law_108 : decode b_L_law 108 = .ok (.aload_n 0, 1) := by decide +kernel
theorem d_L_law_109 : decode b_L_law 109 = .ok (.iload 4, 2) := by decide +kernel
theorem d_L_law_111 : decode b_L_law 111 = .ok (.iconst 1, 1) := by decide +kernel
theorem d_L_law_112 : decode b_L_law 112 = .ok (.iadd, 1) := by decide +kernel
theorem d_L_law_113 : decode b_L_law 113 = .ok (.iaload, 1) := by decide +kernel
theorem d_L_law_114 : decode b_L_law 114 = .ok (.aload_n 0, 1) := by decide +kernel
theorem d_L_law_115 : decode b_L_law 115 = .ok (.iload 4, 2) := by decide +kernel
theorem d_L_law_117 : decode b_L_law 117 = .ok (.iconst 2, 1) := by decide +kernel
theorem d_L_law_118 : decode b_L_law 118 = .ok (.iadd, 1) := by decide +kernel
theorem d_L_law_119 : decode b_L_law 119 = .ok (.iaload, 1) := by decide +kernel
theorem d_L_law_120 : decode b_L_law 120 = .ok (.invokevirtual 52, 3) := by decide +kernel
theorem d_L_law_123 : decode b_L_law 123 = .ok (.istore 6, 2) := by decide +kernel
theorem d_L_law_125 : decode b_L_law 125 = .ok (.aload_n 2, 1) := by decide +kernel
theorem d_L_law_126 : decode b_L_law 126 = .ok (.invokevirtual 53, 3) := by decide +kernel
theorem d_L_law_129 : decode b_L_law 129 = .ok (.iload 5, 2) := by decide +kernel
theorem d_L_law_131 : decode b_L_law 131 = .ok (.if_icmp .eq 5, 3) := by decide +kernel
theorem d_L_law_134 : decode b_L_law 134 = .ok (.iconst 0, 1) := by decide +kernel
theorem d_L_law_135 : decode b_L_law 135 = .ok (.ireturn, 1) := by decide +kernel
theorem d_L_law_136 : decode b_L_law 136 = .ok (.iload 5, 2) := by decide +kernel
theorem d_L_law_138 : decode b_L_law 138 = .ok (.ifCond .ne 15, 3) := by decide +kernel
theorem d_L_law_141 : decode b_L_law 141 = .ok (.aload_n 3, 1) := by decide +kernel
theorem d_L_law_142 : decode b_L_law 142 = .ok (.iconst 0, 1) := by decide +kernel
theorem d_L_law_143 : decode b_L_law 143 = .ok (.laload, 1) := by decide +kernel
theorem d_L_law_144 : decode b_L_law 144 = .ok (.iload 6, 2) := by decide +kernel
theorem d_L_law_146 : decode b_L_law 146 = .ok (.i2l, 1) := by decide +kernel
theorem d_L_law_147 : decode b_L_law 147 = .ok (.lcmp, 1) := by decide +kernel
theorem d_L_law_148 : decode b_L_law 148 = .ok (.ifCond .eq 5, 3) := by decide +kernel
theorem d_L_law_151 : decode b_L_law 151 = .ok (.iconst 0, 1) := by decide +kernel
theorem d_L_law_152 : decode b_L_law 152 = .ok (.ireturn, 1) := by decide +kernel
theorem d_L_law_153 : decode b_L_law 153 = .ok (.goto 393, 3) := by decide +kernel
theorem d_L_law_156 : decode b_L_law 156 = .ok (.aload_n 1, 1) := by decide +kernel
theorem d_L_law_157 : decode b_L_law 157 = .ok (.aload_n 0, 1) := by decide +kernel
theorem d_L_law_158 : decode b_L_law 158 = .ok (.iload 4, 2) := by decide +kernel
theorem d_L_law_160 : decode b_L_law 160 = .ok (.iconst 1, 1) := by decide +kernel
theorem d_L_law_161 : decode b_L_law 161 = .ok (.iadd, 1) := by decide +kernel
theorem d_L_law_162 : decode b_L_law 162 = .ok (.iaload, 1) := by decide +kernel
theorem d_L_law_163 : decode b_L_law 163 = .ok (.aload_n 0, 1) := by decide +kernel
theorem d_L_law_164 : decode b_L_law 164 = .ok (.iload 4, 2) := by decide +kernel
theorem d_L_law_166 : decode b_L_law 166 = .ok (.iconst 2, 1) := by decide +kernel
theorem d_L_law_167 : decode b_L_law 167 = .ok (.iadd, 1) := by decide +kernel
theorem d_L_law_168 : decode b_L_law 168 = .ok (.iaload, 1) := by decide +kernel
theorem d_L_law_169 : decode b_L_law 169 = .ok (.invokestatic 56, 3) := by decide +kernel
theorem d_L_law_172 : decode b_L_law 172 = .ok (.istore 5, 2) := by decide +kernel
theorem d_L_law_174 : decode b_L_law 174 = .ok (.aload_n 2, 1) := by decide +kernel
theorem d_L_law_175 : decode b_L_law 175 = .ok (.aload_n 0, 1) := by decide +kernel
theorem d_L_law_176 : decode b_L_law 176 = .ok (.iload 4, 2) := by decide +kernel
theorem d_L_law_178 : decode b_L_law 178 = .ok (.iconst 1, 1) := by decide +kernel
theorem d_L_law_179 : decode b_L_law 179 = .ok (.iadd, 1) := by decide +kernel
theorem d_L_law_180 : decode b_L_law 180 = .ok (.iaload, 1) := by decide +kernel
theorem d_L_law_181 : decode b_L_law 181 = .ok (.aload_n 0, 1) := by decide +kernel
theorem d_L_law_182 : decode b_L_law 182 = .ok (.iload 4, 2) := by decide +kernel
theorem d_L_law_184 : decode b_L_law 184 = .ok (.iconst 2, 1) := by decide +kernel
theorem d_L_law_185 : decode b_L_law 185 = .ok (.iadd, 1) := by decide +kernel
theorem d_L_law_186 : decode b_L_law 186 = .ok (.iaload, 1) := by decide +kernel
theorem d_L_law_187 : decode b_L_law 187 = .ok (.invokevirtual 59, 3) := by decide +kernel
theorem d_L_law_190 : decode b_L_law 190 = .ok (.aload_n 2, 1) := by decide +kernel
theorem d_L_law_191 : decode b_L_law 191 = .ok (.invokevirtual 53, 3) := by decide +kernel
theorem d_L_law_194 : decode b_L_law 194 = .ok (.iload 5, 2) := by decide +kernel
theorem d_L_law_196 : decode b_L_law 196 = .ok (.if_icmp .eq 5, 3) := by decide +kernel
theorem d_L_law_199 : decode b_L_law 199 = .ok (.iconst 0, 1) := by decide +kernel
theorem d_L_law_200 : decode b_L_law 200 = .ok (.ireturn, 1) := by decide +kernel
theorem d_L_law_201 : decode b_L_law 201 = .ok (.goto 345, 3) := by decide +kernel
theorem d_L_law_204 : decode b_L_law 204 = .ok (.aload_n 1, 1) := by decide +kernel
theorem d_L_law_205 : decode b_L_law 205 = .ok (.aload_n 0, 1) := by decide +kernel
theorem d_L_law_206 : decode b_L_law 206 = .ok (.iload 4, 2) := by decide +kernel
theorem d_L_law_208 : decode b_L_law 208 = .ok (.iconst 1, 1) := by decide +kernel
theorem d_L_law_209 : decode b_L_law 209 = .ok (.iadd, 1) := by decide +kernel
theorem d_L_law_210 : decode b_L_law 210 = .ok (.iaload, 1) := by decide +kernel
theorem d_L_law_211 : decode b_L_law 211 = .ok (.aload_n 3, 1) := by decide +kernel
theorem d_L_law_212 : decode b_L_law 212 = .ok (.invokestatic 60, 3) := by decide +kernel
theorem d_L_law_215 : decode b_L_law 215 = .ok (.istore 5, 2) := by decide +kernel
theorem d_L_law_217 : decode b_L_law 217 = .ok (.aload_n 2, 1) := by decide +kernel
theorem d_L_law_218 : decode b_L_law 218 = .ok (.aload_n 0, 1) := by decide +kernel
theorem d_L_law_219 : decode b_L_law 219 = .ok (.iload 4, 2) := by decide +kernel
theorem d_L_law_221 : decode b_L_law 221 = .ok (.iconst 1, 1) := by decide +kernel
theorem d_L_law_222 : decode b_L_law 222 = .ok (.iadd, 1) := by decide +kernel
theorem d_L_law_223 : decode b_L_law 223 = .ok (.iaload, 1) := by decide +kernel
theorem d_L_law_224 : decode b_L_law 224 = .ok (.invokevirtual 63, 3) := by decide +kernel
theorem d_L_law_227 : decode b_L_law 227 = .ok (.istore 6, 2) := by decide +kernel
theorem d_L_law_229 : decode b_L_law 229 = .ok (.aload_n 2, 1) := by decide +kernel
theorem d_L_law_230 : decode b_L_law 230 = .ok (.invokevirtual 53, 3) := by decide +kernel
theorem d_L_law_233 : decode b_L_law 233 = .ok (.iload 5, 2) := by decide +kernel
theorem d_L_law_235 : decode b_L_law 235 = .ok (.if_icmp .eq 5, 3) := by decide +kernel
theorem d_L_law_238 : decode b_L_law 238 = .ok (.iconst 0, 1) := by decide +kernel
theorem d_L_law_239 : decode b_L_law 239 = .ok (.ireturn, 1) := by decide +kernel
theorem d_L_law_240 : decode b_L_law 240 = .ok (.iload 5, 2) := by decide +kernel
theorem d_L_law_242 : decode b_L_law 242 = .ok (.ifCond .ne 15, 3) := by decide +kernel
theorem d_L_law_245 : decode b_L_law 245 = .ok (.aload_n 3, 1) := by decide +kernel
theorem d_L_law_246 : decode b_L_law 246 = .ok (.iconst 0, 1) := by decide +kernel
theorem d_L_law_247 : decode b_L_law 247 = .ok (.laload, 1) := by decide +kernel
theorem d_L_law_248 : decode b_L_law 248 = .ok (.iload 6, 2) := by decide +kernel
theorem d_L_law_250 : decode b_L_law 250 = .ok (.i2l, 1) := by decide +kernel
theorem d_L_law_251 : decode b_L_law 251 = .ok (.lcmp, 1) := by decide +kernel
theorem d_L_law_252 : decode b_L_law 252 = .ok (.ifCond .eq 5, 3) := by decide +kernel
theorem d_L_law_255 : decode b_L_law 255 = .ok (.iconst 0, 1) := by decide +kernel
theorem d_L_law_256 : decode b_L_law 256 = .ok (.ireturn, 1) := by decide +kernel
theorem d_L_law_257 : decode b_L_law 257 = .ok (.goto 289, 3) := by decide +kernel
theorem d_L_law_260 : decode b_L_law 260 = .ok (.aload_n 1, 1) := by decide +kernel
theorem d_L_law_261 : decode b_L_law 261 = .ok (.invokevirtual 64, 3) := by decide +kernel
theorem d_L_law_264 : decode b_L_law 264 = .ok (.aload_n 2, 1) := by decide +kernel
theorem d_L_law_265 : decode b_L_law 265 = .ok (.invokevirtual 67, 3) := by decide +kernel
theorem d_L_law_268 : decode b_L_law 268 = .ok (.goto 278, 3) := by decide +kernel
theorem d_L_law_271 : decode b_L_law 271 = .ok (.aload_n 1, 1) := by decide +kernel
theorem d_L_law_272 : decode b_L_law 272 = .ok (.aload_n 0, 1) := by decide +kernel
theorem d_L_law_273 : decode b_L_law 273 = .ok (.iload 4, 2) := by decide +kernel
theorem d_L_law_275 : decode b_L_law 275 = .ok (.iconst 1, 1) := by decide +kernel
theorem d_L_law_276 : decode b_L_law 276 = .ok (.iadd, 1) := by decide +kernel
theorem d_L_law_277 : decode b_L_law 277 = .ok (.iaload, 1) := by decide +kernel
theorem d_L_law_278 : decode b_L_law 278 = .ok (.ifCond .eq 7, 3) := by decide +kernel
theorem d_L_law_281 : decode b_L_law 281 = .ok (.iconst 1, 1) := by decide +kernel
theorem d_L_law_282 : decode b_L_law 282 = .ok (.goto 4, 3) := by decide +kernel
theorem d_L_law_285 : decode b_L_law 285 = .ok (.iconst 0, 1) := by decide +kernel
theorem d_L_law_286 : decode b_L_law 286 = .ok (.invokevirtual 68, 3) := by decide +kernel
theorem d_L_law_289 : decode b_L_law 289 = .ok (.aload_n 2, 1) := by decide +kernel
theorem d_L_law_290 : decode b_L_law 290 = .ok (.aload_n 0, 1) := by decide +kernel
theorem d_L_law_291 : decode b_L_law 291 = .ok (.iload 4, 2) := by decide +kernel
theorem d_L_law_293 : decode b_L_law 293 = .ok (.iconst 1, 1) := by decide +kernel
theorem d_L_law_294 : decode b_L_law 294 = .ok (.iadd, 1) := by decide +kernel
theorem d_L_law_295 : decode b_L_law 295 = .ok (.iaload, 1) := by decide +kernel
theorem d_L_law_296 : decode b_L_law 296 = .ok (.ifCond .eq 7, 3) := by decide +kernel
theorem d_L_law_299 : decode b_L_law 299 = .ok (.iconst 1, 1) := by decide +kernel
theorem d_L_law_300 : decode b_L_law 300 = .ok (.goto 4, 3) := by decide +kernel
theorem d_L_law_303 : decode b_L_law 303 = .ok (.iconst 0, 1) := by decide +kernel
theorem d_L_law_304 : decode b_L_law 304 = .ok (.invokevirtual 72, 3) := by decide +kernel
theorem d_L_law_307 : decode b_L_law 307 = .ok (.goto 239, 3) := by decide +kernel
theorem d_L_law_310 : decode b_L_law 310 = .ok (.aload_n 1, 1) := by decide +kernel
theorem d_L_law_311 : decode b_L_law 311 = .ok (.aload_n 3, 1) := by decide +kernel
theorem d_L_law_312 : decode b_L_law 312 = .ok (.invokestatic 73, 3) := by decide +kernel
theorem d_L_law_315 : decode b_L_law 315 = .ok (.istore 5, 2) := by decide +kernel
theorem d_L_law_317 : decode b_L_law 317 = .ok (.aload_n 2, 1) := by decide +kernel
theorem d_L_law_318 : decode b_L_law 318 = .ok (.invokevirtual 76, 3) := by decide +kernel
theorem d_L_law_321 : decode b_L_law 321 = .ok (.istore 6, 2) := by decide +kernel
theorem d_L_law_323 : decode b_L_law 323 = .ok (.aload_n 2, 1) := by decide +kernel
theorem d_L_law_324 : decode b_L_law 324 = .ok (.invokevirtual 53, 3) := by decide +kernel
theorem d_L_law_327 : decode b_L_law 327 = .ok (.iload 5, 2) := by decide +kernel
theorem d_L_law_329 : decode b_L_law 329 = .ok (.if_icmp .eq 5, 3) := by decide +kernel
theorem d_L_law_332 : decode b_L_law 332 = .ok (.iconst 0, 1) := by decide +kernel
theorem d_L_law_333 : decode b_L_law 333 = .ok (.ireturn, 1) := by decide +kernel
theorem d_L_law_334 : decode b_L_law 334 = .ok (.iload 5, 2) := by decide +kernel
theorem d_L_law_336 : decode b_L_law 336 = .ok (.ifCond .ne 15, 3) := by decide +kernel
theorem d_L_law_339 : decode b_L_law 339 = .ok (.aload_n 3, 1) := by decide +kernel
theorem d_L_law_340 : decode b_L_law 340 = .ok (.iconst 0, 1) := by decide +kernel
theorem d_L_law_341 : decode b_L_law 341 = .ok (.laload, 1) := by decide +kernel
theorem d_L_law_342 : decode b_L_law 342 = .ok (.iload 6, 2) := by decide +kernel
theorem d_L_law_344 : decode b_L_law 344 = .ok (.i2l, 1) := by decide +kernel
theorem d_L_law_345 : decode b_L_law 345 = .ok (.lcmp, 1) := by decide +kernel
theorem d_L_law_346 : decode b_L_law 346 = .ok (.ifCond .eq 5, 3) := by decide +kernel
theorem d_L_law_349 : decode b_L_law 349 = .ok (.iconst 0, 1) := by decide +kernel
theorem d_L_law_350 : decode b_L_law 350 = .ok (.ireturn, 1) := by decide +kernel
theorem d_L_law_351 : decode b_L_law 351 = .ok (.goto 195, 3) := by decide +kernel
theorem d_L_law_354 : decode b_L_law 354 = .ok (.aload_n 1, 1) := by decide +kernel
theorem d_L_law_355 : decode b_L_law 355 = .ok (.aload_n 0, 1) := by decide +kernel
theorem d_L_law_356 : decode b_L_law 356 = .ok (.iload 4, 2) := by decide +kernel
theorem d_L_law_358 : decode b_L_law 358 = .ok (.iconst 1, 1) := by decide +kernel
theorem d_L_law_359 : decode b_L_law 359 = .ok (.iadd, 1) := by decide +kernel
theorem d_L_law_360 : decode b_L_law 360 = .ok (.iaload, 1) := by decide +kernel
theorem d_L_law_361 : decode b_L_law 361 = .ok (.aload_n 3, 1) := by decide +kernel
theorem d_L_law_362 : decode b_L_law 362 = .ok (.invokestatic 77, 3) := by decide +kernel
theorem d_L_law_365 : decode b_L_law 365 = .ok (.istore 5, 2) := by decide +kernel
theorem d_L_law_367 : decode b_L_law 367 = .ok (.aload_n 2, 1) := by decide +kernel
theorem d_L_law_368 : decode b_L_law 368 = .ok (.aload_n 0, 1) := by decide +kernel
theorem d_L_law_369 : decode b_L_law 369 = .ok (.iload 4, 2) := by decide +kernel
theorem d_L_law_371 : decode b_L_law 371 = .ok (.iconst 1, 1) := by decide +kernel
theorem d_L_law_372 : decode b_L_law 372 = .ok (.iadd, 1) := by decide +kernel
theorem d_L_law_373 : decode b_L_law 373 = .ok (.iaload, 1) := by decide +kernel
theorem d_L_law_374 : decode b_L_law 374 = .ok (.invokevirtual 79, 3) := by decide +kernel
theorem d_L_law_377 : decode b_L_law 377 = .ok (.istore 6, 2) := by decide +kernel
theorem d_L_law_379 : decode b_L_law 379 = .ok (.aload_n 2, 1) := by decide +kernel
theorem d_L_law_380 : decode b_L_law 380 = .ok (.invokevirtual 53, 3) := by decide +kernel
theorem d_L_law_383 : decode b_L_law 383 = .ok (.iload 5, 2) := by decide +kernel
theorem d_L_law_385 : decode b_L_law 385 = .ok (.if_icmp .eq 5, 3) := by decide +kernel
theorem d_L_law_388 : decode b_L_law 388 = .ok (.iconst 0, 1) := by decide +kernel
theorem d_L_law_389 : decode b_L_law 389 = .ok (.ireturn, 1) := by decide +kernel
theorem d_L_law_390 : decode b_L_law 390 = .ok (.iload 5, 2) := by decide +kernel
theorem d_L_law_392 : decode b_L_law 392 = .ok (.ifCond .ne 15, 3) := by decide +kernel
theorem d_L_law_395 : decode b_L_law 395 = .ok (.aload_n 3, 1) := by decide +kernel
theorem d_L_law_396 : decode b_L_law 396 = .ok (.iconst 0, 1) := by decide +kernel
theorem d_L_law_397 : decode b_L_law 397 = .ok (.laload, 1) := by decide +kernel
theorem d_L_law_398 : decode b_L_law 398 = .ok (.iload 6, 2) := by decide +kernel
theorem d_L_law_400 : decode b_L_law 400 = .ok (.i2l, 1) := by decide +kernel
theorem d_L_law_401 : decode b_L_law 401 = .ok (.lcmp, 1) := by decide +kernel
theorem d_L_law_402 : decode b_L_law 402 = .ok (.ifCond .eq 5, 3) := by decide +kernel
theorem d_L_law_405 : decode b_L_law 405 = .ok (.iconst 0, 1) := by decide +kernel
theorem d_L_law_406 : decode b_L_law 406 = .ok (.ireturn, 1) := by decide +kernel
theorem d_L_law_407 : decode b_L_law 407 = .ok (.goto 139, 3) := by decide +kernel
theorem d_L_law_410 : decode b_L_law 410 = .ok (.aload_n 1, 1) := by decide +kernel
theorem d_L_law_411 : decode b_L_law 411 = .ok (.aload_n 0, 1) := by decide +kernel
theorem d_L_law_412 : decode b_L_law 412 = .ok (.iload 4, 2) := by decide +kernel
theorem d_L_law_414 : decode b_L_law 414 = .ok (.iconst 1, 1) := by decide +kernel
theorem d_L_law_415 : decode b_L_law 415 = .ok (.iadd, 1) := by decide +kernel
theorem d_L_law_416 : decode b_L_law 416 = .ok (.iaload, 1) := by decide +kernel
theorem d_L_law_417 : decode b_L_law 417 = .ok (.aload_n 0, 1) := by decide +kernel
theorem d_L_law_418 : decode b_L_law 418 = .ok (.iload 4, 2) := by decide +kernel
theorem d_L_law_420 : decode b_L_law 420 = .ok (.iconst 2, 1) := by decide +kernel
theorem d_L_law_421 : decode b_L_law 421 = .ok (.iadd, 1) := by decide +kernel
theorem d_L_law_422 : decode b_L_law 422 = .ok (.iaload, 1) := by decide +kernel
theorem d_L_law_423 : decode b_L_law 423 = .ok (.aload_n 0, 1) := by decide +kernel
theorem d_L_law_424 : decode b_L_law 424 = .ok (.iload 4, 2) := by decide +kernel
theorem d_L_law_426 : decode b_L_law 426 = .ok (.iconst 3, 1) := by decide +kernel
theorem d_L_law_427 : decode b_L_law 427 = .ok (.iadd, 1) := by decide +kernel
theorem d_L_law_428 : decode b_L_law 428 = .ok (.iaload, 1) := by decide +kernel
theorem d_L_law_429 : decode b_L_law 429 = .ok (.aload_n 3, 1) := by decide +kernel
theorem d_L_law_430 : decode b_L_law 430 = .ok (.invokestatic 80, 3) := by decide +kernel
theorem d_L_law_433 : decode b_L_law 433 = .ok (.istore 5, 2) := by decide +kernel
theorem d_L_law_435 : decode b_L_law 435 = .ok (.aload_n 2, 1) := by decide +kernel
theorem d_L_law_436 : decode b_L_law 436 = .ok (.aload_n 0, 1) := by decide +kernel
theorem d_L_law_437 : decode b_L_law 437 = .ok (.iload 4, 2) := by decide +kernel
theorem d_L_law_439 : decode b_L_law 439 = .ok (.iconst 1, 1) := by decide +kernel
theorem d_L_law_440 : decode b_L_law 440 = .ok (.iadd, 1) := by decide +kernel
theorem d_L_law_441 : decode b_L_law 441 = .ok (.iaload, 1) := by decide +kernel
theorem d_L_law_442 : decode b_L_law 442 = .ok (.aload_n 0, 1) := by decide +kernel
theorem d_L_law_443 : decode b_L_law 443 = .ok (.iload 4, 2) := by decide +kernel
theorem d_L_law_445 : decode b_L_law 445 = .ok (.iconst 2, 1) := by decide +kernel
theorem d_L_law_446 : decode b_L_law 446 = .ok (.iadd, 1) := by decide +kernel
theorem d_L_law_447 : decode b_L_law 447 = .ok (.iaload, 1) := by decide +kernel
theorem d_L_law_448 : decode b_L_law 448 = .ok (.aload_n 0, 1) := by decide +kernel
theorem d_L_law_449 : decode b_L_law 449 = .ok (.iload 4, 2) := by decide +kernel
theorem d_L_law_451 : decode b_L_law 451 = .ok (.iconst 3, 1) := by decide +kernel
theorem d_L_law_452 : decode b_L_law 452 = .ok (.iadd, 1) := by decide +kernel
theorem d_L_law_453 : decode b_L_law 453 = .ok (.iaload, 1) := by decide +kernel
theorem d_L_law_454 : decode b_L_law 454 = .ok (.invokevirtual 83, 3) := by decide +kernel
theorem d_L_law_457 : decode b_L_law 457 = .ok (.istore 6, 2) := by decide +kernel
theorem d_L_law_459 : decode b_L_law 459 = .ok (.aload_n 2, 1) := by decide +kernel
theorem d_L_law_460 : decode b_L_law 460 = .ok (.invokevirtual 53, 3) := by decide +kernel
theorem d_L_law_463 : decode b_L_law 463 = .ok (.iload 5, 2) := by decide +kernel
theorem d_L_law_465 : decode b_L_law 465 = .ok (.if_icmp .eq 5, 3) := by decide +kernel
theorem d_L_law_468 : decode b_L_law 468 = .ok (.iconst 0, 1) := by decide +kernel
theorem d_L_law_469 : decode b_L_law 469 = .ok (.ireturn, 1) := by decide +kernel
theorem d_L_law_470 : decode b_L_law 470 = .ok (.iload 5, 2) := by decide +kernel
theorem d_L_law_472 : decode b_L_law 472 = .ok (.ifCond .ne 15, 3) := by decide +kernel
theorem d_L_law_475 : decode b_L_law 475 = .ok (.aload_n 3, 1) := by decide +kernel
theorem d_L_law_476 : decode b_L_law 476 = .ok (.iconst 0, 1) := by decide +kernel
theorem d_L_law_477 : decode b_L_law 477 = .ok (.laload, 1) := by decide +kernel
theorem d_L_law_478 : decode b_L_law 478 = .ok (.iload 6, 2) := by decide +kernel
theorem d_L_law_480 : decode b_L_law 480 = .ok (.i2l, 1) := by decide +kernel
theorem d_L_law_481 : decode b_L_law 481 = .ok (.lcmp, 1) := by decide +kernel
theorem d_L_law_482 : decode b_L_law 482 = .ok (.ifCond .eq 5, 3) := by decide +kernel
theorem d_L_law_485 : decode b_L_law 485 = .ok (.iconst 0, 1) := by decide +kernel
theorem d_L_law_486 : decode b_L_law 486 = .ok (.ireturn, 1) := by decide +kernel
theorem d_L_law_487 : decode b_L_law 487 = .ok (.goto 59, 3) := by decide +kernel
theorem d_L_law_490 : decode b_L_law 490 = .ok (.aload_n 1, 1) := by decide +kernel
theorem d_L_law_491 : decode b_L_law 491 = .ok (.aload_n 0, 1) := by decide +kernel
theorem d_L_law_492 : decode b_L_law 492 = .ok (.iload 4, 2) := by decide +kernel
theorem d_L_law_494 : decode b_L_law 494 = .ok (.iconst 1, 1) := by decide +kernel
theorem d_L_law_495 : decode b_L_law 495 = .ok (.iadd, 1) := by decide +kernel
theorem d_L_law_496 : decode b_L_law 496 = .ok (.iaload, 1) := by decide +kernel
theorem d_L_law_497 : decode b_L_law 497 = .ok (.aload_n 3, 1) := by decide +kernel
theorem d_L_law_498 : decode b_L_law 498 = .ok (.invokestatic 84, 3) := by decide +kernel
theorem d_L_law_501 : decode b_L_law 501 = .ok (.istore 5, 2) := by decide +kernel
theorem d_L_law_503 : decode b_L_law 503 = .ok (.aload_n 2, 1) := by decide +kernel
theorem d_L_law_504 : decode b_L_law 504 = .ok (.aload_n 0, 1) := by decide +kernel
theorem d_L_law_505 : decode b_L_law 505 = .ok (.iload 4, 2) := by decide +kernel
theorem d_L_law_507 : decode b_L_law 507 = .ok (.iconst 1, 1) := by decide +kernel
theorem d_L_law_508 : decode b_L_law 508 = .ok (.iadd, 1) := by decide +kernel
theorem d_L_law_509 : decode b_L_law 509 = .ok (.iaload, 1) := by decide +kernel
theorem d_L_law_510 : decode b_L_law 510 = .ok (.invokevirtual 86, 3) := by decide +kernel
theorem d_L_law_513 : decode b_L_law 513 = .ok (.istore 6, 2) := by decide +kernel
theorem d_L_law_515 : decode b_L_law 515 = .ok (.aload_n 2, 1) := by decide +kernel
theorem d_L_law_516 : decode b_L_law 516 = .ok (.invokevirtual 53, 3) := by decide +kernel
theorem d_L_law_519 : decode b_L_law 519 = .ok (.iload 5, 2) := by decide +kernel
theorem d_L_law_521 : decode b_L_law 521 = .ok (.if_icmp .eq 5, 3) := by decide +kernel
theorem d_L_law_524 : decode b_L_law 524 = .ok (.iconst 0, 1) := by decide +kernel
theorem d_L_law_525 : decode b_L_law 525 = .ok (.ireturn, 1) := by decide +kernel
theorem d_L_law_526 : decode b_L_law 526 = .ok (.iload 5, 2) := by decide +kernel
theorem d_L_law_528 : decode b_L_law 528 = .ok (.ifCond .ne 15, 3) := by decide +kernel
theorem d_L_law_531 : decode b_L_law 531 = .ok (.aload_n 3, 1) := by decide +kernel
theorem d_L_law_532 : decode b_L_law 532 = .ok (.iconst 0, 1) := by decide +kernel
theorem d_L_law_533 : decode b_L_law 533 = .ok (.laload, 1) := by decide +kernel
theorem d_L_law_534 : decode b_L_law 534 = .ok (.iload 6, 2) := by decide +kernel
theorem d_L_law_536 : decode b_L_law 536 = .ok (.i2l, 1) := by decide +kernel
theorem d_L_law_537 : decode b_L_law 537 = .ok (.lcmp, 1) := by decide +kernel
theorem d_L_law_538 : decode b_L_law 538 = .ok (.ifCond .eq 5, 3) := by decide +kernel
theorem d_L_law_541 : decode b_L_law 541 = .ok (.iconst 0, 1) := by decide +kernel
theorem d_L_law_542 : decode b_L_law 542 = .ok (.ireturn, 1) := by decide +kernel
theorem d_L_law_543 : decode b_L_law 543 = .ok (.goto 3, 3) := by decide +kernel
theorem d_L_law_546 : decode b_L_law 546 = .ok (.iinc 4 4, 3) := by decide +kernel
theorem d_L_law_549 : decode b_L_law 549 = .ok (.goto (-526), 3) := by decide +kernel
theorem d_L_law_552 : decode b_L_law 552 = .ok (.iconst 1, 1) := by decide +kernel
theorem d_L_law_553 : decode b_L_law 553 = .ok (.ireturn, 1) := by decide +kernel
end
section
/-! by wip/tools/env.py: the nest's words, the class's three tables; forms of contracts (RM reads, MV and MI write), and calls by them -/
def nwL : List Cond := [.methodLinkNest "DrawCommands$Told" 17 y_D_write "DrawCommands", .methodLinkNest "DrawCommands$Shape" 19 y_D_read "DrawCommands", .methodLinkNest "DrawCommands$Told" 67 y_D_read "DrawCommands", .fieldLinkNest "DrawCommands$Told" 55 "DrawCommands$Command" "kind" "I" "DrawCommands", .fieldLinkNest "DrawCommands" 102 "DrawCommands$Command" "kind" "I" "DrawCommands", .fieldLinkNest "DrawCommands$Told" 64 "DrawCommands$Command" "many" "I" "DrawCommands", .fieldLinkNest "DrawCommands" 105 "DrawCommands$Command" "many" "I" "DrawCommands", .fieldLinkNest "DrawCommands" 163 "DrawCommands$Run" "place" "I" "DrawCommands", .fieldLinkNest "DrawCommands" 186 "DrawCommands$Run" "depth" "I" "DrawCommands", .fieldLinkNest "DrawCommands" 130 "DrawCommands$Run" "lastPlace" "I" "DrawCommands", .fieldLinkNest "DrawCommands" 133 "DrawCommands$Run" "lastDepth" "I" "DrawCommands", .fieldLinkNest "DrawCommands" 136 "DrawCommands$Run" "done" "I" "DrawCommands", .fieldLinkNest "DrawCommands" 127 "DrawCommands$Run" "refusal" "I" "DrawCommands", .fieldLinkNest "DrawCommands" 139 "DrawCommands$Run" "query" "I" "DrawCommands", .fieldLinkNest "DrawCommands" 78 "DrawCommands$Run" "over" "Z" "DrawCommands", .methodLinkNest "DrawCommands$Command" 26 y_D_write "DrawCommands", .methodLinkNest "DrawCommands$Command" 30 y_D_read "DrawCommands", .methodLinkNest "DrawCommands$Run" 48 y_D_read "DrawCommands", .methodLinkNest "DrawCommands$Run" 44 y_D_write "DrawCommands"]
theorem nw_0 : (.methodLinkNest "DrawCommands$Told" 17 y_D_write "DrawCommands" : Cond) ∈ nwL := List.mem_of_getElem? (i := 0) rfl
theorem nw_1 : (.methodLinkNest "DrawCommands$Shape" 19 y_D_read "DrawCommands" : Cond) ∈ nwL := List.mem_of_getElem? (i := 1) rfl
theorem nw_2 : (.methodLinkNest "DrawCommands$Told" 67 y_D_read "DrawCommands" : Cond) ∈ nwL := List.mem_of_getElem? (i := 2) rfl
theorem nw_3 : (.fieldLinkNest "DrawCommands$Told" 55 "DrawCommands$Command" "kind" "I" "DrawCommands" : Cond) ∈ nwL := List.mem_of_getElem? (i := 3) rfl
theorem nw_4 : (.fieldLinkNest "DrawCommands" 102 "DrawCommands$Command" "kind" "I" "DrawCommands" : Cond) ∈ nwL := List.mem_of_getElem? (i := 4) rfl
theorem nw_5 : (.fieldLinkNest "DrawCommands$Told" 64 "DrawCommands$Command" "many" "I" "DrawCommands" : Cond) ∈ nwL := List.mem_of_getElem? (i := 5) rfl
theorem nw_6 : (.fieldLinkNest "DrawCommands" 105 "DrawCommands$Command" "many" "I" "DrawCommands" : Cond) ∈ nwL := List.mem_of_getElem? (i := 6) rfl
theorem nw_7 : (.fieldLinkNest "DrawCommands" 163 "DrawCommands$Run" "place" "I" "DrawCommands" : Cond) ∈ nwL := List.mem_of_getElem? (i := 7) rfl
theorem nw_8 : (.fieldLinkNest "DrawCommands" 186 "DrawCommands$Run" "depth" "I" "DrawCommands" : Cond) ∈ nwL := List.mem_of_getElem? (i := 8) rfl
theorem nw_9 : (.fieldLinkNest "DrawCommands" 130 "DrawCommands$Run" "lastPlace" "I" "DrawCommands" : Cond) ∈ nwL := List.mem_of_getElem? (i := 9) rfl
theorem nw_10 : (.fieldLinkNest "DrawCommands" 133 "DrawCommands$Run" "lastDepth" "I" "DrawCommands" : Cond) ∈ nwL := List.mem_of_getElem? (i := 10) rfl
theorem nw_11 : (.fieldLinkNest "DrawCommands" 136 "DrawCommands$Run" "done" "I" "DrawCommands" : Cond) ∈ nwL := List.mem_of_getElem? (i := 11) rfl
theorem nw_12 : (.fieldLinkNest "DrawCommands" 127 "DrawCommands$Run" "refusal" "I" "DrawCommands" : Cond) ∈ nwL := List.mem_of_getElem? (i := 12) rfl
theorem nw_13 : (.fieldLinkNest "DrawCommands" 139 "DrawCommands$Run" "query" "I" "DrawCommands" : Cond) ∈ nwL := List.mem_of_getElem? (i := 13) rfl
theorem nw_14 : (.fieldLinkNest "DrawCommands" 78 "DrawCommands$Run" "over" "Z" "DrawCommands" : Cond) ∈ nwL := List.mem_of_getElem? (i := 14) rfl
theorem nw_15 : (.methodLinkNest "DrawCommands$Command" 26 y_D_write "DrawCommands" : Cond) ∈ nwL := List.mem_of_getElem? (i := 15) rfl
theorem nw_16 : (.methodLinkNest "DrawCommands$Command" 30 y_D_read "DrawCommands" : Cond) ∈ nwL := List.mem_of_getElem? (i := 16) rfl
theorem nw_17 : (.methodLinkNest "DrawCommands$Run" 48 y_D_read "DrawCommands" : Cond) ∈ nwL := List.mem_of_getElem? (i := 17) rfl
theorem nw_18 : (.methodLinkNest "DrawCommands$Run" 44 y_D_write "DrawCommands" : Cond) ∈ nwL := List.mem_of_getElem? (i := 18) rfl
def tLF : List Int32 := [0, 0, 4, 10, 14, 19, 24, 27, 29, 31, 37, 39, 47, 53, 54, 55, 56, 58, 61, 66, 68, 74, 76, 76, 77, 81, 86]
def tbF : Nat → Int32 := fun j => tLF.getD j 0
def tLH : List Int32 := [0, 0, 1, 1, 8, 32, 0, 1, 1, 4, 1, 2, 1, 1, 1, 1, 1, 0, 0, 0, 0, 0, 0, 0, 4, 4]
def tbH : Nat → Int32 := fun j => tLH.getD j 0
def tLA : List Int32 := [0, 7, 0, (-2147483648), 2147483647, 0, 0, 16777215, 0, 0, 255, 0, (-1023), 1023, 0, (-1023), 1023, 0, 1, 1024, 1, 1, 1024, 1, 0, 16777215, 0, 0, 16777215, 16777215, (-2147483648), 2147483647, 0, (-2147483648), 2147483647, 0, (-2147483648), 2147483647, (-1), (-2147483648), 2147483647, 0, 0, 7, 0, 0, 1048576, 0, 0, 1024, 0, 0, 4, 0, 0, 3, 0, 0, 31, 0, (-2147483648), 2147483647, 0, (-2147483648), 2147483647, 0, (-2147483648), 2147483647, 0, (-2147483648), 2147483647, 0, 0, 31, 0, 0, 32, 0, 0, 1048576, 0, 0, 1048576, (-1), 1, 256, 0, 0, 1048576, (-1), 1, 256, 0, 0, 3, 0, 0, 1048576, 0, 0, 10, 0, 0, 10, 0, 1, 11, 1, 0, 7, 0, (-1), 7, (-1), 0, 1, 0, 0, 1, 0, (-1), 7, (-1), 0, 255, 0, 0, 255, 0, 0, 255, 0, 0, 7, 0, 0, 7, 0, 0, 7, 0, 0, 14, 0, 0, 14, 0, 0, 14, 0, 0, 14, 0, (-1), 4, (-1), 0, 4, 0, (-2147483648), 2147483647, 0, (-1), 15, (-1), 0, 15, 15, 0, 3, 0, 0, 1, 0, 0, 2, 0, 0, 1048576, 0, 0, 4096, 0, 0, 2, 0, 0, 1048576, 0, 0, 4096, 0, 0, 2, 0, (-2147483648), 2147483647, 0, 0, 7, 0, 0, 1, 0, 0, 127, 0, 0, 127, 0, 1, 128, 0, 1, 128, 0, 0, 1048576, 0, 0, 2, 0, 0, 1048576, 0, 0, 256, 0, 0, 1048576, 0, 0, 3, 0, 0, 3, 0, 0, 3, 0, 0, 3, 0, 0, 3, 0, (-2147483648), 2147483647, 0, (-2147483648), 2147483647, 0, (-2147483648), 2147483647, 0, (-2147483648), 2147483647, 0]
def tbA : Nat → Int32 := fun j => tLA.getD j 0
abbrev tbT : Type := Nat × Nat × Nat
/-- a table of the class: its static field, its cells -/
def ev_t (n : String) (t N : Nat) (f : Nat → Int32) (A : Nat → Prop) (U : State) (H : Heap) : Prop := va_Z "DrawCommands$Shape" n "[I" (.ref t) A U H ∧ va_T .int t N (fun j => .int (f j)) A U H
/-- what never changes -/
def ev (tb : tbT) (A : Nat → Prop) (U : State) (H : Heap) : Prop := (∀ w ∈ nwL, va_Nw w U) ∧ ev_t "FIRST" tb.1 27 tbF A U H ∧ ev_t "HOLDERS" tb.2.1 26 tbH A U H ∧ ev_t "ARGUMENTS" tb.2.2 258 tbA A U H
theorem ev_t.go {n : String} {t N : Nat} {f : Nat → Int32} {A A1 : Nat → Prop} {u U : State} {H H1 : Heap} (h : ev_t n t N f A u H) (hvm : u.vm.Alike U.vm) (hq : ∀ a : Nat, a < H.size → ¬ A a → H1[a]? = H[a]?) (hA : ∀ q, A1 q → A q) : ev_t n t N f A1 U H1 :=
  ⟨va_Z.narrow (va_Z.moved hvm (va_Z.kept h.1 hq)) hA, va_T.narrow (va_T.moved hvm (va_T.kept h.2 hq)) hA⟩
theorem nwL_warm {s U : State} (hW : s.WarmedH U.vm) (h : ∀ w ∈ nwL, va_Nw w s) : ∀ w ∈ nwL, va_Nw w U := by
  intro w hw
  have h1 := h w hw
  simp only [nwL, List.mem_cons, List.not_mem_nil, or_false] at hw
  rcases hw with rfl | rfl | rfl | rfl | rfl | rfl | rfl | rfl | rfl | rfl | rfl | rfl | rfl | rfl | rfl | rfl | rfl | rfl | rfl <;> first | exact va_Nw.warmF hW h1 | exact va_Nw.warmM hW h1
theorem nwL_tab : nwL.all Cond.onTables = true := by decide +kernel
theorem ev.call {tb : tbT} {A A1 : Nat → Prop} {s U : State} {H : Heap} {locs : List Loc} (h : ev tb A s s.heap) (hS : va_S A s.heap H locs) (hA : ∀ q, A1 q → A q) (hU : U.heap = H) (hW : s.WarmedH U.vm) : ev tb A1 U U.heap := by
  obtain ⟨h1, h2, h3, h4⟩ := h
  have hq : ∀ a : Nat, a < s.heap.size → ¬ A a → U.heap[a]? = s.heap[a]? := fun a x y => by rw [hU]; exact hS.2.1 a x y
  exact ⟨nwL_warm hW h1, h2.go hW.alike hq hA, h3.go hW.alike hq hA, h4.go hW.alike hq hA⟩
theorem ev.blind {tb : tbT} {A : Nat → Prop} {U : State} (g : JFrame) (mk : MethodId) (a : Array Value) (h : ev tb A U U.heap) : ev tb A (U.calling g mk a) (U.calling g mk a).heap := by
  obtain ⟨h1, h2, h3, h4⟩ := h
  have hv : U.vm.Alike (U.calling g mk a).vm := Vm.Alike.refl U.vm
  have hq : ∀ q : Nat, q < U.heap.size → ¬ A q → (U.calling g mk a).heap[q]? = U.heap[q]? := fun _ _ _ => rfl
  exact ⟨fun w hw => va_Nw.same (u := U) (U := U.calling g mk a) (List.all_eq_true.mp nwL_tab w hw) (show U.vm = (U.calling g mk a).vm from rfl) (h1 w hw), h2.go hv hq (fun _ x => x), h3.go hv hq (fun _ x => x), h4.go hv hq (fun _ x => x)⟩
/-- a method that reads: its start, its contract -/
def rP (tb : tbT) (D : va_G) (ws : va_W) (tys : List (ClassId × FieldType)) : State → Prop := fun U => va_P D clX ws U.heap ∧ va_K D clX tys U ∧ ev tb (fun _ => False) U U.heap
abbrev RM (l : Launch) (y : MethodName) (w : List Cond) (rm : Room) (tb : tbT) (D : va_G) (av : List Value) (ws : va_W) (tys : List (ClassId × FieldType)) (res : Int32) : Prop := Met l y w rm (va_Pc av (rP tb D ws tys)) (vp_Si (fun r => r = res)) 0 0 (fun _ => False)
theorem rP_blind {tb : tbT} {D : va_G} {ws : va_W} {tys : List (ClassId × FieldType)} {av : List Value} : FrameBlind (va_Pc av (rP tb D ws tys)) := fun a U g mk q => by
  obtain ⟨q0, qP, qK, qE⟩ := q
  exact ⟨q0, qP, va_K.moved (u := U) (U := U.calling g mk a) (Vm.Alike.refl U.vm) qK, qE.blind g mk a⟩
/-- a method that writes -/
def mP (tb : tbT) (D : va_G) (ws : va_W) (tys : List (ClassId × FieldType)) (sz : Nat) : State → Prop := fun U => U.heap.size = sz ∧ va_P D clX ws U.heap ∧ va_K D clX tys U ∧ va_D (fun _ => True) ws ∧ ev tb (va_A ws sz) U U.heap
def mB (D : va_G) (ws ws' : va_W) (tys : List (ClassId × FieldType)) (sz : Nat) : Unit → State → Prop := fun _ t => va_P D clX ws' t.heap ∧ va_K D clX tys t ∧ va_D (va_A ws sz) ws'
abbrev MV (l : Launch) (y : MethodName) (w : List Cond) (rm : Room) (tb : tbT) (D : va_G) (av : List Value) (ws ws' : va_W) (tys : List (ClassId × FieldType)) (sz : Nat) : Prop := Met l y w rm (va_Pc av (mP tb D ws tys sz)) (va_Qv (fun _ : Unit => True) (mB D ws ws' tys sz) (va_A ws sz)) 0 0 (va_A ws sz)
abbrev MI (l : Launch) (y : MethodName) (w : List Cond) (rm : Room) (tb : tbT) (D : va_G) (av : List Value) (ws ws' : va_W) (tys : List (ClassId × FieldType)) (sz : Nat) (res : Int32) : Prop := Met l y w rm (va_Pc av (mP tb D ws tys sz)) (va_Qi (fun r (_ : Unit) => r = res) (mB D ws ws' tys sz) (va_A ws sz)) 0 0 (va_A ws sz)
theorem mP_blind {tb : tbT} {D : va_G} {ws : va_W} {tys : List (ClassId × FieldType)} {sz : Nat} {av : List Value} : FrameBlind (va_Pc av (mP tb D ws tys sz)) := fun a U g mk q => by
  obtain ⟨q0, q1, qP, qK, qD, qE⟩ := q
  exact ⟨q0, q1, qP, va_K.moved (u := U) (U := U.calling g mk a) (Vm.Alike.refl U.vm) qK, qD, qE.blind g mk a⟩
section MYC
variable {p : Program} {l : Launch} {e : Env} {R : Room} {s : State} {m : MethodId} {args : Array Value} {below : List Frame} {meth : Method} {c : Code} {H : Heap} {locs : List Loc} {cells slots : Nat} {Q : State → Prop}
variable {cc : ByteArray} {pc nL : Nat} {ls : Array Slot} {rest st0 As : List Value} {D : va_G} {A : Nat → Prop} {tb : tbT} {tys tc : List (ClassId × FieldType)} {ws wc wr wc' : va_W}
variable {y : MethodName} {bytes : ByteArray} {maxL index : Nat} {ret : Option FieldType} {rm : Room} {own : String} {res : Int32}
/-- a call's words: an ordinary link -/
theorem kB {n : Nat} (ht : ∀ w ∈ TB, w.before args s = true) (hcode : Cond.code y bytes maxL ret ∈ TB) (hini : Cond.initialized y.cls ∈ TB) (hl : Cond.methodLink own index y ∈ TB) (hd : (y.cls ≠ "java/lang/invoke/MethodHandle" ∧ y.cls ≠ "java/lang/invoke/VarHandle" ∧ (parseMethodDescriptor y.desc).map (fun d => d.parameters.length) = some n)) (hrc : rm.cells = 0) (hrs : rm.slots = 0) (hR : rm.frames + 1 ≤ R.frames ∧ 8 + (maxL + 11) + rm.locals ≤ R.locals) : CallB R s args own index y bytes maxL ret (Cond.code y bytes maxL ret :: TB) rm 0 0 n :=
  callB_of n ht (tb_gI hcode) rfl hrc hrs (ht _ hini) (ht _ hl) hd hR
/-- .. a nest mate's -/
theorem kN {n : Nat} {host : String} (ht : ∀ w ∈ TB, w.before args s = true) (hcode : Cond.code y bytes maxL ret ∈ TB) (hini : Cond.initialized y.cls ∈ TB) (hl : va_Nw (.methodLinkNest own index y host) s) (hd : (y.cls ≠ "java/lang/invoke/MethodHandle" ∧ y.cls ≠ "java/lang/invoke/VarHandle" ∧ (parseMethodDescriptor y.desc).map (fun d => d.parameters.length) = some n)) (hrc : rm.cells = 0) (hrs : rm.slots = 0) (hR : rm.frames + 1 ≤ R.frames ∧ 8 + (maxL + 11) + rm.locals ≤ R.locals) : va_CN R s args own index y host bytes maxL ret (Cond.code y bytes maxL ret :: TB) rm 0 0 n :=
  va_cnB n ht (tb_gI hcode) rfl hrc hrs hl (ht _ hini) hd hR
theorem rP_at (hP : va_P D clX ws H) (is : List Nat) (hi : is.filterMap (fun i => ws[i]?) = wc) (hK : va_K D clX tys s) (ti : List Nat) (hti : ti.filterMap (fun i => tys[i]?) = tc) (hE : ev tb A s s.heap) (hS : va_S A s.heap H locs) : ∀ U : State, U.heap = H → s.WarmedH U.vm → rP tb D wc tc U := fun U hU hW =>
  ⟨by rw [hU]; exact hP.sub is hi, va_K.moved hW.alike (hK.sub ti hti), hE.call hS (fun _ h => h.elim) hU hW⟩
theorem r_run {Qa : State → Outcome → State → Prop} {g : JFrame} {mc ms : Nat} {free : Addr → Prop} (h : va_Run p l e R s m args below meth c H locs cells slots mc ms g rest Qa free) : CallRun p l e R s m args below meth c H locs cells slots mc ms g rest Qa free := fun T hT X => by
  obtain ⟨v, st₀, t, T', L, h0, X', hL, e1, e2, hq, st⟩ := h T hT X
  exact ⟨v, st₀, t, T', L, h0, X', hL, e1, hq, st⟩
/-- a static method that reads, by a link of one's own -/
theorem rcS (hM : RM l y (Cond.code y bytes maxL ret :: TB) rm tb D As wc tc res) (F : CallFix p m c cc nL s args TB own) (hcode : Cond.code y bytes maxL ret ∈ TB) (hini : Cond.initialized y.cls ∈ TB) (hst : Cond.static y ∈ TB) (hl : Cond.methodLink own index y ∈ TB)
    (hP : va_P D clX ws H) (is : List Nat) (hi : is.filterMap (fun i => ws[i]?) = wc) (hK : va_K D clX tys s) (ti : List Nat) (hti : ti.filterMap (fun i => tys[i]?) = tc) (hE : ev tb A s s.heap) (hS : va_S A s.heap H locs)
    (hd : (y.cls ≠ "java/lang/invoke/MethodHandle" ∧ y.cls ≠ "java/lang/invoke/VarHandle" ∧ (parseMethodDescriptor y.desc).map (fun d => d.parameters.length) = some As.length)) (hrc : rm.cells = 0) (hrs : rm.slots = 0) (hR : rm.frames + 1 ≤ R.frames ∧ 8 + (maxL + 11) + rm.locals ≤ R.locals) (hcs : cells + 0 ≤ R.cells ∧ slots + 0 ≤ R.slots)
    (hsz : ls.size = nL) (hstk : st0 = As.reverse ++ rest) (hrm : (rest.map fun v => v.category).sum ≤ 8) (hdg : decode cc pc = .ok (.invokestatic index, 3))
    (kk : W p l e R s m args below meth c H locs cells slots Q (F0 m (pc + 3) ls (.int res :: rest))) : W p l e R s m args below meth c H locs cells slots Q (F0 m pc ls st0) :=
  vp_callSi (r_run (va_runS (g := F0 m pc ls st0) F hM ⟨kB F.2.2.2.2 hcode hini hl hd hrc hrs hR, F.2.2.2.2 _ hst⟩ ⟨rP_blind, fun U hU hW => ⟨rfl, rP_at hP is hi hK ti hti hE hS U hU hW⟩⟩ rfl rfl hsz hstk (lv_room hrm) hdg hcs)) (fun _ e9 => by rw [e9]; exact kk)
/-- .. by a nest mate's -/
theorem rcSN {host : String} (hM : RM l y (Cond.code y bytes maxL ret :: TB) rm tb D As wc tc res) (F : CallFix p m c cc nL s args TB own) (hcode : Cond.code y bytes maxL ret ∈ TB) (hini : Cond.initialized y.cls ∈ TB) (hst : Cond.static y ∈ TB) (hl : Cond.methodLinkNest own index y host ∈ nwL)
    (hP : va_P D clX ws H) (is : List Nat) (hi : is.filterMap (fun i => ws[i]?) = wc) (hK : va_K D clX tys s) (ti : List Nat) (hti : ti.filterMap (fun i => tys[i]?) = tc) (hE : ev tb A s s.heap) (hS : va_S A s.heap H locs)
    (hd : (y.cls ≠ "java/lang/invoke/MethodHandle" ∧ y.cls ≠ "java/lang/invoke/VarHandle" ∧ (parseMethodDescriptor y.desc).map (fun d => d.parameters.length) = some As.length)) (hrc : rm.cells = 0) (hrs : rm.slots = 0) (hR : rm.frames + 1 ≤ R.frames ∧ 8 + (maxL + 11) + rm.locals ≤ R.locals) (hcs : cells + 0 ≤ R.cells ∧ slots + 0 ≤ R.slots)
    (hsz : ls.size = nL) (hstk : st0 = As.reverse ++ rest) (hrm : (rest.map fun v => v.category).sum ≤ 8) (hdg : decode cc pc = .ok (.invokestatic index, 3))
    (kk : W p l e R s m args below meth c H locs cells slots Q (F0 m (pc + 3) ls (.int res :: rest))) : W p l e R s m args below meth c H locs cells slots Q (F0 m pc ls st0) :=
  vp_callSi (r_run (va_runSN (g := F0 m pc ls st0) F hM ⟨kN F.2.2.2.2 hcode hini (hE.1 _ hl) hd hrc hrs hR, F.2.2.2.2 _ hst, trivial⟩ ⟨rP_blind, fun U hU hW => ⟨rfl, rP_at hP is hi hK ti hti hE hS U hU hW⟩⟩ rfl rfl hsz hstk (lv_room hrm) hdg hcs)) (fun _ e9 => by rw [e9]; exact kk)
/-- a method of an object that reads -/
theorem rcV {b q0 ci : Nat} {fs : List Value} {q : vw_C} (hM : RM l y (Cond.code y bytes maxL ret :: TB) rm tb D (.ref b :: As) wc tc res) (F : CallFix p m c cc nL s args TB own) (hcode : Cond.code y bytes maxL ret ∈ TB) (hini : Cond.initialized y.cls ∈ TB) (hin : Cond.instanceMethod y ∈ TB) (hse : Cond.selects q.1 y y ∈ TB) (hl : Cond.methodLink own index y ∈ TB)
    (hP : va_P D clX ws H) (is : List Nat) (hi : is.filterMap (fun i => ws[i]?) = wc) (hK : va_K D clX tys s) (ti : List Nat) (hti : ti.filterMap (fun i => tys[i]?) = tc) (hE : ev tb A s s.heap) (hS : va_S A s.heap H locs) (hq : ws[q0]? = some (b, .inr (ci, fs))) (hcl : clX[ci]? = some q)
    (hd : (y.cls ≠ "java/lang/invoke/MethodHandle" ∧ y.cls ≠ "java/lang/invoke/VarHandle" ∧ (parseMethodDescriptor y.desc).map (fun d => d.parameters.length) = some As.length)) (hrc : rm.cells = 0) (hrs : rm.slots = 0) (hR : rm.frames + 1 ≤ R.frames ∧ 8 + (maxL + 11) + rm.locals ≤ R.locals) (hcs : cells + 0 ≤ R.cells ∧ slots + 0 ≤ R.slots)
    (hsz : ls.size = nL) (hstk : st0 = As.reverse ++ .ref b :: rest) (hrm : (rest.map fun v => v.category).sum ≤ 8) (hdg : decode cc pc = .ok (.invokevirtual index, 3))
    (kk : W p l e R s m args below meth c H locs cells slots Q (F0 m (pc + 3) ls (.int res :: rest))) : W p l e R s m args below meth c H locs cells slots Q (F0 m pc ls st0) :=
  vp_callSi (r_run (va_runV (g := F0 m pc ls st0) (C := q.1) F hM ⟨kB F.2.2.2.2 hcode hini hl hd hrc hrs hR, F.2.2.2.2 _ hin, F.2.2.2.2 _ hse⟩ ⟨rP_blind, va_recv hK hP hcl hq, fun U hU hW => ⟨rfl, rP_at hP is hi hK ti hti hE hS U hU hW⟩⟩ rfl rfl hsz hstk (lv_room hrm) hdg hcs)) (fun _ e9 => by rw [e9]; exact kk)
theorem mP_at (hP : va_P D clX ws H) (hD : va_D A ws) (isC : List Nat) (hn : va_nd isC = true) (hC : isC.map (fun i => ws[i]?) = wc.map some) (hK : va_K D clX tys s) (ti : List Nat) (hti : ti.filterMap (fun i => tys[i]?) = tc) (hE : ev tb A s s.heap) (hS : va_S A s.heap H locs) (hA : ∀ q, s.heap.size ≤ q → A q) : ∀ U : State, U.heap = H → s.WarmedH U.vm → mP tb D wc tc H.size U := fun U hU hW => by
  have hs : isC.filterMap (fun i => ws[i]?) = wc := by
    have h1 : (isC.map (fun i => ws[i]?)).filterMap id = (wc.map some).filterMap id := by rw [hC]
    simpa [List.filterMap_map, Function.comp_def] using h1
  exact ⟨by rw [hU], by rw [hU]; exact hP.sub isC hs, va_K.moved hW.alike (hK.sub ti hti), (hD.sub isC hn hC).weaken (fun _ _ _ _ => trivial), hE.call hS (va_free (wc := wc) hD hS hA isC hC) hU hW⟩
/-- what a call that writes leaves -/
theorem m_end {sz : Nat} (hP : va_P D clX ws H) (hD : va_D A ws) (isC isR : List Nat) (hn : va_nd isC = true) (hC : isC.map (fun i => ws[i]?) = wc.map some) (hRr : isR.map (fun i => ws[i]?) = wr.map some) (hnR : va_nd isR = true) (hdis : ∀ i ∈ isR, i ∉ isC) (hS : va_S A s.heap H locs) (hA : ∀ q, s.heap.size ≤ q → A q) (hsz : sz = H.size) {t : State} {H1 : Heap} (ht : t.heap = H1) (hB : mB D wc wc' tc sz () t) (hk : ∀ q : Nat, q < H.size → ¬ va_A wc sz q → H1[q]? = H[q]?) : va_P D clX (wr ++ wc') H1 ∧ va_D A (wr ++ wc') := by
  subst hsz
  obtain ⟨hP1, -, hD1⟩ := hB
  rw [ht] at hP1
  exact va_join hP hD isC isR hC hRr hnR hdis hk (va_free (wc := wc) hD hS hA isC hC) hP1 hD1
theorem mcSv (hM : ∀ sz, MV l y (Cond.code y bytes maxL ret :: TB) rm tb D As wc wc' tc sz) (F : CallFix p m c cc nL s args TB own) (hcode : Cond.code y bytes maxL ret ∈ TB) (hini : Cond.initialized y.cls ∈ TB) (hst : Cond.static y ∈ TB) (hl : Cond.methodLink own index y ∈ TB)
    (hP : va_P D clX ws H) (hD : va_D A ws) (isC isR : List Nat) (hC : isC.map (fun i => ws[i]?) = wc.map some) (hRr : isR.map (fun i => ws[i]?) = wr.map some) (hn : va_nd isC = true) (hnR : va_nd isR = true) (hdis : ∀ i ∈ isR, i ∉ isC) (hK : va_K D clX tys s) (ti : List Nat) (hti : ti.filterMap (fun i => tys[i]?) = tc) (hE : ev tb A s s.heap) (hS : va_S A s.heap H locs) (hA : ∀ q, s.heap.size ≤ q → A q)
    (hd : (y.cls ≠ "java/lang/invoke/MethodHandle" ∧ y.cls ≠ "java/lang/invoke/VarHandle" ∧ (parseMethodDescriptor y.desc).map (fun d => d.parameters.length) = some As.length)) (hrc : rm.cells = 0) (hrs : rm.slots = 0) (hR : rm.frames + 1 ≤ R.frames ∧ 8 + (maxL + 11) + rm.locals ≤ R.locals) (hcs : cells + 0 ≤ R.cells ∧ slots + 0 ≤ R.slots)
    (hsz : ls.size = nL) (hstk : st0 = As.reverse ++ rest) (hrm : (rest.map fun v => v.category).sum ≤ 8) (hdg : decode cc pc = .ok (.invokestatic index, 3))
    (kk : ∀ (H1 : Heap) (locs1 : List Loc), va_P D clX (wr ++ wc') H1 → va_D A (wr ++ wc') → va_S A s.heap H1 locs1 → W p l e R s m args below meth c H1 locs1 cells slots Q (F0 m (pc + 3) ls rest)) : W p l e R s m args below meth c H locs cells slots Q (F0 m pc ls st0) := by
  refine va_callv (va_runS (g := F0 m pc ls st0) F (hM H.size) ⟨kB F.2.2.2.2 hcode hini hl hd hrc hrs hR, F.2.2.2.2 _ hst⟩ ⟨mP_blind, fun U hU hW => ⟨rfl, mP_at hP hD isC hn hC hK ti hti hE hS hA U hU hW⟩⟩ rfl rfl hsz hstk (lv_room hrm) hdg hcs) hS (fun q9 _ h => va_free (wc := wc) hD hS hA isC hC q9 h) (va_free (wc := wc) hD hS hA isC hC) (fun u t H1 locs1 ht hvm hw hB hz1 hk1 hS1 => ?_)
  obtain ⟨h1, h2⟩ := m_end hP hD isC isR hn hC hRr hnR hdis hS hA rfl ht hB hk1
  exact kk H1 locs1 h1 h2 hS1
theorem mcSi (hM : ∀ sz, MI l y (Cond.code y bytes maxL ret :: TB) rm tb D As wc wc' tc sz res) (F : CallFix p m c cc nL s args TB own) (hcode : Cond.code y bytes maxL ret ∈ TB) (hini : Cond.initialized y.cls ∈ TB) (hst : Cond.static y ∈ TB) (hl : Cond.methodLink own index y ∈ TB)
    (hP : va_P D clX ws H) (hD : va_D A ws) (isC isR : List Nat) (hC : isC.map (fun i => ws[i]?) = wc.map some) (hRr : isR.map (fun i => ws[i]?) = wr.map some) (hn : va_nd isC = true) (hnR : va_nd isR = true) (hdis : ∀ i ∈ isR, i ∉ isC) (hK : va_K D clX tys s) (ti : List Nat) (hti : ti.filterMap (fun i => tys[i]?) = tc) (hE : ev tb A s s.heap) (hS : va_S A s.heap H locs) (hA : ∀ q, s.heap.size ≤ q → A q)
    (hd : (y.cls ≠ "java/lang/invoke/MethodHandle" ∧ y.cls ≠ "java/lang/invoke/VarHandle" ∧ (parseMethodDescriptor y.desc).map (fun d => d.parameters.length) = some As.length)) (hrc : rm.cells = 0) (hrs : rm.slots = 0) (hR : rm.frames + 1 ≤ R.frames ∧ 8 + (maxL + 11) + rm.locals ≤ R.locals) (hcs : cells + 0 ≤ R.cells ∧ slots + 0 ≤ R.slots)
    (hsz : ls.size = nL) (hstk : st0 = As.reverse ++ rest) (hrm : (rest.map fun v => v.category).sum ≤ 8) (hdg : decode cc pc = .ok (.invokestatic index, 3))
    (kk : ∀ (H1 : Heap) (locs1 : List Loc), va_P D clX (wr ++ wc') H1 → va_D A (wr ++ wc') → va_S A s.heap H1 locs1 → W p l e R s m args below meth c H1 locs1 cells slots Q (F0 m (pc + 3) ls (.int res :: rest))) : W p l e R s m args below meth c H locs cells slots Q (F0 m pc ls st0) := by
  refine va_calli (va_runS (g := F0 m pc ls st0) F (hM H.size) ⟨kB F.2.2.2.2 hcode hini hl hd hrc hrs hR, F.2.2.2.2 _ hst⟩ ⟨mP_blind, fun U hU hW => ⟨rfl, mP_at hP hD isC hn hC hK ti hti hE hS hA U hU hW⟩⟩ rfl rfl hsz hstk (lv_room hrm) hdg hcs) hS (fun q9 _ h => va_free (wc := wc) hD hS hA isC hC q9 h) (va_free (wc := wc) hD hS hA isC hC) (fun r u t H1 locs1 ht hvm hw hB hz1 hk1 hS1 => ?_)
  obtain ⟨h1, h2⟩ := m_end hP hD isC isR hn hC hRr hnR hdis hS hA rfl ht hB hk1
  rw [hw]
  exact kk H1 locs1 h1 h2 hS1
theorem mcSNv {host : String} (hM : ∀ sz, MV l y (Cond.code y bytes maxL ret :: TB) rm tb D As wc wc' tc sz) (F : CallFix p m c cc nL s args TB own) (hcode : Cond.code y bytes maxL ret ∈ TB) (hini : Cond.initialized y.cls ∈ TB) (hst : Cond.static y ∈ TB) (hl : Cond.methodLinkNest own index y host ∈ nwL)
    (hP : va_P D clX ws H) (hD : va_D A ws) (isC isR : List Nat) (hC : isC.map (fun i => ws[i]?) = wc.map some) (hRr : isR.map (fun i => ws[i]?) = wr.map some) (hn : va_nd isC = true) (hnR : va_nd isR = true) (hdis : ∀ i ∈ isR, i ∉ isC) (hK : va_K D clX tys s) (ti : List Nat) (hti : ti.filterMap (fun i => tys[i]?) = tc) (hE : ev tb A s s.heap) (hS : va_S A s.heap H locs) (hA : ∀ q, s.heap.size ≤ q → A q)
    (hd : (y.cls ≠ "java/lang/invoke/MethodHandle" ∧ y.cls ≠ "java/lang/invoke/VarHandle" ∧ (parseMethodDescriptor y.desc).map (fun d => d.parameters.length) = some As.length)) (hrc : rm.cells = 0) (hrs : rm.slots = 0) (hR : rm.frames + 1 ≤ R.frames ∧ 8 + (maxL + 11) + rm.locals ≤ R.locals) (hcs : cells + 0 ≤ R.cells ∧ slots + 0 ≤ R.slots)
    (hsz : ls.size = nL) (hstk : st0 = As.reverse ++ rest) (hrm : (rest.map fun v => v.category).sum ≤ 8) (hdg : decode cc pc = .ok (.invokestatic index, 3))
    (kk : ∀ (H1 : Heap) (locs1 : List Loc), va_P D clX (wr ++ wc') H1 → va_D A (wr ++ wc') → va_S A s.heap H1 locs1 → W p l e R s m args below meth c H1 locs1 cells slots Q (F0 m (pc + 3) ls rest)) : W p l e R s m args below meth c H locs cells slots Q (F0 m pc ls st0) := by
  refine va_callv (va_runSN (g := F0 m pc ls st0) F (hM H.size) ⟨kN F.2.2.2.2 hcode hini (hE.1 _ hl) hd hrc hrs hR, F.2.2.2.2 _ hst, trivial⟩ ⟨mP_blind, fun U hU hW => ⟨rfl, mP_at hP hD isC hn hC hK ti hti hE hS hA U hU hW⟩⟩ rfl rfl hsz hstk (lv_room hrm) hdg hcs) hS (fun q9 _ h => va_free (wc := wc) hD hS hA isC hC q9 h) (va_free (wc := wc) hD hS hA isC hC) (fun u t H1 locs1 ht hvm hw hB hz1 hk1 hS1 => ?_)
  obtain ⟨h1, h2⟩ := m_end hP hD isC isR hn hC hRr hnR hdis hS hA rfl ht hB hk1
  exact kk H1 locs1 h1 h2 hS1
theorem mcSNi {host : String} (hM : ∀ sz, MI l y (Cond.code y bytes maxL ret :: TB) rm tb D As wc wc' tc sz res) (F : CallFix p m c cc nL s args TB own) (hcode : Cond.code y bytes maxL ret ∈ TB) (hini : Cond.initialized y.cls ∈ TB) (hst : Cond.static y ∈ TB) (hl : Cond.methodLinkNest own index y host ∈ nwL)
    (hP : va_P D clX ws H) (hD : va_D A ws) (isC isR : List Nat) (hC : isC.map (fun i => ws[i]?) = wc.map some) (hRr : isR.map (fun i => ws[i]?) = wr.map some) (hn : va_nd isC = true) (hnR : va_nd isR = true) (hdis : ∀ i ∈ isR, i ∉ isC) (hK : va_K D clX tys s) (ti : List Nat) (hti : ti.filterMap (fun i => tys[i]?) = tc) (hE : ev tb A s s.heap) (hS : va_S A s.heap H locs) (hA : ∀ q, s.heap.size ≤ q → A q)
    (hd : (y.cls ≠ "java/lang/invoke/MethodHandle" ∧ y.cls ≠ "java/lang/invoke/VarHandle" ∧ (parseMethodDescriptor y.desc).map (fun d => d.parameters.length) = some As.length)) (hrc : rm.cells = 0) (hrs : rm.slots = 0) (hR : rm.frames + 1 ≤ R.frames ∧ 8 + (maxL + 11) + rm.locals ≤ R.locals) (hcs : cells + 0 ≤ R.cells ∧ slots + 0 ≤ R.slots)
    (hsz : ls.size = nL) (hstk : st0 = As.reverse ++ rest) (hrm : (rest.map fun v => v.category).sum ≤ 8) (hdg : decode cc pc = .ok (.invokestatic index, 3))
    (kk : ∀ (H1 : Heap) (locs1 : List Loc), va_P D clX (wr ++ wc') H1 → va_D A (wr ++ wc') → va_S A s.heap H1 locs1 → W p l e R s m args below meth c H1 locs1 cells slots Q (F0 m (pc + 3) ls (.int res :: rest))) : W p l e R s m args below meth c H locs cells slots Q (F0 m pc ls st0) := by
  refine va_calli (va_runSN (g := F0 m pc ls st0) F (hM H.size) ⟨kN F.2.2.2.2 hcode hini (hE.1 _ hl) hd hrc hrs hR, F.2.2.2.2 _ hst, trivial⟩ ⟨mP_blind, fun U hU hW => ⟨rfl, mP_at hP hD isC hn hC hK ti hti hE hS hA U hU hW⟩⟩ rfl rfl hsz hstk (lv_room hrm) hdg hcs) hS (fun q9 _ h => va_free (wc := wc) hD hS hA isC hC q9 h) (va_free (wc := wc) hD hS hA isC hC) (fun r u t H1 locs1 ht hvm hw hB hz1 hk1 hS1 => ?_)
  obtain ⟨h1, h2⟩ := m_end hP hD isC isR hn hC hRr hnR hdis hS hA rfl ht hB hk1
  rw [hw]
  exact kk H1 locs1 h1 h2 hS1
theorem mcVv {b q0 ci : Nat} {fs : List Value} {q : vw_C} (hM : ∀ sz, MV l y (Cond.code y bytes maxL ret :: TB) rm tb D (.ref b :: As) wc wc' tc sz) (F : CallFix p m c cc nL s args TB own) (hcode : Cond.code y bytes maxL ret ∈ TB) (hini : Cond.initialized y.cls ∈ TB) (hin : Cond.instanceMethod y ∈ TB) (hse : Cond.selects q.1 y y ∈ TB) (hl : Cond.methodLink own index y ∈ TB)
    (hP : va_P D clX ws H) (hD : va_D A ws) (isC isR : List Nat) (hC : isC.map (fun i => ws[i]?) = wc.map some) (hRr : isR.map (fun i => ws[i]?) = wr.map some) (hn : va_nd isC = true) (hnR : va_nd isR = true) (hdis : ∀ i ∈ isR, i ∉ isC) (hK : va_K D clX tys s) (ti : List Nat) (hti : ti.filterMap (fun i => tys[i]?) = tc) (hE : ev tb A s s.heap) (hS : va_S A s.heap H locs) (hA : ∀ q, s.heap.size ≤ q → A q) (hq : ws[q0]? = some (b, .inr (ci, fs))) (hcl : clX[ci]? = some q)
    (hd : (y.cls ≠ "java/lang/invoke/MethodHandle" ∧ y.cls ≠ "java/lang/invoke/VarHandle" ∧ (parseMethodDescriptor y.desc).map (fun d => d.parameters.length) = some As.length)) (hrc : rm.cells = 0) (hrs : rm.slots = 0) (hR : rm.frames + 1 ≤ R.frames ∧ 8 + (maxL + 11) + rm.locals ≤ R.locals) (hcs : cells + 0 ≤ R.cells ∧ slots + 0 ≤ R.slots)
    (hsz : ls.size = nL) (hstk : st0 = As.reverse ++ .ref b :: rest) (hrm : (rest.map fun v => v.category).sum ≤ 8) (hdg : decode cc pc = .ok (.invokevirtual index, 3))
    (kk : ∀ (H1 : Heap) (locs1 : List Loc), va_P D clX (wr ++ wc') H1 → va_D A (wr ++ wc') → va_S A s.heap H1 locs1 → W p l e R s m args below meth c H1 locs1 cells slots Q (F0 m (pc + 3) ls rest)) : W p l e R s m args below meth c H locs cells slots Q (F0 m pc ls st0) := by
  refine va_callv (va_runV (g := F0 m pc ls st0) (C := q.1) F (hM H.size) ⟨kB F.2.2.2.2 hcode hini hl hd hrc hrs hR, F.2.2.2.2 _ hin, F.2.2.2.2 _ hse⟩ ⟨mP_blind, va_recv hK hP hcl hq, fun U hU hW => ⟨rfl, mP_at hP hD isC hn hC hK ti hti hE hS hA U hU hW⟩⟩ rfl rfl hsz hstk (lv_room hrm) hdg hcs) hS (fun q9 _ h => va_free (wc := wc) hD hS hA isC hC q9 h) (va_free (wc := wc) hD hS hA isC hC) (fun u t H1 locs1 ht hvm hw hB hz1 hk1 hS1 => ?_)
  obtain ⟨h1, h2⟩ := m_end hP hD isC isR hn hC hRr hnR hdis hS hA rfl ht hB hk1
  exact kk H1 locs1 h1 h2 hS1
theorem mcVi {b q0 ci : Nat} {fs : List Value} {q : vw_C} (hM : ∀ sz, MI l y (Cond.code y bytes maxL ret :: TB) rm tb D (.ref b :: As) wc wc' tc sz res) (F : CallFix p m c cc nL s args TB own) (hcode : Cond.code y bytes maxL ret ∈ TB) (hini : Cond.initialized y.cls ∈ TB) (hin : Cond.instanceMethod y ∈ TB) (hse : Cond.selects q.1 y y ∈ TB) (hl : Cond.methodLink own index y ∈ TB)
    (hP : va_P D clX ws H) (hD : va_D A ws) (isC isR : List Nat) (hC : isC.map (fun i => ws[i]?) = wc.map some) (hRr : isR.map (fun i => ws[i]?) = wr.map some) (hn : va_nd isC = true) (hnR : va_nd isR = true) (hdis : ∀ i ∈ isR, i ∉ isC) (hK : va_K D clX tys s) (ti : List Nat) (hti : ti.filterMap (fun i => tys[i]?) = tc) (hE : ev tb A s s.heap) (hS : va_S A s.heap H locs) (hA : ∀ q, s.heap.size ≤ q → A q) (hq : ws[q0]? = some (b, .inr (ci, fs))) (hcl : clX[ci]? = some q)
    (hd : (y.cls ≠ "java/lang/invoke/MethodHandle" ∧ y.cls ≠ "java/lang/invoke/VarHandle" ∧ (parseMethodDescriptor y.desc).map (fun d => d.parameters.length) = some As.length)) (hrc : rm.cells = 0) (hrs : rm.slots = 0) (hR : rm.frames + 1 ≤ R.frames ∧ 8 + (maxL + 11) + rm.locals ≤ R.locals) (hcs : cells + 0 ≤ R.cells ∧ slots + 0 ≤ R.slots)
    (hsz : ls.size = nL) (hstk : st0 = As.reverse ++ .ref b :: rest) (hrm : (rest.map fun v => v.category).sum ≤ 8) (hdg : decode cc pc = .ok (.invokevirtual index, 3))
    (kk : ∀ (H1 : Heap) (locs1 : List Loc), va_P D clX (wr ++ wc') H1 → va_D A (wr ++ wc') → va_S A s.heap H1 locs1 → W p l e R s m args below meth c H1 locs1 cells slots Q (F0 m (pc + 3) ls (.int res :: rest))) : W p l e R s m args below meth c H locs cells slots Q (F0 m pc ls st0) := by
  refine va_calli (va_runV (g := F0 m pc ls st0) (C := q.1) F (hM H.size) ⟨kB F.2.2.2.2 hcode hini hl hd hrc hrs hR, F.2.2.2.2 _ hin, F.2.2.2.2 _ hse⟩ ⟨mP_blind, va_recv hK hP hcl hq, fun U hU hW => ⟨rfl, mP_at hP hD isC hn hC hK ti hti hE hS hA U hU hW⟩⟩ rfl rfl hsz hstk (lv_room hrm) hdg hcs) hS (fun q9 _ h => va_free (wc := wc) hD hS hA isC hC q9 h) (va_free (wc := wc) hD hS hA isC hC) (fun r u t H1 locs1 ht hvm hw hB hz1 hk1 hS1 => ?_)
  obtain ⟨h1, h2⟩ := m_end hP hD isC isR hn hC hRr hnR hdis hS hA rfl ht hB hk1
  rw [hw]
  exact kk H1 locs1 h1 h2 hS1
end MYC
end
section
theorem hd_D_init : y_D_init.cls ≠ "java/lang/invoke/MethodHandle" ∧ y_D_init.cls ≠ "java/lang/invoke/VarHandle" ∧ (parseMethodDescriptor y_D_init.desc).map (fun d => d.parameters.length) = some 0 := by decide +kernel
theorem hd_T_init : y_T_init.cls ≠ "java/lang/invoke/MethodHandle" ∧ y_T_init.cls ≠ "java/lang/invoke/VarHandle" ∧ (parseMethodDescriptor y_T_init.desc).map (fun d => d.parameters.length) = some 0 := by decide +kernel
theorem hd_D_write : y_D_write.cls ≠ "java/lang/invoke/MethodHandle" ∧ y_D_write.cls ≠ "java/lang/invoke/VarHandle" ∧ (parseMethodDescriptor y_D_write.desc).map (fun d => d.parameters.length) = some 3 := by decide +kernel
theorem hd_S_holders : y_S_holders.cls ≠ "java/lang/invoke/MethodHandle" ∧ y_S_holders.cls ≠ "java/lang/invoke/VarHandle" ∧ (parseMethodDescriptor y_S_holders.desc).map (fun d => d.parameters.length) = some 1 := by decide +kernel
theorem hd_D_read : y_D_read.cls ≠ "java/lang/invoke/MethodHandle" ∧ y_D_read.cls ≠ "java/lang/invoke/VarHandle" ∧ (parseMethodDescriptor y_D_read.desc).map (fun d => d.parameters.length) = some 2 := by decide +kernel
theorem hd_S_fixed : y_S_fixed.cls ≠ "java/lang/invoke/MethodHandle" ∧ y_S_fixed.cls ≠ "java/lang/invoke/VarHandle" ∧ (parseMethodDescriptor y_S_fixed.desc).map (fun d => d.parameters.length) = some 1 := by decide +kernel
theorem hd_S_isKind : y_S_isKind.cls ≠ "java/lang/invoke/MethodHandle" ∧ y_S_isKind.cls ≠ "java/lang/invoke/VarHandle" ∧ (parseMethodDescriptor y_S_isKind.desc).map (fun d => d.parameters.length) = some 1 := by decide +kernel
theorem hd_T_forget : y_T_forget.cls ≠ "java/lang/invoke/MethodHandle" ∧ y_T_forget.cls ≠ "java/lang/invoke/VarHandle" ∧ (parseMethodDescriptor y_T_forget.desc).map (fun d => d.parameters.length) = some 0 := by decide +kernel
theorem hd_T_forgetOne : y_T_forgetOne.cls ≠ "java/lang/invoke/MethodHandle" ∧ y_T_forgetOne.cls ≠ "java/lang/invoke/VarHandle" ∧ (parseMethodDescriptor y_T_forgetOne.desc).map (fun d => d.parameters.length) = some 2 := by decide +kernel
theorem hd_T_placeOf : y_T_placeOf.cls ≠ "java/lang/invoke/MethodHandle" ∧ y_T_placeOf.cls ≠ "java/lang/invoke/VarHandle" ∧ (parseMethodDescriptor y_T_placeOf.desc).map (fun d => d.parameters.length) = some 3 := by decide +kernel
theorem hd_S_untold : y_S_untold.cls ≠ "java/lang/invoke/MethodHandle" ∧ y_S_untold.cls ≠ "java/lang/invoke/VarHandle" ∧ (parseMethodDescriptor y_S_untold.desc).map (fun d => d.parameters.length) = some 2 := by decide +kernel
theorem hd_S_column : y_S_column.cls ≠ "java/lang/invoke/MethodHandle" ∧ y_S_column.cls ≠ "java/lang/invoke/VarHandle" ∧ (parseMethodDescriptor y_S_column.desc).map (fun d => d.parameters.length) = some 3 := by decide +kernel
theorem hd_T_namesItsHolder : y_T_namesItsHolder.cls ≠ "java/lang/invoke/MethodHandle" ∧ y_T_namesItsHolder.cls ≠ "java/lang/invoke/VarHandle" ∧ (parseMethodDescriptor y_T_namesItsHolder.desc).map (fun d => d.parameters.length) = some 1 := by decide +kernel
theorem hd_C_init : y_C_init.cls ≠ "java/lang/invoke/MethodHandle" ∧ y_C_init.cls ≠ "java/lang/invoke/VarHandle" ∧ (parseMethodDescriptor y_C_init.desc).map (fun d => d.parameters.length) = some 0 := by decide +kernel
theorem hd_R_init : y_R_init.cls ≠ "java/lang/invoke/MethodHandle" ∧ y_R_init.cls ≠ "java/lang/invoke/VarHandle" ∧ (parseMethodDescriptor y_R_init.desc).map (fun d => d.parameters.length) = some 0 := by decide +kernel
theorem hd_R_restart : y_R_restart.cls ≠ "java/lang/invoke/MethodHandle" ∧ y_R_restart.cls ≠ "java/lang/invoke/VarHandle" ∧ (parseMethodDescriptor y_R_restart.desc).map (fun d => d.parameters.length) = some 0 := by decide +kernel
theorem hd_D_clear : y_D_clear.cls ≠ "java/lang/invoke/MethodHandle" ∧ y_D_clear.cls ≠ "java/lang/invoke/VarHandle" ∧ (parseMethodDescriptor y_D_clear.desc).map (fun d => d.parameters.length) = some 0 := by decide +kernel
theorem hd_D_startAnew : y_D_startAnew.cls ≠ "java/lang/invoke/MethodHandle" ∧ y_D_startAnew.cls ≠ "java/lang/invoke/VarHandle" ∧ (parseMethodDescriptor y_D_startAnew.desc).map (fun d => d.parameters.length) = some 0 := by decide +kernel
theorem hd_C_forget : y_C_forget.cls ≠ "java/lang/invoke/MethodHandle" ∧ y_C_forget.cls ≠ "java/lang/invoke/VarHandle" ∧ (parseMethodDescriptor y_C_forget.desc).map (fun d => d.parameters.length) = some 0 := by decide +kernel
theorem hd_C_become : y_C_become.cls ≠ "java/lang/invoke/MethodHandle" ∧ y_C_become.cls ≠ "java/lang/invoke/VarHandle" ∧ (parseMethodDescriptor y_C_become.desc).map (fun d => d.parameters.length) = some 2 := by decide +kernel
theorem hd_D_begin : y_D_begin.cls ≠ "java/lang/invoke/MethodHandle" ∧ y_D_begin.cls ≠ "java/lang/invoke/VarHandle" ∧ (parseMethodDescriptor y_D_begin.desc).map (fun d => d.parameters.length) = some 1 := by decide +kernel
theorem hd_L_word : y_L_word.cls ≠ "java/lang/invoke/MethodHandle" ∧ y_L_word.cls ≠ "java/lang/invoke/VarHandle" ∧ (parseMethodDescriptor y_L_word.desc).map (fun d => d.parameters.length) = some 4 := by decide +kernel
theorem hd_D_word : y_D_word.cls ≠ "java/lang/invoke/MethodHandle" ∧ y_D_word.cls ≠ "java/lang/invoke/VarHandle" ∧ (parseMethodDescriptor y_D_word.desc).map (fun d => d.parameters.length) = some 2 := by decide +kernel
theorem hd_L_frame : y_L_frame.cls ≠ "java/lang/invoke/MethodHandle" ∧ y_L_frame.cls ≠ "java/lang/invoke/VarHandle" ∧ (parseMethodDescriptor y_L_frame.desc).map (fun d => d.parameters.length) = some 3 := by decide +kernel
theorem hd_D_frame : y_D_frame.cls ≠ "java/lang/invoke/MethodHandle" ∧ y_D_frame.cls ≠ "java/lang/invoke/VarHandle" ∧ (parseMethodDescriptor y_D_frame.desc).map (fun d => d.parameters.length) = some 2 := by decide +kernel
theorem hd_L_put : y_L_put.cls ≠ "java/lang/invoke/MethodHandle" ∧ y_L_put.cls ≠ "java/lang/invoke/VarHandle" ∧ (parseMethodDescriptor y_L_put.desc).map (fun d => d.parameters.length) = some 3 := by decide +kernel
theorem hd_D_put : y_D_put.cls ≠ "java/lang/invoke/MethodHandle" ∧ y_D_put.cls ≠ "java/lang/invoke/VarHandle" ∧ (parseMethodDescriptor y_D_put.desc).map (fun d => d.parameters.length) = some 1 := by decide +kernel
theorem hd_L_next : y_L_next.cls ≠ "java/lang/invoke/MethodHandle" ∧ y_L_next.cls ≠ "java/lang/invoke/VarHandle" ∧ (parseMethodDescriptor y_L_next.desc).map (fun d => d.parameters.length) = some 2 := by decide +kernel
theorem hd_D_next : y_D_next.cls ≠ "java/lang/invoke/MethodHandle" ∧ y_D_next.cls ≠ "java/lang/invoke/VarHandle" ∧ (parseMethodDescriptor y_D_next.desc).map (fun d => d.parameters.length) = some 0 := by decide +kernel
theorem hd_R_arrive : y_R_arrive.cls ≠ "java/lang/invoke/MethodHandle" ∧ y_R_arrive.cls ≠ "java/lang/invoke/VarHandle" ∧ (parseMethodDescriptor y_R_arrive.desc).map (fun d => d.parameters.length) = some 0 := by decide +kernel
theorem hd_D_refusalHere : y_D_refusalHere.cls ≠ "java/lang/invoke/MethodHandle" ∧ y_D_refusalHere.cls ≠ "java/lang/invoke/VarHandle" ∧ (parseMethodDescriptor y_D_refusalHere.desc).map (fun d => d.parameters.length) = some 0 := by decide +kernel
theorem hd_D_readCommand : y_D_readCommand.cls ≠ "java/lang/invoke/MethodHandle" ∧ y_D_readCommand.cls ≠ "java/lang/invoke/VarHandle" ∧ (parseMethodDescriptor y_D_readCommand.desc).map (fun d => d.parameters.length) = some 0 := by decide +kernel
theorem hd_D_sourceLength : y_D_sourceLength.cls ≠ "java/lang/invoke/MethodHandle" ∧ y_D_sourceLength.cls ≠ "java/lang/invoke/VarHandle" ∧ (parseMethodDescriptor y_D_sourceLength.desc).map (fun d => d.parameters.length) = some 0 := by decide +kernel
theorem hd_D_readBeyondTheEnd : y_D_readBeyondTheEnd.cls ≠ "java/lang/invoke/MethodHandle" ∧ y_D_readBeyondTheEnd.cls ≠ "java/lang/invoke/VarHandle" ∧ (parseMethodDescriptor y_D_readBeyondTheEnd.desc).map (fun d => d.parameters.length) = some 0 := by decide +kernel
theorem hd_D_sourceWord : y_D_sourceWord.cls ≠ "java/lang/invoke/MethodHandle" ∧ y_D_sourceWord.cls ≠ "java/lang/invoke/VarHandle" ∧ (parseMethodDescriptor y_D_sourceWord.desc).map (fun d => d.parameters.length) = some 1 := by decide +kernel
theorem hd_D_argumentsHere : y_D_argumentsHere.cls ≠ "java/lang/invoke/MethodHandle" ∧ y_D_argumentsHere.cls ≠ "java/lang/invoke/VarHandle" ∧ (parseMethodDescriptor y_D_argumentsHere.desc).map (fun d => d.parameters.length) = some 1 := by decide +kernel
theorem hd_C_tell : y_C_tell.cls ≠ "java/lang/invoke/MethodHandle" ∧ y_C_tell.cls ≠ "java/lang/invoke/VarHandle" ∧ (parseMethodDescriptor y_C_tell.desc).map (fun d => d.parameters.length) = some 2 := by decide +kernel
theorem hd_C_valuesMayBe : y_C_valuesMayBe.cls ≠ "java/lang/invoke/MethodHandle" ∧ y_C_valuesMayBe.cls ≠ "java/lang/invoke/VarHandle" ∧ (parseMethodDescriptor y_C_valuesMayBe.desc).map (fun d => d.parameters.length) = some 0 := by decide +kernel
theorem hd_C_at : y_C_at.cls ≠ "java/lang/invoke/MethodHandle" ∧ y_C_at.cls ≠ "java/lang/invoke/VarHandle" ∧ (parseMethodDescriptor y_C_at.desc).map (fun d => d.parameters.length) = some 1 := by decide +kernel
theorem hd_S_mayBe : y_S_mayBe.cls ≠ "java/lang/invoke/MethodHandle" ∧ y_S_mayBe.cls ≠ "java/lang/invoke/VarHandle" ∧ (parseMethodDescriptor y_S_mayBe.desc).map (fun d => d.parameters.length) = some 3 := by decide +kernel
theorem hd_D_placesAreThere : y_D_placesAreThere.cls ≠ "java/lang/invoke/MethodHandle" ∧ y_D_placesAreThere.cls ≠ "java/lang/invoke/VarHandle" ∧ (parseMethodDescriptor y_D_placesAreThere.desc).map (fun d => d.parameters.length) = some 0 := by decide +kernel
theorem hd_D_inMemory : y_D_inMemory.cls ≠ "java/lang/invoke/MethodHandle" ∧ y_D_inMemory.cls ≠ "java/lang/invoke/VarHandle" ∧ (parseMethodDescriptor y_D_inMemory.desc).map (fun d => d.parameters.length) = some 2 := by decide +kernel
theorem hd_D_stateAllows : y_D_stateAllows.cls ≠ "java/lang/invoke/MethodHandle" ∧ y_D_stateAllows.cls ≠ "java/lang/invoke/VarHandle" ∧ (parseMethodDescriptor y_D_stateAllows.desc).map (fun d => d.parameters.length) = some 0 := by decide +kernel
theorem hd_T_hasProgram : y_T_hasProgram.cls ≠ "java/lang/invoke/MethodHandle" ∧ y_T_hasProgram.cls ≠ "java/lang/invoke/VarHandle" ∧ (parseMethodDescriptor y_T_hasProgram.desc).map (fun d => d.parameters.length) = some 1 := by decide +kernel
theorem hd_T_at : y_T_at.cls ≠ "java/lang/invoke/MethodHandle" ∧ y_T_at.cls ≠ "java/lang/invoke/VarHandle" ∧ (parseMethodDescriptor y_T_at.desc).map (fun d => d.parameters.length) = some 3 := by decide +kernel
theorem hd_R_refuse : y_R_refuse.cls ≠ "java/lang/invoke/MethodHandle" ∧ y_R_refuse.cls ≠ "java/lang/invoke/VarHandle" ∧ (parseMethodDescriptor y_R_refuse.desc).map (fun d => d.parameters.length) = some 1 := by decide +kernel
theorem hd_D_carryOut : y_D_carryOut.cls ≠ "java/lang/invoke/MethodHandle" ∧ y_D_carryOut.cls ≠ "java/lang/invoke/VarHandle" ∧ (parseMethodDescriptor y_D_carryOut.desc).map (fun d => d.parameters.length) = some 0 := by decide +kernel
theorem hd_R_passOver : y_R_passOver.cls ≠ "java/lang/invoke/MethodHandle" ∧ y_R_passOver.cls ≠ "java/lang/invoke/VarHandle" ∧ (parseMethodDescriptor y_R_passOver.desc).map (fun d => d.parameters.length) = some 1 := by decide +kernel
theorem hd_R_leave : y_R_leave.cls ≠ "java/lang/invoke/MethodHandle" ∧ y_R_leave.cls ≠ "java/lang/invoke/VarHandle" ∧ (parseMethodDescriptor y_R_leave.desc).map (fun d => d.parameters.length) = some 0 := by decide +kernel
theorem hd_D_keepUniforms : y_D_keepUniforms.cls ≠ "java/lang/invoke/MethodHandle" ∧ y_D_keepUniforms.cls ≠ "java/lang/invoke/VarHandle" ∧ (parseMethodDescriptor y_D_keepUniforms.desc).map (fun d => d.parameters.length) = some 0 := by decide +kernel
theorem hd_T_set : y_T_set.cls ≠ "java/lang/invoke/MethodHandle" ∧ y_T_set.cls ≠ "java/lang/invoke/VarHandle" ∧ (parseMethodDescriptor y_T_set.desc).map (fun d => d.parameters.length) = some 4 := by decide +kernel
theorem hd_D_storeWords : y_D_storeWords.cls ≠ "java/lang/invoke/MethodHandle" ∧ y_D_storeWords.cls ≠ "java/lang/invoke/VarHandle" ∧ (parseMethodDescriptor y_D_storeWords.desc).map (fun d => d.parameters.length) = some 0 := by decide +kernel
theorem hd_R_enter : y_R_enter.cls ≠ "java/lang/invoke/MethodHandle" ∧ y_R_enter.cls ≠ "java/lang/invoke/VarHandle" ∧ (parseMethodDescriptor y_R_enter.desc).map (fun d => d.parameters.length) = some 1 := by decide +kernel
theorem hd_T_keep : y_T_keep.cls ≠ "java/lang/invoke/MethodHandle" ∧ y_T_keep.cls ≠ "java/lang/invoke/VarHandle" ∧ (parseMethodDescriptor y_T_keep.desc).map (fun d => d.parameters.length) = some 1 := by decide +kernel
theorem hd_L_argument : y_L_argument.cls ≠ "java/lang/invoke/MethodHandle" ∧ y_L_argument.cls ≠ "java/lang/invoke/VarHandle" ∧ (parseMethodDescriptor y_L_argument.desc).map (fun d => d.parameters.length) = some 3 := by decide +kernel
theorem hd_D_argument : y_D_argument.cls ≠ "java/lang/invoke/MethodHandle" ∧ y_D_argument.cls ≠ "java/lang/invoke/VarHandle" ∧ (parseMethodDescriptor y_D_argument.desc).map (fun d => d.parameters.length) = some 1 := by decide +kernel
theorem hd_L_kept : y_L_kept.cls ≠ "java/lang/invoke/MethodHandle" ∧ y_L_kept.cls ≠ "java/lang/invoke/VarHandle" ∧ (parseMethodDescriptor y_L_kept.desc).map (fun d => d.parameters.length) = some 5 := by decide +kernel
theorem hd_D_kept : y_D_kept.cls ≠ "java/lang/invoke/MethodHandle" ∧ y_D_kept.cls ≠ "java/lang/invoke/VarHandle" ∧ (parseMethodDescriptor y_D_kept.desc).map (fun d => d.parameters.length) = some 3 := by decide +kernel
theorem hd_L_about : y_L_about.cls ≠ "java/lang/invoke/MethodHandle" ∧ y_L_about.cls ≠ "java/lang/invoke/VarHandle" ∧ (parseMethodDescriptor y_L_about.desc).map (fun d => d.parameters.length) = some 3 := by decide +kernel
theorem hd_D_about : y_D_about.cls ≠ "java/lang/invoke/MethodHandle" ∧ y_D_about.cls ≠ "java/lang/invoke/VarHandle" ∧ (parseMethodDescriptor y_D_about.desc).map (fun d => d.parameters.length) = some 1 := by decide +kernel
theorem hd_M_init : y_M_init.cls ≠ "java/lang/invoke/MethodHandle" ∧ y_M_init.cls ≠ "java/lang/invoke/VarHandle" ∧ (parseMethodDescriptor y_M_init.desc).map (fun d => d.parameters.length) = some 0 := by decide +kernel
theorem hd_M_nothingTold : y_M_nothingTold.cls ≠ "java/lang/invoke/MethodHandle" ∧ y_M_nothingTold.cls ≠ "java/lang/invoke/VarHandle" ∧ (parseMethodDescriptor y_M_nothingTold.desc).map (fun d => d.parameters.length) = some 0 := by decide +kernel
theorem hd_M_many : y_M_many.cls ≠ "java/lang/invoke/MethodHandle" ∧ y_M_many.cls ≠ "java/lang/invoke/VarHandle" ∧ (parseMethodDescriptor y_M_many.desc).map (fun d => d.parameters.length) = some 1 := by decide +kernel
theorem hd_M_rowOf : y_M_rowOf.cls ≠ "java/lang/invoke/MethodHandle" ∧ y_M_rowOf.cls ≠ "java/lang/invoke/VarHandle" ∧ (parseMethodDescriptor y_M_rowOf.desc).map (fun d => d.parameters.length) = some 2 := by decide +kernel
theorem hd_M_count : y_M_count.cls ≠ "java/lang/invoke/MethodHandle" ∧ y_M_count.cls ≠ "java/lang/invoke/VarHandle" ∧ (parseMethodDescriptor y_M_count.desc).map (fun d => d.parameters.length) = some 1 := by decide +kernel
theorem hd_M_thrown : y_M_thrown.cls ≠ "java/lang/invoke/MethodHandle" ∧ y_M_thrown.cls ≠ "java/lang/invoke/VarHandle" ∧ (parseMethodDescriptor y_M_thrown.desc).map (fun d => d.parameters.length) = some 0 := by decide +kernel
theorem hd_M_word : y_M_word.cls ≠ "java/lang/invoke/MethodHandle" ∧ y_M_word.cls ≠ "java/lang/invoke/VarHandle" ∧ (parseMethodDescriptor y_M_word.desc).map (fun d => d.parameters.length) = some 2 := by decide +kernel
theorem hd_M_in : y_M_in.cls ≠ "java/lang/invoke/MethodHandle" ∧ y_M_in.cls ≠ "java/lang/invoke/VarHandle" ∧ (parseMethodDescriptor y_M_in.desc).map (fun d => d.parameters.length) = some 3 := by decide +kernel
theorem hd_M_refuse : y_M_refuse.cls ≠ "java/lang/invoke/MethodHandle" ∧ y_M_refuse.cls ≠ "java/lang/invoke/VarHandle" ∧ (parseMethodDescriptor y_M_refuse.desc).map (fun d => d.parameters.length) = some 1 := by decide +kernel
theorem hd_M_frame : y_M_frame.cls ≠ "java/lang/invoke/MethodHandle" ∧ y_M_frame.cls ≠ "java/lang/invoke/VarHandle" ∧ (parseMethodDescriptor y_M_frame.desc).map (fun d => d.parameters.length) = some 2 := by decide +kernel
theorem hd_M_put : y_M_put.cls ≠ "java/lang/invoke/MethodHandle" ∧ y_M_put.cls ≠ "java/lang/invoke/VarHandle" ∧ (parseMethodDescriptor y_M_put.desc).map (fun d => d.parameters.length) = some 1 := by decide +kernel
theorem hd_M_clear : y_M_clear.cls ≠ "java/lang/invoke/MethodHandle" ∧ y_M_clear.cls ≠ "java/lang/invoke/VarHandle" ∧ (parseMethodDescriptor y_M_clear.desc).map (fun d => d.parameters.length) = some 0 := by decide +kernel
theorem hd_M_anew : y_M_anew.cls ≠ "java/lang/invoke/MethodHandle" ∧ y_M_anew.cls ≠ "java/lang/invoke/VarHandle" ∧ (parseMethodDescriptor y_M_anew.desc).map (fun d => d.parameters.length) = some 0 := by decide +kernel
theorem hd_M_begin : y_M_begin.cls ≠ "java/lang/invoke/MethodHandle" ∧ y_M_begin.cls ≠ "java/lang/invoke/VarHandle" ∧ (parseMethodDescriptor y_M_begin.desc).map (fun d => d.parameters.length) = some 1 := by decide +kernel
theorem hd_M_next : y_M_next.cls ≠ "java/lang/invoke/MethodHandle" ∧ y_M_next.cls ≠ "java/lang/invoke/VarHandle" ∧ (parseMethodDescriptor y_M_next.desc).map (fun d => d.parameters.length) = some 0 := by decide +kernel
theorem hd_M_look : y_M_look.cls ≠ "java/lang/invoke/MethodHandle" ∧ y_M_look.cls ≠ "java/lang/invoke/VarHandle" ∧ (parseMethodDescriptor y_M_look.desc).map (fun d => d.parameters.length) = some 0 := by decide +kernel
theorem hd_M_isThere : y_M_isThere.cls ≠ "java/lang/invoke/MethodHandle" ∧ y_M_isThere.cls ≠ "java/lang/invoke/VarHandle" ∧ (parseMethodDescriptor y_M_isThere.desc).map (fun d => d.parameters.length) = some 1 := by decide +kernel
theorem hd_M_read : y_M_read.cls ≠ "java/lang/invoke/MethodHandle" ∧ y_M_read.cls ≠ "java/lang/invoke/VarHandle" ∧ (parseMethodDescriptor y_M_read.desc).map (fun d => d.parameters.length) = some 1 := by decide +kernel
theorem hd_M_length : y_M_length.cls ≠ "java/lang/invoke/MethodHandle" ∧ y_M_length.cls ≠ "java/lang/invoke/VarHandle" ∧ (parseMethodDescriptor y_M_length.desc).map (fun d => d.parameters.length) = some 1 := by decide +kernel
theorem hd_M_may : y_M_may.cls ≠ "java/lang/invoke/MethodHandle" ∧ y_M_may.cls ≠ "java/lang/invoke/VarHandle" ∧ (parseMethodDescriptor y_M_may.desc).map (fun d => d.parameters.length) = some 3 := by decide +kernel
theorem hd_M_isViews : y_M_isViews.cls ≠ "java/lang/invoke/MethodHandle" ∧ y_M_isViews.cls ≠ "java/lang/invoke/VarHandle" ∧ (parseMethodDescriptor y_M_isViews.desc).map (fun d => d.parameters.length) = some 2 := by decide +kernel
theorem hd_M_isTextures : y_M_isTextures.cls ≠ "java/lang/invoke/MethodHandle" ∧ y_M_isTextures.cls ≠ "java/lang/invoke/VarHandle" ∧ (parseMethodDescriptor y_M_isTextures.desc).map (fun d => d.parameters.length) = some 2 := by decide +kernel
theorem hd_M_isStencils : y_M_isStencils.cls ≠ "java/lang/invoke/MethodHandle" ∧ y_M_isStencils.cls ≠ "java/lang/invoke/VarHandle" ∧ (parseMethodDescriptor y_M_isStencils.desc).map (fun d => d.parameters.length) = some 2 := by decide +kernel
theorem hd_M_isCopys : y_M_isCopys.cls ≠ "java/lang/invoke/MethodHandle" ∧ y_M_isCopys.cls ≠ "java/lang/invoke/VarHandle" ∧ (parseMethodDescriptor y_M_isCopys.desc).map (fun d => d.parameters.length) = some 2 := by decide +kernel
theorem hd_M_liesRight : y_M_liesRight.cls ≠ "java/lang/invoke/MethodHandle" ∧ y_M_liesRight.cls ≠ "java/lang/invoke/VarHandle" ∧ (parseMethodDescriptor y_M_liesRight.desc).map (fun d => d.parameters.length) = some 1 := by decide +kernel
theorem hd_M_isInMemory : y_M_isInMemory.cls ≠ "java/lang/invoke/MethodHandle" ∧ y_M_isInMemory.cls ≠ "java/lang/invoke/VarHandle" ∧ (parseMethodDescriptor y_M_isInMemory.desc).map (fun d => d.parameters.length) = some 2 := by decide +kernel
theorem hd_M_fitsState : y_M_fitsState.cls ≠ "java/lang/invoke/MethodHandle" ∧ y_M_fitsState.cls ≠ "java/lang/invoke/VarHandle" ∧ (parseMethodDescriptor y_M_fitsState.desc).map (fun d => d.parameters.length) = some 1 := by decide +kernel
theorem hd_M_perform : y_M_perform.cls ≠ "java/lang/invoke/MethodHandle" ∧ y_M_perform.cls ≠ "java/lang/invoke/VarHandle" ∧ (parseMethodDescriptor y_M_perform.desc).map (fun d => d.parameters.length) = some 1 := by decide +kernel
theorem hd_M_keep : y_M_keep.cls ≠ "java/lang/invoke/MethodHandle" ∧ y_M_keep.cls ≠ "java/lang/invoke/VarHandle" ∧ (parseMethodDescriptor y_M_keep.desc).map (fun d => d.parameters.length) = some 1 := by decide +kernel
theorem hd_M_argument : y_M_argument.cls ≠ "java/lang/invoke/MethodHandle" ∧ y_M_argument.cls ≠ "java/lang/invoke/VarHandle" ∧ (parseMethodDescriptor y_M_argument.desc).map (fun d => d.parameters.length) = some 1 := by decide +kernel
theorem hd_M_kept : y_M_kept.cls ≠ "java/lang/invoke/MethodHandle" ∧ y_M_kept.cls ≠ "java/lang/invoke/VarHandle" ∧ (parseMethodDescriptor y_M_kept.desc).map (fun d => d.parameters.length) = some 3 := by decide +kernel
theorem hd_M_about : y_M_about.cls ≠ "java/lang/invoke/MethodHandle" ∧ y_M_about.cls ≠ "java/lang/invoke/VarHandle" ∧ (parseMethodDescriptor y_M_about.desc).map (fun d => d.parameters.length) = some 1 := by decide +kernel
theorem hd_L_law : y_L_law.cls ≠ "java/lang/invoke/MethodHandle" ∧ y_L_law.cls ≠ "java/lang/invoke/VarHandle" ∧ (parseMethodDescriptor y_L_law.desc).map (fun d => d.parameters.length) = some 1 := by decide +kernel
/-! the class's own functions, as numbers -/
abbrev IF : Type := Nat → Int32
/-- read and write of the class: a place beyond the row is 0, or nowhere -/
def rdA (n : Nat) (f : IF) (i : Int32) : Int32 := if i < 0 then 0 else if nI n ≤ i then 0 else f i.toNatClampNeg
def wrA (n : Nat) (f : IF) (i v : Int32) : IF := if i < 0 then f else if nI n ≤ i then f else upd f i.toNatClampNeg v
theorem in_of {i : Int32} {n : Nat} (h1 : ¬ i < 0) (h2 : ¬ nI n ≤ i) (hn : n < 2147483648) : vp_in i n := by
  rw [vp_in_iff]
  rw [Int32.lt_iff_toInt_lt, Int32.toInt_zero] at h1
  rw [Int32.le_iff_toInt_le, nI_toInt hn] at h2
  omega
def isKd (k : Int32) : Int32 := if k < 0 then 0 else if 26 ≤ k then 0 else 1
def fxd (k : Int32) : Int32 := if isKd k = 0 then 0 else rdA 27 tbF (k + 1) - rdA 27 tbF k
def hld (k : Int32) : Int32 := rdA 26 tbH k
def colm (k j c : Int32) : Int32 := rdA 258 tbA (3 * (rdA 27 tbF k + j) + c)
def myB (k j v : Int32) : Int32 := if v < colm k j 0 then 0 else if colm k j 1 < v then 0 else 1
def nmH (k : Int32) : Int32 := if hld k ≤ 1 then 0 else 1
/-- where Told keeps argument j of kind k of holder n; sf: its starts -/
def plc (sf : IF) (k n j : Int32) : Int32 := rdA 26 sf k + n * fxd k + j
def hsP (sf wf : IF) (k : Int32) : Int32 := if rdA 303 wf (plc sf k 0 0) = -1 then 0 else 1
end
section
set_option maxHeartbeats 4000000 in
set_option maxRecDepth 100000 in
theorem c_D_read (l : Launch) (dC : Nat → ClassId) (dI : Nat → Nat → Nat) (tb : tbT) (a n : Nat) (f : IF) (cI : ClassId) (i : Int32) (hn : n < 2147483648) : RM l y_D_read (Cond.code y_D_read b_D_read 2 (some .int) :: TB) ({ frames := 0, cells := 0, slots := 0, locals := 0 }) tb (dC, dI) [.ref a, .int i] [(a, .inl (cI, n, .inl f))] [(cI, .int)] (rdA n f i) := by
  refine Met.ofW (cc := b_D_read) (maxL := 2) (ret := (some .int)) (by decide) rfl ?_
  intro p e s m args below meth c s₁ B hml hv
  obtain ⟨rfl, hP, hK, hE⟩ := hv
  have hx := B.exec
  have hb := B.bytes
  have hr := B.returns
  have ht := fun w (h : w ∈ TB) => atoms_spec (ws := Cond.code y_D_read b_D_read 2 (some .int) :: TB) B.pre w (List.mem_cons_of_mem _ h)
  have hown : s.vm.findClass R_D = some m.cls := findClass_of_methodNamed B.named
  have hlocks := B.notSynchronized
  have hS : va_S (fun _ => False) s.heap s.heap [] := va_S.rf
  have F : CallFix p m c b_D_read 2 s _ TB R_D := ⟨hx, hb, hml, hown, ht⟩
  have hl := lv_entry ([.ref a, .int i]) (n := 2) (Nat.le_of_ble_eq_true rfl)
  rw [lg_entry_eq]
  generalize (lg_sl ([.ref a, .int i]) ++ List.replicate (2 - (lg_sl ([.ref a, .int i])).length) Slot.unset).toArray = ls at hl ⊢
  have hl : lv_has ls 2 [(0, .ref a), (1, .int i)] := hl
  refine lv_iload_n hx hb d_D_read_0 rfl (lv_at hl 1 rfl) ?_
  refine lv_if_lt (tgt := 16) hx hb d_D_read_1 (by decide) (fun c_1 => ?_) (fun c_1 => ?_)
  · refine lv_iconst (v := 0) hx hb d_D_read_16 (by decide) ?_
    exact W.iret hx hb hr (fun t ht9 hW => ⟨_, rfl, by simp only [rdA, if_pos c_1], ht9⟩) hS.2.2 d_D_read_17
  · refine lv_iload_n hx hb d_D_read_4 rfl (lv_at hl 1 rfl) ?_
    refine lv_aload_n hx hb d_D_read_5 rfl (lv_at hl 0 rfl) ?_
    refine va_alen hx hb hK hP 0 0 rfl rfl (v := (nI n)) rfl d_D_read_6 ?_
    refine lv_icmp_ge (tgt := 16) hx hb d_D_read_7 (by decide) (fun c_2 => ?_) (fun c_2 => ?_)
    · refine lv_iconst (v := 0) hx hb d_D_read_16 (by decide) ?_
      exact W.iret hx hb hr (fun t ht9 hW => ⟨_, rfl, by simp only [rdA, if_neg c_1, if_pos c_2], ht9⟩) hS.2.2 d_D_read_17
    · refine lv_aload_n hx hb d_D_read_10 rfl (lv_at hl 0 rfl) ?_
      refine lv_iload_n hx hb d_D_read_11 rfl (lv_at hl 1 rfl) ?_
      refine va_iald hx hb hK hP 0 0 rfl rfl (in_of c_1 c_2 hn) d_D_read_12 ?_
      refine lv_goto (tgt := 17) hx hb d_D_read_13 (by decide) ?_
      exact W.iret hx hb hr (fun t ht9 hW => ⟨_, rfl, by simp only [rdA, if_neg c_1, if_neg c_2], ht9⟩) hS.2.2 d_D_read_17
set_option maxHeartbeats 4000000 in
set_option maxRecDepth 100000 in
theorem c_D_readF (l : Launch) (dC : Nat → ClassId) (dI : Nat → Nat → Nat) (tb : tbT) (i : Int32) : RM l y_D_read (Cond.code y_D_read b_D_read 2 (some .int) :: TB) ({ frames := 0, cells := 0, slots := 0, locals := 0 }) tb (dC, dI) [.ref tb.1, .int i] [] [] (rdA 27 tbF i) := by
  refine Met.ofW (cc := b_D_read) (maxL := 2) (ret := (some .int)) (by decide) rfl ?_
  intro p e s m args below meth c s₁ B hml hv
  obtain ⟨rfl, hP, hK, hE⟩ := hv
  have hx := B.exec
  have hb := B.bytes
  have hr := B.returns
  have ht := fun w (h : w ∈ TB) => atoms_spec (ws := Cond.code y_D_read b_D_read 2 (some .int) :: TB) B.pre w (List.mem_cons_of_mem _ h)
  have hown : s.vm.findClass R_D = some m.cls := findClass_of_methodNamed B.named
  have hlocks := B.notSynchronized
  have hS : va_S (fun _ => False) s.heap s.heap [] := va_S.rf
  have F : CallFix p m c b_D_read 2 s _ TB R_D := ⟨hx, hb, hml, hown, ht⟩
  have hl := lv_entry ([.ref tb.1, .int i]) (n := 2) (Nat.le_of_ble_eq_true rfl)
  rw [lg_entry_eq]
  generalize (lg_sl ([.ref tb.1, .int i]) ++ List.replicate (2 - (lg_sl ([.ref tb.1, .int i])).length) Slot.unset).toArray = ls at hl ⊢
  have hT := hE.2.1.2
  have hl : lv_has ls 2 [(0, .ref tb.1), (1, .int i)] := hl
  refine lv_iload_n hx hb d_D_read_0 rfl (lv_at hl 1 rfl) ?_
  refine lv_if_lt (tgt := 16) hx hb d_D_read_1 (by decide) (fun c_3 => ?_) (fun c_3 => ?_)
  · refine lv_iconst (v := 0) hx hb d_D_read_16 (by decide) ?_
    exact W.iret hx hb hr (fun t ht9 hW => ⟨_, rfl, by simp only [rdA, if_pos c_3], ht9⟩) hS.2.2 d_D_read_17
  · refine lv_iload_n hx hb d_D_read_4 rfl (lv_at hl 1 rfl) ?_
    refine lv_aload_n hx hb d_D_read_5 rfl (lv_at hl 0 rfl) ?_
    refine va_tlen hx hb hT hS (v := (nI 27)) rfl d_D_read_6 ?_
    refine lv_icmp_ge (tgt := 16) hx hb d_D_read_7 (by decide) (fun c_4 => ?_) (fun c_4 => ?_)
    · refine lv_iconst (v := 0) hx hb d_D_read_16 (by decide) ?_
      exact W.iret hx hb hr (fun t ht9 hW => ⟨_, rfl, by simp only [rdA, if_neg c_3, if_pos c_4], ht9⟩) hS.2.2 d_D_read_17
    · refine lv_aload_n hx hb d_D_read_10 rfl (lv_at hl 0 rfl) ?_
      refine lv_iload_n hx hb d_D_read_11 rfl (lv_at hl 1 rfl) ?_
      refine va_ti hx hb hT hS (in_of c_3 c_4 (by decide)) rfl d_D_read_12 ?_
      refine lv_goto (tgt := 17) hx hb d_D_read_13 (by decide) ?_
      exact W.iret hx hb hr (fun t ht9 hW => ⟨_, rfl, by simp only [rdA, if_neg c_3, if_neg c_4], ht9⟩) hS.2.2 d_D_read_17
set_option maxHeartbeats 4000000 in
set_option maxRecDepth 100000 in
theorem c_D_readH (l : Launch) (dC : Nat → ClassId) (dI : Nat → Nat → Nat) (tb : tbT) (i : Int32) : RM l y_D_read (Cond.code y_D_read b_D_read 2 (some .int) :: TB) ({ frames := 0, cells := 0, slots := 0, locals := 0 }) tb (dC, dI) [.ref tb.2.1, .int i] [] [] (rdA 26 tbH i) := by
  refine Met.ofW (cc := b_D_read) (maxL := 2) (ret := (some .int)) (by decide) rfl ?_
  intro p e s m args below meth c s₁ B hml hv
  obtain ⟨rfl, hP, hK, hE⟩ := hv
  have hx := B.exec
  have hb := B.bytes
  have hr := B.returns
  have ht := fun w (h : w ∈ TB) => atoms_spec (ws := Cond.code y_D_read b_D_read 2 (some .int) :: TB) B.pre w (List.mem_cons_of_mem _ h)
  have hown : s.vm.findClass R_D = some m.cls := findClass_of_methodNamed B.named
  have hlocks := B.notSynchronized
  have hS : va_S (fun _ => False) s.heap s.heap [] := va_S.rf
  have F : CallFix p m c b_D_read 2 s _ TB R_D := ⟨hx, hb, hml, hown, ht⟩
  have hl := lv_entry ([.ref tb.2.1, .int i]) (n := 2) (Nat.le_of_ble_eq_true rfl)
  rw [lg_entry_eq]
  generalize (lg_sl ([.ref tb.2.1, .int i]) ++ List.replicate (2 - (lg_sl ([.ref tb.2.1, .int i])).length) Slot.unset).toArray = ls at hl ⊢
  have hT := hE.2.2.1.2
  have hl : lv_has ls 2 [(0, .ref tb.2.1), (1, .int i)] := hl
  refine lv_iload_n hx hb d_D_read_0 rfl (lv_at hl 1 rfl) ?_
  refine lv_if_lt (tgt := 16) hx hb d_D_read_1 (by decide) (fun c_5 => ?_) (fun c_5 => ?_)
  · refine lv_iconst (v := 0) hx hb d_D_read_16 (by decide) ?_
    exact W.iret hx hb hr (fun t ht9 hW => ⟨_, rfl, by simp only [rdA, if_pos c_5], ht9⟩) hS.2.2 d_D_read_17
  · refine lv_iload_n hx hb d_D_read_4 rfl (lv_at hl 1 rfl) ?_
    refine lv_aload_n hx hb d_D_read_5 rfl (lv_at hl 0 rfl) ?_
    refine va_tlen hx hb hT hS (v := (nI 26)) rfl d_D_read_6 ?_
    refine lv_icmp_ge (tgt := 16) hx hb d_D_read_7 (by decide) (fun c_6 => ?_) (fun c_6 => ?_)
    · refine lv_iconst (v := 0) hx hb d_D_read_16 (by decide) ?_
      exact W.iret hx hb hr (fun t ht9 hW => ⟨_, rfl, by simp only [rdA, if_neg c_5, if_pos c_6], ht9⟩) hS.2.2 d_D_read_17
    · refine lv_aload_n hx hb d_D_read_10 rfl (lv_at hl 0 rfl) ?_
      refine lv_iload_n hx hb d_D_read_11 rfl (lv_at hl 1 rfl) ?_
      refine va_ti hx hb hT hS (in_of c_5 c_6 (by decide)) rfl d_D_read_12 ?_
      refine lv_goto (tgt := 17) hx hb d_D_read_13 (by decide) ?_
      exact W.iret hx hb hr (fun t ht9 hW => ⟨_, rfl, by simp only [rdA, if_neg c_5, if_neg c_6], ht9⟩) hS.2.2 d_D_read_17
set_option maxHeartbeats 4000000 in
set_option maxRecDepth 100000 in
theorem c_D_readA (l : Launch) (dC : Nat → ClassId) (dI : Nat → Nat → Nat) (tb : tbT) (i : Int32) : RM l y_D_read (Cond.code y_D_read b_D_read 2 (some .int) :: TB) ({ frames := 0, cells := 0, slots := 0, locals := 0 }) tb (dC, dI) [.ref tb.2.2, .int i] [] [] (rdA 258 tbA i) := by
  refine Met.ofW (cc := b_D_read) (maxL := 2) (ret := (some .int)) (by decide) rfl ?_
  intro p e s m args below meth c s₁ B hml hv
  obtain ⟨rfl, hP, hK, hE⟩ := hv
  have hx := B.exec
  have hb := B.bytes
  have hr := B.returns
  have ht := fun w (h : w ∈ TB) => atoms_spec (ws := Cond.code y_D_read b_D_read 2 (some .int) :: TB) B.pre w (List.mem_cons_of_mem _ h)
  have hown : s.vm.findClass R_D = some m.cls := findClass_of_methodNamed B.named
  have hlocks := B.notSynchronized
  have hS : va_S (fun _ => False) s.heap s.heap [] := va_S.rf
  have F : CallFix p m c b_D_read 2 s _ TB R_D := ⟨hx, hb, hml, hown, ht⟩
  have hl := lv_entry ([.ref tb.2.2, .int i]) (n := 2) (Nat.le_of_ble_eq_true rfl)
  rw [lg_entry_eq]
  generalize (lg_sl ([.ref tb.2.2, .int i]) ++ List.replicate (2 - (lg_sl ([.ref tb.2.2, .int i])).length) Slot.unset).toArray = ls at hl ⊢
  have hT := hE.2.2.2.2
  have hl : lv_has ls 2 [(0, .ref tb.2.2), (1, .int i)] := hl
  refine lv_iload_n hx hb d_D_read_0 rfl (lv_at hl 1 rfl) ?_
  refine lv_if_lt (tgt := 16) hx hb d_D_read_1 (by decide) (fun c_7 => ?_) (fun c_7 => ?_)
  · refine lv_iconst (v := 0) hx hb d_D_read_16 (by decide) ?_
    exact W.iret hx hb hr (fun t ht9 hW => ⟨_, rfl, by simp only [rdA, if_pos c_7], ht9⟩) hS.2.2 d_D_read_17
  · refine lv_iload_n hx hb d_D_read_4 rfl (lv_at hl 1 rfl) ?_
    refine lv_aload_n hx hb d_D_read_5 rfl (lv_at hl 0 rfl) ?_
    refine va_tlen hx hb hT hS (v := (nI 258)) rfl d_D_read_6 ?_
    refine lv_icmp_ge (tgt := 16) hx hb d_D_read_7 (by decide) (fun c_8 => ?_) (fun c_8 => ?_)
    · refine lv_iconst (v := 0) hx hb d_D_read_16 (by decide) ?_
      exact W.iret hx hb hr (fun t ht9 hW => ⟨_, rfl, by simp only [rdA, if_neg c_7, if_pos c_8], ht9⟩) hS.2.2 d_D_read_17
    · refine lv_aload_n hx hb d_D_read_10 rfl (lv_at hl 0 rfl) ?_
      refine lv_iload_n hx hb d_D_read_11 rfl (lv_at hl 1 rfl) ?_
      refine va_ti hx hb hT hS (in_of c_7 c_8 (by decide)) rfl d_D_read_12 ?_
      refine lv_goto (tgt := 17) hx hb d_D_read_13 (by decide) ?_
      exact W.iret hx hb hr (fun t ht9 hW => ⟨_, rfl, by simp only [rdA, if_neg c_7, if_neg c_8], ht9⟩) hS.2.2 d_D_read_17
set_option maxHeartbeats 4000000 in
set_option maxRecDepth 100000 in
theorem c_D_write (l : Launch) (dC : Nat → ClassId) (dI : Nat → Nat → Nat) (tb : tbT) (a n : Nat) (f : IF) (cI : ClassId) (i v : Int32) (hn : n < 2147483648) (sz : Nat) : MV l y_D_write (Cond.code y_D_write b_D_write 3 none :: TB) ({ frames := 0, cells := 0, slots := 0, locals := 0 }) tb (dC, dI) [.ref a, .int i, .int v] [(a, .inl (cI, n, .inl f))] [(a, .inl (cI, n, .inl (wrA n f i v)))] [(cI, .int)] sz := by
  refine Met.ofW (cc := b_D_write) (maxL := 3) (ret := none) (by decide) rfl ?_
  intro p e s m args below meth c s₁ B hml hv
  obtain ⟨rfl, hsz, hP, hK, hD0, hE⟩ := hv
  have hx := B.exec
  have hb := B.bytes
  have hr := B.returns
  have ht := fun w (h : w ∈ TB) => atoms_spec (ws := Cond.code y_D_write b_D_write 3 none :: TB) B.pre w (List.mem_cons_of_mem _ h)
  have hown : s.vm.findClass R_D = some m.cls := findClass_of_methodNamed B.named
  have hlocks := B.notSynchronized
  subst hsz
  have hD := hD0.self (sz := s.heap.size)
  generalize hAe : va_A [(a, .inl (cI, n, .inl f))] s.heap.size = A at hD hE ⊢
  have hA : ∀ q : Nat, s.heap.size ≤ q → A q := fun q h => by rw [← hAe]; exact Or.inr h
  have hS : va_S A s.heap s.heap [] := va_S.rf
  have F : CallFix p m c b_D_write 3 s _ TB R_D := ⟨hx, hb, hml, hown, ht⟩
  have hl := lv_entry ([.ref a, .int i, .int v]) (n := 3) (Nat.le_of_ble_eq_true rfl)
  rw [lg_entry_eq]
  generalize (lg_sl ([.ref a, .int i, .int v]) ++ List.replicate (3 - (lg_sl ([.ref a, .int i, .int v])).length) Slot.unset).toArray = ls at hl ⊢
  have hl : lv_has ls 3 [(0, .ref a), (1, .int i), (2, .int v)] := hl
  refine lv_iload_n hx hb d_D_write_0 rfl (lv_at hl 1 rfl) ?_
  refine lv_if_lt (tgt := 14) hx hb d_D_write_1 (by decide) (fun c_9 => ?_) (fun c_9 => ?_)
  · have hP9 := hP.sub (ws' := [(a, .inl (cI, n, .inl f))]) [0] rfl
    have hD9 := hD.sub (ws' := [(a, .inl (cI, n, .inl f))]) [0] (by decide) rfl
    exact W.vret hx hb hr (fun t ht9 hW => ⟨⟨(), rfl, trivial, by rw [ht9]; rw [show wrA n f i v = f from by simp only [wrA, if_pos c_9]]; exact hP9, va_K.moved hW.alike hK, by rw [hAe]; rw [show wrA n f i v = f from by simp only [wrA, if_pos c_9]]; exact hD9⟩, hS.F ht9⟩) hS.2.2 d_D_write_14
  · refine lv_iload_n hx hb d_D_write_4 rfl (lv_at hl 1 rfl) ?_
    refine lv_aload_n hx hb d_D_write_5 rfl (lv_at hl 0 rfl) ?_
    refine va_alen hx hb hK hP 0 0 rfl rfl (v := (nI n)) rfl d_D_write_6 ?_
    refine lv_icmp_ge (tgt := 14) hx hb d_D_write_7 (by decide) (fun c_10 => ?_) (fun c_10 => ?_)
    · have hP9 := hP.sub (ws' := [(a, .inl (cI, n, .inl f))]) [0] rfl
      have hD9 := hD.sub (ws' := [(a, .inl (cI, n, .inl f))]) [0] (by decide) rfl
      exact W.vret hx hb hr (fun t ht9 hW => ⟨⟨(), rfl, trivial, by rw [ht9]; rw [show wrA n f i v = f from by simp only [wrA, if_neg c_9, if_pos c_10]]; exact hP9, va_K.moved hW.alike hK, by rw [hAe]; rw [show wrA n f i v = f from by simp only [wrA, if_neg c_9, if_pos c_10]]; exact hD9⟩, hS.F ht9⟩) hS.2.2 d_D_write_14
    · refine lv_aload_n hx hb d_D_write_10 rfl (lv_at hl 0 rfl) ?_
      refine lv_iload_n hx hb d_D_write_11 rfl (lv_at hl 1 rfl) ?_
      refine lv_iload_n hx hb d_D_write_12 rfl (lv_at hl 2 rfl) ?_
      refine va_iast hx hb hK hP hD hS 0 0 rfl rfl (in_of c_9 c_10 hn) d_D_write_13 (fun H locs hP hD hS => ?_)
      have hP : va_P (dC, dI) clX [(a, .inl (cI, n, .inl (upd f i.toNatClampNeg v)))] H := hP
      have hD : va_D A [(a, .inl (cI, n, .inl (upd f i.toNatClampNeg v)))] := hD
      have hP9 := hP.sub (ws' := [(a, .inl (cI, n, .inl (upd f i.toNatClampNeg v)))]) [0] rfl
      have hD9 := hD.sub (ws' := [(a, .inl (cI, n, .inl (upd f i.toNatClampNeg v)))]) [0] (by decide) rfl
      exact W.vret hx hb hr (fun t ht9 hW => ⟨⟨(), rfl, trivial, by rw [ht9]; rw [show wrA n f i v = (upd f i.toNatClampNeg v) from by simp only [wrA, if_neg c_9, if_neg c_10]]; exact hP9, va_K.moved hW.alike hK, by rw [hAe]; rw [show wrA n f i v = (upd f i.toNatClampNeg v) from by simp only [wrA, if_neg c_9, if_neg c_10]]; exact hD9⟩, hS.F ht9⟩) hS.2.2 d_D_write_14
set_option maxHeartbeats 4000000 in
set_option maxRecDepth 100000 in
theorem c_S_isKind (l : Launch) (dC : Nat → ClassId) (dI : Nat → Nat → Nat) (tb : tbT) (k : Int32) : RM l y_S_isKind (Cond.code y_S_isKind b_S_isKind 1 (some .boolean) :: TB) ({ frames := 0, cells := 0, slots := 0, locals := 0 }) tb (dC, dI) [.int k] [] [] (isKd k) := by
  refine Met.ofW (cc := b_S_isKind) (maxL := 1) (ret := (some .boolean)) (by decide) rfl ?_
  intro p e s m args below meth c s₁ B hml hv
  obtain ⟨rfl, hP, hK, hE⟩ := hv
  have hx := B.exec
  have hb := B.bytes
  have hr := B.returns
  have ht := fun w (h : w ∈ TB) => atoms_spec (ws := Cond.code y_S_isKind b_S_isKind 1 (some .boolean) :: TB) B.pre w (List.mem_cons_of_mem _ h)
  have hown : s.vm.findClass R_S = some m.cls := findClass_of_methodNamed B.named
  have hlocks := B.notSynchronized
  have hS : va_S (fun _ => False) s.heap s.heap [] := va_S.rf
  have F : CallFix p m c b_S_isKind 1 s _ TB R_S := ⟨hx, hb, hml, hown, ht⟩
  have hl := lv_entry ([.int k]) (n := 1) (Nat.le_of_ble_eq_true rfl)
  rw [lg_entry_eq]
  generalize (lg_sl ([.int k]) ++ List.replicate (1 - (lg_sl ([.int k])).length) Slot.unset).toArray = ls at hl ⊢
  have hl : lv_has ls 1 [(0, .int k)] := hl
  refine lv_iload_n hx hb d_S_isKind_0 rfl (lv_at hl 0 rfl) ?_
  refine lv_if_lt (tgt := 14) hx hb d_S_isKind_1 (by decide) (fun c_11 => ?_) (fun c_11 => ?_)
  · refine lv_iconst (v := 0) hx hb d_S_isKind_14 (by decide) ?_
    exact W.zret hx hb hr (rfl) (fun t ht9 hW => ⟨_, rfl, by simp only [isKd, if_pos c_11], ht9⟩) hS.2.2 d_S_isKind_15
  · refine lv_iload_n hx hb d_S_isKind_4 rfl (lv_at hl 0 rfl) ?_
    refine lv_bipush (v := 26) hx hb d_S_isKind_5 (by decide) ?_
    refine lv_icmp_ge (tgt := 14) hx hb d_S_isKind_7 (by decide) (fun c_12 => ?_) (fun c_12 => ?_)
    · refine lv_iconst (v := 0) hx hb d_S_isKind_14 (by decide) ?_
      exact W.zret hx hb hr (rfl) (fun t ht9 hW => ⟨_, rfl, by simp only [isKd, if_neg c_11, if_pos c_12], ht9⟩) hS.2.2 d_S_isKind_15
    · refine lv_iconst (v := 1) hx hb d_S_isKind_10 (by decide) ?_
      refine lv_goto (tgt := 15) hx hb d_S_isKind_11 (by decide) ?_
      exact W.zret hx hb hr (rfl) (fun t ht9 hW => ⟨_, rfl, by simp only [isKd, if_neg c_11, if_neg c_12], ht9⟩) hS.2.2 d_S_isKind_15
set_option maxHeartbeats 4000000 in
set_option maxRecDepth 100000 in
theorem c_S_fixed (l : Launch) (dC : Nat → ClassId) (dI : Nat → Nat → Nat) (tb : tbT) (k : Int32) : RM l y_S_fixed (Cond.code y_S_fixed b_S_fixed 1 (some .int) :: TB) ({ frames := 1, cells := 0, slots := 0, locals := 21 }) tb (dC, dI) [.int k] [] [] (fxd k) := by
  refine Met.ofW (cc := b_S_fixed) (maxL := 1) (ret := (some .int)) (by decide) rfl ?_
  intro p e s m args below meth c s₁ B hml hv
  obtain ⟨rfl, hP, hK, hE⟩ := hv
  have hx := B.exec
  have hb := B.bytes
  have hr := B.returns
  have ht := fun w (h : w ∈ TB) => atoms_spec (ws := Cond.code y_S_fixed b_S_fixed 1 (some .int) :: TB) B.pre w (List.mem_cons_of_mem _ h)
  have hown : s.vm.findClass R_S = some m.cls := findClass_of_methodNamed B.named
  have hlocks := B.notSynchronized
  have hS : va_S (fun _ => False) s.heap s.heap [] := va_S.rf
  have F : CallFix p m c b_S_fixed 1 s _ TB R_S := ⟨hx, hb, hml, hown, ht⟩
  have hl := lv_entry ([.int k]) (n := 1) (Nat.le_of_ble_eq_true rfl)
  rw [lg_entry_eq]
  generalize (lg_sl ([.int k]) ++ List.replicate (1 - (lg_sl ([.int k])).length) Slot.unset).toArray = ls at hl ⊢
  have hl : lv_has ls 1 [(0, .int k)] := hl
  refine lv_iload_n hx hb d_S_fixed_0 rfl (lv_at hl 0 rfl) ?_
  refine rcS (As := [.int k]) (rest := []) (c_S_isKind l dC dI tb k ) F tw_72 tw_30 tw_71 tw_70 hP [] rfl hK [] rfl hE hS hd_S_isKind rfl rfl ⟨Nat.le_of_ble_eq_true rfl, Nat.le_of_ble_eq_true rfl⟩ ⟨Nat.le_of_ble_eq_true rfl, Nat.le_of_ble_eq_true rfl⟩ hl.1 rfl (Nat.le_of_ble_eq_true rfl) d_S_fixed_1 ?_
  refine lv_if_eq (tgt := 27) hx hb d_S_fixed_4 (by decide) (fun c_13 => ?_) (fun c_13 => ?_)
  · refine lv_iconst (v := 0) hx hb d_S_fixed_27 (by decide) ?_
    exact W.iret hx hb hr (fun t ht9 hW => ⟨_, rfl, by simp only [fxd, if_pos c_13], ht9⟩) hS.2.2 d_S_fixed_28
  · refine va_gets hx hb hE.2.1.1 hS hown (ht _ tw_73) (fun _ h9 => h9) d_S_fixed_7 ?_
    refine lv_iload_n hx hb d_S_fixed_10 rfl (lv_at hl 0 rfl) ?_
    refine lv_iconst (v := 1) hx hb d_S_fixed_11 (by decide) ?_
    refine lv_iadd hx hb d_S_fixed_12 ?_
    refine rcSN (As := [.ref tb.1, .int (k + 1)]) (rest := []) (c_D_readF l dC dI tb (k + 1) ) F tw_66 tw_28 tw_65 nw_1 hP [] rfl hK [] rfl hE hS hd_D_read rfl rfl ⟨Nat.le_of_ble_eq_true rfl, Nat.le_of_ble_eq_true rfl⟩ ⟨Nat.le_of_ble_eq_true rfl, Nat.le_of_ble_eq_true rfl⟩ hl.1 rfl (Nat.le_of_ble_eq_true rfl) d_S_fixed_13 ?_
    refine va_gets hx hb hE.2.1.1 hS hown (ht _ tw_73) (fun _ h9 => h9) d_S_fixed_16 ?_
    refine lv_iload_n hx hb d_S_fixed_19 rfl (lv_at hl 0 rfl) ?_
    refine rcSN (As := [.ref tb.1, .int k]) (rest := [.int (rdA 27 tbF (k + 1))]) (c_D_readF l dC dI tb k ) F tw_66 tw_28 tw_65 nw_1 hP [] rfl hK [] rfl hE hS hd_D_read rfl rfl ⟨Nat.le_of_ble_eq_true rfl, Nat.le_of_ble_eq_true rfl⟩ ⟨Nat.le_of_ble_eq_true rfl, Nat.le_of_ble_eq_true rfl⟩ hl.1 rfl (Nat.le_of_ble_eq_true rfl) d_S_fixed_20 ?_
    refine lv_isub hx hb d_S_fixed_23 ?_
    refine lv_goto (tgt := 28) hx hb d_S_fixed_24 (by decide) ?_
    exact W.iret hx hb hr (fun t ht9 hW => ⟨_, rfl, by simp only [fxd, if_neg c_13], ht9⟩) hS.2.2 d_S_fixed_28
set_option maxHeartbeats 4000000 in
set_option maxRecDepth 100000 in
theorem c_S_holders (l : Launch) (dC : Nat → ClassId) (dI : Nat → Nat → Nat) (tb : tbT) (k : Int32) : RM l y_S_holders (Cond.code y_S_holders b_S_holders 1 (some .int) :: TB) ({ frames := 1, cells := 0, slots := 0, locals := 21 }) tb (dC, dI) [.int k] [] [] (hld k) := by
  refine Met.ofW (cc := b_S_holders) (maxL := 1) (ret := (some .int)) (by decide) rfl ?_
  intro p e s m args below meth c s₁ B hml hv
  obtain ⟨rfl, hP, hK, hE⟩ := hv
  have hx := B.exec
  have hb := B.bytes
  have hr := B.returns
  have ht := fun w (h : w ∈ TB) => atoms_spec (ws := Cond.code y_S_holders b_S_holders 1 (some .int) :: TB) B.pre w (List.mem_cons_of_mem _ h)
  have hown : s.vm.findClass R_S = some m.cls := findClass_of_methodNamed B.named
  have hlocks := B.notSynchronized
  have hS : va_S (fun _ => False) s.heap s.heap [] := va_S.rf
  have F : CallFix p m c b_S_holders 1 s _ TB R_S := ⟨hx, hb, hml, hown, ht⟩
  have hl := lv_entry ([.int k]) (n := 1) (Nat.le_of_ble_eq_true rfl)
  rw [lg_entry_eq]
  generalize (lg_sl ([.int k]) ++ List.replicate (1 - (lg_sl ([.int k])).length) Slot.unset).toArray = ls at hl ⊢
  have hl : lv_has ls 1 [(0, .int k)] := hl
  refine va_gets hx hb hE.2.2.1.1 hS hown (ht _ tw_62) (fun _ h9 => h9) d_S_holders_0 ?_
  refine lv_iload_n hx hb d_S_holders_3 rfl (lv_at hl 0 rfl) ?_
  refine rcSN (As := [.ref tb.2.1, .int k]) (rest := []) (c_D_readH l dC dI tb k ) F tw_66 tw_28 tw_65 nw_1 hP [] rfl hK [] rfl hE hS hd_D_read rfl rfl ⟨Nat.le_of_ble_eq_true rfl, Nat.le_of_ble_eq_true rfl⟩ ⟨Nat.le_of_ble_eq_true rfl, Nat.le_of_ble_eq_true rfl⟩ hl.1 rfl (Nat.le_of_ble_eq_true rfl) d_S_holders_4 ?_
  exact W.iret hx hb hr (fun t ht9 hW => ⟨_, rfl, rfl, ht9⟩) hS.2.2 d_S_holders_7
set_option maxHeartbeats 4000000 in
set_option maxRecDepth 100000 in
theorem c_S_column (l : Launch) (dC : Nat → ClassId) (dI : Nat → Nat → Nat) (tb : tbT) (k j c9 : Int32) : RM l y_S_column (Cond.code y_S_column b_S_column 3 (some .int) :: TB) ({ frames := 1, cells := 0, slots := 0, locals := 21 }) tb (dC, dI) [.int k, .int j, .int c9] [] [] (colm k j c9) := by
  refine Met.ofW (cc := b_S_column) (maxL := 3) (ret := (some .int)) (by decide) rfl ?_
  intro p e s m args below meth c s₁ B hml hv
  obtain ⟨rfl, hP, hK, hE⟩ := hv
  have hx := B.exec
  have hb := B.bytes
  have hr := B.returns
  have ht := fun w (h : w ∈ TB) => atoms_spec (ws := Cond.code y_S_column b_S_column 3 (some .int) :: TB) B.pre w (List.mem_cons_of_mem _ h)
  have hown : s.vm.findClass R_S = some m.cls := findClass_of_methodNamed B.named
  have hlocks := B.notSynchronized
  have hS : va_S (fun _ => False) s.heap s.heap [] := va_S.rf
  have F : CallFix p m c b_S_column 3 s _ TB R_S := ⟨hx, hb, hml, hown, ht⟩
  have hl := lv_entry ([.int k, .int j, .int c9]) (n := 3) (Nat.le_of_ble_eq_true rfl)
  rw [lg_entry_eq]
  generalize (lg_sl ([.int k, .int j, .int c9]) ++ List.replicate (3 - (lg_sl ([.int k, .int j, .int c9])).length) Slot.unset).toArray = ls at hl ⊢
  have hl : lv_has ls 3 [(0, .int k), (1, .int j), (2, .int c9)] := hl
  refine va_gets hx hb hE.2.2.2.1 hS hown (ht _ tw_97) (fun _ h9 => h9) d_S_column_0 ?_
  refine lv_iconst (v := 3) hx hb d_S_column_3 (by decide) ?_
  refine va_gets hx hb hE.2.1.1 hS hown (ht _ tw_73) (fun _ h9 => h9) d_S_column_4 ?_
  refine lv_iload_n hx hb d_S_column_7 rfl (lv_at hl 0 rfl) ?_
  refine rcSN (As := [.ref tb.1, .int k]) (rest := [.int 3, .ref tb.2.2]) (c_D_readF l dC dI tb k ) F tw_66 tw_28 tw_65 nw_1 hP [] rfl hK [] rfl hE hS hd_D_read rfl rfl ⟨Nat.le_of_ble_eq_true rfl, Nat.le_of_ble_eq_true rfl⟩ ⟨Nat.le_of_ble_eq_true rfl, Nat.le_of_ble_eq_true rfl⟩ hl.1 rfl (Nat.le_of_ble_eq_true rfl) d_S_column_8 ?_
  refine lv_iload_n hx hb d_S_column_11 rfl (lv_at hl 1 rfl) ?_
  refine lv_iadd hx hb d_S_column_12 ?_
  refine lv_imul hx hb d_S_column_13 ?_
  refine lv_iload_n hx hb d_S_column_14 rfl (lv_at hl 2 rfl) ?_
  refine lv_iadd hx hb d_S_column_15 ?_
  refine rcSN (As := [.ref tb.2.2, .int ((3 * ((rdA 27 tbF k) + j)) + c9)]) (rest := []) (c_D_readA l dC dI tb ((3 * ((rdA 27 tbF k) + j)) + c9) ) F tw_66 tw_28 tw_65 nw_1 hP [] rfl hK [] rfl hE hS hd_D_read rfl rfl ⟨Nat.le_of_ble_eq_true rfl, Nat.le_of_ble_eq_true rfl⟩ ⟨Nat.le_of_ble_eq_true rfl, Nat.le_of_ble_eq_true rfl⟩ hl.1 rfl (Nat.le_of_ble_eq_true rfl) d_S_column_16 ?_
  exact W.iret hx hb hr (fun t ht9 hW => ⟨_, rfl, rfl, ht9⟩) hS.2.2 d_S_column_19
set_option maxHeartbeats 4000000 in
set_option maxRecDepth 100000 in
theorem c_S_mayBe (l : Launch) (dC : Nat → ClassId) (dI : Nat → Nat → Nat) (tb : tbT) (k j v : Int32) : RM l y_S_mayBe (Cond.code y_S_mayBe b_S_mayBe 3 (some .boolean) :: TB) ({ frames := 2, cells := 0, slots := 0, locals := 43 }) tb (dC, dI) [.int k, .int j, .int v] [] [] (myB k j v) := by
  refine Met.ofW (cc := b_S_mayBe) (maxL := 3) (ret := (some .boolean)) (by decide) rfl ?_
  intro p e s m args below meth c s₁ B hml hv
  obtain ⟨rfl, hP, hK, hE⟩ := hv
  have hx := B.exec
  have hb := B.bytes
  have hr := B.returns
  have ht := fun w (h : w ∈ TB) => atoms_spec (ws := Cond.code y_S_mayBe b_S_mayBe 3 (some .boolean) :: TB) B.pre w (List.mem_cons_of_mem _ h)
  have hown : s.vm.findClass R_S = some m.cls := findClass_of_methodNamed B.named
  have hlocks := B.notSynchronized
  have hS : va_S (fun _ => False) s.heap s.heap [] := va_S.rf
  have F : CallFix p m c b_S_mayBe 3 s _ TB R_S := ⟨hx, hb, hml, hown, ht⟩
  have hl := lv_entry ([.int k, .int j, .int v]) (n := 3) (Nat.le_of_ble_eq_true rfl)
  rw [lg_entry_eq]
  generalize (lg_sl ([.int k, .int j, .int v]) ++ List.replicate (3 - (lg_sl ([.int k, .int j, .int v])).length) Slot.unset).toArray = ls at hl ⊢
  have hl : lv_has ls 3 [(0, .int k), (1, .int j), (2, .int v)] := hl
  refine lv_iload_n hx hb d_S_mayBe_0 rfl (lv_at hl 2 rfl) ?_
  refine lv_iload_n hx hb d_S_mayBe_1 rfl (lv_at hl 0 rfl) ?_
  refine lv_iload_n hx hb d_S_mayBe_2 rfl (lv_at hl 1 rfl) ?_
  refine lv_iconst (v := 0) hx hb d_S_mayBe_3 (by decide) ?_
  refine rcS (As := [.int k, .int j, .int 0]) (rest := [.int v]) (c_S_column l dC dI tb k j 0 ) F tw_96 tw_30 tw_95 tw_94 hP [] rfl hK [] rfl hE hS hd_S_column rfl rfl ⟨Nat.le_of_ble_eq_true rfl, Nat.le_of_ble_eq_true rfl⟩ ⟨Nat.le_of_ble_eq_true rfl, Nat.le_of_ble_eq_true rfl⟩ hl.1 rfl (Nat.le_of_ble_eq_true rfl) d_S_mayBe_4 ?_
  refine lv_icmp_lt (tgt := 24) hx hb d_S_mayBe_7 (by decide) (fun c_14 => ?_) (fun c_14 => ?_)
  · refine lv_iconst (v := 0) hx hb d_S_mayBe_24 (by decide) ?_
    exact W.zret hx hb hr (rfl) (fun t ht9 hW => ⟨_, rfl, by simp only [myB, if_pos c_14], ht9⟩) hS.2.2 d_S_mayBe_25
  · refine lv_iload_n hx hb d_S_mayBe_10 rfl (lv_at hl 2 rfl) ?_
    refine lv_iload_n hx hb d_S_mayBe_11 rfl (lv_at hl 0 rfl) ?_
    refine lv_iload_n hx hb d_S_mayBe_12 rfl (lv_at hl 1 rfl) ?_
    refine lv_iconst (v := 1) hx hb d_S_mayBe_13 (by decide) ?_
    refine rcS (As := [.int k, .int j, .int 1]) (rest := [.int v]) (c_S_column l dC dI tb k j 1 ) F tw_96 tw_30 tw_95 tw_94 hP [] rfl hK [] rfl hE hS hd_S_column rfl rfl ⟨Nat.le_of_ble_eq_true rfl, Nat.le_of_ble_eq_true rfl⟩ ⟨Nat.le_of_ble_eq_true rfl, Nat.le_of_ble_eq_true rfl⟩ hl.1 rfl (Nat.le_of_ble_eq_true rfl) d_S_mayBe_14 ?_
    refine lv_icmp_gt (tgt := 24) hx hb d_S_mayBe_17 (by decide) (fun c_15 => ?_) (fun c_15 => ?_)
    · refine lv_iconst (v := 0) hx hb d_S_mayBe_24 (by decide) ?_
      exact W.zret hx hb hr (rfl) (fun t ht9 hW => ⟨_, rfl, by simp only [myB, if_neg c_14, if_pos c_15], ht9⟩) hS.2.2 d_S_mayBe_25
    · refine lv_iconst (v := 1) hx hb d_S_mayBe_20 (by decide) ?_
      refine lv_goto (tgt := 25) hx hb d_S_mayBe_21 (by decide) ?_
      exact W.zret hx hb hr (rfl) (fun t ht9 hW => ⟨_, rfl, by simp only [myB, if_neg c_14, if_neg c_15], ht9⟩) hS.2.2 d_S_mayBe_25
set_option maxHeartbeats 4000000 in
set_option maxRecDepth 100000 in
theorem c_S_untold (l : Launch) (dC : Nat → ClassId) (dI : Nat → Nat → Nat) (tb : tbT) (k j : Int32) : RM l y_S_untold (Cond.code y_S_untold b_S_untold 2 (some .int) :: TB) ({ frames := 2, cells := 0, slots := 0, locals := 43 }) tb (dC, dI) [.int k, .int j] [] [] (colm k j 2) := by
  refine Met.ofW (cc := b_S_untold) (maxL := 2) (ret := (some .int)) (by decide) rfl ?_
  intro p e s m args below meth c s₁ B hml hv
  obtain ⟨rfl, hP, hK, hE⟩ := hv
  have hx := B.exec
  have hb := B.bytes
  have hr := B.returns
  have ht := fun w (h : w ∈ TB) => atoms_spec (ws := Cond.code y_S_untold b_S_untold 2 (some .int) :: TB) B.pre w (List.mem_cons_of_mem _ h)
  have hown : s.vm.findClass R_S = some m.cls := findClass_of_methodNamed B.named
  have hlocks := B.notSynchronized
  have hS : va_S (fun _ => False) s.heap s.heap [] := va_S.rf
  have F : CallFix p m c b_S_untold 2 s _ TB R_S := ⟨hx, hb, hml, hown, ht⟩
  have hl := lv_entry ([.int k, .int j]) (n := 2) (Nat.le_of_ble_eq_true rfl)
  rw [lg_entry_eq]
  generalize (lg_sl ([.int k, .int j]) ++ List.replicate (2 - (lg_sl ([.int k, .int j])).length) Slot.unset).toArray = ls at hl ⊢
  have hl : lv_has ls 2 [(0, .int k), (1, .int j)] := hl
  refine lv_iload_n hx hb d_S_untold_0 rfl (lv_at hl 0 rfl) ?_
  refine lv_iload_n hx hb d_S_untold_1 rfl (lv_at hl 1 rfl) ?_
  refine lv_iconst (v := 2) hx hb d_S_untold_2 (by decide) ?_
  refine rcS (As := [.int k, .int j, .int 2]) (rest := []) (c_S_column l dC dI tb k j 2 ) F tw_96 tw_30 tw_95 tw_94 hP [] rfl hK [] rfl hE hS hd_S_column rfl rfl ⟨Nat.le_of_ble_eq_true rfl, Nat.le_of_ble_eq_true rfl⟩ ⟨Nat.le_of_ble_eq_true rfl, Nat.le_of_ble_eq_true rfl⟩ hl.1 rfl (Nat.le_of_ble_eq_true rfl) d_S_untold_3 ?_
  exact W.iret hx hb hr (fun t ht9 hW => ⟨_, rfl, rfl, ht9⟩) hS.2.2 d_S_untold_6
end
section
set_option maxHeartbeats 4000000 in
set_option maxRecDepth 100000 in
theorem c_R_restart (l : Launch) (dC : Nat → ClassId) (dI : Nat → Nat → Nat) (tb : tbT) (ru bk : Nat) (pl dp lp ld dn rf qu ov : Int32) (sz : Nat) : MV l y_R_restart (Cond.code y_R_restart b_R_restart 1 none :: TB) ({ frames := 0, cells := 0, slots := 0, locals := 0 }) tb (dC, dI) [.ref ru] [(ru, .inr (1, [.ref bk, .int pl, .int dp, .int lp, .int ld, .int dn, .int rf, .int qu, .int ov]))] [(ru, .inr (1, [.ref bk, .int 0, .int 0, .int (-1), .int (-1), .int 0, .int 0, .int (-1), .int 0]))] [] sz := by
  refine Met.ofW (cc := b_R_restart) (maxL := 1) (ret := none) (by decide) rfl ?_
  intro p e s m args below meth c s₁ B hml hv
  obtain ⟨rfl, hsz, hP, hK, hD0, hE⟩ := hv
  have hx := B.exec
  have hb := B.bytes
  have hr := B.returns
  have ht := fun w (h : w ∈ TB) => atoms_spec (ws := Cond.code y_R_restart b_R_restart 1 none :: TB) B.pre w (List.mem_cons_of_mem _ h)
  have hown : s.vm.findClass R_R = some m.cls := findClass_of_methodNamed B.named
  have hlocks := B.notSynchronized
  subst hsz
  have hD := hD0.self (sz := s.heap.size)
  generalize hAe : va_A [(ru, .inr (1, [.ref bk, .int pl, .int dp, .int lp, .int ld, .int dn, .int rf, .int qu, .int ov]))] s.heap.size = A at hD hE ⊢
  have hA : ∀ q : Nat, s.heap.size ≤ q → A q := fun q h => by rw [← hAe]; exact Or.inr h
  have hS : va_S A s.heap s.heap [] := va_S.rf
  have F : CallFix p m c b_R_restart 1 s _ TB R_R := ⟨hx, hb, hml, hown, ht⟩
  have hl := lv_entry ([.ref ru]) (n := 1) (Nat.le_of_ble_eq_true rfl)
  rw [lg_entry_eq]
  generalize (lg_sl ([.ref ru]) ++ List.replicate (1 - (lg_sl ([.ref ru])).length) Slot.unset).toArray = ls at hl ⊢
  have hl : lv_has ls 1 [(0, .ref ru)] := hl
  refine lv_aload_n hx hb d_R_restart_0 rfl (lv_at hl 0 rfl) ?_
  refine lv_iconst (v := 0) hx hb d_R_restart_1 (by decide) ?_
  refine va_put (D := (dC, dI)) (ci := 1) (v := .int 0) (ty := .int) (C := R_R) (T := F_R) (N := 9) hx hb ht tu_R ft_R ft_R_ok n_R hown hK hP hD hS 0 rfl rfl 1 (by decide) (ht _ tw_141) (fun _ h9 => h9) rfl (by decide +kernel) rfl rfl (Nat.le_of_ble_eq_true rfl) d_R_restart_2 (fun H locs hP hD hS => ?_)
  have hP : va_P (dC, dI) clX [(ru, .inr (1, [.ref bk, .int 0, .int dp, .int lp, .int ld, .int dn, .int rf, .int qu, .int ov]))] H := hP
  have hD : va_D A [(ru, .inr (1, [.ref bk, .int 0, .int dp, .int lp, .int ld, .int dn, .int rf, .int qu, .int ov]))] := hD
  refine lv_aload_n hx hb d_R_restart_5 rfl (lv_at hl 0 rfl) ?_
  refine lv_iconst (v := 0) hx hb d_R_restart_6 (by decide) ?_
  refine va_put (D := (dC, dI)) (ci := 1) (v := .int 0) (ty := .int) (C := R_R) (T := F_R) (N := 9) hx hb ht tu_R ft_R ft_R_ok n_R hown hK hP hD hS 0 rfl rfl 2 (by decide) (ht _ tw_143) (fun _ h9 => h9) rfl (by decide +kernel) rfl rfl (Nat.le_of_ble_eq_true rfl) d_R_restart_7 (fun H locs hP hD hS => ?_)
  have hP : va_P (dC, dI) clX [(ru, .inr (1, [.ref bk, .int 0, .int 0, .int lp, .int ld, .int dn, .int rf, .int qu, .int ov]))] H := hP
  have hD : va_D A [(ru, .inr (1, [.ref bk, .int 0, .int 0, .int lp, .int ld, .int dn, .int rf, .int qu, .int ov]))] := hD
  refine lv_aload_n hx hb d_R_restart_10 rfl (lv_at hl 0 rfl) ?_
  refine lv_iconst (v := (-1)) hx hb d_R_restart_11 (by decide) ?_
  refine va_put (D := (dC, dI)) (ci := 1) (v := .int (-1)) (ty := .int) (C := R_R) (T := F_R) (N := 9) hx hb ht tu_R ft_R ft_R_ok n_R hown hK hP hD hS 0 rfl rfl 3 (by decide) (ht _ tw_145) (fun _ h9 => h9) rfl (by decide +kernel) rfl rfl (Nat.le_of_ble_eq_true rfl) d_R_restart_12 (fun H locs hP hD hS => ?_)
  have hP : va_P (dC, dI) clX [(ru, .inr (1, [.ref bk, .int 0, .int 0, .int (-1), .int ld, .int dn, .int rf, .int qu, .int ov]))] H := hP
  have hD : va_D A [(ru, .inr (1, [.ref bk, .int 0, .int 0, .int (-1), .int ld, .int dn, .int rf, .int qu, .int ov]))] := hD
  refine lv_aload_n hx hb d_R_restart_15 rfl (lv_at hl 0 rfl) ?_
  refine lv_iconst (v := (-1)) hx hb d_R_restart_16 (by decide) ?_
  refine va_put (D := (dC, dI)) (ci := 1) (v := .int (-1)) (ty := .int) (C := R_R) (T := F_R) (N := 9) hx hb ht tu_R ft_R ft_R_ok n_R hown hK hP hD hS 0 rfl rfl 4 (by decide) (ht _ tw_147) (fun _ h9 => h9) rfl (by decide +kernel) rfl rfl (Nat.le_of_ble_eq_true rfl) d_R_restart_17 (fun H locs hP hD hS => ?_)
  have hP : va_P (dC, dI) clX [(ru, .inr (1, [.ref bk, .int 0, .int 0, .int (-1), .int (-1), .int dn, .int rf, .int qu, .int ov]))] H := hP
  have hD : va_D A [(ru, .inr (1, [.ref bk, .int 0, .int 0, .int (-1), .int (-1), .int dn, .int rf, .int qu, .int ov]))] := hD
  refine lv_aload_n hx hb d_R_restart_20 rfl (lv_at hl 0 rfl) ?_
  refine lv_iconst (v := 0) hx hb d_R_restart_21 (by decide) ?_
  refine va_put (D := (dC, dI)) (ci := 1) (v := .int 0) (ty := .int) (C := R_R) (T := F_R) (N := 9) hx hb ht tu_R ft_R ft_R_ok n_R hown hK hP hD hS 0 rfl rfl 5 (by decide) (ht _ tw_149) (fun _ h9 => h9) rfl (by decide +kernel) rfl rfl (Nat.le_of_ble_eq_true rfl) d_R_restart_22 (fun H locs hP hD hS => ?_)
  have hP : va_P (dC, dI) clX [(ru, .inr (1, [.ref bk, .int 0, .int 0, .int (-1), .int (-1), .int 0, .int rf, .int qu, .int ov]))] H := hP
  have hD : va_D A [(ru, .inr (1, [.ref bk, .int 0, .int 0, .int (-1), .int (-1), .int 0, .int rf, .int qu, .int ov]))] := hD
  refine lv_aload_n hx hb d_R_restart_25 rfl (lv_at hl 0 rfl) ?_
  refine lv_iconst (v := 0) hx hb d_R_restart_26 (by decide) ?_
  refine va_put (D := (dC, dI)) (ci := 1) (v := .int 0) (ty := .int) (C := R_R) (T := F_R) (N := 9) hx hb ht tu_R ft_R ft_R_ok n_R hown hK hP hD hS 0 rfl rfl 6 (by decide) (ht _ tw_151) (fun _ h9 => h9) rfl (by decide +kernel) rfl rfl (Nat.le_of_ble_eq_true rfl) d_R_restart_27 (fun H locs hP hD hS => ?_)
  have hP : va_P (dC, dI) clX [(ru, .inr (1, [.ref bk, .int 0, .int 0, .int (-1), .int (-1), .int 0, .int 0, .int qu, .int ov]))] H := hP
  have hD : va_D A [(ru, .inr (1, [.ref bk, .int 0, .int 0, .int (-1), .int (-1), .int 0, .int 0, .int qu, .int ov]))] := hD
  refine lv_aload_n hx hb d_R_restart_30 rfl (lv_at hl 0 rfl) ?_
  refine lv_iconst (v := (-1)) hx hb d_R_restart_31 (by decide) ?_
  refine va_put (D := (dC, dI)) (ci := 1) (v := .int (-1)) (ty := .int) (C := R_R) (T := F_R) (N := 9) hx hb ht tu_R ft_R ft_R_ok n_R hown hK hP hD hS 0 rfl rfl 7 (by decide) (ht _ tw_153) (fun _ h9 => h9) rfl (by decide +kernel) rfl rfl (Nat.le_of_ble_eq_true rfl) d_R_restart_32 (fun H locs hP hD hS => ?_)
  have hP : va_P (dC, dI) clX [(ru, .inr (1, [.ref bk, .int 0, .int 0, .int (-1), .int (-1), .int 0, .int 0, .int (-1), .int ov]))] H := hP
  have hD : va_D A [(ru, .inr (1, [.ref bk, .int 0, .int 0, .int (-1), .int (-1), .int 0, .int 0, .int (-1), .int ov]))] := hD
  refine lv_aload_n hx hb d_R_restart_35 rfl (lv_at hl 0 rfl) ?_
  refine lv_iconst (v := 0) hx hb d_R_restart_36 (by decide) ?_
  refine va_put (D := (dC, dI)) (ci := 1) (v := .int 0) (ty := .boolean) (C := R_R) (T := F_R) (N := 9) hx hb ht tu_R ft_R ft_R_ok n_R hown hK hP hD hS 0 rfl rfl 8 (by decide) (ht _ tw_155) (fun _ h9 => h9) rfl (by decide +kernel) (by rfl) rfl (Nat.le_of_ble_eq_true rfl) d_R_restart_37 (fun H locs hP hD hS => ?_)
  have hP : va_P (dC, dI) clX [(ru, .inr (1, [.ref bk, .int 0, .int 0, .int (-1), .int (-1), .int 0, .int 0, .int (-1), .int 0]))] H := hP
  have hD : va_D A [(ru, .inr (1, [.ref bk, .int 0, .int 0, .int (-1), .int (-1), .int 0, .int 0, .int (-1), .int 0]))] := hD
  have hP9 := hP.sub (ws' := [(ru, .inr (1, [.ref bk, .int 0, .int 0, .int (-1), .int (-1), .int 0, .int 0, .int (-1), .int 0]))]) [0] rfl
  have hD9 := hD.sub (ws' := [(ru, .inr (1, [.ref bk, .int 0, .int 0, .int (-1), .int (-1), .int 0, .int 0, .int (-1), .int 0]))]) [0] (by decide) rfl
  exact W.vret hx hb hr (fun t ht9 hW => ⟨⟨(), rfl, trivial, by rw [ht9]; exact hP9, va_K.moved hW.alike hK, by rw [hAe]; exact hD9⟩, hS.F ht9⟩) hS.2.2 d_R_restart_40
set_option maxHeartbeats 4000000 in
set_option maxRecDepth 100000 in
theorem c_R_arrive (l : Launch) (dC : Nat → ClassId) (dI : Nat → Nat → Nat) (tb : tbT) (ru bk : Nat) (pl dp lp ld dn rf qu ov : Int32) (sz : Nat) : MV l y_R_arrive (Cond.code y_R_arrive b_R_arrive 1 none :: TB) ({ frames := 0, cells := 0, slots := 0, locals := 0 }) tb (dC, dI) [.ref ru] [(ru, .inr (1, [.ref bk, .int pl, .int dp, .int lp, .int ld, .int dn, .int rf, .int qu, .int ov]))] [(ru, .inr (1, [.ref bk, .int pl, .int dp, .int pl, .int dp, .int dn, .int rf, .int qu, .int ov]))] [] sz := by
  refine Met.ofW (cc := b_R_arrive) (maxL := 1) (ret := none) (by decide) rfl ?_
  intro p e s m args below meth c s₁ B hml hv
  obtain ⟨rfl, hsz, hP, hK, hD0, hE⟩ := hv
  have hx := B.exec
  have hb := B.bytes
  have hr := B.returns
  have ht := fun w (h : w ∈ TB) => atoms_spec (ws := Cond.code y_R_arrive b_R_arrive 1 none :: TB) B.pre w (List.mem_cons_of_mem _ h)
  have hown : s.vm.findClass R_R = some m.cls := findClass_of_methodNamed B.named
  have hlocks := B.notSynchronized
  subst hsz
  have hD := hD0.self (sz := s.heap.size)
  generalize hAe : va_A [(ru, .inr (1, [.ref bk, .int pl, .int dp, .int lp, .int ld, .int dn, .int rf, .int qu, .int ov]))] s.heap.size = A at hD hE ⊢
  have hA : ∀ q : Nat, s.heap.size ≤ q → A q := fun q h => by rw [← hAe]; exact Or.inr h
  have hS : va_S A s.heap s.heap [] := va_S.rf
  have F : CallFix p m c b_R_arrive 1 s _ TB R_R := ⟨hx, hb, hml, hown, ht⟩
  have hl := lv_entry ([.ref ru]) (n := 1) (Nat.le_of_ble_eq_true rfl)
  rw [lg_entry_eq]
  generalize (lg_sl ([.ref ru]) ++ List.replicate (1 - (lg_sl ([.ref ru])).length) Slot.unset).toArray = ls at hl ⊢
  have hl : lv_has ls 1 [(0, .ref ru)] := hl
  refine lv_aload_n hx hb d_R_arrive_0 rfl (lv_at hl 0 rfl) ?_
  refine lv_aload_n hx hb d_R_arrive_1 rfl (lv_at hl 0 rfl) ?_
  refine va_get (D := (dC, dI)) (ci := 1) (v := .int pl) (C := R_R) (T := F_R) (N := 9) hx hb ht tu_R hown hK hP 0 rfl rfl 1 (by decide) (ht _ tw_141) (fun _ h9 => h9) rfl d_R_arrive_2 ?_
  refine va_put (D := (dC, dI)) (ci := 1) (v := .int pl) (ty := .int) (C := R_R) (T := F_R) (N := 9) hx hb ht tu_R ft_R ft_R_ok n_R hown hK hP hD hS 0 rfl rfl 3 (by decide) (ht _ tw_145) (fun _ h9 => h9) rfl (by decide +kernel) rfl rfl (Nat.le_of_ble_eq_true rfl) d_R_arrive_5 (fun H locs hP hD hS => ?_)
  have hP : va_P (dC, dI) clX [(ru, .inr (1, [.ref bk, .int pl, .int dp, .int pl, .int ld, .int dn, .int rf, .int qu, .int ov]))] H := hP
  have hD : va_D A [(ru, .inr (1, [.ref bk, .int pl, .int dp, .int pl, .int ld, .int dn, .int rf, .int qu, .int ov]))] := hD
  refine lv_aload_n hx hb d_R_arrive_8 rfl (lv_at hl 0 rfl) ?_
  refine lv_aload_n hx hb d_R_arrive_9 rfl (lv_at hl 0 rfl) ?_
  refine va_get (D := (dC, dI)) (ci := 1) (v := .int dp) (C := R_R) (T := F_R) (N := 9) hx hb ht tu_R hown hK hP 0 rfl rfl 2 (by decide) (ht _ tw_143) (fun _ h9 => h9) rfl d_R_arrive_10 ?_
  refine va_put (D := (dC, dI)) (ci := 1) (v := .int dp) (ty := .int) (C := R_R) (T := F_R) (N := 9) hx hb ht tu_R ft_R ft_R_ok n_R hown hK hP hD hS 0 rfl rfl 4 (by decide) (ht _ tw_147) (fun _ h9 => h9) rfl (by decide +kernel) rfl rfl (Nat.le_of_ble_eq_true rfl) d_R_arrive_13 (fun H locs hP hD hS => ?_)
  have hP : va_P (dC, dI) clX [(ru, .inr (1, [.ref bk, .int pl, .int dp, .int pl, .int dp, .int dn, .int rf, .int qu, .int ov]))] H := hP
  have hD : va_D A [(ru, .inr (1, [.ref bk, .int pl, .int dp, .int pl, .int dp, .int dn, .int rf, .int qu, .int ov]))] := hD
  have hP9 := hP.sub (ws' := [(ru, .inr (1, [.ref bk, .int pl, .int dp, .int pl, .int dp, .int dn, .int rf, .int qu, .int ov]))]) [0] rfl
  have hD9 := hD.sub (ws' := [(ru, .inr (1, [.ref bk, .int pl, .int dp, .int pl, .int dp, .int dn, .int rf, .int qu, .int ov]))]) [0] (by decide) rfl
  exact W.vret hx hb hr (fun t ht9 hW => ⟨⟨(), rfl, trivial, by rw [ht9]; exact hP9, va_K.moved hW.alike hK, by rw [hAe]; exact hD9⟩, hS.F ht9⟩) hS.2.2 d_R_arrive_16
set_option maxHeartbeats 4000000 in
set_option maxRecDepth 100000 in
theorem c_R_refuse (l : Launch) (dC : Nat → ClassId) (dI : Nat → Nat → Nat) (tb : tbT) (ru bk : Nat) (pl dp lp ld dn rf qu ov : Int32) (n9 : Int32) (sz : Nat) : MV l y_R_refuse (Cond.code y_R_refuse b_R_refuse 2 none :: TB) ({ frames := 0, cells := 0, slots := 0, locals := 0 }) tb (dC, dI) [.ref ru, .int n9] [(ru, .inr (1, [.ref bk, .int pl, .int dp, .int lp, .int ld, .int dn, .int rf, .int qu, .int ov]))] [(ru, .inr (1, [.ref bk, .int pl, .int dp, .int lp, .int ld, .int dn, .int n9, .int qu, .int 1]))] [] sz := by
  refine Met.ofW (cc := b_R_refuse) (maxL := 2) (ret := none) (by decide) rfl ?_
  intro p e s m args below meth c s₁ B hml hv
  obtain ⟨rfl, hsz, hP, hK, hD0, hE⟩ := hv
  have hx := B.exec
  have hb := B.bytes
  have hr := B.returns
  have ht := fun w (h : w ∈ TB) => atoms_spec (ws := Cond.code y_R_refuse b_R_refuse 2 none :: TB) B.pre w (List.mem_cons_of_mem _ h)
  have hown : s.vm.findClass R_R = some m.cls := findClass_of_methodNamed B.named
  have hlocks := B.notSynchronized
  subst hsz
  have hD := hD0.self (sz := s.heap.size)
  generalize hAe : va_A [(ru, .inr (1, [.ref bk, .int pl, .int dp, .int lp, .int ld, .int dn, .int rf, .int qu, .int ov]))] s.heap.size = A at hD hE ⊢
  have hA : ∀ q : Nat, s.heap.size ≤ q → A q := fun q h => by rw [← hAe]; exact Or.inr h
  have hS : va_S A s.heap s.heap [] := va_S.rf
  have F : CallFix p m c b_R_refuse 2 s _ TB R_R := ⟨hx, hb, hml, hown, ht⟩
  have hl := lv_entry ([.ref ru, .int n9]) (n := 2) (Nat.le_of_ble_eq_true rfl)
  rw [lg_entry_eq]
  generalize (lg_sl ([.ref ru, .int n9]) ++ List.replicate (2 - (lg_sl ([.ref ru, .int n9])).length) Slot.unset).toArray = ls at hl ⊢
  have hl : lv_has ls 2 [(0, .ref ru), (1, .int n9)] := hl
  refine lv_aload_n hx hb d_R_refuse_0 rfl (lv_at hl 0 rfl) ?_
  refine lv_iload_n hx hb d_R_refuse_1 rfl (lv_at hl 1 rfl) ?_
  refine va_put (D := (dC, dI)) (ci := 1) (v := .int n9) (ty := .int) (C := R_R) (T := F_R) (N := 9) hx hb ht tu_R ft_R ft_R_ok n_R hown hK hP hD hS 0 rfl rfl 6 (by decide) (ht _ tw_151) (fun _ h9 => h9) rfl (by decide +kernel) rfl rfl (Nat.le_of_ble_eq_true rfl) d_R_refuse_2 (fun H locs hP hD hS => ?_)
  have hP : va_P (dC, dI) clX [(ru, .inr (1, [.ref bk, .int pl, .int dp, .int lp, .int ld, .int dn, .int n9, .int qu, .int ov]))] H := hP
  have hD : va_D A [(ru, .inr (1, [.ref bk, .int pl, .int dp, .int lp, .int ld, .int dn, .int n9, .int qu, .int ov]))] := hD
  refine lv_aload_n hx hb d_R_refuse_5 rfl (lv_at hl 0 rfl) ?_
  refine lv_iconst (v := 1) hx hb d_R_refuse_6 (by decide) ?_
  refine va_put (D := (dC, dI)) (ci := 1) (v := .int 1) (ty := .boolean) (C := R_R) (T := F_R) (N := 9) hx hb ht tu_R ft_R ft_R_ok n_R hown hK hP hD hS 0 rfl rfl 8 (by decide) (ht _ tw_155) (fun _ h9 => h9) rfl (by decide +kernel) (by rfl) rfl (Nat.le_of_ble_eq_true rfl) d_R_refuse_7 (fun H locs hP hD hS => ?_)
  have hP : va_P (dC, dI) clX [(ru, .inr (1, [.ref bk, .int pl, .int dp, .int lp, .int ld, .int dn, .int n9, .int qu, .int 1]))] H := hP
  have hD : va_D A [(ru, .inr (1, [.ref bk, .int pl, .int dp, .int lp, .int ld, .int dn, .int n9, .int qu, .int 1]))] := hD
  have hP9 := hP.sub (ws' := [(ru, .inr (1, [.ref bk, .int pl, .int dp, .int lp, .int ld, .int dn, .int n9, .int qu, .int 1]))]) [0] rfl
  have hD9 := hD.sub (ws' := [(ru, .inr (1, [.ref bk, .int pl, .int dp, .int lp, .int ld, .int dn, .int n9, .int qu, .int 1]))]) [0] (by decide) rfl
  exact W.vret hx hb hr (fun t ht9 hW => ⟨⟨(), rfl, trivial, by rw [ht9]; exact hP9, va_K.moved hW.alike hK, by rw [hAe]; exact hD9⟩, hS.F ht9⟩) hS.2.2 d_R_refuse_10
set_option maxHeartbeats 4000000 in
set_option maxRecDepth 100000 in
theorem c_R_passOver (l : Launch) (dC : Nat → ClassId) (dI : Nat → Nat → Nat) (tb : tbT) (ru bk : Nat) (pl dp lp ld dn rf qu ov : Int32) (n9 : Int32) (sz : Nat) : MV l y_R_passOver (Cond.code y_R_passOver b_R_passOver 2 none :: TB) ({ frames := 0, cells := 0, slots := 0, locals := 0 }) tb (dC, dI) [.ref ru, .int n9] [(ru, .inr (1, [.ref bk, .int pl, .int dp, .int lp, .int ld, .int dn, .int rf, .int qu, .int ov]))] [(ru, .inr (1, [.ref bk, .int (pl + (1 + n9)), .int dp, .int lp, .int ld, .int (dn + 1), .int rf, .int qu, .int ov]))] [] sz := by
  refine Met.ofW (cc := b_R_passOver) (maxL := 2) (ret := none) (by decide) rfl ?_
  intro p e s m args below meth c s₁ B hml hv
  obtain ⟨rfl, hsz, hP, hK, hD0, hE⟩ := hv
  have hx := B.exec
  have hb := B.bytes
  have hr := B.returns
  have ht := fun w (h : w ∈ TB) => atoms_spec (ws := Cond.code y_R_passOver b_R_passOver 2 none :: TB) B.pre w (List.mem_cons_of_mem _ h)
  have hown : s.vm.findClass R_R = some m.cls := findClass_of_methodNamed B.named
  have hlocks := B.notSynchronized
  subst hsz
  have hD := hD0.self (sz := s.heap.size)
  generalize hAe : va_A [(ru, .inr (1, [.ref bk, .int pl, .int dp, .int lp, .int ld, .int dn, .int rf, .int qu, .int ov]))] s.heap.size = A at hD hE ⊢
  have hA : ∀ q : Nat, s.heap.size ≤ q → A q := fun q h => by rw [← hAe]; exact Or.inr h
  have hS : va_S A s.heap s.heap [] := va_S.rf
  have F : CallFix p m c b_R_passOver 2 s _ TB R_R := ⟨hx, hb, hml, hown, ht⟩
  have hl := lv_entry ([.ref ru, .int n9]) (n := 2) (Nat.le_of_ble_eq_true rfl)
  rw [lg_entry_eq]
  generalize (lg_sl ([.ref ru, .int n9]) ++ List.replicate (2 - (lg_sl ([.ref ru, .int n9])).length) Slot.unset).toArray = ls at hl ⊢
  have hl : lv_has ls 2 [(0, .ref ru), (1, .int n9)] := hl
  refine lv_aload_n hx hb d_R_passOver_0 rfl (lv_at hl 0 rfl) ?_
  refine lv_dup hx hb d_R_passOver_1 rfl ?_
  refine va_get (D := (dC, dI)) (ci := 1) (v := .int pl) (C := R_R) (T := F_R) (N := 9) hx hb ht tu_R hown hK hP 0 rfl rfl 1 (by decide) (ht _ tw_141) (fun _ h9 => h9) rfl d_R_passOver_2 ?_
  refine lv_iconst (v := 1) hx hb d_R_passOver_5 (by decide) ?_
  refine lv_iload_n hx hb d_R_passOver_6 rfl (lv_at hl 1 rfl) ?_
  refine lv_iadd hx hb d_R_passOver_7 ?_
  refine lv_iadd hx hb d_R_passOver_8 ?_
  refine va_put (D := (dC, dI)) (ci := 1) (v := .int (pl + (1 + n9))) (ty := .int) (C := R_R) (T := F_R) (N := 9) hx hb ht tu_R ft_R ft_R_ok n_R hown hK hP hD hS 0 rfl rfl 1 (by decide) (ht _ tw_141) (fun _ h9 => h9) rfl (by decide +kernel) rfl rfl (Nat.le_of_ble_eq_true rfl) d_R_passOver_9 (fun H locs hP hD hS => ?_)
  have hP : va_P (dC, dI) clX [(ru, .inr (1, [.ref bk, .int (pl + (1 + n9)), .int dp, .int lp, .int ld, .int dn, .int rf, .int qu, .int ov]))] H := hP
  have hD : va_D A [(ru, .inr (1, [.ref bk, .int (pl + (1 + n9)), .int dp, .int lp, .int ld, .int dn, .int rf, .int qu, .int ov]))] := hD
  refine lv_aload_n hx hb d_R_passOver_12 rfl (lv_at hl 0 rfl) ?_
  refine lv_dup hx hb d_R_passOver_13 rfl ?_
  refine va_get (D := (dC, dI)) (ci := 1) (v := .int dn) (C := R_R) (T := F_R) (N := 9) hx hb ht tu_R hown hK hP 0 rfl rfl 5 (by decide) (ht _ tw_149) (fun _ h9 => h9) rfl d_R_passOver_14 ?_
  refine lv_iconst (v := 1) hx hb d_R_passOver_17 (by decide) ?_
  refine lv_iadd hx hb d_R_passOver_18 ?_
  refine va_put (D := (dC, dI)) (ci := 1) (v := .int (dn + 1)) (ty := .int) (C := R_R) (T := F_R) (N := 9) hx hb ht tu_R ft_R ft_R_ok n_R hown hK hP hD hS 0 rfl rfl 5 (by decide) (ht _ tw_149) (fun _ h9 => h9) rfl (by decide +kernel) rfl rfl (Nat.le_of_ble_eq_true rfl) d_R_passOver_19 (fun H locs hP hD hS => ?_)
  have hP : va_P (dC, dI) clX [(ru, .inr (1, [.ref bk, .int (pl + (1 + n9)), .int dp, .int lp, .int ld, .int (dn + 1), .int rf, .int qu, .int ov]))] H := hP
  have hD : va_D A [(ru, .inr (1, [.ref bk, .int (pl + (1 + n9)), .int dp, .int lp, .int ld, .int (dn + 1), .int rf, .int qu, .int ov]))] := hD
  have hP9 := hP.sub (ws' := [(ru, .inr (1, [.ref bk, .int (pl + (1 + n9)), .int dp, .int lp, .int ld, .int (dn + 1), .int rf, .int qu, .int ov]))]) [0] rfl
  have hD9 := hD.sub (ws' := [(ru, .inr (1, [.ref bk, .int (pl + (1 + n9)), .int dp, .int lp, .int ld, .int (dn + 1), .int rf, .int qu, .int ov]))]) [0] (by decide) rfl
  exact W.vret hx hb hr (fun t ht9 hW => ⟨⟨(), rfl, trivial, by rw [ht9]; exact hP9, va_K.moved hW.alike hK, by rw [hAe]; exact hD9⟩, hS.F ht9⟩) hS.2.2 d_R_passOver_22
set_option maxHeartbeats 4000000 in
set_option maxRecDepth 100000 in
theorem c_R_enter (l : Launch) (dC : Nat → ClassId) (dI : Nat → Nat → Nat) (tb : tbT) (ru bk : Nat) (pl dp lp ld dn rf qu ov : Int32) (bf : IF) (cI : ClassId) (n9 : Int32) (sz : Nat) : MV l y_R_enter (Cond.code y_R_enter b_R_enter 2 none :: TB) ({ frames := 1, cells := 0, slots := 0, locals := 22 }) tb (dC, dI) [.ref ru, .int n9] [(ru, .inr (1, [.ref bk, .int pl, .int dp, .int lp, .int ld, .int dn, .int rf, .int qu, .int ov])), (bk, .inl (cI, 4, .inl bf))] [(ru, .inr (1, [.ref bk, .int n9, .int (dp + 1), .int lp, .int ld, .int dn, .int rf, .int qu, .int ov])), (bk, .inl (cI, 4, .inl (wrA 4 bf dp pl)))] [(cI, .int)] sz := by
  refine Met.ofW (cc := b_R_enter) (maxL := 2) (ret := none) (by decide) rfl ?_
  intro p e s m args below meth c s₁ B hml hv
  obtain ⟨rfl, hsz, hP, hK, hD0, hE⟩ := hv
  have hx := B.exec
  have hb := B.bytes
  have hr := B.returns
  have ht := fun w (h : w ∈ TB) => atoms_spec (ws := Cond.code y_R_enter b_R_enter 2 none :: TB) B.pre w (List.mem_cons_of_mem _ h)
  have hown : s.vm.findClass R_R = some m.cls := findClass_of_methodNamed B.named
  have hlocks := B.notSynchronized
  subst hsz
  have hD := hD0.self (sz := s.heap.size)
  generalize hAe : va_A [(ru, .inr (1, [.ref bk, .int pl, .int dp, .int lp, .int ld, .int dn, .int rf, .int qu, .int ov])), (bk, .inl (cI, 4, .inl bf))] s.heap.size = A at hD hE ⊢
  have hA : ∀ q : Nat, s.heap.size ≤ q → A q := fun q h => by rw [← hAe]; exact Or.inr h
  have hS : va_S A s.heap s.heap [] := va_S.rf
  have F : CallFix p m c b_R_enter 2 s _ TB R_R := ⟨hx, hb, hml, hown, ht⟩
  have hl := lv_entry ([.ref ru, .int n9]) (n := 2) (Nat.le_of_ble_eq_true rfl)
  rw [lg_entry_eq]
  generalize (lg_sl ([.ref ru, .int n9]) ++ List.replicate (2 - (lg_sl ([.ref ru, .int n9])).length) Slot.unset).toArray = ls at hl ⊢
  have hl : lv_has ls 2 [(0, .ref ru), (1, .int n9)] := hl
  refine lv_aload_n hx hb d_R_enter_0 rfl (lv_at hl 0 rfl) ?_
  refine va_get (D := (dC, dI)) (ci := 1) (v := .ref bk) (C := R_R) (T := F_R) (N := 9) hx hb ht tu_R hown hK hP 0 rfl rfl 0 (by decide) (ht _ tw_140) (fun _ h9 => h9) rfl d_R_enter_1 ?_
  refine lv_aload_n hx hb d_R_enter_4 rfl (lv_at hl 0 rfl) ?_
  refine va_get (D := (dC, dI)) (ci := 1) (v := .int dp) (C := R_R) (T := F_R) (N := 9) hx hb ht tu_R hown hK hP 0 rfl rfl 2 (by decide) (ht _ tw_143) (fun _ h9 => h9) rfl d_R_enter_5 ?_
  refine lv_aload_n hx hb d_R_enter_8 rfl (lv_at hl 0 rfl) ?_
  refine va_get (D := (dC, dI)) (ci := 1) (v := .int pl) (C := R_R) (T := F_R) (N := 9) hx hb ht tu_R hown hK hP 0 rfl rfl 1 (by decide) (ht _ tw_141) (fun _ h9 => h9) rfl d_R_enter_9 ?_
  refine mcSNv (As := [.ref bk, .int dp, .int pl]) (rest := []) (wr := [(ru, .inr (1, [.ref bk, .int pl, .int dp, .int lp, .int ld, .int dn, .int rf, .int qu, .int ov]))]) (c_D_write l dC dI tb bk 4 bf cI dp pl (by decide)) F tw_58 tw_28 tw_57 nw_18 hP hD [1] [0] rfl rfl (by decide) (by decide) (by decide) hK [0] rfl hE hS hA hd_D_write rfl rfl ⟨Nat.le_of_ble_eq_true rfl, Nat.le_of_ble_eq_true rfl⟩ ⟨Nat.le_of_ble_eq_true rfl, Nat.le_of_ble_eq_true rfl⟩ hl.1 rfl (Nat.le_of_ble_eq_true rfl) d_R_enter_12 (fun H locs hP hD hS => ?_)
  have hP : va_P (dC, dI) clX [(ru, .inr (1, [.ref bk, .int pl, .int dp, .int lp, .int ld, .int dn, .int rf, .int qu, .int ov])), (bk, .inl (cI, 4, .inl (wrA 4 bf dp pl)))] H := hP
  have hD : va_D A [(ru, .inr (1, [.ref bk, .int pl, .int dp, .int lp, .int ld, .int dn, .int rf, .int qu, .int ov])), (bk, .inl (cI, 4, .inl (wrA 4 bf dp pl)))] := hD
  refine lv_aload_n hx hb d_R_enter_15 rfl (lv_at hl 0 rfl) ?_
  refine lv_dup hx hb d_R_enter_16 rfl ?_
  refine va_get (D := (dC, dI)) (ci := 1) (v := .int dp) (C := R_R) (T := F_R) (N := 9) hx hb ht tu_R hown hK hP 0 rfl rfl 2 (by decide) (ht _ tw_143) (fun _ h9 => h9) rfl d_R_enter_17 ?_
  refine lv_iconst (v := 1) hx hb d_R_enter_20 (by decide) ?_
  refine lv_iadd hx hb d_R_enter_21 ?_
  refine va_put (D := (dC, dI)) (ci := 1) (v := .int (dp + 1)) (ty := .int) (C := R_R) (T := F_R) (N := 9) hx hb ht tu_R ft_R ft_R_ok n_R hown hK hP hD hS 0 rfl rfl 2 (by decide) (ht _ tw_143) (fun _ h9 => h9) rfl (by decide +kernel) rfl rfl (Nat.le_of_ble_eq_true rfl) d_R_enter_22 (fun H locs hP hD hS => ?_)
  have hP : va_P (dC, dI) clX [(ru, .inr (1, [.ref bk, .int pl, .int (dp + 1), .int lp, .int ld, .int dn, .int rf, .int qu, .int ov])), (bk, .inl (cI, 4, .inl (wrA 4 bf dp pl)))] H := hP
  have hD : va_D A [(ru, .inr (1, [.ref bk, .int pl, .int (dp + 1), .int lp, .int ld, .int dn, .int rf, .int qu, .int ov])), (bk, .inl (cI, 4, .inl (wrA 4 bf dp pl)))] := hD
  refine lv_aload_n hx hb d_R_enter_25 rfl (lv_at hl 0 rfl) ?_
  refine lv_iload_n hx hb d_R_enter_26 rfl (lv_at hl 1 rfl) ?_
  refine va_put (D := (dC, dI)) (ci := 1) (v := .int n9) (ty := .int) (C := R_R) (T := F_R) (N := 9) hx hb ht tu_R ft_R ft_R_ok n_R hown hK hP hD hS 0 rfl rfl 1 (by decide) (ht _ tw_141) (fun _ h9 => h9) rfl (by decide +kernel) rfl rfl (Nat.le_of_ble_eq_true rfl) d_R_enter_27 (fun H locs hP hD hS => ?_)
  have hP : va_P (dC, dI) clX [(ru, .inr (1, [.ref bk, .int n9, .int (dp + 1), .int lp, .int ld, .int dn, .int rf, .int qu, .int ov])), (bk, .inl (cI, 4, .inl (wrA 4 bf dp pl)))] H := hP
  have hD : va_D A [(ru, .inr (1, [.ref bk, .int n9, .int (dp + 1), .int lp, .int ld, .int dn, .int rf, .int qu, .int ov])), (bk, .inl (cI, 4, .inl (wrA 4 bf dp pl)))] := hD
  have hP9 := hP.sub (ws' := [(ru, .inr (1, [.ref bk, .int n9, .int (dp + 1), .int lp, .int ld, .int dn, .int rf, .int qu, .int ov])), (bk, .inl (cI, 4, .inl (wrA 4 bf dp pl)))]) [0, 1] rfl
  have hD9 := hD.sub (ws' := [(ru, .inr (1, [.ref bk, .int n9, .int (dp + 1), .int lp, .int ld, .int dn, .int rf, .int qu, .int ov])), (bk, .inl (cI, 4, .inl (wrA 4 bf dp pl)))]) [0, 1] (by decide) rfl
  exact W.vret hx hb hr (fun t ht9 hW => ⟨⟨(), rfl, trivial, by rw [ht9]; exact hP9, va_K.moved hW.alike hK, by rw [hAe]; exact hD9⟩, hS.F ht9⟩) hS.2.2 d_R_enter_30
set_option maxHeartbeats 4000000 in
set_option maxRecDepth 100000 in
theorem c_R_leave (l : Launch) (dC : Nat → ClassId) (dI : Nat → Nat → Nat) (tb : tbT) (ru bk : Nat) (pl dp lp ld dn rf qu ov : Int32) (bf : IF) (cI : ClassId) (sz : Nat) : MV l y_R_leave (Cond.code y_R_leave b_R_leave 1 none :: TB) ({ frames := 1, cells := 0, slots := 0, locals := 21 }) tb (dC, dI) [.ref ru] [(ru, .inr (1, [.ref bk, .int pl, .int dp, .int lp, .int ld, .int dn, .int rf, .int qu, .int ov])), (bk, .inl (cI, 4, .inl bf))] [(ru, .inr (1, [.ref bk, .int (if dp = 0 then pl else rdA 4 bf (dp - 1)), .int (if dp = 0 then dp else (dp - 1)), .int lp, .int ld, .int dn, .int rf, .int qu, .int (if dp = 0 then 1 else ov)])), (bk, .inl (cI, 4, .inl bf))] [(cI, .int)] sz := by
  refine Met.ofW (cc := b_R_leave) (maxL := 1) (ret := none) (by decide) rfl ?_
  intro p e s m args below meth c s₁ B hml hv
  obtain ⟨rfl, hsz, hP, hK, hD0, hE⟩ := hv
  have hx := B.exec
  have hb := B.bytes
  have hr := B.returns
  have ht := fun w (h : w ∈ TB) => atoms_spec (ws := Cond.code y_R_leave b_R_leave 1 none :: TB) B.pre w (List.mem_cons_of_mem _ h)
  have hown : s.vm.findClass R_R = some m.cls := findClass_of_methodNamed B.named
  have hlocks := B.notSynchronized
  subst hsz
  have hD := hD0.self (sz := s.heap.size)
  generalize hAe : va_A [(ru, .inr (1, [.ref bk, .int pl, .int dp, .int lp, .int ld, .int dn, .int rf, .int qu, .int ov])), (bk, .inl (cI, 4, .inl bf))] s.heap.size = A at hD hE ⊢
  have hA : ∀ q : Nat, s.heap.size ≤ q → A q := fun q h => by rw [← hAe]; exact Or.inr h
  have hS : va_S A s.heap s.heap [] := va_S.rf
  have F : CallFix p m c b_R_leave 1 s _ TB R_R := ⟨hx, hb, hml, hown, ht⟩
  have hl := lv_entry ([.ref ru]) (n := 1) (Nat.le_of_ble_eq_true rfl)
  rw [lg_entry_eq]
  generalize (lg_sl ([.ref ru]) ++ List.replicate (1 - (lg_sl ([.ref ru])).length) Slot.unset).toArray = ls at hl ⊢
  have hl : lv_has ls 1 [(0, .ref ru)] := hl
  refine lv_aload_n hx hb d_R_leave_0 rfl (lv_at hl 0 rfl) ?_
  refine va_get (D := (dC, dI)) (ci := 1) (v := .int dp) (C := R_R) (T := F_R) (N := 9) hx hb ht tu_R hown hK hP 0 rfl rfl 2 (by decide) (ht _ tw_143) (fun _ h9 => h9) rfl d_R_leave_1 ?_
  refine lv_if_ne (tgt := 13) hx hb d_R_leave_4 (by decide) (fun c_16 => ?_) (fun c_16 => ?_)
  · refine lv_aload_n hx hb d_R_leave_13 rfl (lv_at hl 0 rfl) ?_
    refine lv_dup hx hb d_R_leave_14 rfl ?_
    refine va_get (D := (dC, dI)) (ci := 1) (v := .int dp) (C := R_R) (T := F_R) (N := 9) hx hb ht tu_R hown hK hP 0 rfl rfl 2 (by decide) (ht _ tw_143) (fun _ h9 => h9) rfl d_R_leave_15 ?_
    refine lv_iconst (v := 1) hx hb d_R_leave_18 (by decide) ?_
    refine lv_isub hx hb d_R_leave_19 ?_
    refine va_put (D := (dC, dI)) (ci := 1) (v := .int (dp - 1)) (ty := .int) (C := R_R) (T := F_R) (N := 9) hx hb ht tu_R ft_R ft_R_ok n_R hown hK hP hD hS 0 rfl rfl 2 (by decide) (ht _ tw_143) (fun _ h9 => h9) rfl (by decide +kernel) rfl rfl (Nat.le_of_ble_eq_true rfl) d_R_leave_20 (fun H locs hP hD hS => ?_)
    have hP : va_P (dC, dI) clX [(ru, .inr (1, [.ref bk, .int pl, .int (dp - 1), .int lp, .int ld, .int dn, .int rf, .int qu, .int ov])), (bk, .inl (cI, 4, .inl bf))] H := hP
    have hD : va_D A [(ru, .inr (1, [.ref bk, .int pl, .int (dp - 1), .int lp, .int ld, .int dn, .int rf, .int qu, .int ov])), (bk, .inl (cI, 4, .inl bf))] := hD
    refine lv_aload_n hx hb d_R_leave_23 rfl (lv_at hl 0 rfl) ?_
    refine lv_aload_n hx hb d_R_leave_24 rfl (lv_at hl 0 rfl) ?_
    refine va_get (D := (dC, dI)) (ci := 1) (v := .ref bk) (C := R_R) (T := F_R) (N := 9) hx hb ht tu_R hown hK hP 0 rfl rfl 0 (by decide) (ht _ tw_140) (fun _ h9 => h9) rfl d_R_leave_25 ?_
    refine lv_aload_n hx hb d_R_leave_28 rfl (lv_at hl 0 rfl) ?_
    refine va_get (D := (dC, dI)) (ci := 1) (v := .int (dp - 1)) (C := R_R) (T := F_R) (N := 9) hx hb ht tu_R hown hK hP 0 rfl rfl 2 (by decide) (ht _ tw_143) (fun _ h9 => h9) rfl d_R_leave_29 ?_
    refine rcSN (As := [.ref bk, .int (dp - 1)]) (rest := [.ref ru]) (c_D_read l dC dI tb bk 4 bf cI (dp - 1) (by decide)) F tw_66 tw_28 tw_65 nw_17 hP [1] rfl hK [0] rfl hE hS hd_D_read rfl rfl ⟨Nat.le_of_ble_eq_true rfl, Nat.le_of_ble_eq_true rfl⟩ ⟨Nat.le_of_ble_eq_true rfl, Nat.le_of_ble_eq_true rfl⟩ hl.1 rfl (Nat.le_of_ble_eq_true rfl) d_R_leave_32 ?_
    refine va_put (D := (dC, dI)) (ci := 1) (v := .int (rdA 4 bf (dp - 1))) (ty := .int) (C := R_R) (T := F_R) (N := 9) hx hb ht tu_R ft_R ft_R_ok n_R hown hK hP hD hS 0 rfl rfl 1 (by decide) (ht _ tw_141) (fun _ h9 => h9) rfl (by decide +kernel) rfl rfl (Nat.le_of_ble_eq_true rfl) d_R_leave_35 (fun H locs hP hD hS => ?_)
    have hP : va_P (dC, dI) clX [(ru, .inr (1, [.ref bk, .int (rdA 4 bf (dp - 1)), .int (dp - 1), .int lp, .int ld, .int dn, .int rf, .int qu, .int ov])), (bk, .inl (cI, 4, .inl bf))] H := hP
    have hD : va_D A [(ru, .inr (1, [.ref bk, .int (rdA 4 bf (dp - 1)), .int (dp - 1), .int lp, .int ld, .int dn, .int rf, .int qu, .int ov])), (bk, .inl (cI, 4, .inl bf))] := hD
    have hP9 := hP.sub (ws' := [(ru, .inr (1, [.ref bk, .int (rdA 4 bf (dp - 1)), .int (dp - 1), .int lp, .int ld, .int dn, .int rf, .int qu, .int ov])), (bk, .inl (cI, 4, .inl bf))]) [0, 1] rfl
    have hD9 := hD.sub (ws' := [(ru, .inr (1, [.ref bk, .int (rdA 4 bf (dp - 1)), .int (dp - 1), .int lp, .int ld, .int dn, .int rf, .int qu, .int ov])), (bk, .inl (cI, 4, .inl bf))]) [0, 1] (by decide) rfl
    exact W.vret hx hb hr (fun t ht9 hW => ⟨⟨(), rfl, trivial, by rw [ht9]; simp only [if_neg c_16]; exact hP9, va_K.moved hW.alike hK, by rw [hAe]; simp only [if_neg c_16]; exact hD9⟩, hS.F ht9⟩) hS.2.2 d_R_leave_38
  · refine lv_aload_n hx hb d_R_leave_7 rfl (lv_at hl 0 rfl) ?_
    refine lv_iconst (v := 1) hx hb d_R_leave_8 (by decide) ?_
    refine va_put (D := (dC, dI)) (ci := 1) (v := .int 1) (ty := .boolean) (C := R_R) (T := F_R) (N := 9) hx hb ht tu_R ft_R ft_R_ok n_R hown hK hP hD hS 0 rfl rfl 8 (by decide) (ht _ tw_155) (fun _ h9 => h9) rfl (by decide +kernel) (by rfl) rfl (Nat.le_of_ble_eq_true rfl) d_R_leave_9 (fun H locs hP hD hS => ?_)
    have hP : va_P (dC, dI) clX [(ru, .inr (1, [.ref bk, .int pl, .int dp, .int lp, .int ld, .int dn, .int rf, .int qu, .int 1])), (bk, .inl (cI, 4, .inl bf))] H := hP
    have hD : va_D A [(ru, .inr (1, [.ref bk, .int pl, .int dp, .int lp, .int ld, .int dn, .int rf, .int qu, .int 1])), (bk, .inl (cI, 4, .inl bf))] := hD
    have hP9 := hP.sub (ws' := [(ru, .inr (1, [.ref bk, .int pl, .int dp, .int lp, .int ld, .int dn, .int rf, .int qu, .int 1])), (bk, .inl (cI, 4, .inl bf))]) [0, 1] rfl
    have hD9 := hD.sub (ws' := [(ru, .inr (1, [.ref bk, .int pl, .int dp, .int lp, .int ld, .int dn, .int rf, .int qu, .int 1])), (bk, .inl (cI, 4, .inl bf))]) [0, 1] (by decide) rfl
    exact W.vret hx hb hr (fun t ht9 hW => ⟨⟨(), rfl, trivial, by rw [ht9]; simp only [if_pos c_16]; exact hP9, va_K.moved hW.alike hK, by rw [hAe]; simp only [if_pos c_16]; exact hD9⟩, hS.F ht9⟩) hS.2.2 d_R_leave_12
set_option maxHeartbeats 4000000 in
set_option maxRecDepth 100000 in
theorem c_C_become (l : Launch) (dC : Nat → ClassId) (dI : Nat → Nat → Nat) (tb : tbT) (co cw : Nat) (kd mn : Int32) (k9 m9 : Int32) (sz : Nat) : MV l y_C_become (Cond.code y_C_become b_C_become 3 none :: TB) ({ frames := 0, cells := 0, slots := 0, locals := 0 }) tb (dC, dI) [.ref co, .int k9, .int m9] [(co, .inr (0, [.ref cw, .int kd, .int mn]))] [(co, .inr (0, [.ref cw, .int k9, .int m9]))] [] sz := by
  refine Met.ofW (cc := b_C_become) (maxL := 3) (ret := none) (by decide) rfl ?_
  intro p e s m args below meth c s₁ B hml hv
  obtain ⟨rfl, hsz, hP, hK, hD0, hE⟩ := hv
  have hx := B.exec
  have hb := B.bytes
  have hr := B.returns
  have ht := fun w (h : w ∈ TB) => atoms_spec (ws := Cond.code y_C_become b_C_become 3 none :: TB) B.pre w (List.mem_cons_of_mem _ h)
  have hown : s.vm.findClass R_C = some m.cls := findClass_of_methodNamed B.named
  have hlocks := B.notSynchronized
  subst hsz
  have hD := hD0.self (sz := s.heap.size)
  generalize hAe : va_A [(co, .inr (0, [.ref cw, .int kd, .int mn]))] s.heap.size = A at hD hE ⊢
  have hA : ∀ q : Nat, s.heap.size ≤ q → A q := fun q h => by rw [← hAe]; exact Or.inr h
  have hS : va_S A s.heap s.heap [] := va_S.rf
  have F : CallFix p m c b_C_become 3 s _ TB R_C := ⟨hx, hb, hml, hown, ht⟩
  have hl := lv_entry ([.ref co, .int k9, .int m9]) (n := 3) (Nat.le_of_ble_eq_true rfl)
  rw [lg_entry_eq]
  generalize (lg_sl ([.ref co, .int k9, .int m9]) ++ List.replicate (3 - (lg_sl ([.ref co, .int k9, .int m9])).length) Slot.unset).toArray = ls at hl ⊢
  have hl : lv_has ls 3 [(0, .ref co), (1, .int k9), (2, .int m9)] := hl
  refine lv_aload_n hx hb d_C_become_0 rfl (lv_at hl 0 rfl) ?_
  refine lv_iload_n hx hb d_C_become_1 rfl (lv_at hl 1 rfl) ?_
  refine va_put (D := (dC, dI)) (ci := 0) (v := .int k9) (ty := .int) (C := R_C) (T := F_C) (N := 3) hx hb ht tu_C ft_C ft_C_ok n_C hown hK hP hD hS 0 rfl rfl 1 (by decide) (ht _ tw_117) (fun _ h9 => h9) rfl (by decide +kernel) rfl rfl (Nat.le_of_ble_eq_true rfl) d_C_become_2 (fun H locs hP hD hS => ?_)
  have hP : va_P (dC, dI) clX [(co, .inr (0, [.ref cw, .int k9, .int mn]))] H := hP
  have hD : va_D A [(co, .inr (0, [.ref cw, .int k9, .int mn]))] := hD
  refine lv_aload_n hx hb d_C_become_5 rfl (lv_at hl 0 rfl) ?_
  refine lv_iload_n hx hb d_C_become_6 rfl (lv_at hl 2 rfl) ?_
  refine va_put (D := (dC, dI)) (ci := 0) (v := .int m9) (ty := .int) (C := R_C) (T := F_C) (N := 3) hx hb ht tu_C ft_C ft_C_ok n_C hown hK hP hD hS 0 rfl rfl 2 (by decide) (ht _ tw_120) (fun _ h9 => h9) rfl (by decide +kernel) rfl rfl (Nat.le_of_ble_eq_true rfl) d_C_become_7 (fun H locs hP hD hS => ?_)
  have hP : va_P (dC, dI) clX [(co, .inr (0, [.ref cw, .int k9, .int m9]))] H := hP
  have hD : va_D A [(co, .inr (0, [.ref cw, .int k9, .int m9]))] := hD
  have hP9 := hP.sub (ws' := [(co, .inr (0, [.ref cw, .int k9, .int m9]))]) [0] rfl
  have hD9 := hD.sub (ws' := [(co, .inr (0, [.ref cw, .int k9, .int m9]))]) [0] (by decide) rfl
  exact W.vret hx hb hr (fun t ht9 hW => ⟨⟨(), rfl, trivial, by rw [ht9]; exact hP9, va_K.moved hW.alike hK, by rw [hAe]; exact hD9⟩, hS.F ht9⟩) hS.2.2 d_C_become_10
set_option maxHeartbeats 4000000 in
set_option maxRecDepth 100000 in
theorem c_C_forget (l : Launch) (dC : Nat → ClassId) (dI : Nat → Nat → Nat) (tb : tbT) (co cw : Nat) (kd mn : Int32) (sz : Nat) : MV l y_C_forget (Cond.code y_C_forget b_C_forget 1 none :: TB) ({ frames := 1, cells := 0, slots := 0, locals := 22 }) tb (dC, dI) [.ref co] [(co, .inr (0, [.ref cw, .int kd, .int mn]))] [(co, .inr (0, [.ref cw, .int 0, .int 0]))] [] sz := by
  refine Met.ofW (cc := b_C_forget) (maxL := 1) (ret := none) (by decide) rfl ?_
  intro p e s m args below meth c s₁ B hml hv
  obtain ⟨rfl, hsz, hP, hK, hD0, hE⟩ := hv
  have hx := B.exec
  have hb := B.bytes
  have hr := B.returns
  have ht := fun w (h : w ∈ TB) => atoms_spec (ws := Cond.code y_C_forget b_C_forget 1 none :: TB) B.pre w (List.mem_cons_of_mem _ h)
  have hown : s.vm.findClass R_C = some m.cls := findClass_of_methodNamed B.named
  have hlocks := B.notSynchronized
  subst hsz
  have hD := hD0.self (sz := s.heap.size)
  generalize hAe : va_A [(co, .inr (0, [.ref cw, .int kd, .int mn]))] s.heap.size = A at hD hE ⊢
  have hA : ∀ q : Nat, s.heap.size ≤ q → A q := fun q h => by rw [← hAe]; exact Or.inr h
  have hS : va_S A s.heap s.heap [] := va_S.rf
  have F : CallFix p m c b_C_forget 1 s _ TB R_C := ⟨hx, hb, hml, hown, ht⟩
  have hl := lv_entry ([.ref co]) (n := 1) (Nat.le_of_ble_eq_true rfl)
  rw [lg_entry_eq]
  generalize (lg_sl ([.ref co]) ++ List.replicate (1 - (lg_sl ([.ref co])).length) Slot.unset).toArray = ls at hl ⊢
  have hl : lv_has ls 1 [(0, .ref co)] := hl
  refine lv_aload_n hx hb d_C_forget_0 rfl (lv_at hl 0 rfl) ?_
  refine lv_iconst (v := 0) hx hb d_C_forget_1 (by decide) ?_
  refine lv_iconst (v := 0) hx hb d_C_forget_2 (by decide) ?_
  refine mcVv (As := [.int 0, .int 0]) (rest := []) (wr := []) (c_C_become l dC dI tb co cw kd mn 0 0 ) F tw_216 tw_32 tw_214 tw_215 tw_213 hP hD [0] [] rfl rfl (by decide) (by decide) (by decide) hK [] rfl hE hS hA (q0 := 0) rfl rfl hd_C_become rfl rfl ⟨Nat.le_of_ble_eq_true rfl, Nat.le_of_ble_eq_true rfl⟩ ⟨Nat.le_of_ble_eq_true rfl, Nat.le_of_ble_eq_true rfl⟩ hl.1 rfl (Nat.le_of_ble_eq_true rfl) d_C_forget_3 (fun H locs hP hD hS => ?_)
  have hP : va_P (dC, dI) clX [(co, .inr (0, [.ref cw, .int 0, .int 0]))] H := hP
  have hD : va_D A [(co, .inr (0, [.ref cw, .int 0, .int 0]))] := hD
  have hP9 := hP.sub (ws' := [(co, .inr (0, [.ref cw, .int 0, .int 0]))]) [0] rfl
  have hD9 := hD.sub (ws' := [(co, .inr (0, [.ref cw, .int 0, .int 0]))]) [0] (by decide) rfl
  exact W.vret hx hb hr (fun t ht9 hW => ⟨⟨(), rfl, trivial, by rw [ht9]; exact hP9, va_K.moved hW.alike hK, by rw [hAe]; exact hD9⟩, hS.F ht9⟩) hS.2.2 d_C_forget_6
set_option maxHeartbeats 4000000 in
set_option maxRecDepth 100000 in
theorem c_C_tell (l : Launch) (dC : Nat → ClassId) (dI : Nat → Nat → Nat) (tb : tbT) (co cw : Nat) (kd mn : Int32) (cf : IF) (cI : ClassId) (k9 v9 : Int32) (sz : Nat) : MV l y_C_tell (Cond.code y_C_tell b_C_tell 3 none :: TB) ({ frames := 1, cells := 0, slots := 0, locals := 22 }) tb (dC, dI) [.ref co, .int k9, .int v9] [(co, .inr (0, [.ref cw, .int kd, .int mn])), (cw, .inl (cI, 258, .inl cf))] [(co, .inr (0, [.ref cw, .int kd, .int mn])), (cw, .inl (cI, 258, .inl (wrA 258 cf k9 v9)))] [(cI, .int)] sz := by
  refine Met.ofW (cc := b_C_tell) (maxL := 3) (ret := none) (by decide) rfl ?_
  intro p e s m args below meth c s₁ B hml hv
  obtain ⟨rfl, hsz, hP, hK, hD0, hE⟩ := hv
  have hx := B.exec
  have hb := B.bytes
  have hr := B.returns
  have ht := fun w (h : w ∈ TB) => atoms_spec (ws := Cond.code y_C_tell b_C_tell 3 none :: TB) B.pre w (List.mem_cons_of_mem _ h)
  have hown : s.vm.findClass R_C = some m.cls := findClass_of_methodNamed B.named
  have hlocks := B.notSynchronized
  subst hsz
  have hD := hD0.self (sz := s.heap.size)
  generalize hAe : va_A [(co, .inr (0, [.ref cw, .int kd, .int mn])), (cw, .inl (cI, 258, .inl cf))] s.heap.size = A at hD hE ⊢
  have hA : ∀ q : Nat, s.heap.size ≤ q → A q := fun q h => by rw [← hAe]; exact Or.inr h
  have hS : va_S A s.heap s.heap [] := va_S.rf
  have F : CallFix p m c b_C_tell 3 s _ TB R_C := ⟨hx, hb, hml, hown, ht⟩
  have hl := lv_entry ([.ref co, .int k9, .int v9]) (n := 3) (Nat.le_of_ble_eq_true rfl)
  rw [lg_entry_eq]
  generalize (lg_sl ([.ref co, .int k9, .int v9]) ++ List.replicate (3 - (lg_sl ([.ref co, .int k9, .int v9])).length) Slot.unset).toArray = ls at hl ⊢
  have hl : lv_has ls 3 [(0, .ref co), (1, .int k9), (2, .int v9)] := hl
  refine lv_aload_n hx hb d_C_tell_0 rfl (lv_at hl 0 rfl) ?_
  refine va_get (D := (dC, dI)) (ci := 0) (v := .ref cw) (C := R_C) (T := F_C) (N := 3) hx hb ht tu_C hown hK hP 0 rfl rfl 0 (by decide) (ht _ tw_116) (fun _ h9 => h9) rfl d_C_tell_1 ?_
  refine lv_iload_n hx hb d_C_tell_4 rfl (lv_at hl 1 rfl) ?_
  refine lv_iload_n hx hb d_C_tell_5 rfl (lv_at hl 2 rfl) ?_
  refine mcSNv (As := [.ref cw, .int k9, .int v9]) (rest := []) (wr := [(co, .inr (0, [.ref cw, .int kd, .int mn]))]) (c_D_write l dC dI tb cw 258 cf cI k9 v9 (by decide)) F tw_58 tw_28 tw_57 nw_15 hP hD [1] [0] rfl rfl (by decide) (by decide) (by decide) hK [0] rfl hE hS hA hd_D_write rfl rfl ⟨Nat.le_of_ble_eq_true rfl, Nat.le_of_ble_eq_true rfl⟩ ⟨Nat.le_of_ble_eq_true rfl, Nat.le_of_ble_eq_true rfl⟩ hl.1 rfl (Nat.le_of_ble_eq_true rfl) d_C_tell_6 (fun H locs hP hD hS => ?_)
  have hP : va_P (dC, dI) clX [(co, .inr (0, [.ref cw, .int kd, .int mn])), (cw, .inl (cI, 258, .inl (wrA 258 cf k9 v9)))] H := hP
  have hD : va_D A [(co, .inr (0, [.ref cw, .int kd, .int mn])), (cw, .inl (cI, 258, .inl (wrA 258 cf k9 v9)))] := hD
  have hP9 := hP.sub (ws' := [(co, .inr (0, [.ref cw, .int kd, .int mn])), (cw, .inl (cI, 258, .inl (wrA 258 cf k9 v9)))]) [0, 1] rfl
  have hD9 := hD.sub (ws' := [(co, .inr (0, [.ref cw, .int kd, .int mn])), (cw, .inl (cI, 258, .inl (wrA 258 cf k9 v9)))]) [0, 1] (by decide) rfl
  exact W.vret hx hb hr (fun t ht9 hW => ⟨⟨(), rfl, trivial, by rw [ht9]; exact hP9, va_K.moved hW.alike hK, by rw [hAe]; exact hD9⟩, hS.F ht9⟩) hS.2.2 d_C_tell_9
set_option maxHeartbeats 4000000 in
set_option maxRecDepth 100000 in
theorem c_C_at (l : Launch) (dC : Nat → ClassId) (dI : Nat → Nat → Nat) (tb : tbT) (co cw : Nat) (kd mn : Int32) (cf : IF) (cI : ClassId) (k9 : Int32) : RM l y_C_at (Cond.code y_C_at b_C_at 2 (some .int) :: TB) ({ frames := 1, cells := 0, slots := 0, locals := 21 }) tb (dC, dI) [.ref co, .int k9] [(co, .inr (0, [.ref cw, .int kd, .int mn])), (cw, .inl (cI, 258, .inl cf))] [(cI, .int)] (rdA 258 cf k9) := by
  refine Met.ofW (cc := b_C_at) (maxL := 2) (ret := (some .int)) (by decide) rfl ?_
  intro p e s m args below meth c s₁ B hml hv
  obtain ⟨rfl, hP, hK, hE⟩ := hv
  have hx := B.exec
  have hb := B.bytes
  have hr := B.returns
  have ht := fun w (h : w ∈ TB) => atoms_spec (ws := Cond.code y_C_at b_C_at 2 (some .int) :: TB) B.pre w (List.mem_cons_of_mem _ h)
  have hown : s.vm.findClass R_C = some m.cls := findClass_of_methodNamed B.named
  have hlocks := B.notSynchronized
  have hS : va_S (fun _ => False) s.heap s.heap [] := va_S.rf
  have F : CallFix p m c b_C_at 2 s _ TB R_C := ⟨hx, hb, hml, hown, ht⟩
  have hl := lv_entry ([.ref co, .int k9]) (n := 2) (Nat.le_of_ble_eq_true rfl)
  rw [lg_entry_eq]
  generalize (lg_sl ([.ref co, .int k9]) ++ List.replicate (2 - (lg_sl ([.ref co, .int k9])).length) Slot.unset).toArray = ls at hl ⊢
  have hl : lv_has ls 2 [(0, .ref co), (1, .int k9)] := hl
  refine lv_aload_n hx hb d_C_at_0 rfl (lv_at hl 0 rfl) ?_
  refine va_get (D := (dC, dI)) (ci := 0) (v := .ref cw) (C := R_C) (T := F_C) (N := 3) hx hb ht tu_C hown hK hP 0 rfl rfl 0 (by decide) (ht _ tw_116) (fun _ h9 => h9) rfl d_C_at_1 ?_
  refine lv_iload_n hx hb d_C_at_4 rfl (lv_at hl 1 rfl) ?_
  refine rcSN (As := [.ref cw, .int k9]) (rest := []) (c_D_read l dC dI tb cw 258 cf cI k9 (by decide)) F tw_66 tw_28 tw_65 nw_16 hP [1] rfl hK [0] rfl hE hS hd_D_read rfl rfl ⟨Nat.le_of_ble_eq_true rfl, Nat.le_of_ble_eq_true rfl⟩ ⟨Nat.le_of_ble_eq_true rfl, Nat.le_of_ble_eq_true rfl⟩ hl.1 rfl (Nat.le_of_ble_eq_true rfl) d_C_at_5 ?_
  exact W.iret hx hb hr (fun t ht9 hW => ⟨_, rfl, rfl, ht9⟩) hS.2.2 d_C_at_8
set_option maxHeartbeats 4000000 in
set_option maxRecDepth 100000 in
theorem c_T_placeOf (l : Launch) (dC : Nat → ClassId) (dI : Nat → Nat → Nat) (tb : tbT) (to sa wa : Nat) (sf : IF) (cI : ClassId) (k9 n9 j9 : Int32) : RM l y_T_placeOf (Cond.code y_T_placeOf b_T_placeOf 4 (some .int) :: TB) ({ frames := 2, cells := 0, slots := 0, locals := 41 }) tb (dC, dI) [.ref to, .int k9, .int n9, .int j9] [(to, .inr (2, [.ref sa, .ref wa])), (sa, .inl (cI, 26, .inl sf))] [(cI, .int)] (plc sf k9 n9 j9) := by
  refine Met.ofW (cc := b_T_placeOf) (maxL := 4) (ret := (some .int)) (by decide) rfl ?_
  intro p e s m args below meth c s₁ B hml hv
  obtain ⟨rfl, hP, hK, hE⟩ := hv
  have hx := B.exec
  have hb := B.bytes
  have hr := B.returns
  have ht := fun w (h : w ∈ TB) => atoms_spec (ws := Cond.code y_T_placeOf b_T_placeOf 4 (some .int) :: TB) B.pre w (List.mem_cons_of_mem _ h)
  have hown : s.vm.findClass R_T = some m.cls := findClass_of_methodNamed B.named
  have hlocks := B.notSynchronized
  have hS : va_S (fun _ => False) s.heap s.heap [] := va_S.rf
  have F : CallFix p m c b_T_placeOf 4 s _ TB R_T := ⟨hx, hb, hml, hown, ht⟩
  have hl := lv_entry ([.ref to, .int k9, .int n9, .int j9]) (n := 4) (Nat.le_of_ble_eq_true rfl)
  rw [lg_entry_eq]
  generalize (lg_sl ([.ref to, .int k9, .int n9, .int j9]) ++ List.replicate (4 - (lg_sl ([.ref to, .int k9, .int n9, .int j9])).length) Slot.unset).toArray = ls at hl ⊢
  have hl : lv_has ls 4 [(0, .ref to), (1, .int k9), (2, .int n9), (3, .int j9)] := hl
  refine lv_aload_n hx hb d_T_placeOf_0 rfl (lv_at hl 0 rfl) ?_
  refine va_get (D := (dC, dI)) (ci := 2) (v := .ref sa) (C := R_T) (T := F_T) (N := 2) hx hb ht tu_T hown hK hP 0 rfl rfl 0 (by decide) (ht _ tw_102) (fun _ h9 => h9) rfl d_T_placeOf_1 ?_
  refine lv_iload_n hx hb d_T_placeOf_4 rfl (lv_at hl 1 rfl) ?_
  refine rcSN (As := [.ref sa, .int k9]) (rest := []) (c_D_read l dC dI tb sa 26 sf cI k9 (by decide)) F tw_66 tw_28 tw_65 nw_2 hP [1] rfl hK [0] rfl hE hS hd_D_read rfl rfl ⟨Nat.le_of_ble_eq_true rfl, Nat.le_of_ble_eq_true rfl⟩ ⟨Nat.le_of_ble_eq_true rfl, Nat.le_of_ble_eq_true rfl⟩ hl.1 rfl (Nat.le_of_ble_eq_true rfl) d_T_placeOf_5 ?_
  refine lv_iload_n hx hb d_T_placeOf_8 rfl (lv_at hl 2 rfl) ?_
  refine lv_iload_n hx hb d_T_placeOf_9 rfl (lv_at hl 1 rfl) ?_
  refine rcS (As := [.int k9]) (rest := [.int n9, .int (rdA 26 sf k9)]) (c_S_fixed l dC dI tb k9 ) F tw_69 tw_30 tw_68 tw_67 hP [] rfl hK [] rfl hE hS hd_S_fixed rfl rfl ⟨Nat.le_of_ble_eq_true rfl, Nat.le_of_ble_eq_true rfl⟩ ⟨Nat.le_of_ble_eq_true rfl, Nat.le_of_ble_eq_true rfl⟩ hl.1 rfl (Nat.le_of_ble_eq_true rfl) d_T_placeOf_10 ?_
  refine lv_imul hx hb d_T_placeOf_13 ?_
  refine lv_iadd hx hb d_T_placeOf_14 ?_
  refine lv_iload_n hx hb d_T_placeOf_15 rfl (lv_at hl 3 rfl) ?_
  refine lv_iadd hx hb d_T_placeOf_16 ?_
  exact W.iret hx hb hr (fun t ht9 hW => ⟨_, rfl, rfl, ht9⟩) hS.2.2 d_T_placeOf_17
set_option maxHeartbeats 4000000 in
set_option maxRecDepth 100000 in
theorem c_T_namesItsHolder (l : Launch) (dC : Nat → ClassId) (dI : Nat → Nat → Nat) (tb : tbT) (k9 : Int32) : RM l y_T_namesItsHolder (Cond.code y_T_namesItsHolder b_T_namesItsHolder 1 (some .boolean) :: TB) ({ frames := 2, cells := 0, slots := 0, locals := 41 }) tb (dC, dI) [.int k9] [] [] (nmH k9) := by
  refine Met.ofW (cc := b_T_namesItsHolder) (maxL := 1) (ret := (some .boolean)) (by decide) rfl ?_
  intro p e s m args below meth c s₁ B hml hv
  obtain ⟨rfl, hP, hK, hE⟩ := hv
  have hx := B.exec
  have hb := B.bytes
  have hr := B.returns
  have ht := fun w (h : w ∈ TB) => atoms_spec (ws := Cond.code y_T_namesItsHolder b_T_namesItsHolder 1 (some .boolean) :: TB) B.pre w (List.mem_cons_of_mem _ h)
  have hown : s.vm.findClass R_T = some m.cls := findClass_of_methodNamed B.named
  have hlocks := B.notSynchronized
  have hS : va_S (fun _ => False) s.heap s.heap [] := va_S.rf
  have F : CallFix p m c b_T_namesItsHolder 1 s _ TB R_T := ⟨hx, hb, hml, hown, ht⟩
  have hl := lv_entry ([.int k9]) (n := 1) (Nat.le_of_ble_eq_true rfl)
  rw [lg_entry_eq]
  generalize (lg_sl ([.int k9]) ++ List.replicate (1 - (lg_sl ([.int k9])).length) Slot.unset).toArray = ls at hl ⊢
  have hl : lv_has ls 1 [(0, .int k9)] := hl
  refine lv_iload_n hx hb d_T_namesItsHolder_0 rfl (lv_at hl 0 rfl) ?_
  refine rcS (As := [.int k9]) (rest := []) (c_S_holders l dC dI tb k9 ) F tw_61 tw_30 tw_60 tw_59 hP [] rfl hK [] rfl hE hS hd_S_holders rfl rfl ⟨Nat.le_of_ble_eq_true rfl, Nat.le_of_ble_eq_true rfl⟩ ⟨Nat.le_of_ble_eq_true rfl, Nat.le_of_ble_eq_true rfl⟩ hl.1 rfl (Nat.le_of_ble_eq_true rfl) d_T_namesItsHolder_1 ?_
  refine lv_iconst (v := 1) hx hb d_T_namesItsHolder_4 (by decide) ?_
  refine lv_icmp_le (tgt := 12) hx hb d_T_namesItsHolder_5 (by decide) (fun c_17 => ?_) (fun c_17 => ?_)
  · refine lv_iconst (v := 0) hx hb d_T_namesItsHolder_12 (by decide) ?_
    exact W.zret hx hb hr (rfl) (fun t ht9 hW => ⟨_, rfl, by simp only [nmH, if_pos c_17], ht9⟩) hS.2.2 d_T_namesItsHolder_13
  · refine lv_iconst (v := 1) hx hb d_T_namesItsHolder_8 (by decide) ?_
    refine lv_goto (tgt := 13) hx hb d_T_namesItsHolder_9 (by decide) ?_
    exact W.zret hx hb hr (rfl) (fun t ht9 hW => ⟨_, rfl, by simp only [nmH, if_neg c_17], ht9⟩) hS.2.2 d_T_namesItsHolder_13
set_option maxHeartbeats 4000000 in
set_option maxRecDepth 100000 in
theorem c_T_at (l : Launch) (dC : Nat → ClassId) (dI : Nat → Nat → Nat) (tb : tbT) (to sa wa : Nat) (sf : IF) (cI : ClassId) (wf : IF) (k9 n9 j9 : Int32) : RM l y_T_at (Cond.code y_T_at b_T_at 4 (some .int) :: TB) ({ frames := 3, cells := 0, slots := 0, locals := 64 }) tb (dC, dI) [.ref to, .int k9, .int n9, .int j9] [(to, .inr (2, [.ref sa, .ref wa])), (sa, .inl (cI, 26, .inl sf)), (wa, .inl (cI, 303, .inl wf))] [(cI, .int)] (rdA 303 wf (plc sf k9 n9 j9)) := by
  refine Met.ofW (cc := b_T_at) (maxL := 4) (ret := (some .int)) (by decide) rfl ?_
  intro p e s m args below meth c s₁ B hml hv
  obtain ⟨rfl, hP, hK, hE⟩ := hv
  have hx := B.exec
  have hb := B.bytes
  have hr := B.returns
  have ht := fun w (h : w ∈ TB) => atoms_spec (ws := Cond.code y_T_at b_T_at 4 (some .int) :: TB) B.pre w (List.mem_cons_of_mem _ h)
  have hown : s.vm.findClass R_T = some m.cls := findClass_of_methodNamed B.named
  have hlocks := B.notSynchronized
  have hS : va_S (fun _ => False) s.heap s.heap [] := va_S.rf
  have F : CallFix p m c b_T_at 4 s _ TB R_T := ⟨hx, hb, hml, hown, ht⟩
  have hl := lv_entry ([.ref to, .int k9, .int n9, .int j9]) (n := 4) (Nat.le_of_ble_eq_true rfl)
  rw [lg_entry_eq]
  generalize (lg_sl ([.ref to, .int k9, .int n9, .int j9]) ++ List.replicate (4 - (lg_sl ([.ref to, .int k9, .int n9, .int j9])).length) Slot.unset).toArray = ls at hl ⊢
  have hl : lv_has ls 4 [(0, .ref to), (1, .int k9), (2, .int n9), (3, .int j9)] := hl
  refine lv_aload_n hx hb d_T_at_0 rfl (lv_at hl 0 rfl) ?_
  refine va_get (D := (dC, dI)) (ci := 2) (v := .ref wa) (C := R_T) (T := F_T) (N := 2) hx hb ht tu_T hown hK hP 0 rfl rfl 1 (by decide) (ht _ tw_103) (fun _ h9 => h9) rfl d_T_at_1 ?_
  refine lv_aload_n hx hb d_T_at_4 rfl (lv_at hl 0 rfl) ?_
  refine lv_iload_n hx hb d_T_at_5 rfl (lv_at hl 1 rfl) ?_
  refine lv_iload_n hx hb d_T_at_6 rfl (lv_at hl 2 rfl) ?_
  refine lv_iload_n hx hb d_T_at_7 rfl (lv_at hl 3 rfl) ?_
  refine rcV (As := [.int k9, .int n9, .int j9]) (rest := [.ref wa]) (c_T_placeOf l dC dI tb to sa wa sf cI k9 n9 j9 ) F tw_89 tw_29 tw_88 tw_1 tw_86 hP [0, 1] rfl hK [0] rfl hE hS (q0 := 0) rfl rfl hd_T_placeOf rfl rfl ⟨Nat.le_of_ble_eq_true rfl, Nat.le_of_ble_eq_true rfl⟩ ⟨Nat.le_of_ble_eq_true rfl, Nat.le_of_ble_eq_true rfl⟩ hl.1 rfl (Nat.le_of_ble_eq_true rfl) d_T_at_8 ?_
  refine rcSN (As := [.ref wa, .int (plc sf k9 n9 j9)]) (rest := []) (c_D_read l dC dI tb wa 303 wf cI (plc sf k9 n9 j9) (by decide)) F tw_66 tw_28 tw_65 nw_2 hP [2] rfl hK [0] rfl hE hS hd_D_read rfl rfl ⟨Nat.le_of_ble_eq_true rfl, Nat.le_of_ble_eq_true rfl⟩ ⟨Nat.le_of_ble_eq_true rfl, Nat.le_of_ble_eq_true rfl⟩ hl.1 rfl (Nat.le_of_ble_eq_true rfl) d_T_at_11 ?_
  exact W.iret hx hb hr (fun t ht9 hW => ⟨_, rfl, rfl, ht9⟩) hS.2.2 d_T_at_14
set_option maxHeartbeats 4000000 in
set_option maxRecDepth 100000 in
theorem c_T_set (l : Launch) (dC : Nat → ClassId) (dI : Nat → Nat → Nat) (tb : tbT) (to sa wa : Nat) (sf : IF) (cI : ClassId) (wf : IF) (k9 n9 j9 v9 : Int32) (sz : Nat) : MV l y_T_set (Cond.code y_T_set b_T_set 5 none :: TB) ({ frames := 3, cells := 0, slots := 0, locals := 64 }) tb (dC, dI) [.ref to, .int k9, .int n9, .int j9, .int v9] [(to, .inr (2, [.ref sa, .ref wa])), (sa, .inl (cI, 26, .inl sf)), (wa, .inl (cI, 303, .inl wf))] [(to, .inr (2, [.ref sa, .ref wa])), (sa, .inl (cI, 26, .inl sf)), (wa, .inl (cI, 303, .inl (wrA 303 wf (plc sf k9 n9 j9) v9)))] [(cI, .int)] sz := by
  refine Met.ofW (cc := b_T_set) (maxL := 5) (ret := none) (by decide) rfl ?_
  intro p e s m args below meth c s₁ B hml hv
  obtain ⟨rfl, hsz, hP, hK, hD0, hE⟩ := hv
  have hx := B.exec
  have hb := B.bytes
  have hr := B.returns
  have ht := fun w (h : w ∈ TB) => atoms_spec (ws := Cond.code y_T_set b_T_set 5 none :: TB) B.pre w (List.mem_cons_of_mem _ h)
  have hown : s.vm.findClass R_T = some m.cls := findClass_of_methodNamed B.named
  have hlocks := B.notSynchronized
  subst hsz
  have hD := hD0.self (sz := s.heap.size)
  generalize hAe : va_A [(to, .inr (2, [.ref sa, .ref wa])), (sa, .inl (cI, 26, .inl sf)), (wa, .inl (cI, 303, .inl wf))] s.heap.size = A at hD hE ⊢
  have hA : ∀ q : Nat, s.heap.size ≤ q → A q := fun q h => by rw [← hAe]; exact Or.inr h
  have hS : va_S A s.heap s.heap [] := va_S.rf
  have F : CallFix p m c b_T_set 5 s _ TB R_T := ⟨hx, hb, hml, hown, ht⟩
  have hl := lv_entry ([.ref to, .int k9, .int n9, .int j9, .int v9]) (n := 5) (Nat.le_of_ble_eq_true rfl)
  rw [lg_entry_eq]
  generalize (lg_sl ([.ref to, .int k9, .int n9, .int j9, .int v9]) ++ List.replicate (5 - (lg_sl ([.ref to, .int k9, .int n9, .int j9, .int v9])).length) Slot.unset).toArray = ls at hl ⊢
  have hl : lv_has ls 5 [(0, .ref to), (1, .int k9), (2, .int n9), (3, .int j9), (4, .int v9)] := hl
  refine lv_aload_n hx hb d_T_set_0 rfl (lv_at hl 0 rfl) ?_
  refine va_get (D := (dC, dI)) (ci := 2) (v := .ref wa) (C := R_T) (T := F_T) (N := 2) hx hb ht tu_T hown hK hP 0 rfl rfl 1 (by decide) (ht _ tw_103) (fun _ h9 => h9) rfl d_T_set_1 ?_
  refine lv_aload_n hx hb d_T_set_4 rfl (lv_at hl 0 rfl) ?_
  refine lv_iload_n hx hb d_T_set_5 rfl (lv_at hl 1 rfl) ?_
  refine lv_iload_n hx hb d_T_set_6 rfl (lv_at hl 2 rfl) ?_
  refine lv_iload_n hx hb d_T_set_7 rfl (lv_at hl 3 rfl) ?_
  refine rcV (As := [.int k9, .int n9, .int j9]) (rest := [.ref wa]) (c_T_placeOf l dC dI tb to sa wa sf cI k9 n9 j9 ) F tw_89 tw_29 tw_88 tw_1 tw_86 hP [0, 1] rfl hK [0] rfl hE hS (q0 := 0) rfl rfl hd_T_placeOf rfl rfl ⟨Nat.le_of_ble_eq_true rfl, Nat.le_of_ble_eq_true rfl⟩ ⟨Nat.le_of_ble_eq_true rfl, Nat.le_of_ble_eq_true rfl⟩ hl.1 rfl (Nat.le_of_ble_eq_true rfl) d_T_set_8 ?_
  refine lv_iload hx hb d_T_set_11 (lv_at hl 4 rfl) ?_
  refine mcSNv (As := [.ref wa, .int (plc sf k9 n9 j9), .int v9]) (rest := []) (wr := [(to, .inr (2, [.ref sa, .ref wa])), (sa, .inl (cI, 26, .inl sf))]) (c_D_write l dC dI tb wa 303 wf cI (plc sf k9 n9 j9) v9 (by decide)) F tw_58 tw_28 tw_57 nw_0 hP hD [2] [0, 1] rfl rfl (by decide) (by decide) (by decide) hK [0] rfl hE hS hA hd_D_write rfl rfl ⟨Nat.le_of_ble_eq_true rfl, Nat.le_of_ble_eq_true rfl⟩ ⟨Nat.le_of_ble_eq_true rfl, Nat.le_of_ble_eq_true rfl⟩ hl.1 rfl (Nat.le_of_ble_eq_true rfl) d_T_set_13 (fun H locs hP hD hS => ?_)
  have hP : va_P (dC, dI) clX [(to, .inr (2, [.ref sa, .ref wa])), (sa, .inl (cI, 26, .inl sf)), (wa, .inl (cI, 303, .inl (wrA 303 wf (plc sf k9 n9 j9) v9)))] H := hP
  have hD : va_D A [(to, .inr (2, [.ref sa, .ref wa])), (sa, .inl (cI, 26, .inl sf)), (wa, .inl (cI, 303, .inl (wrA 303 wf (plc sf k9 n9 j9) v9)))] := hD
  have hP9 := hP.sub (ws' := [(to, .inr (2, [.ref sa, .ref wa])), (sa, .inl (cI, 26, .inl sf)), (wa, .inl (cI, 303, .inl (wrA 303 wf (plc sf k9 n9 j9) v9)))]) [0, 1, 2] rfl
  have hD9 := hD.sub (ws' := [(to, .inr (2, [.ref sa, .ref wa])), (sa, .inl (cI, 26, .inl sf)), (wa, .inl (cI, 303, .inl (wrA 303 wf (plc sf k9 n9 j9) v9)))]) [0, 1, 2] (by decide) rfl
  exact W.vret hx hb hr (fun t ht9 hW => ⟨⟨(), rfl, trivial, by rw [ht9]; exact hP9, va_K.moved hW.alike hK, by rw [hAe]; exact hD9⟩, hS.F ht9⟩) hS.2.2 d_T_set_16
set_option maxHeartbeats 4000000 in
set_option maxRecDepth 100000 in
theorem c_T_hasProgram (l : Launch) (dC : Nat → ClassId) (dI : Nat → Nat → Nat) (tb : tbT) (to sa wa : Nat) (sf : IF) (cI : ClassId) (wf : IF) (k9 : Int32) : RM l y_T_hasProgram (Cond.code y_T_hasProgram b_T_hasProgram 2 (some .boolean) :: TB) ({ frames := 4, cells := 0, slots := 0, locals := 87 }) tb (dC, dI) [.ref to, .int k9] [(to, .inr (2, [.ref sa, .ref wa])), (sa, .inl (cI, 26, .inl sf)), (wa, .inl (cI, 303, .inl wf))] [(cI, .int)] (hsP sf wf k9) := by
  refine Met.ofW (cc := b_T_hasProgram) (maxL := 2) (ret := (some .boolean)) (by decide) rfl ?_
  intro p e s m args below meth c s₁ B hml hv
  obtain ⟨rfl, hP, hK, hE⟩ := hv
  have hx := B.exec
  have hb := B.bytes
  have hr := B.returns
  have ht := fun w (h : w ∈ TB) => atoms_spec (ws := Cond.code y_T_hasProgram b_T_hasProgram 2 (some .boolean) :: TB) B.pre w (List.mem_cons_of_mem _ h)
  have hown : s.vm.findClass R_T = some m.cls := findClass_of_methodNamed B.named
  have hlocks := B.notSynchronized
  have hS : va_S (fun _ => False) s.heap s.heap [] := va_S.rf
  have F : CallFix p m c b_T_hasProgram 2 s _ TB R_T := ⟨hx, hb, hml, hown, ht⟩
  have hl := lv_entry ([.ref to, .int k9]) (n := 2) (Nat.le_of_ble_eq_true rfl)
  rw [lg_entry_eq]
  generalize (lg_sl ([.ref to, .int k9]) ++ List.replicate (2 - (lg_sl ([.ref to, .int k9])).length) Slot.unset).toArray = ls at hl ⊢
  have hl : lv_has ls 2 [(0, .ref to), (1, .int k9)] := hl
  refine lv_aload_n hx hb d_T_hasProgram_0 rfl (lv_at hl 0 rfl) ?_
  refine lv_iload_n hx hb d_T_hasProgram_1 rfl (lv_at hl 1 rfl) ?_
  refine lv_iconst (v := 0) hx hb d_T_hasProgram_2 (by decide) ?_
  refine lv_iconst (v := 0) hx hb d_T_hasProgram_3 (by decide) ?_
  refine rcV (As := [.int k9, .int 0, .int 0]) (rest := []) (c_T_at l dC dI tb to sa wa sf cI wf k9 0 0 ) F tw_446 tw_29 tw_444 tw_445 tw_443 hP [0, 1, 2] rfl hK [0] rfl hE hS (q0 := 0) rfl rfl hd_T_at rfl rfl ⟨Nat.le_of_ble_eq_true rfl, Nat.le_of_ble_eq_true rfl⟩ ⟨Nat.le_of_ble_eq_true rfl, Nat.le_of_ble_eq_true rfl⟩ hl.1 rfl (Nat.le_of_ble_eq_true rfl) d_T_hasProgram_4 ?_
  refine lv_iconst (v := (-1)) hx hb d_T_hasProgram_7 (by decide) ?_
  refine lv_icmp_eq (tgt := 15) hx hb d_T_hasProgram_8 (by decide) (fun c_18 => ?_) (fun c_18 => ?_)
  · refine lv_iconst (v := 0) hx hb d_T_hasProgram_15 (by decide) ?_
    exact W.zret hx hb hr (rfl) (fun t ht9 hW => ⟨_, rfl, by simp only [hsP, if_pos c_18], ht9⟩) hS.2.2 d_T_hasProgram_16
  · refine lv_iconst (v := 1) hx hb d_T_hasProgram_11 (by decide) ?_
    refine lv_goto (tgt := 16) hx hb d_T_hasProgram_12 (by decide) ?_
    exact W.zret hx hb hr (rfl) (fun t ht9 hW => ⟨_, rfl, by simp only [hsP, if_neg c_18], ht9⟩) hS.2.2 d_T_hasProgram_16
end
section
/-! loops and switches -/
def itN {α : Type} (st : Nat → α → α) : Nat → α → α
  | 0, a => a
  | n + 1, a => st n (itN st n a)
theorem lp_toNat (B : Int32) : (B.toNatClampNeg : Int) = if B.toInt < 0 then 0 else B.toInt := by
  have h : B.toNatClampNeg = B.toInt.toNat := rfl
  rw [h]
  split <;> omega
theorem lp_small (B : Int32) : B.toNatClampNeg < 2147483648 := by
  have h := lp_toNat B
  have h2 := B.toInt_lt
  split at h <;> omega
theorem lp_lt {B : Int32} {i : Nat} (h : i < B.toNatClampNeg) : ¬ B ≤ nI i := by
  have h1 := lp_toNat B
  have h2 := lp_small B
  rw [Int32.le_iff_toInt_le, nI_toInt (by omega)]
  split at h1 <;> omega
theorem lp_ge (B : Int32) : B ≤ nI B.toNatClampNeg := by
  have h1 := lp_toNat B
  have h2 := lp_small B
  rw [Int32.le_iff_toInt_le, nI_toInt (by omega)]
  split at h1 <;> omega
def swT (d lo hi : Int) (offs : Array Int) (x : Int) : Int := if x < lo ∨ hi < x then d else (offs[(x - lo).toNat]?).getD d
/-- no special value: the switch goes to its default -/
theorem sw_def {x : Int32} {d lo hi : Int} {offs : Array Int} (bad : List Int32) (hb : ∀ b ∈ bad, ¬ x = b) (hc : (List.range offs.size).all (fun j => decide ((offs[j]?).getD d = d) || bad.any (fun b => decide (b.toInt = lo + j))) = true) (hs : hi - lo + 1 ≤ offs.size) : swT d lo hi offs x.toInt = d := by
  unfold swT
  split
  · rfl
  · rename_i h
    have hj : (x.toInt - lo).toNat < offs.size := by omega
    have h1 := List.all_eq_true.mp hc _ (List.mem_range.mpr hj)
    rcases Bool.or_eq_true_iff.mp h1 with h2 | h2
    · exact of_decide_eq_true h2
    · obtain ⟨b, hbm, h3⟩ := List.any_eq_true.mp h2
      have h4 : b.toInt = lo + (x.toInt - lo).toNat := of_decide_eq_true h3
      exact absurd (Int32.toInt_inj.mp (by omega)) (hb b hbm)
section MYL
variable {p : Program} {l : Launch} {e : Env} {R : Room} {s : State} {m : MethodId} {args : Array Value} {below : List Frame} {meth : Method} {c : Code} {H : Heap} {locs : List Loc} {cells slots : Nat} {Q : State → Prop}
variable {cc : ByteArray} {pc : Nat} {ls : Array Slot} {rest : List Value}
theorem lv_tab (hexec : p.tables.exec = Jvm.exec) (hb : c.code = cc) {d lo hi : Int} {offs : Array Int} {len : Nat} {x : Int32} {off : Int} {tgt : Nat} (hdg : decode cc pc = .ok (.tableswitch d lo hi offs, len)) (hs : hi - lo + 1 ≤ offs.size) (ho : swT d lo hi offs x.toInt = off) (ht : (pc : Int) + off = (tgt : Int)) (k : W p l e R s m args below meth c H locs cells slots Q (F0 m tgt ls rest)) : W p l e R s m args below meth c H locs cells slots Q (F0 m pc ls (.int x :: rest)) := by
  unfold swT at ho
  split at ho
  · rename_i h
    exact lv_tableOut hexec hb hdg h (by rw [ho]; exact ht) k
  · rename_i h
    have hj : (x.toInt - lo).toNat < offs.size := by omega
    have ho2 : offs[(x.toInt - lo).toNat]? = some off := by
      rw [Array.getElem?_eq_getElem hj] at ho ⊢
      exact congrArg some ho
    exact lv_tableIn hexec hb hdg (by omega) (by omega) ho2 ht k
/-- a counted loop whose world moves -/
theorem lp_W {I : Nat → Heap → List Loc → Array Slot → Prop} {N head : Nat} (hs : ∀ (i : Nat) (H : Heap) (locs : List Loc) (ls : Array Slot), i < N → I i H locs ls → (∀ (H' : Heap) (locs' : List Loc) (ls' : Array Slot), I (i + 1) H' locs' ls' → W p l e R s m args below meth c H' locs' cells slots Q (F0 m head ls' [])) → W p l e R s m args below meth c H locs cells slots Q (F0 m head ls []))
    (hx : ∀ (H : Heap) (locs : List Loc) (ls : Array Slot), I N H locs ls → W p l e R s m args below meth c H locs cells slots Q (F0 m head ls [])) : ∀ (i : Nat), i ≤ N → ∀ {H : Heap} {locs : List Loc} {ls : Array Slot}, I i H locs ls → W p l e R s m args below meth c H locs cells slots Q (F0 m head ls []) := by
  have key : ∀ (n i : Nat), n + i = N → ∀ {H : Heap} {locs : List Loc} {ls : Array Slot}, I i H locs ls → W p l e R s m args below meth c H locs cells slots Q (F0 m head ls []) := by
    intro n
    induction n with
    | zero => intro i hi H locs ls h; exact hx H locs ls ((show i = N by omega) ▸ h)
    | succ n ih => intro i hi H locs ls h; exact hs i H locs ls (by omega) h (fun H' locs' ls' h' => ih (i + 1) (by omega) h')
  intro i hi H locs ls h
  exact key (N - i) i (by omega) h
/-- a counted loop that only reads -/
theorem lp_R {I : Nat → Array Slot → Prop} {N head : Nat} (hs : ∀ (i : Nat) (ls : Array Slot), i < N → I i ls → (∀ (ls' : Array Slot), I (i + 1) ls' → W p l e R s m args below meth c H locs cells slots Q (F0 m head ls' [])) → W p l e R s m args below meth c H locs cells slots Q (F0 m head ls []))
    (hx : ∀ (ls : Array Slot), I N ls → W p l e R s m args below meth c H locs cells slots Q (F0 m head ls [])) : ∀ (i : Nat), i ≤ N → ∀ {ls : Array Slot}, I i ls → W p l e R s m args below meth c H locs cells slots Q (F0 m head ls []) := by
  have key : ∀ (n i : Nat), n + i = N → ∀ {ls : Array Slot}, I i ls → W p l e R s m args below meth c H locs cells slots Q (F0 m head ls []) := by
    intro n
    induction n with
    | zero => intro i hi ls h; exact hx ls ((show i = N by omega) ▸ h)
    | succ n ih => intro i hi ls h; exact hs i ls (by omega) h (fun ls' h' => ih (i + 1) (by omega) h')
  intro i hi ls h
  exact key (N - i) i (by omega) h
end MYL
/-! the class's functions of its whole state -/
def srcL (dp sl : Int32) : Int32 := if dp ≤ 0 then sl else 4096
def srcW (dp : Int32) (mf qf : IF) (i : Int32) : Int32 := if dp ≤ 0 then rdA 4096 qf i else rdA 4096 mf i
def clp (v : Int32) : Int32 := if 0 < (if v < 256 then v else 256) then (if v < 256 then v else 256) else 0
def argH (dp pl sl : Int32) (mf qf : IF) (k : Int32) : Int32 := if k = 21 then (if pl + fxd k < srcL dp sl then fxd k + clp (srcW dp mf qf (pl + fxd k)) else fxd k) else fxd k
def inM (f n : Int32) : Int32 := if n = 0 then 1 else if 4096 < f + n then 0 else 1
def plT (kd fw fh : Int32) (cf : IF) : Int32 :=
  if kd = 6 then (if 32 < rdA 258 cf 0 + rdA 258 cf 1 then 0 else if inM (rdA 258 cf 2) (4 * rdA 258 cf 1) = 0 then 0 else 1)
  else if kd = 7 ∨ kd = 8 then inM (rdA 258 cf 0) (3 * rdA 258 cf 1)
  else if kd = 20 then (if fw < rdA 258 cf 0 + rdA 258 cf 2 then 0 else if fh < rdA 258 cf 1 + rdA 258 cf 3 then 0 else if inM (rdA 258 cf 4) (rdA 258 cf 2 * rdA 258 cf 3) = 0 then 0 else 1)
  else if kd = 21 then inM (rdA 258 cf 0) (rdA 258 cf 1)
  else if kd = 23 then inM (rdA 258 cf 0) 1 else 1
def stA (kd dp qu : Int32) (cf sf wf : IF) : Int32 :=
  if kd = 17 ∨ kd = 18 then (if hsP sf wf 7 = 0 then 0 else if hsP sf wf 8 = 0 then 0 else 1)
  else if kd = 19 then (if rdA 258 cf 1 = 1 then (if qu = -1 then 1 else 0) else if qu = rdA 258 cf 0 then 1 else 0)
  else if kd = 23 then (if 4 ≤ dp then 0 else 1) else 1
theorem nar_inM (f n : Int32) : narrow .boolean (.int (inM f n)) = .int (inM f n) := by
  unfold inM
  split
  · rfl
  · split <;> rfl
end
section
/-- all values may be -/
def vmB (kd : Int32) (cf : IF) : Int32 := if ∀ j, j < (fxd kd).toNatClampNeg → ¬ myB kd (nI j) (rdA 258 cf (nI j)) = 0 then 1 else 0
theorem vmB_1 {kd : Int32} {cf : IF} (h : ∀ j, j < (fxd kd).toNatClampNeg → ¬ myB kd (nI j) (rdA 258 cf (nI j)) = 0) : 1 = vmB kd cf := by unfold vmB; rw [if_pos h]
theorem vmB_0 {kd : Int32} {cf : IF} {i : Nat} (hi : i < (fxd kd).toNatClampNeg) (h : myB kd (nI i) (rdA 258 cf (nI i)) = 0) : 0 = vmB kd cf := by unfold vmB; rw [if_neg (fun q => q i hi h)]
set_option maxHeartbeats 4000000 in
set_option maxRecDepth 100000 in
theorem c_D_inMemory (l : Launch) (dC : Nat → ClassId) (dI : Nat → Nat → Nat) (tb : tbT) (f9 n9 : Int32) : RM l y_D_inMemory (Cond.code y_D_inMemory b_D_inMemory 2 (some .boolean) :: TB) ({ frames := 0, cells := 0, slots := 0, locals := 0 }) tb (dC, dI) [.int f9, .int n9] [] [] (inM f9 n9) := by
  refine Met.ofW (cc := b_D_inMemory) (maxL := 2) (ret := (some .boolean)) (by decide) rfl ?_
  intro p e s m args below meth c s₁ B hml hv
  obtain ⟨rfl, hP, hK, hE⟩ := hv
  have hx := B.exec
  have hb := B.bytes
  have hr := B.returns
  have ht := fun w (h : w ∈ TB) => atoms_spec (ws := Cond.code y_D_inMemory b_D_inMemory 2 (some .boolean) :: TB) B.pre w (List.mem_cons_of_mem _ h)
  have hown : s.vm.findClass R_D = some m.cls := findClass_of_methodNamed B.named
  have hlocks := B.notSynchronized
  have hS : va_S (fun _ => False) s.heap s.heap [] := va_S.rf
  have F : CallFix p m c b_D_inMemory 2 s _ TB R_D := ⟨hx, hb, hml, hown, ht⟩
  have hl := lv_entry ([.int f9, .int n9]) (n := 2) (Nat.le_of_ble_eq_true rfl)
  rw [lg_entry_eq]
  generalize (lg_sl ([.int f9, .int n9]) ++ List.replicate (2 - (lg_sl ([.int f9, .int n9])).length) Slot.unset).toArray = ls at hl ⊢
  have hl : lv_has ls 2 [(0, .int f9), (1, .int n9)] := hl
  refine lv_iload_n hx hb d_D_inMemory_0 rfl (lv_at hl 1 rfl) ?_
  refine lv_if_eq (tgt := 13) hx hb d_D_inMemory_1 (by decide) (fun c_19 => ?_) (fun c_19 => ?_)
  · refine lv_iconst (v := 1) hx hb d_D_inMemory_13 (by decide) ?_
    refine lv_goto (tgt := 18) hx hb d_D_inMemory_14 (by decide) ?_
    exact W.zret hx hb hr (rfl) (fun t ht9 hW => ⟨_, rfl, by simp only [inM, if_pos c_19], ht9⟩) hS.2.2 d_D_inMemory_18
  · refine lv_iload_n hx hb d_D_inMemory_4 rfl (lv_at hl 0 rfl) ?_
    refine lv_iload_n hx hb d_D_inMemory_5 rfl (lv_at hl 1 rfl) ?_
    refine lv_iadd hx hb d_D_inMemory_6 ?_
    refine lv_sipush (v := 4096) hx hb d_D_inMemory_7 (by decide) ?_
    refine lv_icmp_gt (tgt := 17) hx hb d_D_inMemory_10 (by decide) (fun c_20 => ?_) (fun c_20 => ?_)
    · refine lv_iconst (v := 0) hx hb d_D_inMemory_17 (by decide) ?_
      exact W.zret hx hb hr (rfl) (fun t ht9 hW => ⟨_, rfl, by simp only [inM, if_neg c_19, if_pos c_20], ht9⟩) hS.2.2 d_D_inMemory_18
    · refine lv_iconst (v := 1) hx hb d_D_inMemory_13 (by decide) ?_
      refine lv_goto (tgt := 18) hx hb d_D_inMemory_14 (by decide) ?_
      exact W.zret hx hb hr (rfl) (fun t ht9 hW => ⟨_, rfl, by simp only [inM, if_neg c_19, if_neg c_20], ht9⟩) hS.2.2 d_D_inMemory_18
set_option maxHeartbeats 4000000 in
set_option maxRecDepth 100000 in
theorem c_D_sourceLength (l : Launch) (dC : Nat → ClassId) (dI : Nat → Nat → Nat) (tb : tbT) (x me sm to co ru : Nat) (sl fw fh : Int32) (bk : Nat) (pl dp lp ld dn rf qu ov : Int32) : RM l y_D_sourceLength (Cond.code y_D_sourceLength b_D_sourceLength 1 (some .int) :: TB) ({ frames := 0, cells := 0, slots := 0, locals := 0 }) tb (dC, dI) [.ref x] [(x, .inr (3, [.ref me, .ref sm, .ref to, .ref co, .ref ru, .int sl, .int fw, .int fh])), (ru, .inr (1, [.ref bk, .int pl, .int dp, .int lp, .int ld, .int dn, .int rf, .int qu, .int ov]))] [] (srcL dp sl) := by
  refine Met.ofW (cc := b_D_sourceLength) (maxL := 1) (ret := (some .int)) (by decide) rfl ?_
  intro p e s m args below meth c s₁ B hml hv
  obtain ⟨rfl, hP, hK, hE⟩ := hv
  have hx := B.exec
  have hb := B.bytes
  have hr := B.returns
  have ht := fun w (h : w ∈ TB) => atoms_spec (ws := Cond.code y_D_sourceLength b_D_sourceLength 1 (some .int) :: TB) B.pre w (List.mem_cons_of_mem _ h)
  have hown : s.vm.findClass R_D = some m.cls := findClass_of_methodNamed B.named
  have hlocks := B.notSynchronized
  have hS : va_S (fun _ => False) s.heap s.heap [] := va_S.rf
  have F : CallFix p m c b_D_sourceLength 1 s _ TB R_D := ⟨hx, hb, hml, hown, ht⟩
  have hl := lv_entry ([.ref x]) (n := 1) (Nat.le_of_ble_eq_true rfl)
  rw [lg_entry_eq]
  generalize (lg_sl ([.ref x]) ++ List.replicate (1 - (lg_sl ([.ref x])).length) Slot.unset).toArray = ls at hl ⊢
  have hl : lv_has ls 1 [(0, .ref x)] := hl
  refine lv_aload_n hx hb d_D_sourceLength_0 rfl (lv_at hl 0 rfl) ?_
  refine va_get (D := (dC, dI)) (ci := 3) (v := .ref ru) (C := R_D) (T := F_D) (N := 8) hx hb ht tu_D hown hK hP 0 rfl rfl 4 (by decide) (ht _ tw_180) (fun _ h9 => h9) rfl d_D_sourceLength_1 ?_
  refine va_getN (D := (dC, dI)) (ci := 1) (v := .int dp) (C := R_R) (T := F_R) (N := 9) hx hb ht tu_R hown hK hP 1 rfl rfl 2 (by decide) (va_Nw.use rfl (hE.1 _ nw_8)) (fun _ h9 => h9) rfl d_D_sourceLength_4 ?_
  refine lv_if_le (tgt := 16) hx hb d_D_sourceLength_7 (by decide) (fun c_21 => ?_) (fun c_21 => ?_)
  · refine lv_aload_n hx hb d_D_sourceLength_16 rfl (lv_at hl 0 rfl) ?_
    refine va_get (D := (dC, dI)) (ci := 3) (v := .int sl) (C := R_D) (T := F_D) (N := 8) hx hb ht tu_D hown hK hP 0 rfl rfl 5 (by decide) (ht _ tw_181) (fun _ h9 => h9) rfl d_D_sourceLength_17 ?_
    exact W.iret hx hb hr (fun t ht9 hW => ⟨_, rfl, by simp only [srcL, if_pos c_21], ht9⟩) hS.2.2 d_D_sourceLength_20
  · refine lv_sipush (v := 4096) hx hb d_D_sourceLength_10 (by decide) ?_
    refine lv_goto (tgt := 20) hx hb d_D_sourceLength_13 (by decide) ?_
    exact W.iret hx hb hr (fun t ht9 hW => ⟨_, rfl, by simp only [srcL, if_neg c_21], ht9⟩) hS.2.2 d_D_sourceLength_20
set_option maxHeartbeats 4000000 in
set_option maxRecDepth 100000 in
theorem c_D_sourceWord (l : Launch) (dC : Nat → ClassId) (dI : Nat → Nat → Nat) (tb : tbT) (x me sm to co ru : Nat) (sl fw fh : Int32) (bk : Nat) (pl dp lp ld dn rf qu ov : Int32) (mf qf : IF) (cI : ClassId) (i9 : Int32) : RM l y_D_sourceWord (Cond.code y_D_sourceWord b_D_sourceWord 2 (some .int) :: TB) ({ frames := 1, cells := 0, slots := 0, locals := 21 }) tb (dC, dI) [.ref x, .int i9] [(x, .inr (3, [.ref me, .ref sm, .ref to, .ref co, .ref ru, .int sl, .int fw, .int fh])), (ru, .inr (1, [.ref bk, .int pl, .int dp, .int lp, .int ld, .int dn, .int rf, .int qu, .int ov])), (me, .inl (cI, 4096, .inl mf)), (sm, .inl (cI, 4096, .inl qf))] [(cI, .int)] (srcW dp mf qf i9) := by
  refine Met.ofW (cc := b_D_sourceWord) (maxL := 2) (ret := (some .int)) (by decide) rfl ?_
  intro p e s m args below meth c s₁ B hml hv
  obtain ⟨rfl, hP, hK, hE⟩ := hv
  have hx := B.exec
  have hb := B.bytes
  have hr := B.returns
  have ht := fun w (h : w ∈ TB) => atoms_spec (ws := Cond.code y_D_sourceWord b_D_sourceWord 2 (some .int) :: TB) B.pre w (List.mem_cons_of_mem _ h)
  have hown : s.vm.findClass R_D = some m.cls := findClass_of_methodNamed B.named
  have hlocks := B.notSynchronized
  have hS : va_S (fun _ => False) s.heap s.heap [] := va_S.rf
  have F : CallFix p m c b_D_sourceWord 2 s _ TB R_D := ⟨hx, hb, hml, hown, ht⟩
  have hl := lv_entry ([.ref x, .int i9]) (n := 2) (Nat.le_of_ble_eq_true rfl)
  rw [lg_entry_eq]
  generalize (lg_sl ([.ref x, .int i9]) ++ List.replicate (2 - (lg_sl ([.ref x, .int i9])).length) Slot.unset).toArray = ls at hl ⊢
  have hl : lv_has ls 2 [(0, .ref x), (1, .int i9)] := hl
  refine lv_aload_n hx hb d_D_sourceWord_0 rfl (lv_at hl 0 rfl) ?_
  refine va_get (D := (dC, dI)) (ci := 3) (v := .ref ru) (C := R_D) (T := F_D) (N := 8) hx hb ht tu_D hown hK hP 0 rfl rfl 4 (by decide) (ht _ tw_180) (fun _ h9 => h9) rfl d_D_sourceWord_1 ?_
  refine va_getN (D := (dC, dI)) (ci := 1) (v := .int dp) (C := R_R) (T := F_R) (N := 9) hx hb ht tu_R hown hK hP 1 rfl rfl 2 (by decide) (va_Nw.use rfl (hE.1 _ nw_8)) (fun _ h9 => h9) rfl d_D_sourceWord_4 ?_
  refine lv_if_le (tgt := 17) hx hb d_D_sourceWord_7 (by decide) (fun c_22 => ?_) (fun c_22 => ?_)
  · refine lv_aload_n hx hb d_D_sourceWord_17 rfl (lv_at hl 0 rfl) ?_
    refine va_get (D := (dC, dI)) (ci := 3) (v := .ref sm) (C := R_D) (T := F_D) (N := 8) hx hb ht tu_D hown hK hP 0 rfl rfl 1 (by decide) (ht _ tw_177) (fun _ h9 => h9) rfl d_D_sourceWord_18 ?_
    refine lv_iload_n hx hb d_D_sourceWord_21 rfl (lv_at hl 1 rfl) ?_
    refine rcS (As := [.ref sm, .int i9]) (rest := []) (c_D_read l dC dI tb sm 4096 qf cI i9 (by decide)) F tw_66 tw_28 tw_65 tw_300 hP [3] rfl hK [0] rfl hE hS hd_D_read rfl rfl ⟨Nat.le_of_ble_eq_true rfl, Nat.le_of_ble_eq_true rfl⟩ ⟨Nat.le_of_ble_eq_true rfl, Nat.le_of_ble_eq_true rfl⟩ hl.1 rfl (Nat.le_of_ble_eq_true rfl) d_D_sourceWord_22 ?_
    exact W.iret hx hb hr (fun t ht9 hW => ⟨_, rfl, by simp only [srcW, if_pos c_22], ht9⟩) hS.2.2 d_D_sourceWord_25
  · refine lv_aload_n hx hb d_D_sourceWord_10 rfl (lv_at hl 0 rfl) ?_
    refine va_get (D := (dC, dI)) (ci := 3) (v := .ref me) (C := R_D) (T := F_D) (N := 8) hx hb ht tu_D hown hK hP 0 rfl rfl 0 (by decide) (ht _ tw_176) (fun _ h9 => h9) rfl d_D_sourceWord_11 ?_
    refine lv_goto (tgt := 21) hx hb d_D_sourceWord_14 (by decide) ?_
    refine lv_iload_n hx hb d_D_sourceWord_21 rfl (lv_at hl 1 rfl) ?_
    refine rcS (As := [.ref me, .int i9]) (rest := []) (c_D_read l dC dI tb me 4096 mf cI i9 (by decide)) F tw_66 tw_28 tw_65 tw_300 hP [2] rfl hK [0] rfl hE hS hd_D_read rfl rfl ⟨Nat.le_of_ble_eq_true rfl, Nat.le_of_ble_eq_true rfl⟩ ⟨Nat.le_of_ble_eq_true rfl, Nat.le_of_ble_eq_true rfl⟩ hl.1 rfl (Nat.le_of_ble_eq_true rfl) d_D_sourceWord_22 ?_
    exact W.iret hx hb hr (fun t ht9 hW => ⟨_, rfl, by simp only [srcW, if_neg c_22], ht9⟩) hS.2.2 d_D_sourceWord_25
set_option maxHeartbeats 4000000 in
set_option maxRecDepth 100000 in
theorem c_D_argumentsHere (l : Launch) (dC : Nat → ClassId) (dI : Nat → Nat → Nat) (tb : tbT) (x me sm to co ru : Nat) (sl fw fh : Int32) (bk : Nat) (pl dp lp ld dn rf qu ov : Int32) (mf qf : IF) (cI : ClassId) (k9 : Int32) : RM l y_D_argumentsHere (Cond.code y_D_argumentsHere b_D_argumentsHere 4 (some .int) :: TB) ({ frames := 2, cells := 0, slots := 0, locals := 42 }) tb (dC, dI) [.ref x, .int k9] [(x, .inr (3, [.ref me, .ref sm, .ref to, .ref co, .ref ru, .int sl, .int fw, .int fh])), (ru, .inr (1, [.ref bk, .int pl, .int dp, .int lp, .int ld, .int dn, .int rf, .int qu, .int ov])), (me, .inl (cI, 4096, .inl mf)), (sm, .inl (cI, 4096, .inl qf))] [(cI, .int)] (argH dp pl sl mf qf k9) := by
  refine Met.ofW (cc := b_D_argumentsHere) (maxL := 4) (ret := (some .int)) (by decide) rfl ?_
  intro p e s m args below meth c s₁ B hml hv
  obtain ⟨rfl, hP, hK, hE⟩ := hv
  have hx := B.exec
  have hb := B.bytes
  have hr := B.returns
  have ht := fun w (h : w ∈ TB) => atoms_spec (ws := Cond.code y_D_argumentsHere b_D_argumentsHere 4 (some .int) :: TB) B.pre w (List.mem_cons_of_mem _ h)
  have hown : s.vm.findClass R_D = some m.cls := findClass_of_methodNamed B.named
  have hlocks := B.notSynchronized
  have hS : va_S (fun _ => False) s.heap s.heap [] := va_S.rf
  have F : CallFix p m c b_D_argumentsHere 4 s _ TB R_D := ⟨hx, hb, hml, hown, ht⟩
  have hl := lv_entry ([.ref x, .int k9]) (n := 4) (Nat.le_of_ble_eq_true rfl)
  rw [lg_entry_eq]
  generalize (lg_sl ([.ref x, .int k9]) ++ List.replicate (4 - (lg_sl ([.ref x, .int k9])).length) Slot.unset).toArray = ls at hl ⊢
  have hl : lv_has ls 4 [(0, .ref x), (1, .int k9)] := hl
  refine lv_iload_n hx hb d_D_argumentsHere_0 rfl (lv_at hl 1 rfl) ?_
  refine rcS (As := [.int k9]) (rest := []) (c_S_fixed l dC dI tb k9 ) F tw_69 tw_30 tw_68 tw_404 hP [] rfl hK [] rfl hE hS hd_S_fixed rfl rfl ⟨Nat.le_of_ble_eq_true rfl, Nat.le_of_ble_eq_true rfl⟩ ⟨Nat.le_of_ble_eq_true rfl, Nat.le_of_ble_eq_true rfl⟩ hl.1 rfl (Nat.le_of_ble_eq_true rfl) d_D_argumentsHere_1 ?_
  refine lv_istore_n (lv' := [(2, .int (fxd k9)), (0, .ref x), (1, .int k9)]) hx hb d_D_argumentsHere_4 rfl hl (by decide) rfl (fun ls hl => ?_)
  refine lv_iload_n hx hb d_D_argumentsHere_5 rfl (lv_at hl 2 rfl) ?_
  refine lv_bipush (v := 21) hx hb d_D_argumentsHere_6 (by decide) ?_
  refine lv_icmp_ne (tgt := 27) hx hb d_D_argumentsHere_8 (by decide) (fun c_23 => ?_) (fun c_23 => ?_)
  · refine lv_iload_n hx hb d_D_argumentsHere_27 rfl (lv_at hl 0 rfl) ?_
    exact W.iret hx hb hr (fun t ht9 hW => ⟨_, rfl, by simp only [argH, clp, if_neg c_23], ht9⟩) hS.2.2 d_D_argumentsHere_28
  · refine lv_aload_n hx hb d_D_argumentsHere_11 rfl (lv_at hl 1 rfl) ?_
    refine va_get (D := (dC, dI)) (ci := 3) (v := .ref ru) (C := R_D) (T := F_D) (N := 8) hx hb ht tu_D hown hK hP 0 rfl rfl 4 (by decide) (ht _ tw_180) (fun _ h9 => h9) rfl d_D_argumentsHere_12 ?_
    refine va_getN (D := (dC, dI)) (ci := 1) (v := .int pl) (C := R_R) (T := F_R) (N := 9) hx hb ht tu_R hown hK hP 1 rfl rfl 1 (by decide) (va_Nw.use rfl (hE.1 _ nw_7)) (fun _ h9 => h9) rfl d_D_argumentsHere_15 ?_
    refine lv_iload_n hx hb d_D_argumentsHere_18 rfl (lv_at hl 0 rfl) ?_
    refine lv_iadd hx hb d_D_argumentsHere_19 ?_
    refine lv_aload_n hx hb d_D_argumentsHere_20 rfl (lv_at hl 1 rfl) ?_
    refine rcV (As := []) (rest := [.int (pl + (fxd k9))]) (c_D_sourceLength l dC dI tb x me sm to co ru sl fw fh bk pl dp lp ld dn rf qu ov ) F tw_389 tw_28 tw_388 tw_6 tw_386 hP [0, 1] rfl hK [] rfl hE hS (q0 := 0) rfl rfl hd_D_sourceLength rfl rfl ⟨Nat.le_of_ble_eq_true rfl, Nat.le_of_ble_eq_true rfl⟩ ⟨Nat.le_of_ble_eq_true rfl, Nat.le_of_ble_eq_true rfl⟩ hl.1 rfl (Nat.le_of_ble_eq_true rfl) d_D_argumentsHere_21 ?_
    refine lv_icmp_lt (tgt := 29) hx hb d_D_argumentsHere_24 (by decide) (fun c_24 => ?_) (fun c_24 => ?_)
    · refine lv_aload_n hx hb d_D_argumentsHere_29 rfl (lv_at hl 1 rfl) ?_
      refine lv_aload_n hx hb d_D_argumentsHere_30 rfl (lv_at hl 1 rfl) ?_
      refine va_get (D := (dC, dI)) (ci := 3) (v := .ref ru) (C := R_D) (T := F_D) (N := 8) hx hb ht tu_D hown hK hP 0 rfl rfl 4 (by decide) (ht _ tw_180) (fun _ h9 => h9) rfl d_D_argumentsHere_31 ?_
      refine va_getN (D := (dC, dI)) (ci := 1) (v := .int pl) (C := R_R) (T := F_R) (N := 9) hx hb ht tu_R hown hK hP 1 rfl rfl 1 (by decide) (va_Nw.use rfl (hE.1 _ nw_7)) (fun _ h9 => h9) rfl d_D_argumentsHere_34 ?_
      refine lv_iload_n hx hb d_D_argumentsHere_37 rfl (lv_at hl 0 rfl) ?_
      refine lv_iadd hx hb d_D_argumentsHere_38 ?_
      refine rcV (As := [.int (pl + (fxd k9))]) (rest := []) (c_D_sourceWord l dC dI tb x me sm to co ru sl fw fh bk pl dp lp ld dn rf qu ov mf qf cI (pl + (fxd k9)) ) F tw_398 tw_28 tw_397 tw_8 tw_395 hP [0, 1, 2, 3] rfl hK [0] rfl hE hS (q0 := 0) rfl rfl hd_D_sourceWord rfl rfl ⟨Nat.le_of_ble_eq_true rfl, Nat.le_of_ble_eq_true rfl⟩ ⟨Nat.le_of_ble_eq_true rfl, Nat.le_of_ble_eq_true rfl⟩ hl.1 rfl (Nat.le_of_ble_eq_true rfl) d_D_argumentsHere_39 ?_
      refine lv_istore_n (lv' := [(3, .int (srcW dp mf qf (pl + (fxd k9)))), (2, .int (fxd k9)), (0, .ref x), (1, .int k9)]) hx hb d_D_argumentsHere_42 rfl hl (by decide) rfl (fun ls hl => ?_)
      refine lv_iload_n hx hb d_D_argumentsHere_43 rfl (lv_at hl 1 rfl) ?_
      refine lv_iconst (v := 0) hx hb d_D_argumentsHere_44 (by decide) ?_
      refine lv_sipush (v := 256) hx hb d_D_argumentsHere_45 (by decide) ?_
      refine lv_iload_n hx hb d_D_argumentsHere_48 rfl (lv_at hl 0 rfl) ?_
      refine va_mmin hx hb (by rw [hml]; exact hl.1.symm) hown (ht _ tw_405) (ht _ tw_406) (ht _ tw_31) (ht _ tw_407) (Nat.le_of_ble_eq_true rfl) (Nat.le_of_ble_eq_true rfl) (Nat.le_of_ble_eq_true rfl) (Nat.le_of_ble_eq_true rfl) d_D_argumentsHere_49 ?_
      refine va_mmax hx hb (by rw [hml]; exact hl.1.symm) hown (ht _ tw_408) (ht _ tw_76) (ht _ tw_31) (ht _ tw_77) (Nat.le_of_ble_eq_true rfl) (Nat.le_of_ble_eq_true rfl) (Nat.le_of_ble_eq_true rfl) (Nat.le_of_ble_eq_true rfl) d_D_argumentsHere_52 ?_
      refine lv_iadd hx hb d_D_argumentsHere_55 ?_
      exact W.iret hx hb hr (fun t ht9 hW => ⟨_, rfl, by simp only [argH, clp, if_pos c_23, if_pos c_24], ht9⟩) hS.2.2 d_D_argumentsHere_56
    · refine lv_iload_n hx hb d_D_argumentsHere_27 rfl (lv_at hl 0 rfl) ?_
      exact W.iret hx hb hr (fun t ht9 hW => ⟨_, rfl, by simp only [argH, clp, if_pos c_23, if_neg c_24], ht9⟩) hS.2.2 d_D_argumentsHere_28
set_option maxHeartbeats 4000000 in
set_option maxRecDepth 100000 in
theorem c_D_placesAreThere (l : Launch) (dC : Nat → ClassId) (dI : Nat → Nat → Nat) (tb : tbT) (x me sm to co ru : Nat) (sl fw fh : Int32) (cw : Nat) (kd mn : Int32) (cf : IF) (cI : ClassId) : RM l y_D_placesAreThere (Cond.code y_D_placesAreThere b_D_placesAreThere 1 (some .boolean) :: TB) ({ frames := 2, cells := 0, slots := 0, locals := 42 }) tb (dC, dI) [.ref x] [(x, .inr (3, [.ref me, .ref sm, .ref to, .ref co, .ref ru, .int sl, .int fw, .int fh])), (co, .inr (0, [.ref cw, .int kd, .int mn])), (cw, .inl (cI, 258, .inl cf))] [(cI, .int)] (plT kd fw fh cf) := by
  refine Met.ofW (cc := b_D_placesAreThere) (maxL := 1) (ret := (some .boolean)) (by decide) rfl ?_
  intro p e s m args below meth c s₁ B hml hv
  obtain ⟨rfl, hP, hK, hE⟩ := hv
  have hx := B.exec
  have hb := B.bytes
  have hr := B.returns
  have ht := fun w (h : w ∈ TB) => atoms_spec (ws := Cond.code y_D_placesAreThere b_D_placesAreThere 1 (some .boolean) :: TB) B.pre w (List.mem_cons_of_mem _ h)
  have hown : s.vm.findClass R_D = some m.cls := findClass_of_methodNamed B.named
  have hlocks := B.notSynchronized
  have hS : va_S (fun _ => False) s.heap s.heap [] := va_S.rf
  have F : CallFix p m c b_D_placesAreThere 1 s _ TB R_D := ⟨hx, hb, hml, hown, ht⟩
  have hl := lv_entry ([.ref x]) (n := 1) (Nat.le_of_ble_eq_true rfl)
  rw [lg_entry_eq]
  generalize (lg_sl ([.ref x]) ++ List.replicate (1 - (lg_sl ([.ref x])).length) Slot.unset).toArray = ls at hl ⊢
  have hl : lv_has ls 1 [(0, .ref x)] := hl
  refine lv_aload_n hx hb d_D_placesAreThere_0 rfl (lv_at hl 0 rfl) ?_
  refine va_get (D := (dC, dI)) (ci := 3) (v := .ref co) (C := R_D) (T := F_D) (N := 8) hx hb ht tu_D hown hK hP 0 rfl rfl 3 (by decide) (ht _ tw_179) (fun _ h9 => h9) rfl d_D_placesAreThere_1 ?_
  refine va_getN (D := (dC, dI)) (ci := 0) (v := .int kd) (C := R_C) (T := F_C) (N := 3) hx hb ht tu_C hown hK hP 1 rfl rfl 1 (by decide) (va_Nw.use rfl (hE.1 _ nw_4)) (fun _ h9 => h9) rfl d_D_placesAreThere_4 ?_
  by_cases sv_25 : kd = 6
  · refine lv_tab (off := 85) (tgt := 92) hx hb d_D_placesAreThere_7 (by decide) (by rw [sv_25]; decide +kernel) (by decide) ?_
    refine lv_aload_n hx hb d_D_placesAreThere_92 rfl (lv_at hl 0 rfl) ?_
    refine va_get (D := (dC, dI)) (ci := 3) (v := .ref co) (C := R_D) (T := F_D) (N := 8) hx hb ht tu_D hown hK hP 0 rfl rfl 3 (by decide) (ht _ tw_179) (fun _ h9 => h9) rfl d_D_placesAreThere_93 ?_
    refine lv_iconst (v := 0) hx hb d_D_placesAreThere_96 (by decide) ?_
    refine rcV (As := [.int 0]) (rest := []) (c_C_at l dC dI tb co cw kd mn cf cI 0 ) F tw_422 tw_32 tw_420 tw_421 tw_431 hP [1, 2] rfl hK [0] rfl hE hS (q0 := 1) rfl rfl hd_C_at rfl rfl ⟨Nat.le_of_ble_eq_true rfl, Nat.le_of_ble_eq_true rfl⟩ ⟨Nat.le_of_ble_eq_true rfl, Nat.le_of_ble_eq_true rfl⟩ hl.1 rfl (Nat.le_of_ble_eq_true rfl) d_D_placesAreThere_97 ?_
    refine lv_aload_n hx hb d_D_placesAreThere_100 rfl (lv_at hl 0 rfl) ?_
    refine va_get (D := (dC, dI)) (ci := 3) (v := .ref co) (C := R_D) (T := F_D) (N := 8) hx hb ht tu_D hown hK hP 0 rfl rfl 3 (by decide) (ht _ tw_179) (fun _ h9 => h9) rfl d_D_placesAreThere_101 ?_
    refine lv_iconst (v := 1) hx hb d_D_placesAreThere_104 (by decide) ?_
    refine rcV (As := [.int 1]) (rest := [.int (rdA 258 cf 0)]) (c_C_at l dC dI tb co cw kd mn cf cI 1 ) F tw_422 tw_32 tw_420 tw_421 tw_431 hP [1, 2] rfl hK [0] rfl hE hS (q0 := 1) rfl rfl hd_C_at rfl rfl ⟨Nat.le_of_ble_eq_true rfl, Nat.le_of_ble_eq_true rfl⟩ ⟨Nat.le_of_ble_eq_true rfl, Nat.le_of_ble_eq_true rfl⟩ hl.1 rfl (Nat.le_of_ble_eq_true rfl) d_D_placesAreThere_105 ?_
    refine lv_iadd hx hb d_D_placesAreThere_108 ?_
    refine lv_bipush (v := 32) hx hb d_D_placesAreThere_109 (by decide) ?_
    refine lv_icmp_gt (tgt := 142) hx hb d_D_placesAreThere_111 (by decide) (fun c_26 => ?_) (fun c_26 => ?_)
    · refine lv_iconst (v := 0) hx hb d_D_placesAreThere_142 (by decide) ?_
      exact W.zret hx hb hr (rfl) (fun t ht9 hW => ⟨_, rfl, by simp only [plT, if_pos sv_25, if_pos c_26], ht9⟩) hS.2.2 d_D_placesAreThere_143
    · refine lv_aload_n hx hb d_D_placesAreThere_114 rfl (lv_at hl 0 rfl) ?_
      refine va_get (D := (dC, dI)) (ci := 3) (v := .ref co) (C := R_D) (T := F_D) (N := 8) hx hb ht tu_D hown hK hP 0 rfl rfl 3 (by decide) (ht _ tw_179) (fun _ h9 => h9) rfl d_D_placesAreThere_115 ?_
      refine lv_iconst (v := 2) hx hb d_D_placesAreThere_118 (by decide) ?_
      refine rcV (As := [.int 2]) (rest := []) (c_C_at l dC dI tb co cw kd mn cf cI 2 ) F tw_422 tw_32 tw_420 tw_421 tw_431 hP [1, 2] rfl hK [0] rfl hE hS (q0 := 1) rfl rfl hd_C_at rfl rfl ⟨Nat.le_of_ble_eq_true rfl, Nat.le_of_ble_eq_true rfl⟩ ⟨Nat.le_of_ble_eq_true rfl, Nat.le_of_ble_eq_true rfl⟩ hl.1 rfl (Nat.le_of_ble_eq_true rfl) d_D_placesAreThere_119 ?_
      refine lv_iconst (v := 4) hx hb d_D_placesAreThere_122 (by decide) ?_
      refine lv_aload_n hx hb d_D_placesAreThere_123 rfl (lv_at hl 0 rfl) ?_
      refine va_get (D := (dC, dI)) (ci := 3) (v := .ref co) (C := R_D) (T := F_D) (N := 8) hx hb ht tu_D hown hK hP 0 rfl rfl 3 (by decide) (ht _ tw_179) (fun _ h9 => h9) rfl d_D_placesAreThere_124 ?_
      refine lv_iconst (v := 1) hx hb d_D_placesAreThere_127 (by decide) ?_
      refine rcV (As := [.int 1]) (rest := [.int 4, .int (rdA 258 cf 2)]) (c_C_at l dC dI tb co cw kd mn cf cI 1 ) F tw_422 tw_32 tw_420 tw_421 tw_431 hP [1, 2] rfl hK [0] rfl hE hS (q0 := 1) rfl rfl hd_C_at rfl rfl ⟨Nat.le_of_ble_eq_true rfl, Nat.le_of_ble_eq_true rfl⟩ ⟨Nat.le_of_ble_eq_true rfl, Nat.le_of_ble_eq_true rfl⟩ hl.1 rfl (Nat.le_of_ble_eq_true rfl) d_D_placesAreThere_128 ?_
      refine lv_imul hx hb d_D_placesAreThere_131 ?_
      refine rcS (As := [.int (rdA 258 cf 2), .int (4 * (rdA 258 cf 1))]) (rest := []) (c_D_inMemory l dC dI tb (rdA 258 cf 2) (4 * (rdA 258 cf 1)) ) F tw_434 tw_28 tw_433 tw_432 hP [] rfl hK [] rfl hE hS hd_D_inMemory rfl rfl ⟨Nat.le_of_ble_eq_true rfl, Nat.le_of_ble_eq_true rfl⟩ ⟨Nat.le_of_ble_eq_true rfl, Nat.le_of_ble_eq_true rfl⟩ hl.1 rfl (Nat.le_of_ble_eq_true rfl) d_D_placesAreThere_132 ?_
      refine lv_if_eq (tgt := 142) hx hb d_D_placesAreThere_135 (by decide) (fun c_27 => ?_) (fun c_27 => ?_)
      · refine lv_iconst (v := 0) hx hb d_D_placesAreThere_142 (by decide) ?_
        exact W.zret hx hb hr (rfl) (fun t ht9 hW => ⟨_, rfl, by simp only [plT, if_pos sv_25, if_neg c_26, if_pos c_27], ht9⟩) hS.2.2 d_D_placesAreThere_143
      · refine lv_iconst (v := 1) hx hb d_D_placesAreThere_138 (by decide) ?_
        refine lv_goto (tgt := 143) hx hb d_D_placesAreThere_139 (by decide) ?_
        exact W.zret hx hb hr (rfl) (fun t ht9 hW => ⟨_, rfl, by simp only [plT, if_pos sv_25, if_neg c_26, if_neg c_27], ht9⟩) hS.2.2 d_D_placesAreThere_143
  · skip
    by_cases sv_28 : kd = 7 ∨ kd = 8
    · refine lv_tab (off := 137) (tgt := 144) hx hb d_D_placesAreThere_7 (by decide) (by rcases sv_28 with h9 | h9 <;> rw [h9] <;> decide +kernel) (by decide) ?_
      refine lv_aload_n hx hb d_D_placesAreThere_144 rfl (lv_at hl 0 rfl) ?_
      refine va_get (D := (dC, dI)) (ci := 3) (v := .ref co) (C := R_D) (T := F_D) (N := 8) hx hb ht tu_D hown hK hP 0 rfl rfl 3 (by decide) (ht _ tw_179) (fun _ h9 => h9) rfl d_D_placesAreThere_145 ?_
      refine lv_iconst (v := 0) hx hb d_D_placesAreThere_148 (by decide) ?_
      refine rcV (As := [.int 0]) (rest := []) (c_C_at l dC dI tb co cw kd mn cf cI 0 ) F tw_422 tw_32 tw_420 tw_421 tw_431 hP [1, 2] rfl hK [0] rfl hE hS (q0 := 1) rfl rfl hd_C_at rfl rfl ⟨Nat.le_of_ble_eq_true rfl, Nat.le_of_ble_eq_true rfl⟩ ⟨Nat.le_of_ble_eq_true rfl, Nat.le_of_ble_eq_true rfl⟩ hl.1 rfl (Nat.le_of_ble_eq_true rfl) d_D_placesAreThere_149 ?_
      refine lv_iconst (v := 3) hx hb d_D_placesAreThere_152 (by decide) ?_
      refine lv_aload_n hx hb d_D_placesAreThere_153 rfl (lv_at hl 0 rfl) ?_
      refine va_get (D := (dC, dI)) (ci := 3) (v := .ref co) (C := R_D) (T := F_D) (N := 8) hx hb ht tu_D hown hK hP 0 rfl rfl 3 (by decide) (ht _ tw_179) (fun _ h9 => h9) rfl d_D_placesAreThere_154 ?_
      refine lv_iconst (v := 1) hx hb d_D_placesAreThere_157 (by decide) ?_
      refine rcV (As := [.int 1]) (rest := [.int 3, .int (rdA 258 cf 0)]) (c_C_at l dC dI tb co cw kd mn cf cI 1 ) F tw_422 tw_32 tw_420 tw_421 tw_431 hP [1, 2] rfl hK [0] rfl hE hS (q0 := 1) rfl rfl hd_C_at rfl rfl ⟨Nat.le_of_ble_eq_true rfl, Nat.le_of_ble_eq_true rfl⟩ ⟨Nat.le_of_ble_eq_true rfl, Nat.le_of_ble_eq_true rfl⟩ hl.1 rfl (Nat.le_of_ble_eq_true rfl) d_D_placesAreThere_158 ?_
      refine lv_imul hx hb d_D_placesAreThere_161 ?_
      refine rcS (As := [.int (rdA 258 cf 0), .int (3 * (rdA 258 cf 1))]) (rest := []) (c_D_inMemory l dC dI tb (rdA 258 cf 0) (3 * (rdA 258 cf 1)) ) F tw_434 tw_28 tw_433 tw_432 hP [] rfl hK [] rfl hE hS hd_D_inMemory rfl rfl ⟨Nat.le_of_ble_eq_true rfl, Nat.le_of_ble_eq_true rfl⟩ ⟨Nat.le_of_ble_eq_true rfl, Nat.le_of_ble_eq_true rfl⟩ hl.1 rfl (Nat.le_of_ble_eq_true rfl) d_D_placesAreThere_162 ?_
      exact W.zret hx hb hr (nar_inM _ _) (fun t ht9 hW => ⟨_, rfl, by simp only [plT, if_neg sv_25, if_pos sv_28], ht9⟩) hS.2.2 d_D_placesAreThere_165
    · skip
      by_cases sv_29 : kd = 20
      · refine lv_tab (off := 159) (tgt := 166) hx hb d_D_placesAreThere_7 (by decide) (by rw [sv_29]; decide +kernel) (by decide) ?_
        refine lv_aload_n hx hb d_D_placesAreThere_166 rfl (lv_at hl 0 rfl) ?_
        refine va_get (D := (dC, dI)) (ci := 3) (v := .ref co) (C := R_D) (T := F_D) (N := 8) hx hb ht tu_D hown hK hP 0 rfl rfl 3 (by decide) (ht _ tw_179) (fun _ h9 => h9) rfl d_D_placesAreThere_167 ?_
        refine lv_iconst (v := 0) hx hb d_D_placesAreThere_170 (by decide) ?_
        refine rcV (As := [.int 0]) (rest := []) (c_C_at l dC dI tb co cw kd mn cf cI 0 ) F tw_422 tw_32 tw_420 tw_421 tw_431 hP [1, 2] rfl hK [0] rfl hE hS (q0 := 1) rfl rfl hd_C_at rfl rfl ⟨Nat.le_of_ble_eq_true rfl, Nat.le_of_ble_eq_true rfl⟩ ⟨Nat.le_of_ble_eq_true rfl, Nat.le_of_ble_eq_true rfl⟩ hl.1 rfl (Nat.le_of_ble_eq_true rfl) d_D_placesAreThere_171 ?_
        refine lv_aload_n hx hb d_D_placesAreThere_174 rfl (lv_at hl 0 rfl) ?_
        refine va_get (D := (dC, dI)) (ci := 3) (v := .ref co) (C := R_D) (T := F_D) (N := 8) hx hb ht tu_D hown hK hP 0 rfl rfl 3 (by decide) (ht _ tw_179) (fun _ h9 => h9) rfl d_D_placesAreThere_175 ?_
        refine lv_iconst (v := 2) hx hb d_D_placesAreThere_178 (by decide) ?_
        refine rcV (As := [.int 2]) (rest := [.int (rdA 258 cf 0)]) (c_C_at l dC dI tb co cw kd mn cf cI 2 ) F tw_422 tw_32 tw_420 tw_421 tw_431 hP [1, 2] rfl hK [0] rfl hE hS (q0 := 1) rfl rfl hd_C_at rfl rfl ⟨Nat.le_of_ble_eq_true rfl, Nat.le_of_ble_eq_true rfl⟩ ⟨Nat.le_of_ble_eq_true rfl, Nat.le_of_ble_eq_true rfl⟩ hl.1 rfl (Nat.le_of_ble_eq_true rfl) d_D_placesAreThere_179 ?_
        refine lv_iadd hx hb d_D_placesAreThere_182 ?_
        refine lv_aload_n hx hb d_D_placesAreThere_183 rfl (lv_at hl 0 rfl) ?_
        refine va_get (D := (dC, dI)) (ci := 3) (v := .int fw) (C := R_D) (T := F_D) (N := 8) hx hb ht tu_D hown hK hP 0 rfl rfl 6 (by decide) (ht _ tw_182) (fun _ h9 => h9) rfl d_D_placesAreThere_184 ?_
        refine lv_icmp_gt (tgt := 249) hx hb d_D_placesAreThere_187 (by decide) (fun c_30 => ?_) (fun c_30 => ?_)
        · refine lv_iconst (v := 0) hx hb d_D_placesAreThere_249 (by decide) ?_
          exact W.zret hx hb hr (rfl) (fun t ht9 hW => ⟨_, rfl, by simp only [plT, if_neg sv_25, if_neg sv_28, if_pos sv_29, if_pos c_30], ht9⟩) hS.2.2 d_D_placesAreThere_250
        · refine lv_aload_n hx hb d_D_placesAreThere_190 rfl (lv_at hl 0 rfl) ?_
          refine va_get (D := (dC, dI)) (ci := 3) (v := .ref co) (C := R_D) (T := F_D) (N := 8) hx hb ht tu_D hown hK hP 0 rfl rfl 3 (by decide) (ht _ tw_179) (fun _ h9 => h9) rfl d_D_placesAreThere_191 ?_
          refine lv_iconst (v := 1) hx hb d_D_placesAreThere_194 (by decide) ?_
          refine rcV (As := [.int 1]) (rest := []) (c_C_at l dC dI tb co cw kd mn cf cI 1 ) F tw_422 tw_32 tw_420 tw_421 tw_431 hP [1, 2] rfl hK [0] rfl hE hS (q0 := 1) rfl rfl hd_C_at rfl rfl ⟨Nat.le_of_ble_eq_true rfl, Nat.le_of_ble_eq_true rfl⟩ ⟨Nat.le_of_ble_eq_true rfl, Nat.le_of_ble_eq_true rfl⟩ hl.1 rfl (Nat.le_of_ble_eq_true rfl) d_D_placesAreThere_195 ?_
          refine lv_aload_n hx hb d_D_placesAreThere_198 rfl (lv_at hl 0 rfl) ?_
          refine va_get (D := (dC, dI)) (ci := 3) (v := .ref co) (C := R_D) (T := F_D) (N := 8) hx hb ht tu_D hown hK hP 0 rfl rfl 3 (by decide) (ht _ tw_179) (fun _ h9 => h9) rfl d_D_placesAreThere_199 ?_
          refine lv_iconst (v := 3) hx hb d_D_placesAreThere_202 (by decide) ?_
          refine rcV (As := [.int 3]) (rest := [.int (rdA 258 cf 1)]) (c_C_at l dC dI tb co cw kd mn cf cI 3 ) F tw_422 tw_32 tw_420 tw_421 tw_431 hP [1, 2] rfl hK [0] rfl hE hS (q0 := 1) rfl rfl hd_C_at rfl rfl ⟨Nat.le_of_ble_eq_true rfl, Nat.le_of_ble_eq_true rfl⟩ ⟨Nat.le_of_ble_eq_true rfl, Nat.le_of_ble_eq_true rfl⟩ hl.1 rfl (Nat.le_of_ble_eq_true rfl) d_D_placesAreThere_203 ?_
          refine lv_iadd hx hb d_D_placesAreThere_206 ?_
          refine lv_aload_n hx hb d_D_placesAreThere_207 rfl (lv_at hl 0 rfl) ?_
          refine va_get (D := (dC, dI)) (ci := 3) (v := .int fh) (C := R_D) (T := F_D) (N := 8) hx hb ht tu_D hown hK hP 0 rfl rfl 7 (by decide) (ht _ tw_183) (fun _ h9 => h9) rfl d_D_placesAreThere_208 ?_
          refine lv_icmp_gt (tgt := 249) hx hb d_D_placesAreThere_211 (by decide) (fun c_31 => ?_) (fun c_31 => ?_)
          · refine lv_iconst (v := 0) hx hb d_D_placesAreThere_249 (by decide) ?_
            exact W.zret hx hb hr (rfl) (fun t ht9 hW => ⟨_, rfl, by simp only [plT, if_neg sv_25, if_neg sv_28, if_pos sv_29, if_neg c_30, if_pos c_31], ht9⟩) hS.2.2 d_D_placesAreThere_250
          · refine lv_aload_n hx hb d_D_placesAreThere_214 rfl (lv_at hl 0 rfl) ?_
            refine va_get (D := (dC, dI)) (ci := 3) (v := .ref co) (C := R_D) (T := F_D) (N := 8) hx hb ht tu_D hown hK hP 0 rfl rfl 3 (by decide) (ht _ tw_179) (fun _ h9 => h9) rfl d_D_placesAreThere_215 ?_
            refine lv_iconst (v := 4) hx hb d_D_placesAreThere_218 (by decide) ?_
            refine rcV (As := [.int 4]) (rest := []) (c_C_at l dC dI tb co cw kd mn cf cI 4 ) F tw_422 tw_32 tw_420 tw_421 tw_431 hP [1, 2] rfl hK [0] rfl hE hS (q0 := 1) rfl rfl hd_C_at rfl rfl ⟨Nat.le_of_ble_eq_true rfl, Nat.le_of_ble_eq_true rfl⟩ ⟨Nat.le_of_ble_eq_true rfl, Nat.le_of_ble_eq_true rfl⟩ hl.1 rfl (Nat.le_of_ble_eq_true rfl) d_D_placesAreThere_219 ?_
            refine lv_aload_n hx hb d_D_placesAreThere_222 rfl (lv_at hl 0 rfl) ?_
            refine va_get (D := (dC, dI)) (ci := 3) (v := .ref co) (C := R_D) (T := F_D) (N := 8) hx hb ht tu_D hown hK hP 0 rfl rfl 3 (by decide) (ht _ tw_179) (fun _ h9 => h9) rfl d_D_placesAreThere_223 ?_
            refine lv_iconst (v := 2) hx hb d_D_placesAreThere_226 (by decide) ?_
            refine rcV (As := [.int 2]) (rest := [.int (rdA 258 cf 4)]) (c_C_at l dC dI tb co cw kd mn cf cI 2 ) F tw_422 tw_32 tw_420 tw_421 tw_431 hP [1, 2] rfl hK [0] rfl hE hS (q0 := 1) rfl rfl hd_C_at rfl rfl ⟨Nat.le_of_ble_eq_true rfl, Nat.le_of_ble_eq_true rfl⟩ ⟨Nat.le_of_ble_eq_true rfl, Nat.le_of_ble_eq_true rfl⟩ hl.1 rfl (Nat.le_of_ble_eq_true rfl) d_D_placesAreThere_227 ?_
            refine lv_aload_n hx hb d_D_placesAreThere_230 rfl (lv_at hl 0 rfl) ?_
            refine va_get (D := (dC, dI)) (ci := 3) (v := .ref co) (C := R_D) (T := F_D) (N := 8) hx hb ht tu_D hown hK hP 0 rfl rfl 3 (by decide) (ht _ tw_179) (fun _ h9 => h9) rfl d_D_placesAreThere_231 ?_
            refine lv_iconst (v := 3) hx hb d_D_placesAreThere_234 (by decide) ?_
            refine rcV (As := [.int 3]) (rest := [.int (rdA 258 cf 2), .int (rdA 258 cf 4)]) (c_C_at l dC dI tb co cw kd mn cf cI 3 ) F tw_422 tw_32 tw_420 tw_421 tw_431 hP [1, 2] rfl hK [0] rfl hE hS (q0 := 1) rfl rfl hd_C_at rfl rfl ⟨Nat.le_of_ble_eq_true rfl, Nat.le_of_ble_eq_true rfl⟩ ⟨Nat.le_of_ble_eq_true rfl, Nat.le_of_ble_eq_true rfl⟩ hl.1 rfl (Nat.le_of_ble_eq_true rfl) d_D_placesAreThere_235 ?_
            refine lv_imul hx hb d_D_placesAreThere_238 ?_
            refine rcS (As := [.int (rdA 258 cf 4), .int ((rdA 258 cf 2) * (rdA 258 cf 3))]) (rest := []) (c_D_inMemory l dC dI tb (rdA 258 cf 4) ((rdA 258 cf 2) * (rdA 258 cf 3)) ) F tw_434 tw_28 tw_433 tw_432 hP [] rfl hK [] rfl hE hS hd_D_inMemory rfl rfl ⟨Nat.le_of_ble_eq_true rfl, Nat.le_of_ble_eq_true rfl⟩ ⟨Nat.le_of_ble_eq_true rfl, Nat.le_of_ble_eq_true rfl⟩ hl.1 rfl (Nat.le_of_ble_eq_true rfl) d_D_placesAreThere_239 ?_
            refine lv_if_eq (tgt := 249) hx hb d_D_placesAreThere_242 (by decide) (fun c_32 => ?_) (fun c_32 => ?_)
            · refine lv_iconst (v := 0) hx hb d_D_placesAreThere_249 (by decide) ?_
              exact W.zret hx hb hr (rfl) (fun t ht9 hW => ⟨_, rfl, by simp only [plT, if_neg sv_25, if_neg sv_28, if_pos sv_29, if_neg c_30, if_neg c_31, if_pos c_32], ht9⟩) hS.2.2 d_D_placesAreThere_250
            · refine lv_iconst (v := 1) hx hb d_D_placesAreThere_245 (by decide) ?_
              refine lv_goto (tgt := 250) hx hb d_D_placesAreThere_246 (by decide) ?_
              exact W.zret hx hb hr (rfl) (fun t ht9 hW => ⟨_, rfl, by simp only [plT, if_neg sv_25, if_neg sv_28, if_pos sv_29, if_neg c_30, if_neg c_31, if_neg c_32], ht9⟩) hS.2.2 d_D_placesAreThere_250
      · skip
        by_cases sv_33 : kd = 21
        · refine lv_tab (off := 244) (tgt := 251) hx hb d_D_placesAreThere_7 (by decide) (by rw [sv_33]; decide +kernel) (by decide) ?_
          refine lv_aload_n hx hb d_D_placesAreThere_251 rfl (lv_at hl 0 rfl) ?_
          refine va_get (D := (dC, dI)) (ci := 3) (v := .ref co) (C := R_D) (T := F_D) (N := 8) hx hb ht tu_D hown hK hP 0 rfl rfl 3 (by decide) (ht _ tw_179) (fun _ h9 => h9) rfl d_D_placesAreThere_252 ?_
          refine lv_iconst (v := 0) hx hb d_D_placesAreThere_255 (by decide) ?_
          refine rcV (As := [.int 0]) (rest := []) (c_C_at l dC dI tb co cw kd mn cf cI 0 ) F tw_422 tw_32 tw_420 tw_421 tw_431 hP [1, 2] rfl hK [0] rfl hE hS (q0 := 1) rfl rfl hd_C_at rfl rfl ⟨Nat.le_of_ble_eq_true rfl, Nat.le_of_ble_eq_true rfl⟩ ⟨Nat.le_of_ble_eq_true rfl, Nat.le_of_ble_eq_true rfl⟩ hl.1 rfl (Nat.le_of_ble_eq_true rfl) d_D_placesAreThere_256 ?_
          refine lv_aload_n hx hb d_D_placesAreThere_259 rfl (lv_at hl 0 rfl) ?_
          refine va_get (D := (dC, dI)) (ci := 3) (v := .ref co) (C := R_D) (T := F_D) (N := 8) hx hb ht tu_D hown hK hP 0 rfl rfl 3 (by decide) (ht _ tw_179) (fun _ h9 => h9) rfl d_D_placesAreThere_260 ?_
          refine lv_iconst (v := 1) hx hb d_D_placesAreThere_263 (by decide) ?_
          refine rcV (As := [.int 1]) (rest := [.int (rdA 258 cf 0)]) (c_C_at l dC dI tb co cw kd mn cf cI 1 ) F tw_422 tw_32 tw_420 tw_421 tw_431 hP [1, 2] rfl hK [0] rfl hE hS (q0 := 1) rfl rfl hd_C_at rfl rfl ⟨Nat.le_of_ble_eq_true rfl, Nat.le_of_ble_eq_true rfl⟩ ⟨Nat.le_of_ble_eq_true rfl, Nat.le_of_ble_eq_true rfl⟩ hl.1 rfl (Nat.le_of_ble_eq_true rfl) d_D_placesAreThere_264 ?_
          refine rcS (As := [.int (rdA 258 cf 0), .int (rdA 258 cf 1)]) (rest := []) (c_D_inMemory l dC dI tb (rdA 258 cf 0) (rdA 258 cf 1) ) F tw_434 tw_28 tw_433 tw_432 hP [] rfl hK [] rfl hE hS hd_D_inMemory rfl rfl ⟨Nat.le_of_ble_eq_true rfl, Nat.le_of_ble_eq_true rfl⟩ ⟨Nat.le_of_ble_eq_true rfl, Nat.le_of_ble_eq_true rfl⟩ hl.1 rfl (Nat.le_of_ble_eq_true rfl) d_D_placesAreThere_267 ?_
          exact W.zret hx hb hr (nar_inM _ _) (fun t ht9 hW => ⟨_, rfl, by simp only [plT, if_neg sv_25, if_neg sv_28, if_neg sv_29, if_pos sv_33], ht9⟩) hS.2.2 d_D_placesAreThere_270
        · skip
          by_cases sv_34 : kd = 23
          · refine lv_tab (off := 264) (tgt := 271) hx hb d_D_placesAreThere_7 (by decide) (by rw [sv_34]; decide +kernel) (by decide) ?_
            refine lv_aload_n hx hb d_D_placesAreThere_271 rfl (lv_at hl 0 rfl) ?_
            refine va_get (D := (dC, dI)) (ci := 3) (v := .ref co) (C := R_D) (T := F_D) (N := 8) hx hb ht tu_D hown hK hP 0 rfl rfl 3 (by decide) (ht _ tw_179) (fun _ h9 => h9) rfl d_D_placesAreThere_272 ?_
            refine lv_iconst (v := 0) hx hb d_D_placesAreThere_275 (by decide) ?_
            refine rcV (As := [.int 0]) (rest := []) (c_C_at l dC dI tb co cw kd mn cf cI 0 ) F tw_422 tw_32 tw_420 tw_421 tw_431 hP [1, 2] rfl hK [0] rfl hE hS (q0 := 1) rfl rfl hd_C_at rfl rfl ⟨Nat.le_of_ble_eq_true rfl, Nat.le_of_ble_eq_true rfl⟩ ⟨Nat.le_of_ble_eq_true rfl, Nat.le_of_ble_eq_true rfl⟩ hl.1 rfl (Nat.le_of_ble_eq_true rfl) d_D_placesAreThere_276 ?_
            refine lv_iconst (v := 1) hx hb d_D_placesAreThere_279 (by decide) ?_
            refine rcS (As := [.int (rdA 258 cf 0), .int 1]) (rest := []) (c_D_inMemory l dC dI tb (rdA 258 cf 0) 1 ) F tw_434 tw_28 tw_433 tw_432 hP [] rfl hK [] rfl hE hS hd_D_inMemory rfl rfl ⟨Nat.le_of_ble_eq_true rfl, Nat.le_of_ble_eq_true rfl⟩ ⟨Nat.le_of_ble_eq_true rfl, Nat.le_of_ble_eq_true rfl⟩ hl.1 rfl (Nat.le_of_ble_eq_true rfl) d_D_placesAreThere_280 ?_
            exact W.zret hx hb hr (nar_inM _ _) (fun t ht9 hW => ⟨_, rfl, by simp only [plT, if_neg sv_25, if_neg sv_28, if_neg sv_29, if_neg sv_33, if_pos sv_34], ht9⟩) hS.2.2 d_D_placesAreThere_283
          · skip
            have hsw : ∀ b ∈ ([6, 7, 8, 20, 21, 23] : List Int32), ¬ kd = b := by
              intro b9 hb9
              simp only [List.mem_cons, List.not_mem_nil, or_false] at hb9
              rcases hb9 with rfl | rfl | rfl | rfl | rfl | rfl
              · exact sv_25
              · exact fun h9 => sv_28 (Or.inl h9)
              · exact fun h9 => sv_28 (Or.inr (h9))
              · exact sv_29
              · exact sv_33
              · exact sv_34
            refine lv_tab (off := 277) (tgt := 284) hx hb d_D_placesAreThere_7 (by decide) (sw_def [6, 7, 8, 20, 21, 23] hsw (by decide +kernel) (by decide)) (by decide) ?_
            refine lv_iconst (v := 1) hx hb d_D_placesAreThere_284 (by decide) ?_
            exact W.zret hx hb hr (rfl) (fun t ht9 hW => ⟨_, rfl, by simp only [plT, if_neg sv_25, if_neg sv_28, if_neg sv_29, if_neg sv_33, if_neg sv_34], ht9⟩) hS.2.2 d_D_placesAreThere_285
set_option maxHeartbeats 4000000 in
set_option maxRecDepth 100000 in
theorem c_D_stateAllows (l : Launch) (dC : Nat → ClassId) (dI : Nat → Nat → Nat) (tb : tbT) (x me sm to co ru : Nat) (sl fw fh : Int32) (bk : Nat) (pl dp lp ld dn rf qu ov : Int32) (cw : Nat) (kd mn : Int32) (cf : IF) (cI : ClassId) (sa wa : Nat) (sf wf : IF) : RM l y_D_stateAllows (Cond.code y_D_stateAllows b_D_stateAllows 1 (some .boolean) :: TB) ({ frames := 5, cells := 0, slots := 0, locals := 108 }) tb (dC, dI) [.ref x] [(x, .inr (3, [.ref me, .ref sm, .ref to, .ref co, .ref ru, .int sl, .int fw, .int fh])), (ru, .inr (1, [.ref bk, .int pl, .int dp, .int lp, .int ld, .int dn, .int rf, .int qu, .int ov])), (co, .inr (0, [.ref cw, .int kd, .int mn])), (cw, .inl (cI, 258, .inl cf)), (to, .inr (2, [.ref sa, .ref wa])), (sa, .inl (cI, 26, .inl sf)), (wa, .inl (cI, 303, .inl wf))] [(cI, .int)] (stA kd dp qu cf sf wf) := by
  refine Met.ofW (cc := b_D_stateAllows) (maxL := 1) (ret := (some .boolean)) (by decide) rfl ?_
  intro p e s m args below meth c s₁ B hml hv
  obtain ⟨rfl, hP, hK, hE⟩ := hv
  have hx := B.exec
  have hb := B.bytes
  have hr := B.returns
  have ht := fun w (h : w ∈ TB) => atoms_spec (ws := Cond.code y_D_stateAllows b_D_stateAllows 1 (some .boolean) :: TB) B.pre w (List.mem_cons_of_mem _ h)
  have hown : s.vm.findClass R_D = some m.cls := findClass_of_methodNamed B.named
  have hlocks := B.notSynchronized
  have hS : va_S (fun _ => False) s.heap s.heap [] := va_S.rf
  have F : CallFix p m c b_D_stateAllows 1 s _ TB R_D := ⟨hx, hb, hml, hown, ht⟩
  have hl := lv_entry ([.ref x]) (n := 1) (Nat.le_of_ble_eq_true rfl)
  rw [lg_entry_eq]
  generalize (lg_sl ([.ref x]) ++ List.replicate (1 - (lg_sl ([.ref x])).length) Slot.unset).toArray = ls at hl ⊢
  have hl : lv_has ls 1 [(0, .ref x)] := hl
  refine lv_aload_n hx hb d_D_stateAllows_0 rfl (lv_at hl 0 rfl) ?_
  refine va_get (D := (dC, dI)) (ci := 3) (v := .ref co) (C := R_D) (T := F_D) (N := 8) hx hb ht tu_D hown hK hP 0 rfl rfl 3 (by decide) (ht _ tw_179) (fun _ h9 => h9) rfl d_D_stateAllows_1 ?_
  refine va_getN (D := (dC, dI)) (ci := 0) (v := .int kd) (C := R_C) (T := F_C) (N := 3) hx hb ht tu_C hown hK hP 2 rfl rfl 1 (by decide) (va_Nw.use rfl (hE.1 _ nw_4)) (fun _ h9 => h9) rfl d_D_stateAllows_4 ?_
  by_cases sv_35 : kd = 17 ∨ kd = 18
  · refine lv_tab (off := 41) (tgt := 48) hx hb d_D_stateAllows_7 (by decide) (by rcases sv_35 with h9 | h9 <;> rw [h9] <;> decide +kernel) (by decide) ?_
    refine lv_aload_n hx hb d_D_stateAllows_48 rfl (lv_at hl 0 rfl) ?_
    refine va_get (D := (dC, dI)) (ci := 3) (v := .ref to) (C := R_D) (T := F_D) (N := 8) hx hb ht tu_D hown hK hP 0 rfl rfl 2 (by decide) (ht _ tw_178) (fun _ h9 => h9) rfl d_D_stateAllows_49 ?_
    refine lv_bipush (v := 7) hx hb d_D_stateAllows_52 (by decide) ?_
    refine rcV (As := [.int 7]) (rest := []) (c_T_hasProgram l dC dI tb to sa wa sf cI wf 7 ) F tw_442 tw_29 tw_440 tw_441 tw_439 hP [4, 5, 6] rfl hK [0] rfl hE hS (q0 := 4) rfl rfl hd_T_hasProgram rfl rfl ⟨Nat.le_of_ble_eq_true rfl, Nat.le_of_ble_eq_true rfl⟩ ⟨Nat.le_of_ble_eq_true rfl, Nat.le_of_ble_eq_true rfl⟩ hl.1 rfl (Nat.le_of_ble_eq_true rfl) d_D_stateAllows_54 ?_
    refine lv_if_eq (tgt := 76) hx hb d_D_stateAllows_57 (by decide) (fun c_36 => ?_) (fun c_36 => ?_)
    · refine lv_iconst (v := 0) hx hb d_D_stateAllows_76 (by decide) ?_
      exact W.zret hx hb hr (rfl) (fun t ht9 hW => ⟨_, rfl, by simp only [stA, if_pos sv_35, if_pos c_36], ht9⟩) hS.2.2 d_D_stateAllows_77
    · refine lv_aload_n hx hb d_D_stateAllows_60 rfl (lv_at hl 0 rfl) ?_
      refine va_get (D := (dC, dI)) (ci := 3) (v := .ref to) (C := R_D) (T := F_D) (N := 8) hx hb ht tu_D hown hK hP 0 rfl rfl 2 (by decide) (ht _ tw_178) (fun _ h9 => h9) rfl d_D_stateAllows_61 ?_
      refine lv_bipush (v := 8) hx hb d_D_stateAllows_64 (by decide) ?_
      refine rcV (As := [.int 8]) (rest := []) (c_T_hasProgram l dC dI tb to sa wa sf cI wf 8 ) F tw_442 tw_29 tw_440 tw_441 tw_439 hP [4, 5, 6] rfl hK [0] rfl hE hS (q0 := 4) rfl rfl hd_T_hasProgram rfl rfl ⟨Nat.le_of_ble_eq_true rfl, Nat.le_of_ble_eq_true rfl⟩ ⟨Nat.le_of_ble_eq_true rfl, Nat.le_of_ble_eq_true rfl⟩ hl.1 rfl (Nat.le_of_ble_eq_true rfl) d_D_stateAllows_66 ?_
      refine lv_if_eq (tgt := 76) hx hb d_D_stateAllows_69 (by decide) (fun c_37 => ?_) (fun c_37 => ?_)
      · refine lv_iconst (v := 0) hx hb d_D_stateAllows_76 (by decide) ?_
        exact W.zret hx hb hr (rfl) (fun t ht9 hW => ⟨_, rfl, by simp only [stA, if_pos sv_35, if_neg c_36, if_pos c_37], ht9⟩) hS.2.2 d_D_stateAllows_77
      · refine lv_iconst (v := 1) hx hb d_D_stateAllows_72 (by decide) ?_
        refine lv_goto (tgt := 77) hx hb d_D_stateAllows_73 (by decide) ?_
        exact W.zret hx hb hr (rfl) (fun t ht9 hW => ⟨_, rfl, by simp only [stA, if_pos sv_35, if_neg c_36, if_neg c_37], ht9⟩) hS.2.2 d_D_stateAllows_77
  · skip
    by_cases sv_38 : kd = 19
    · refine lv_tab (off := 71) (tgt := 78) hx hb d_D_stateAllows_7 (by decide) (by rw [sv_38]; decide +kernel) (by decide) ?_
      refine lv_aload_n hx hb d_D_stateAllows_78 rfl (lv_at hl 0 rfl) ?_
      refine va_get (D := (dC, dI)) (ci := 3) (v := .ref ru) (C := R_D) (T := F_D) (N := 8) hx hb ht tu_D hown hK hP 0 rfl rfl 4 (by decide) (ht _ tw_180) (fun _ h9 => h9) rfl d_D_stateAllows_79 ?_
      refine va_getN (D := (dC, dI)) (ci := 1) (v := .int qu) (C := R_R) (T := F_R) (N := 9) hx hb ht tu_R hown hK hP 1 rfl rfl 7 (by decide) (va_Nw.use rfl (hE.1 _ nw_13)) (fun _ h9 => h9) rfl d_D_stateAllows_82 ?_
      refine lv_aload_n hx hb d_D_stateAllows_85 rfl (lv_at hl 0 rfl) ?_
      refine va_get (D := (dC, dI)) (ci := 3) (v := .ref co) (C := R_D) (T := F_D) (N := 8) hx hb ht tu_D hown hK hP 0 rfl rfl 3 (by decide) (ht _ tw_179) (fun _ h9 => h9) rfl d_D_stateAllows_86 ?_
      refine lv_iconst (v := 1) hx hb d_D_stateAllows_89 (by decide) ?_
      refine rcV (As := [.int 1]) (rest := [.int qu]) (c_C_at l dC dI tb co cw kd mn cf cI 1 ) F tw_422 tw_32 tw_420 tw_421 tw_431 hP [2, 3] rfl hK [0] rfl hE hS (q0 := 2) rfl rfl hd_C_at rfl rfl ⟨Nat.le_of_ble_eq_true rfl, Nat.le_of_ble_eq_true rfl⟩ ⟨Nat.le_of_ble_eq_true rfl, Nat.le_of_ble_eq_true rfl⟩ hl.1 rfl (Nat.le_of_ble_eq_true rfl) d_D_stateAllows_90 ?_
      refine lv_iconst (v := 1) hx hb d_D_stateAllows_93 (by decide) ?_
      refine lv_icmp_ne (tgt := 101) hx hb d_D_stateAllows_94 (by decide) (fun c_39 => ?_) (fun c_39 => ?_)
      · refine lv_aload_n hx hb d_D_stateAllows_101 rfl (lv_at hl 0 rfl) ?_
        refine va_get (D := (dC, dI)) (ci := 3) (v := .ref co) (C := R_D) (T := F_D) (N := 8) hx hb ht tu_D hown hK hP 0 rfl rfl 3 (by decide) (ht _ tw_179) (fun _ h9 => h9) rfl d_D_stateAllows_102 ?_
        refine lv_iconst (v := 0) hx hb d_D_stateAllows_105 (by decide) ?_
        refine rcV (As := [.int 0]) (rest := [.int qu]) (c_C_at l dC dI tb co cw kd mn cf cI 0 ) F tw_422 tw_32 tw_420 tw_421 tw_431 hP [2, 3] rfl hK [0] rfl hE hS (q0 := 2) rfl rfl hd_C_at rfl rfl ⟨Nat.le_of_ble_eq_true rfl, Nat.le_of_ble_eq_true rfl⟩ ⟨Nat.le_of_ble_eq_true rfl, Nat.le_of_ble_eq_true rfl⟩ hl.1 rfl (Nat.le_of_ble_eq_true rfl) d_D_stateAllows_106 ?_
        refine lv_icmp_ne (tgt := 116) hx hb d_D_stateAllows_109 (by decide) (fun c_40 => ?_) (fun c_40 => ?_)
        · refine lv_iconst (v := 0) hx hb d_D_stateAllows_116 (by decide) ?_
          exact W.zret hx hb hr (rfl) (fun t ht9 hW => ⟨_, rfl, by simp only [stA, if_neg sv_35, if_pos sv_38, if_neg c_39, if_neg c_40], ht9⟩) hS.2.2 d_D_stateAllows_117
        · refine lv_iconst (v := 1) hx hb d_D_stateAllows_112 (by decide) ?_
          refine lv_goto (tgt := 117) hx hb d_D_stateAllows_113 (by decide) ?_
          exact W.zret hx hb hr (rfl) (fun t ht9 hW => ⟨_, rfl, by simp only [stA, if_neg sv_35, if_pos sv_38, if_neg c_39, if_pos c_40], ht9⟩) hS.2.2 d_D_stateAllows_117
      · refine lv_iconst (v := (-1)) hx hb d_D_stateAllows_97 (by decide) ?_
        refine lv_goto (tgt := 109) hx hb d_D_stateAllows_98 (by decide) ?_
        refine lv_icmp_ne (tgt := 116) hx hb d_D_stateAllows_109 (by decide) (fun c_41 => ?_) (fun c_41 => ?_)
        · refine lv_iconst (v := 0) hx hb d_D_stateAllows_116 (by decide) ?_
          exact W.zret hx hb hr (rfl) (fun t ht9 hW => ⟨_, rfl, by simp only [stA, if_neg sv_35, if_pos sv_38, if_pos c_39, if_neg c_41], ht9⟩) hS.2.2 d_D_stateAllows_117
        · refine lv_iconst (v := 1) hx hb d_D_stateAllows_112 (by decide) ?_
          refine lv_goto (tgt := 117) hx hb d_D_stateAllows_113 (by decide) ?_
          exact W.zret hx hb hr (rfl) (fun t ht9 hW => ⟨_, rfl, by simp only [stA, if_neg sv_35, if_pos sv_38, if_pos c_39, if_pos c_41], ht9⟩) hS.2.2 d_D_stateAllows_117
    · skip
      by_cases sv_42 : kd = 23
      · refine lv_tab (off := 111) (tgt := 118) hx hb d_D_stateAllows_7 (by decide) (by rw [sv_42]; decide +kernel) (by decide) ?_
        refine lv_aload_n hx hb d_D_stateAllows_118 rfl (lv_at hl 0 rfl) ?_
        refine va_get (D := (dC, dI)) (ci := 3) (v := .ref ru) (C := R_D) (T := F_D) (N := 8) hx hb ht tu_D hown hK hP 0 rfl rfl 4 (by decide) (ht _ tw_180) (fun _ h9 => h9) rfl d_D_stateAllows_119 ?_
        refine va_getN (D := (dC, dI)) (ci := 1) (v := .int dp) (C := R_R) (T := F_R) (N := 9) hx hb ht tu_R hown hK hP 1 rfl rfl 2 (by decide) (va_Nw.use rfl (hE.1 _ nw_8)) (fun _ h9 => h9) rfl d_D_stateAllows_122 ?_
        refine lv_iconst (v := 4) hx hb d_D_stateAllows_125 (by decide) ?_
        refine lv_icmp_ge (tgt := 133) hx hb d_D_stateAllows_126 (by decide) (fun c_43 => ?_) (fun c_43 => ?_)
        · refine lv_iconst (v := 0) hx hb d_D_stateAllows_133 (by decide) ?_
          exact W.zret hx hb hr (rfl) (fun t ht9 hW => ⟨_, rfl, by simp only [stA, if_neg sv_35, if_neg sv_38, if_pos sv_42, if_pos c_43], ht9⟩) hS.2.2 d_D_stateAllows_134
        · refine lv_iconst (v := 1) hx hb d_D_stateAllows_129 (by decide) ?_
          refine lv_goto (tgt := 134) hx hb d_D_stateAllows_130 (by decide) ?_
          exact W.zret hx hb hr (rfl) (fun t ht9 hW => ⟨_, rfl, by simp only [stA, if_neg sv_35, if_neg sv_38, if_pos sv_42, if_neg c_43], ht9⟩) hS.2.2 d_D_stateAllows_134
      · skip
        have hsw : ∀ b ∈ ([17, 18, 19, 23] : List Int32), ¬ kd = b := by
          intro b9 hb9
          simp only [List.mem_cons, List.not_mem_nil, or_false] at hb9
          rcases hb9 with rfl | rfl | rfl | rfl
          · exact fun h9 => sv_35 (Or.inl h9)
          · exact fun h9 => sv_35 (Or.inr (h9))
          · exact sv_38
          · exact sv_42
        refine lv_tab (off := 128) (tgt := 135) hx hb d_D_stateAllows_7 (by decide) (sw_def [17, 18, 19, 23] hsw (by decide +kernel) (by decide)) (by decide) ?_
        refine lv_iconst (v := 1) hx hb d_D_stateAllows_135 (by decide) ?_
        exact W.zret hx hb hr (rfl) (fun t ht9 hW => ⟨_, rfl, by simp only [stA, if_neg sv_35, if_neg sv_38, if_neg sv_42], ht9⟩) hS.2.2 d_D_stateAllows_136
set_option maxHeartbeats 4000000 in
set_option maxRecDepth 100000 in
theorem c_C_valuesMayBe (l : Launch) (dC : Nat → ClassId) (dI : Nat → Nat → Nat) (tb : tbT) (co cw : Nat) (kd mn : Int32) (cf : IF) (cI : ClassId) : RM l y_C_valuesMayBe (Cond.code y_C_valuesMayBe b_C_valuesMayBe 3 (some .boolean) :: TB) ({ frames := 3, cells := 0, slots := 0, locals := 65 }) tb (dC, dI) [.ref co] [(co, .inr (0, [.ref cw, .int kd, .int mn])), (cw, .inl (cI, 258, .inl cf))] [(cI, .int)] (vmB kd cf) := by
  refine Met.ofW (cc := b_C_valuesMayBe) (maxL := 3) (ret := (some .boolean)) (by decide) rfl ?_
  intro p e s m args below meth c s₁ B hml hv
  obtain ⟨rfl, hP, hK, hE⟩ := hv
  have hx := B.exec
  have hb := B.bytes
  have hr := B.returns
  have ht := fun w (h : w ∈ TB) => atoms_spec (ws := Cond.code y_C_valuesMayBe b_C_valuesMayBe 3 (some .boolean) :: TB) B.pre w (List.mem_cons_of_mem _ h)
  have hown : s.vm.findClass R_C = some m.cls := findClass_of_methodNamed B.named
  have hlocks := B.notSynchronized
  have hS : va_S (fun _ => False) s.heap s.heap [] := va_S.rf
  have F : CallFix p m c b_C_valuesMayBe 3 s _ TB R_C := ⟨hx, hb, hml, hown, ht⟩
  have hl := lv_entry ([.ref co]) (n := 3) (Nat.le_of_ble_eq_true rfl)
  rw [lg_entry_eq]
  generalize (lg_sl ([.ref co]) ++ List.replicate (3 - (lg_sl ([.ref co])).length) Slot.unset).toArray = ls at hl ⊢
  have hl : lv_has ls 3 [(0, .ref co)] := hl
  refine lv_aload_n hx hb d_C_valuesMayBe_0 rfl (lv_at hl 0 rfl) ?_
  refine va_get (D := (dC, dI)) (ci := 0) (v := .int kd) (C := R_C) (T := F_C) (N := 3) hx hb ht tu_C hown hK hP 0 rfl rfl 1 (by decide) (ht _ tw_117) (fun _ h9 => h9) rfl d_C_valuesMayBe_1 ?_
  refine rcS (As := [.int kd]) (rest := []) (c_S_fixed l dC dI tb kd ) F tw_69 tw_30 tw_68 tw_418 hP [] rfl hK [] rfl hE hS hd_S_fixed rfl rfl ⟨Nat.le_of_ble_eq_true rfl, Nat.le_of_ble_eq_true rfl⟩ ⟨Nat.le_of_ble_eq_true rfl, Nat.le_of_ble_eq_true rfl⟩ hl.1 rfl (Nat.le_of_ble_eq_true rfl) d_C_valuesMayBe_4 ?_
  refine lv_istore_n (lv' := [(1, .int (fxd kd)), (0, .ref co)]) hx hb d_C_valuesMayBe_7 rfl hl (by decide) rfl (fun ls hl => ?_)
  refine lv_iconst (v := 0) hx hb d_C_valuesMayBe_8 (by decide) ?_
  refine lv_istore_n (lv' := [(2, .int 0), (1, .int (fxd kd)), (0, .ref co)]) hx hb d_C_valuesMayBe_9 rfl hl (by decide) rfl (fun ls hl => ?_)
  refine lp_R (N := (fxd kd).toNatClampNeg) (head := 10) (I := fun i ls => lv_has ls 3 [(2, .int (nI i)), (1, .int (fxd kd)), (0, .ref co)] ∧ ∀ j, j < i → ¬ myB kd (nI j) (rdA 258 cf (nI j)) = 0) ?_ ?_ 0 (Nat.zero_le _) ⟨lv_sub hl [0, 1, 2] rfl, fun j hj => absurd hj (Nat.not_lt_zero j)⟩
  · intro i ls hi_i hI0 kk_i
    obtain ⟨hl, hI⟩ := hI0
    refine lv_iload_n hx hb d_C_valuesMayBe_10 rfl (lv_at hl 0 rfl) ?_
    refine lv_iload_n hx hb d_C_valuesMayBe_11 rfl (lv_at hl 1 rfl) ?_
    refine lv_icmp_ge (tgt := 39) hx hb d_C_valuesMayBe_12 (by decide) (fun c_44 => ?_) (fun c_44 => ?_)
    · exact absurd c_44 (lp_lt hi_i)
    · refine lv_aload_n hx hb d_C_valuesMayBe_15 rfl (lv_at hl 2 rfl) ?_
      refine va_get (D := (dC, dI)) (ci := 0) (v := .int kd) (C := R_C) (T := F_C) (N := 3) hx hb ht tu_C hown hK hP 0 rfl rfl 1 (by decide) (ht _ tw_117) (fun _ h9 => h9) rfl d_C_valuesMayBe_16 ?_
      refine lv_iload_n hx hb d_C_valuesMayBe_19 rfl (lv_at hl 0 rfl) ?_
      refine lv_aload_n hx hb d_C_valuesMayBe_20 rfl (lv_at hl 2 rfl) ?_
      refine lv_iload_n hx hb d_C_valuesMayBe_21 rfl (lv_at hl 0 rfl) ?_
      refine rcV (As := [.int (nI i)]) (rest := [.int (nI i), .int kd]) (c_C_at l dC dI tb co cw kd mn cf cI (nI i) ) F tw_422 tw_32 tw_420 tw_421 tw_419 hP [0, 1] rfl hK [0] rfl hE hS (q0 := 0) rfl rfl hd_C_at rfl rfl ⟨Nat.le_of_ble_eq_true rfl, Nat.le_of_ble_eq_true rfl⟩ ⟨Nat.le_of_ble_eq_true rfl, Nat.le_of_ble_eq_true rfl⟩ hl.1 rfl (Nat.le_of_ble_eq_true rfl) d_C_valuesMayBe_22 ?_
      refine rcS (As := [.int kd, .int (nI i), .int (rdA 258 cf (nI i))]) (rest := []) (c_S_mayBe l dC dI tb kd (nI i) (rdA 258 cf (nI i)) ) F tw_426 tw_30 tw_425 tw_424 hP [] rfl hK [] rfl hE hS hd_S_mayBe rfl rfl ⟨Nat.le_of_ble_eq_true rfl, Nat.le_of_ble_eq_true rfl⟩ ⟨Nat.le_of_ble_eq_true rfl, Nat.le_of_ble_eq_true rfl⟩ hl.1 rfl (Nat.le_of_ble_eq_true rfl) d_C_valuesMayBe_25 ?_
      refine lv_if_ne (tgt := 33) hx hb d_C_valuesMayBe_28 (by decide) (fun c_45 => ?_) (fun c_45 => ?_)
      · refine lv_iinc (v := ((nI i) + 1)) (lv' := [(2, .int ((nI i) + 1)), (1, .int (fxd kd)), (0, .ref co)]) hx hb d_C_valuesMayBe_33 hl (k := 0) rfl rfl (by decide) rfl (fun ls hl => ?_)
        refine lv_goto (tgt := 10) hx hb d_C_valuesMayBe_36 (by decide) ?_
        rw [nI_1] at hl
        exact kk_i _ ⟨lv_sub hl [0, 1, 2] rfl, lt_s hI c_45⟩
      · refine lv_iconst (v := 0) hx hb d_C_valuesMayBe_31 (by decide) ?_
        exact W.zret hx hb hr (rfl) (fun t ht9 hW => ⟨_, rfl, vmB_0 hi_i c_45, ht9⟩) hS.2.2 d_C_valuesMayBe_32
  · intro ls hI0
    obtain ⟨hl, hI⟩ := hI0
    refine lv_iload_n hx hb d_C_valuesMayBe_10 rfl (lv_at hl 0 rfl) ?_
    refine lv_iload_n hx hb d_C_valuesMayBe_11 rfl (lv_at hl 1 rfl) ?_
    refine lv_icmp_ge (tgt := 39) hx hb d_C_valuesMayBe_12 (by decide) (fun c_46 => ?_) (fun c_46 => ?_)
    · refine lv_iconst (v := 1) hx hb d_C_valuesMayBe_39 (by decide) ?_
      exact W.zret hx hb hr (rfl) (fun t ht9 hW => ⟨_, rfl, vmB_1 hI, ht9⟩) hS.2.2 d_C_valuesMayBe_40
    · exact absurd (lp_ge (fxd kd)) c_46
end
section
/-! what the class's writing methods leave -/
def ldC (dp pl : Int32) (mf qf : IF) (n : Int32) (cf : IF) : IF := itN (fun j c => wrA 258 c (nI j) (srcW dp mf qf (pl + 1 + nI j))) n.toNatClampNeg cf
def rdC (dp pl sl : Int32) (mf qf : IF) (kd mn : Int32) (cf : IF) : Int32 × Int32 × Int32 × IF :=
  if pl < srcL dp sl then (if isKd (srcW dp mf qf pl) = 0 then (2, kd, mn, cf) else
    if pl + argH dp pl sl mf qf (srcW dp mf qf pl) < srcL dp sl then (0, srcW dp mf qf pl, argH dp pl sl mf qf (srcW dp mf qf pl), ldC dp pl mf qf (argH dp pl sl mf qf (srcW dp mf qf pl)) cf) else (1, kd, mn, cf))
  else ((if dp ≤ 0 then 0 else 1), (if dp ≤ 0 then 0 else kd), (if dp ≤ 0 then 0 else mn), cf)
def rfH (dn dp pl sl fw fh qu : Int32) (mf qf : IF) (sf wf : IF) (kd mn : Int32) (cf : IF) : Int32 :=
  if dn < 2000 then (if (rdC dp pl sl mf qf kd mn cf).1 = 0 then
    (if vmB (rdC dp pl sl mf qf kd mn cf).2.1 (rdC dp pl sl mf qf kd mn cf).2.2.2 = 0 then 3 else
     if plT (rdC dp pl sl mf qf kd mn cf).2.1 fw fh (rdC dp pl sl mf qf kd mn cf).2.2.2 = 0 then 5 else
     if stA (rdC dp pl sl mf qf kd mn cf).2.1 dp qu (rdC dp pl sl mf qf kd mn cf).2.2.2 sf wf = 0 then 6 else 0)
    else (rdC dp pl sl mf qf kd mn cf).1) else 7
def rfC (dn dp pl sl : Int32) (mf qf : IF) (kd mn : Int32) (cf : IF) : Int32 × Int32 × IF := if dn < 2000 then (rdC dp pl sl mf qf kd mn cf).2 else (kd, mn, cf)
def stW (cf mf : IF) : IF := itN (fun j m => wrA 4096 m (rdA 258 cf 0 + nI j) (rdA 258 cf (2 + nI j))) (rdA 258 cf 1).toNatClampNeg mf
def kuI (sf mf : IF) (n fr : Int32) (w : IF) : IF := itN (fun j w => wrA 303 w (plc sf 5 n (nI j + 1)) (rdA 4096 mf (fr + nI j))) (4 : Int32).toNatClampNeg w
def kuA (sf mf cf wf : IF) : IF := itN (fun i w => kuI sf mf (rdA 258 cf 0 + nI i) (rdA 258 cf 2 + 4 * nI i) w) (rdA 258 cf 1).toNatClampNeg wf
def kpW (sf : IF) (kd mn : Int32) (cf wf : IF) : IF := if hld kd = 0 then wf else if nmH kd = 0 then itN (fun j w => wrA 303 w (plc sf kd 0 0 + nI j) (rdA 258 cf (nI j))) mn.toNatClampNeg wf else itN (fun j w => wrA 303 w (plc sf kd (rdA 258 cf 0) 0 + nI j) (rdA 258 cf (nI j))) mn.toNatClampNeg wf
def fgO (sf : IF) (k n : Int32) (w : IF) : IF := if nmH k = 0 then itN (fun j w => wrA 303 w (plc sf k n 0 + nI j) (colm k (nI j) 2)) (fxd k).toNatClampNeg w else wrA 303 (itN (fun j w => wrA 303 w (plc sf k n 0 + nI j) (colm k (nI j) 2)) (fxd k).toNatClampNeg w) (plc sf k n 0) n
def fgA (sf w : IF) : IF := itN (fun k w => itN (fun n w => fgO sf (nI k) (nI n) w) (hld (nI k)).toNatClampNeg w) (26 : Int32).toNatClampNeg w
/-- carrying out: place, depth, over, query, backs, told words, memory -/
def cry (pl dp ov qu kd mn : Int32) (bf cf sf wf mf : IF) : Int32 × Int32 × Int32 × Int32 × IF × IF × IF :=
  if kd = 0 then ((if dp = 0 then (pl + (1 + mn)) else rdA 4 bf (dp - 1)), (if dp = 0 then dp else (dp - 1)), (if dp = 0 then 1 else ov), qu, bf, wf, mf)
  else if kd = 6 then ((pl + (1 + mn)), dp, ov, qu, bf, kuA sf mf cf wf, mf)
  else if kd = 19 then (if rdA 258 cf 1 = 1 then ((pl + (1 + mn)), dp, ov, rdA 258 cf 0, bf, wf, mf) else ((pl + (1 + mn)), dp, ov, -1, bf, wf, mf))
  else if kd = 21 then ((pl + (1 + mn)), dp, ov, qu, bf, wf, stW cf mf)
  else if kd = 23 then (rdA 258 cf 0, dp + 1, ov, qu, wrA 4 bf dp (pl + (1 + mn)), wf, mf)
  else ((pl + (1 + mn)), dp, ov, qu, bf, kpW sf kd mn cf wf, mf)
end
section
set_option maxHeartbeats 4000000 in
set_option maxRecDepth 100000 in
theorem c_D_readBeyondTheEnd (l : Launch) (dC : Nat → ClassId) (dI : Nat → Nat → Nat) (tb : tbT) (x me sm to co ru : Nat) (sl fw fh : Int32) (bk : Nat) (pl dp lp ld dn rf qu ov : Int32) (cw : Nat) (kd mn : Int32) (sz : Nat) : MI l y_D_readBeyondTheEnd (Cond.code y_D_readBeyondTheEnd b_D_readBeyondTheEnd 1 (some .int) :: TB) ({ frames := 1, cells := 0, slots := 0, locals := 22 }) tb (dC, dI) [.ref x] [(x, .inr (3, [.ref me, .ref sm, .ref to, .ref co, .ref ru, .int sl, .int fw, .int fh])), (ru, .inr (1, [.ref bk, .int pl, .int dp, .int lp, .int ld, .int dn, .int rf, .int qu, .int ov])), (co, .inr (0, [.ref cw, .int kd, .int mn]))] [(x, .inr (3, [.ref me, .ref sm, .ref to, .ref co, .ref ru, .int sl, .int fw, .int fh])), (ru, .inr (1, [.ref bk, .int pl, .int dp, .int lp, .int ld, .int dn, .int rf, .int qu, .int ov])), (co, .inr (0, [.ref cw, .int (if dp ≤ 0 then 0 else kd), .int (if dp ≤ 0 then 0 else mn)]))] [] sz (if dp ≤ 0 then 0 else 1) := by
  refine Met.ofW (cc := b_D_readBeyondTheEnd) (maxL := 1) (ret := (some .int)) (by decide) rfl ?_
  intro p e s m args below meth c s₁ B hml hv
  obtain ⟨rfl, hsz, hP, hK, hD0, hE⟩ := hv
  have hx := B.exec
  have hb := B.bytes
  have hr := B.returns
  have ht := fun w (h : w ∈ TB) => atoms_spec (ws := Cond.code y_D_readBeyondTheEnd b_D_readBeyondTheEnd 1 (some .int) :: TB) B.pre w (List.mem_cons_of_mem _ h)
  have hown : s.vm.findClass R_D = some m.cls := findClass_of_methodNamed B.named
  have hlocks := B.notSynchronized
  subst hsz
  have hD := hD0.self (sz := s.heap.size)
  generalize hAe : va_A [(x, .inr (3, [.ref me, .ref sm, .ref to, .ref co, .ref ru, .int sl, .int fw, .int fh])), (ru, .inr (1, [.ref bk, .int pl, .int dp, .int lp, .int ld, .int dn, .int rf, .int qu, .int ov])), (co, .inr (0, [.ref cw, .int kd, .int mn]))] s.heap.size = A at hD hE ⊢
  have hA : ∀ q : Nat, s.heap.size ≤ q → A q := fun q h => by rw [← hAe]; exact Or.inr h
  have hS : va_S A s.heap s.heap [] := va_S.rf
  have F : CallFix p m c b_D_readBeyondTheEnd 1 s _ TB R_D := ⟨hx, hb, hml, hown, ht⟩
  have hl := lv_entry ([.ref x]) (n := 1) (Nat.le_of_ble_eq_true rfl)
  rw [lg_entry_eq]
  generalize (lg_sl ([.ref x]) ++ List.replicate (1 - (lg_sl ([.ref x])).length) Slot.unset).toArray = ls at hl ⊢
  have hl : lv_has ls 1 [(0, .ref x)] := hl
  refine lv_aload_n hx hb d_D_readBeyondTheEnd_0 rfl (lv_at hl 0 rfl) ?_
  refine va_get (D := (dC, dI)) (ci := 3) (v := .ref ru) (C := R_D) (T := F_D) (N := 8) hx hb ht tu_D hown hK hP 0 rfl rfl 4 (by decide) (ht _ tw_180) (fun _ h9 => h9) rfl d_D_readBeyondTheEnd_1 ?_
  refine va_getN (D := (dC, dI)) (ci := 1) (v := .int dp) (C := R_R) (T := F_R) (N := 9) hx hb ht tu_R hown hK hP 1 rfl rfl 2 (by decide) (va_Nw.use rfl (hE.1 _ nw_8)) (fun _ h9 => h9) rfl d_D_readBeyondTheEnd_4 ?_
  refine lv_if_le (tgt := 12) hx hb d_D_readBeyondTheEnd_7 (by decide) (fun c_47 => ?_) (fun c_47 => ?_)
  · refine lv_aload_n hx hb d_D_readBeyondTheEnd_12 rfl (lv_at hl 0 rfl) ?_
    refine va_get (D := (dC, dI)) (ci := 3) (v := .ref co) (C := R_D) (T := F_D) (N := 8) hx hb ht tu_D hown hK hP 0 rfl rfl 3 (by decide) (ht _ tw_179) (fun _ h9 => h9) rfl d_D_readBeyondTheEnd_13 ?_
    refine lv_iconst (v := 0) hx hb d_D_readBeyondTheEnd_16 (by decide) ?_
    refine lv_iconst (v := 0) hx hb d_D_readBeyondTheEnd_17 (by decide) ?_
    refine mcVv (As := [.int 0, .int 0]) (rest := []) (wr := [(x, .inr (3, [.ref me, .ref sm, .ref to, .ref co, .ref ru, .int sl, .int fw, .int fh])), (ru, .inr (1, [.ref bk, .int pl, .int dp, .int lp, .int ld, .int dn, .int rf, .int qu, .int ov]))]) (c_C_become l dC dI tb co cw kd mn 0 0 ) F tw_216 tw_32 tw_214 tw_215 tw_394 hP hD [2] [0, 1] rfl rfl (by decide) (by decide) (by decide) hK [] rfl hE hS hA (q0 := 2) rfl rfl hd_C_become rfl rfl ⟨Nat.le_of_ble_eq_true rfl, Nat.le_of_ble_eq_true rfl⟩ ⟨Nat.le_of_ble_eq_true rfl, Nat.le_of_ble_eq_true rfl⟩ hl.1 rfl (Nat.le_of_ble_eq_true rfl) d_D_readBeyondTheEnd_18 (fun H locs hP hD hS => ?_)
    have hP : va_P (dC, dI) clX [(x, .inr (3, [.ref me, .ref sm, .ref to, .ref co, .ref ru, .int sl, .int fw, .int fh])), (ru, .inr (1, [.ref bk, .int pl, .int dp, .int lp, .int ld, .int dn, .int rf, .int qu, .int ov])), (co, .inr (0, [.ref cw, .int 0, .int 0]))] H := hP
    have hD : va_D A [(x, .inr (3, [.ref me, .ref sm, .ref to, .ref co, .ref ru, .int sl, .int fw, .int fh])), (ru, .inr (1, [.ref bk, .int pl, .int dp, .int lp, .int ld, .int dn, .int rf, .int qu, .int ov])), (co, .inr (0, [.ref cw, .int 0, .int 0]))] := hD
    refine lv_iconst (v := 0) hx hb d_D_readBeyondTheEnd_21 (by decide) ?_
    have hP9 := hP.sub (ws' := [(x, .inr (3, [.ref me, .ref sm, .ref to, .ref co, .ref ru, .int sl, .int fw, .int fh])), (ru, .inr (1, [.ref bk, .int pl, .int dp, .int lp, .int ld, .int dn, .int rf, .int qu, .int ov])), (co, .inr (0, [.ref cw, .int 0, .int 0]))]) [0, 1, 2] rfl
    have hD9 := hD.sub (ws' := [(x, .inr (3, [.ref me, .ref sm, .ref to, .ref co, .ref ru, .int sl, .int fw, .int fh])), (ru, .inr (1, [.ref bk, .int pl, .int dp, .int lp, .int ld, .int dn, .int rf, .int qu, .int ov])), (co, .inr (0, [.ref cw, .int 0, .int 0]))]) [0, 1, 2] (by decide) rfl
    exact W.iret hx hb hr (fun t ht9 hW => ⟨⟨_, (), rfl, by simp only [if_pos c_47], by rw [ht9]; simp only [if_pos c_47]; exact hP9, va_K.moved hW.alike hK, by rw [hAe]; simp only [if_pos c_47]; exact hD9⟩, hS.F ht9⟩) hS.2.2 d_D_readBeyondTheEnd_22
  · refine lv_iconst (v := 1) hx hb d_D_readBeyondTheEnd_10 (by decide) ?_
    have hP9 := hP.sub (ws' := [(x, .inr (3, [.ref me, .ref sm, .ref to, .ref co, .ref ru, .int sl, .int fw, .int fh])), (ru, .inr (1, [.ref bk, .int pl, .int dp, .int lp, .int ld, .int dn, .int rf, .int qu, .int ov])), (co, .inr (0, [.ref cw, .int kd, .int mn]))]) [0, 1, 2] rfl
    have hD9 := hD.sub (ws' := [(x, .inr (3, [.ref me, .ref sm, .ref to, .ref co, .ref ru, .int sl, .int fw, .int fh])), (ru, .inr (1, [.ref bk, .int pl, .int dp, .int lp, .int ld, .int dn, .int rf, .int qu, .int ov])), (co, .inr (0, [.ref cw, .int kd, .int mn]))]) [0, 1, 2] (by decide) rfl
    exact W.iret hx hb hr (fun t ht9 hW => ⟨⟨_, (), rfl, by simp only [if_neg c_47], by rw [ht9]; simp only [if_neg c_47]; exact hP9, va_K.moved hW.alike hK, by rw [hAe]; simp only [if_neg c_47]; exact hD9⟩, hS.F ht9⟩) hS.2.2 d_D_readBeyondTheEnd_11
set_option maxHeartbeats 4000000 in
set_option maxRecDepth 100000 in
theorem c_D_readCommand (l : Launch) (dC : Nat → ClassId) (dI : Nat → Nat → Nat) (tb : tbT) (x me sm to co ru : Nat) (sl fw fh : Int32) (bk : Nat) (pl dp lp ld dn rf qu ov : Int32) (cw : Nat) (kd mn : Int32) (mf qf cf : IF) (cI : ClassId) (sz : Nat) : MI l y_D_readCommand (Cond.code y_D_readCommand b_D_readCommand 5 (some .int) :: TB) ({ frames := 3, cells := 0, slots := 0, locals := 65 }) tb (dC, dI) [.ref x] [(x, .inr (3, [.ref me, .ref sm, .ref to, .ref co, .ref ru, .int sl, .int fw, .int fh])), (ru, .inr (1, [.ref bk, .int pl, .int dp, .int lp, .int ld, .int dn, .int rf, .int qu, .int ov])), (co, .inr (0, [.ref cw, .int kd, .int mn])), (me, .inl (cI, 4096, .inl mf)), (sm, .inl (cI, 4096, .inl qf)), (cw, .inl (cI, 258, .inl cf))] [(x, .inr (3, [.ref me, .ref sm, .ref to, .ref co, .ref ru, .int sl, .int fw, .int fh])), (ru, .inr (1, [.ref bk, .int pl, .int dp, .int lp, .int ld, .int dn, .int rf, .int qu, .int ov])), (co, .inr (0, [.ref cw, .int ((rdC dp pl sl mf qf kd mn cf).2.1), .int ((rdC dp pl sl mf qf kd mn cf).2.2.1)])), (me, .inl (cI, 4096, .inl mf)), (sm, .inl (cI, 4096, .inl qf)), (cw, .inl (cI, 258, .inl ((rdC dp pl sl mf qf kd mn cf).2.2.2)))] [(cI, .int)] sz ((rdC dp pl sl mf qf kd mn cf).1) := by
  refine Met.ofW (cc := b_D_readCommand) (maxL := 5) (ret := (some .int)) (by decide) rfl ?_
  intro p e s m args below meth c s₁ B hml hv
  obtain ⟨rfl, hsz, hP, hK, hD0, hE⟩ := hv
  have hx := B.exec
  have hb := B.bytes
  have hr := B.returns
  have ht := fun w (h : w ∈ TB) => atoms_spec (ws := Cond.code y_D_readCommand b_D_readCommand 5 (some .int) :: TB) B.pre w (List.mem_cons_of_mem _ h)
  have hown : s.vm.findClass R_D = some m.cls := findClass_of_methodNamed B.named
  have hlocks := B.notSynchronized
  subst hsz
  have hD := hD0.self (sz := s.heap.size)
  generalize hAe : va_A [(x, .inr (3, [.ref me, .ref sm, .ref to, .ref co, .ref ru, .int sl, .int fw, .int fh])), (ru, .inr (1, [.ref bk, .int pl, .int dp, .int lp, .int ld, .int dn, .int rf, .int qu, .int ov])), (co, .inr (0, [.ref cw, .int kd, .int mn])), (me, .inl (cI, 4096, .inl mf)), (sm, .inl (cI, 4096, .inl qf)), (cw, .inl (cI, 258, .inl cf))] s.heap.size = A at hD hE ⊢
  have hA : ∀ q : Nat, s.heap.size ≤ q → A q := fun q h => by rw [← hAe]; exact Or.inr h
  have hS : va_S A s.heap s.heap [] := va_S.rf
  have F : CallFix p m c b_D_readCommand 5 s _ TB R_D := ⟨hx, hb, hml, hown, ht⟩
  have hl := lv_entry ([.ref x]) (n := 5) (Nat.le_of_ble_eq_true rfl)
  rw [lg_entry_eq]
  generalize (lg_sl ([.ref x]) ++ List.replicate (5 - (lg_sl ([.ref x])).length) Slot.unset).toArray = ls at hl ⊢
  have hl : lv_has ls 5 [(0, .ref x)] := hl
  refine lv_aload_n hx hb d_D_readCommand_0 rfl (lv_at hl 0 rfl) ?_
  refine rcV (As := []) (rest := []) (c_D_sourceLength l dC dI tb x me sm to co ru sl fw fh bk pl dp lp ld dn rf qu ov ) F tw_389 tw_28 tw_388 tw_6 tw_386 hP [0, 1] rfl hK [] rfl hE hS (q0 := 0) rfl rfl hd_D_sourceLength rfl rfl ⟨Nat.le_of_ble_eq_true rfl, Nat.le_of_ble_eq_true rfl⟩ ⟨Nat.le_of_ble_eq_true rfl, Nat.le_of_ble_eq_true rfl⟩ hl.1 rfl (Nat.le_of_ble_eq_true rfl) d_D_readCommand_1 ?_
  refine lv_istore_n (lv' := [(1, .int (srcL dp sl)), (0, .ref x)]) hx hb d_D_readCommand_4 rfl hl (by decide) rfl (fun ls hl => ?_)
  refine lv_aload_n hx hb d_D_readCommand_5 rfl (lv_at hl 1 rfl) ?_
  refine va_get (D := (dC, dI)) (ci := 3) (v := .ref ru) (C := R_D) (T := F_D) (N := 8) hx hb ht tu_D hown hK hP 0 rfl rfl 4 (by decide) (ht _ tw_180) (fun _ h9 => h9) rfl d_D_readCommand_6 ?_
  refine va_getN (D := (dC, dI)) (ci := 1) (v := .int pl) (C := R_R) (T := F_R) (N := 9) hx hb ht tu_R hown hK hP 1 rfl rfl 1 (by decide) (va_Nw.use rfl (hE.1 _ nw_7)) (fun _ h9 => h9) rfl d_D_readCommand_9 ?_
  refine lv_iload_n hx hb d_D_readCommand_12 rfl (lv_at hl 0 rfl) ?_
  refine lv_icmp_lt (tgt := 21) hx hb d_D_readCommand_13 (by decide) (fun c_48 => ?_) (fun c_48 => ?_)
  · refine lv_aload_n hx hb d_D_readCommand_21 rfl (lv_at hl 1 rfl) ?_
    refine lv_aload_n hx hb d_D_readCommand_22 rfl (lv_at hl 1 rfl) ?_
    refine va_get (D := (dC, dI)) (ci := 3) (v := .ref ru) (C := R_D) (T := F_D) (N := 8) hx hb ht tu_D hown hK hP 0 rfl rfl 4 (by decide) (ht _ tw_180) (fun _ h9 => h9) rfl d_D_readCommand_23 ?_
    refine va_getN (D := (dC, dI)) (ci := 1) (v := .int pl) (C := R_R) (T := F_R) (N := 9) hx hb ht tu_R hown hK hP 1 rfl rfl 1 (by decide) (va_Nw.use rfl (hE.1 _ nw_7)) (fun _ h9 => h9) rfl d_D_readCommand_26 ?_
    refine rcV (As := [.int pl]) (rest := []) (c_D_sourceWord l dC dI tb x me sm to co ru sl fw fh bk pl dp lp ld dn rf qu ov mf qf cI pl ) F tw_398 tw_28 tw_397 tw_8 tw_395 hP [0, 1, 3, 4] rfl hK [0] rfl hE hS (q0 := 0) rfl rfl hd_D_sourceWord rfl rfl ⟨Nat.le_of_ble_eq_true rfl, Nat.le_of_ble_eq_true rfl⟩ ⟨Nat.le_of_ble_eq_true rfl, Nat.le_of_ble_eq_true rfl⟩ hl.1 rfl (Nat.le_of_ble_eq_true rfl) d_D_readCommand_29 ?_
    refine lv_istore_n (lv' := [(2, .int (srcW dp mf qf pl)), (1, .int (srcL dp sl)), (0, .ref x)]) hx hb d_D_readCommand_32 rfl hl (by decide) rfl (fun ls hl => ?_)
    refine lv_iload_n hx hb d_D_readCommand_33 rfl (lv_at hl 0 rfl) ?_
    refine rcS (As := [.int (srcW dp mf qf pl)]) (rest := []) (c_S_isKind l dC dI tb (srcW dp mf qf pl) ) F tw_72 tw_30 tw_71 tw_399 hP [] rfl hK [] rfl hE hS hd_S_isKind rfl rfl ⟨Nat.le_of_ble_eq_true rfl, Nat.le_of_ble_eq_true rfl⟩ ⟨Nat.le_of_ble_eq_true rfl, Nat.le_of_ble_eq_true rfl⟩ hl.1 rfl (Nat.le_of_ble_eq_true rfl) d_D_readCommand_34 ?_
    refine lv_if_ne (tgt := 42) hx hb d_D_readCommand_37 (by decide) (fun c_49 => ?_) (fun c_49 => ?_)
    · refine lv_aload_n hx hb d_D_readCommand_42 rfl (lv_at hl 2 rfl) ?_
      refine lv_iload_n hx hb d_D_readCommand_43 rfl (lv_at hl 0 rfl) ?_
      refine rcV (As := [.int (srcW dp mf qf pl)]) (rest := []) (c_D_argumentsHere l dC dI tb x me sm to co ru sl fw fh bk pl dp lp ld dn rf qu ov mf qf cI (srcW dp mf qf pl) ) F tw_403 tw_28 tw_402 tw_9 tw_400 hP [0, 1, 3, 4] rfl hK [0] rfl hE hS (q0 := 0) rfl rfl hd_D_argumentsHere rfl rfl ⟨Nat.le_of_ble_eq_true rfl, Nat.le_of_ble_eq_true rfl⟩ ⟨Nat.le_of_ble_eq_true rfl, Nat.le_of_ble_eq_true rfl⟩ hl.1 rfl (Nat.le_of_ble_eq_true rfl) d_D_readCommand_44 ?_
      refine lv_istore_n (lv' := [(3, .int (argH dp pl sl mf qf (srcW dp mf qf pl))), (2, .int (srcW dp mf qf pl)), (1, .int (srcL dp sl)), (0, .ref x)]) hx hb d_D_readCommand_47 rfl hl (by decide) rfl (fun ls hl => ?_)
      refine lv_aload_n hx hb d_D_readCommand_48 rfl (lv_at hl 3 rfl) ?_
      refine va_get (D := (dC, dI)) (ci := 3) (v := .ref ru) (C := R_D) (T := F_D) (N := 8) hx hb ht tu_D hown hK hP 0 rfl rfl 4 (by decide) (ht _ tw_180) (fun _ h9 => h9) rfl d_D_readCommand_49 ?_
      refine va_getN (D := (dC, dI)) (ci := 1) (v := .int pl) (C := R_R) (T := F_R) (N := 9) hx hb ht tu_R hown hK hP 1 rfl rfl 1 (by decide) (va_Nw.use rfl (hE.1 _ nw_7)) (fun _ h9 => h9) rfl d_D_readCommand_52 ?_
      refine lv_iload_n hx hb d_D_readCommand_55 rfl (lv_at hl 0 rfl) ?_
      refine lv_iadd hx hb d_D_readCommand_56 ?_
      refine lv_iload_n hx hb d_D_readCommand_57 rfl (lv_at hl 2 rfl) ?_
      refine lv_icmp_lt (tgt := 63) hx hb d_D_readCommand_58 (by decide) (fun c_50 => ?_) (fun c_50 => ?_)
      · refine lv_aload_n hx hb d_D_readCommand_63 rfl (lv_at hl 3 rfl) ?_
        refine va_get (D := (dC, dI)) (ci := 3) (v := .ref co) (C := R_D) (T := F_D) (N := 8) hx hb ht tu_D hown hK hP 0 rfl rfl 3 (by decide) (ht _ tw_179) (fun _ h9 => h9) rfl d_D_readCommand_64 ?_
        refine lv_iload_n hx hb d_D_readCommand_67 rfl (lv_at hl 1 rfl) ?_
        refine lv_iload_n hx hb d_D_readCommand_68 rfl (lv_at hl 0 rfl) ?_
        refine mcVv (As := [.int (srcW dp mf qf pl), .int (argH dp pl sl mf qf (srcW dp mf qf pl))]) (rest := []) (wr := [(x, .inr (3, [.ref me, .ref sm, .ref to, .ref co, .ref ru, .int sl, .int fw, .int fh])), (ru, .inr (1, [.ref bk, .int pl, .int dp, .int lp, .int ld, .int dn, .int rf, .int qu, .int ov])), (me, .inl (cI, 4096, .inl mf)), (sm, .inl (cI, 4096, .inl qf)), (cw, .inl (cI, 258, .inl cf))]) (c_C_become l dC dI tb co cw kd mn (srcW dp mf qf pl) (argH dp pl sl mf qf (srcW dp mf qf pl)) ) F tw_216 tw_32 tw_214 tw_215 tw_394 hP hD [2] [0, 1, 3, 4, 5] rfl rfl (by decide) (by decide) (by decide) hK [] rfl hE hS hA (q0 := 2) rfl rfl hd_C_become rfl rfl ⟨Nat.le_of_ble_eq_true rfl, Nat.le_of_ble_eq_true rfl⟩ ⟨Nat.le_of_ble_eq_true rfl, Nat.le_of_ble_eq_true rfl⟩ hl.1 rfl (Nat.le_of_ble_eq_true rfl) d_D_readCommand_69 (fun H locs hP hD hS => ?_)
        have hP : va_P (dC, dI) clX [(x, .inr (3, [.ref me, .ref sm, .ref to, .ref co, .ref ru, .int sl, .int fw, .int fh])), (ru, .inr (1, [.ref bk, .int pl, .int dp, .int lp, .int ld, .int dn, .int rf, .int qu, .int ov])), (me, .inl (cI, 4096, .inl mf)), (sm, .inl (cI, 4096, .inl qf)), (cw, .inl (cI, 258, .inl cf)), (co, .inr (0, [.ref cw, .int (srcW dp mf qf pl), .int (argH dp pl sl mf qf (srcW dp mf qf pl))]))] H := hP
        have hD : va_D A [(x, .inr (3, [.ref me, .ref sm, .ref to, .ref co, .ref ru, .int sl, .int fw, .int fh])), (ru, .inr (1, [.ref bk, .int pl, .int dp, .int lp, .int ld, .int dn, .int rf, .int qu, .int ov])), (me, .inl (cI, 4096, .inl mf)), (sm, .inl (cI, 4096, .inl qf)), (cw, .inl (cI, 258, .inl cf)), (co, .inr (0, [.ref cw, .int (srcW dp mf qf pl), .int (argH dp pl sl mf qf (srcW dp mf qf pl))]))] := hD
        refine lv_iconst (v := 0) hx hb d_D_readCommand_72 (by decide) ?_
        refine lv_istore (lv' := [(4, .int 0), (3, .int (argH dp pl sl mf qf (srcW dp mf qf pl))), (2, .int (srcW dp mf qf pl)), (1, .int (srcL dp sl)), (0, .ref x)]) hx hb d_D_readCommand_73 hl (by decide) rfl (fun ls hl => ?_)
        refine lp_W (N := ((argH dp pl sl mf qf (srcW dp mf qf pl))).toNatClampNeg) (head := 75) (I := fun i H locs ls => va_P (dC, dI) clX [(x, .inr (3, [.ref me, .ref sm, .ref to, .ref co, .ref ru, .int sl, .int fw, .int fh])), (ru, .inr (1, [.ref bk, .int pl, .int dp, .int lp, .int ld, .int dn, .int rf, .int qu, .int ov])), (me, .inl (cI, 4096, .inl mf)), (sm, .inl (cI, 4096, .inl qf)), (cw, .inl (cI, 258, .inl (itN (fun j c => wrA 258 c (nI j) (srcW dp mf qf (pl + 1 + nI j))) i cf))), (co, .inr (0, [.ref cw, .int (srcW dp mf qf pl), .int (argH dp pl sl mf qf (srcW dp mf qf pl))]))] H ∧ va_D A [(x, .inr (3, [.ref me, .ref sm, .ref to, .ref co, .ref ru, .int sl, .int fw, .int fh])), (ru, .inr (1, [.ref bk, .int pl, .int dp, .int lp, .int ld, .int dn, .int rf, .int qu, .int ov])), (me, .inl (cI, 4096, .inl mf)), (sm, .inl (cI, 4096, .inl qf)), (cw, .inl (cI, 258, .inl (itN (fun j c => wrA 258 c (nI j) (srcW dp mf qf (pl + 1 + nI j))) i cf))), (co, .inr (0, [.ref cw, .int (srcW dp mf qf pl), .int (argH dp pl sl mf qf (srcW dp mf qf pl))]))] ∧ va_S A s.heap H locs ∧ lv_has ls 5 [(4, .int (nI i)), (3, .int (argH dp pl sl mf qf (srcW dp mf qf pl))), (2, .int (srcW dp mf qf pl)), (1, .int (srcL dp sl)), (0, .ref x)]) ?_ ?_ 0 (Nat.zero_le _) ⟨hP, hD, hS, lv_sub hl [0, 1, 2, 3, 4] rfl⟩
        · intro i H locs ls hi_i hI0 kk_i
          obtain ⟨hP, hD, hS, hl⟩ := hI0
          refine lv_iload hx hb d_D_readCommand_75 (lv_at hl 0 rfl) ?_
          refine lv_iload_n hx hb d_D_readCommand_77 rfl (lv_at hl 1 rfl) ?_
          refine lv_icmp_ge (tgt := 112) hx hb d_D_readCommand_78 (by decide) (fun c_51 => ?_) (fun c_51 => ?_)
          · exact absurd c_51 (lp_lt hi_i)
          · refine lv_aload_n hx hb d_D_readCommand_81 rfl (lv_at hl 4 rfl) ?_
            refine va_get (D := (dC, dI)) (ci := 3) (v := .ref co) (C := R_D) (T := F_D) (N := 8) hx hb ht tu_D hown hK hP 0 rfl rfl 3 (by decide) (ht _ tw_179) (fun _ h9 => h9) rfl d_D_readCommand_82 ?_
            refine lv_iload hx hb d_D_readCommand_85 (lv_at hl 0 rfl) ?_
            refine lv_aload_n hx hb d_D_readCommand_87 rfl (lv_at hl 4 rfl) ?_
            refine lv_aload_n hx hb d_D_readCommand_88 rfl (lv_at hl 4 rfl) ?_
            refine va_get (D := (dC, dI)) (ci := 3) (v := .ref ru) (C := R_D) (T := F_D) (N := 8) hx hb ht tu_D hown hK hP 0 rfl rfl 4 (by decide) (ht _ tw_180) (fun _ h9 => h9) rfl d_D_readCommand_89 ?_
            refine va_getN (D := (dC, dI)) (ci := 1) (v := .int pl) (C := R_R) (T := F_R) (N := 9) hx hb ht tu_R hown hK hP 1 rfl rfl 1 (by decide) (va_Nw.use rfl (hE.1 _ nw_7)) (fun _ h9 => h9) rfl d_D_readCommand_92 ?_
            refine lv_iconst (v := 1) hx hb d_D_readCommand_95 (by decide) ?_
            refine lv_iadd hx hb d_D_readCommand_96 ?_
            refine lv_iload hx hb d_D_readCommand_97 (lv_at hl 0 rfl) ?_
            refine lv_iadd hx hb d_D_readCommand_99 ?_
            refine rcV (As := [.int ((pl + 1) + (nI i))]) (rest := [.int (nI i), .ref co]) (c_D_sourceWord l dC dI tb x me sm to co ru sl fw fh bk pl dp lp ld dn rf qu ov mf qf cI ((pl + 1) + (nI i)) ) F tw_398 tw_28 tw_397 tw_8 tw_395 hP [0, 1, 2, 3] rfl hK [0] rfl hE hS (q0 := 0) rfl rfl hd_D_sourceWord rfl rfl ⟨Nat.le_of_ble_eq_true rfl, Nat.le_of_ble_eq_true rfl⟩ ⟨Nat.le_of_ble_eq_true rfl, Nat.le_of_ble_eq_true rfl⟩ hl.1 rfl (Nat.le_of_ble_eq_true rfl) d_D_readCommand_100 ?_
            refine mcVv (As := [.int (nI i), .int (srcW dp mf qf ((pl + 1) + (nI i)))]) (rest := []) (wr := [(x, .inr (3, [.ref me, .ref sm, .ref to, .ref co, .ref ru, .int sl, .int fw, .int fh])), (ru, .inr (1, [.ref bk, .int pl, .int dp, .int lp, .int ld, .int dn, .int rf, .int qu, .int ov])), (me, .inl (cI, 4096, .inl mf)), (sm, .inl (cI, 4096, .inl qf))]) (c_C_tell l dC dI tb co cw (srcW dp mf qf pl) (argH dp pl sl mf qf (srcW dp mf qf pl)) (itN (fun j c => wrA 258 c (nI j) (srcW dp mf qf (pl + 1 + nI j))) i cf) cI (nI i) (srcW dp mf qf ((pl + 1) + (nI i))) ) F tw_412 tw_32 tw_410 tw_411 tw_409 hP hD [5, 4] [0, 1, 2, 3] rfl rfl (by decide) (by decide) (by decide) hK [0] rfl hE hS hA (q0 := 5) rfl rfl hd_C_tell rfl rfl ⟨Nat.le_of_ble_eq_true rfl, Nat.le_of_ble_eq_true rfl⟩ ⟨Nat.le_of_ble_eq_true rfl, Nat.le_of_ble_eq_true rfl⟩ hl.1 rfl (Nat.le_of_ble_eq_true rfl) d_D_readCommand_103 (fun H locs hP hD hS => ?_)
            have hP : va_P (dC, dI) clX [(x, .inr (3, [.ref me, .ref sm, .ref to, .ref co, .ref ru, .int sl, .int fw, .int fh])), (ru, .inr (1, [.ref bk, .int pl, .int dp, .int lp, .int ld, .int dn, .int rf, .int qu, .int ov])), (me, .inl (cI, 4096, .inl mf)), (sm, .inl (cI, 4096, .inl qf)), (co, .inr (0, [.ref cw, .int (srcW dp mf qf pl), .int (argH dp pl sl mf qf (srcW dp mf qf pl))])), (cw, .inl (cI, 258, .inl (wrA 258 (itN (fun j c => wrA 258 c (nI j) (srcW dp mf qf (pl + 1 + nI j))) i cf) (nI i) (srcW dp mf qf ((pl + 1) + (nI i))))))] H := hP
            have hD : va_D A [(x, .inr (3, [.ref me, .ref sm, .ref to, .ref co, .ref ru, .int sl, .int fw, .int fh])), (ru, .inr (1, [.ref bk, .int pl, .int dp, .int lp, .int ld, .int dn, .int rf, .int qu, .int ov])), (me, .inl (cI, 4096, .inl mf)), (sm, .inl (cI, 4096, .inl qf)), (co, .inr (0, [.ref cw, .int (srcW dp mf qf pl), .int (argH dp pl sl mf qf (srcW dp mf qf pl))])), (cw, .inl (cI, 258, .inl (wrA 258 (itN (fun j c => wrA 258 c (nI j) (srcW dp mf qf (pl + 1 + nI j))) i cf) (nI i) (srcW dp mf qf ((pl + 1) + (nI i))))))] := hD
            refine lv_iinc (v := ((nI i) + 1)) (lv' := [(4, .int ((nI i) + 1)), (3, .int (argH dp pl sl mf qf (srcW dp mf qf pl))), (2, .int (srcW dp mf qf pl)), (1, .int (srcL dp sl)), (0, .ref x)]) hx hb d_D_readCommand_106 hl (k := 0) rfl rfl (by decide) rfl (fun ls hl => ?_)
            refine lv_goto (tgt := 75) hx hb d_D_readCommand_109 (by decide) ?_
            rw [nI_1] at hl
            exact kk_i _ _ _ ⟨hP.sub [0, 1, 2, 3, 5, 4] rfl, hD.sub [0, 1, 2, 3, 5, 4] (by decide) rfl, hS, lv_sub hl [0, 1, 2, 3, 4] rfl⟩
        · intro H locs ls hI0
          obtain ⟨hP, hD, hS, hl⟩ := hI0
          refine lv_iload hx hb d_D_readCommand_75 (lv_at hl 0 rfl) ?_
          refine lv_iload_n hx hb d_D_readCommand_77 rfl (lv_at hl 1 rfl) ?_
          refine lv_icmp_ge (tgt := 112) hx hb d_D_readCommand_78 (by decide) (fun c_52 => ?_) (fun c_52 => ?_)
          · refine lv_iconst (v := 0) hx hb d_D_readCommand_112 (by decide) ?_
            have hP9 := hP.sub (ws' := [(x, .inr (3, [.ref me, .ref sm, .ref to, .ref co, .ref ru, .int sl, .int fw, .int fh])), (ru, .inr (1, [.ref bk, .int pl, .int dp, .int lp, .int ld, .int dn, .int rf, .int qu, .int ov])), (co, .inr (0, [.ref cw, .int (srcW dp mf qf pl), .int (argH dp pl sl mf qf (srcW dp mf qf pl))])), (me, .inl (cI, 4096, .inl mf)), (sm, .inl (cI, 4096, .inl qf)), (cw, .inl (cI, 258, .inl (itN (fun j c => wrA 258 c (nI j) (srcW dp mf qf (pl + 1 + nI j))) (((argH dp pl sl mf qf (srcW dp mf qf pl))).toNatClampNeg) cf)))]) [0, 1, 5, 2, 3, 4] rfl
            have hD9 := hD.sub (ws' := [(x, .inr (3, [.ref me, .ref sm, .ref to, .ref co, .ref ru, .int sl, .int fw, .int fh])), (ru, .inr (1, [.ref bk, .int pl, .int dp, .int lp, .int ld, .int dn, .int rf, .int qu, .int ov])), (co, .inr (0, [.ref cw, .int (srcW dp mf qf pl), .int (argH dp pl sl mf qf (srcW dp mf qf pl))])), (me, .inl (cI, 4096, .inl mf)), (sm, .inl (cI, 4096, .inl qf)), (cw, .inl (cI, 258, .inl (itN (fun j c => wrA 258 c (nI j) (srcW dp mf qf (pl + 1 + nI j))) (((argH dp pl sl mf qf (srcW dp mf qf pl))).toNatClampNeg) cf)))]) [0, 1, 5, 2, 3, 4] (by decide) rfl
            exact W.iret hx hb hr (fun t ht9 hW => ⟨⟨_, (), rfl, by rw [show rdC dp pl sl mf qf kd mn cf = (0, (srcW dp mf qf pl), (argH dp pl sl mf qf (srcW dp mf qf pl)), (itN (fun j c => wrA 258 c (nI j) (srcW dp mf qf (pl + 1 + nI j))) (((argH dp pl sl mf qf (srcW dp mf qf pl))).toNatClampNeg) cf)) from by simp only [rdC, ldC, if_pos c_48, if_neg c_49, if_pos c_50, if_pos c_52]], by rw [ht9]; rw [show rdC dp pl sl mf qf kd mn cf = (0, (srcW dp mf qf pl), (argH dp pl sl mf qf (srcW dp mf qf pl)), (itN (fun j c => wrA 258 c (nI j) (srcW dp mf qf (pl + 1 + nI j))) (((argH dp pl sl mf qf (srcW dp mf qf pl))).toNatClampNeg) cf)) from by simp only [rdC, ldC, if_pos c_48, if_neg c_49, if_pos c_50, if_pos c_52]]; exact hP9, va_K.moved hW.alike hK, by rw [hAe]; rw [show rdC dp pl sl mf qf kd mn cf = (0, (srcW dp mf qf pl), (argH dp pl sl mf qf (srcW dp mf qf pl)), (itN (fun j c => wrA 258 c (nI j) (srcW dp mf qf (pl + 1 + nI j))) (((argH dp pl sl mf qf (srcW dp mf qf pl))).toNatClampNeg) cf)) from by simp only [rdC, ldC, if_pos c_48, if_neg c_49, if_pos c_50, if_pos c_52]]; exact hD9⟩, hS.F ht9⟩) hS.2.2 d_D_readCommand_113
          · exact absurd (lp_ge (argH dp pl sl mf qf (srcW dp mf qf pl))) c_52
      · refine lv_iconst (v := 1) hx hb d_D_readCommand_61 (by decide) ?_
        have hP9 := hP.sub (ws' := [(x, .inr (3, [.ref me, .ref sm, .ref to, .ref co, .ref ru, .int sl, .int fw, .int fh])), (ru, .inr (1, [.ref bk, .int pl, .int dp, .int lp, .int ld, .int dn, .int rf, .int qu, .int ov])), (co, .inr (0, [.ref cw, .int kd, .int mn])), (me, .inl (cI, 4096, .inl mf)), (sm, .inl (cI, 4096, .inl qf)), (cw, .inl (cI, 258, .inl cf))]) [0, 1, 2, 3, 4, 5] rfl
        have hD9 := hD.sub (ws' := [(x, .inr (3, [.ref me, .ref sm, .ref to, .ref co, .ref ru, .int sl, .int fw, .int fh])), (ru, .inr (1, [.ref bk, .int pl, .int dp, .int lp, .int ld, .int dn, .int rf, .int qu, .int ov])), (co, .inr (0, [.ref cw, .int kd, .int mn])), (me, .inl (cI, 4096, .inl mf)), (sm, .inl (cI, 4096, .inl qf)), (cw, .inl (cI, 258, .inl cf))]) [0, 1, 2, 3, 4, 5] (by decide) rfl
        exact W.iret hx hb hr (fun t ht9 hW => ⟨⟨_, (), rfl, by rw [show rdC dp pl sl mf qf kd mn cf = (1, kd, mn, cf) from by simp only [rdC, ldC, if_pos c_48, if_neg c_49, if_neg c_50]], by rw [ht9]; rw [show rdC dp pl sl mf qf kd mn cf = (1, kd, mn, cf) from by simp only [rdC, ldC, if_pos c_48, if_neg c_49, if_neg c_50]]; exact hP9, va_K.moved hW.alike hK, by rw [hAe]; rw [show rdC dp pl sl mf qf kd mn cf = (1, kd, mn, cf) from by simp only [rdC, ldC, if_pos c_48, if_neg c_49, if_neg c_50]]; exact hD9⟩, hS.F ht9⟩) hS.2.2 d_D_readCommand_62
    · refine lv_iconst (v := 2) hx hb d_D_readCommand_40 (by decide) ?_
      have hP9 := hP.sub (ws' := [(x, .inr (3, [.ref me, .ref sm, .ref to, .ref co, .ref ru, .int sl, .int fw, .int fh])), (ru, .inr (1, [.ref bk, .int pl, .int dp, .int lp, .int ld, .int dn, .int rf, .int qu, .int ov])), (co, .inr (0, [.ref cw, .int kd, .int mn])), (me, .inl (cI, 4096, .inl mf)), (sm, .inl (cI, 4096, .inl qf)), (cw, .inl (cI, 258, .inl cf))]) [0, 1, 2, 3, 4, 5] rfl
      have hD9 := hD.sub (ws' := [(x, .inr (3, [.ref me, .ref sm, .ref to, .ref co, .ref ru, .int sl, .int fw, .int fh])), (ru, .inr (1, [.ref bk, .int pl, .int dp, .int lp, .int ld, .int dn, .int rf, .int qu, .int ov])), (co, .inr (0, [.ref cw, .int kd, .int mn])), (me, .inl (cI, 4096, .inl mf)), (sm, .inl (cI, 4096, .inl qf)), (cw, .inl (cI, 258, .inl cf))]) [0, 1, 2, 3, 4, 5] (by decide) rfl
      exact W.iret hx hb hr (fun t ht9 hW => ⟨⟨_, (), rfl, by rw [show rdC dp pl sl mf qf kd mn cf = (2, kd, mn, cf) from by simp only [rdC, ldC, if_pos c_48, if_pos c_49]], by rw [ht9]; rw [show rdC dp pl sl mf qf kd mn cf = (2, kd, mn, cf) from by simp only [rdC, ldC, if_pos c_48, if_pos c_49]]; exact hP9, va_K.moved hW.alike hK, by rw [hAe]; rw [show rdC dp pl sl mf qf kd mn cf = (2, kd, mn, cf) from by simp only [rdC, ldC, if_pos c_48, if_pos c_49]]; exact hD9⟩, hS.F ht9⟩) hS.2.2 d_D_readCommand_41
  · refine lv_aload_n hx hb d_D_readCommand_16 rfl (lv_at hl 1 rfl) ?_
    refine mcVi (As := []) (rest := []) (wr := [(me, .inl (cI, 4096, .inl mf)), (sm, .inl (cI, 4096, .inl qf)), (cw, .inl (cI, 258, .inl cf))]) (c_D_readBeyondTheEnd l dC dI tb x me sm to co ru sl fw fh bk pl dp lp ld dn rf qu ov cw kd mn ) F tw_393 tw_28 tw_392 tw_7 tw_390 hP hD [0, 1, 2] [3, 4, 5] rfl rfl (by decide) (by decide) (by decide) hK [] rfl hE hS hA (q0 := 0) rfl rfl hd_D_readBeyondTheEnd rfl rfl ⟨Nat.le_of_ble_eq_true rfl, Nat.le_of_ble_eq_true rfl⟩ ⟨Nat.le_of_ble_eq_true rfl, Nat.le_of_ble_eq_true rfl⟩ hl.1 rfl (Nat.le_of_ble_eq_true rfl) d_D_readCommand_17 (fun H locs hP hD hS => ?_)
    have hP : va_P (dC, dI) clX [(me, .inl (cI, 4096, .inl mf)), (sm, .inl (cI, 4096, .inl qf)), (cw, .inl (cI, 258, .inl cf)), (x, .inr (3, [.ref me, .ref sm, .ref to, .ref co, .ref ru, .int sl, .int fw, .int fh])), (ru, .inr (1, [.ref bk, .int pl, .int dp, .int lp, .int ld, .int dn, .int rf, .int qu, .int ov])), (co, .inr (0, [.ref cw, .int (if dp ≤ 0 then 0 else kd), .int (if dp ≤ 0 then 0 else mn)]))] H := hP
    have hD : va_D A [(me, .inl (cI, 4096, .inl mf)), (sm, .inl (cI, 4096, .inl qf)), (cw, .inl (cI, 258, .inl cf)), (x, .inr (3, [.ref me, .ref sm, .ref to, .ref co, .ref ru, .int sl, .int fw, .int fh])), (ru, .inr (1, [.ref bk, .int pl, .int dp, .int lp, .int ld, .int dn, .int rf, .int qu, .int ov])), (co, .inr (0, [.ref cw, .int (if dp ≤ 0 then 0 else kd), .int (if dp ≤ 0 then 0 else mn)]))] := hD
    have hP9 := hP.sub (ws' := [(x, .inr (3, [.ref me, .ref sm, .ref to, .ref co, .ref ru, .int sl, .int fw, .int fh])), (ru, .inr (1, [.ref bk, .int pl, .int dp, .int lp, .int ld, .int dn, .int rf, .int qu, .int ov])), (co, .inr (0, [.ref cw, .int (if dp ≤ 0 then 0 else kd), .int (if dp ≤ 0 then 0 else mn)])), (me, .inl (cI, 4096, .inl mf)), (sm, .inl (cI, 4096, .inl qf)), (cw, .inl (cI, 258, .inl cf))]) [3, 4, 5, 0, 1, 2] rfl
    have hD9 := hD.sub (ws' := [(x, .inr (3, [.ref me, .ref sm, .ref to, .ref co, .ref ru, .int sl, .int fw, .int fh])), (ru, .inr (1, [.ref bk, .int pl, .int dp, .int lp, .int ld, .int dn, .int rf, .int qu, .int ov])), (co, .inr (0, [.ref cw, .int (if dp ≤ 0 then 0 else kd), .int (if dp ≤ 0 then 0 else mn)])), (me, .inl (cI, 4096, .inl mf)), (sm, .inl (cI, 4096, .inl qf)), (cw, .inl (cI, 258, .inl cf))]) [3, 4, 5, 0, 1, 2] (by decide) rfl
    exact W.iret hx hb hr (fun t ht9 hW => ⟨⟨_, (), rfl, by rw [show rdC dp pl sl mf qf kd mn cf = ((if dp ≤ 0 then 0 else 1), (if dp ≤ 0 then 0 else kd), (if dp ≤ 0 then 0 else mn), cf) from by simp only [rdC, ldC, if_neg c_48]], by rw [ht9]; rw [show rdC dp pl sl mf qf kd mn cf = ((if dp ≤ 0 then 0 else 1), (if dp ≤ 0 then 0 else kd), (if dp ≤ 0 then 0 else mn), cf) from by simp only [rdC, ldC, if_neg c_48]]; exact hP9, va_K.moved hW.alike hK, by rw [hAe]; rw [show rdC dp pl sl mf qf kd mn cf = ((if dp ≤ 0 then 0 else 1), (if dp ≤ 0 then 0 else kd), (if dp ≤ 0 then 0 else mn), cf) from by simp only [rdC, ldC, if_neg c_48]]; exact hD9⟩, hS.F ht9⟩) hS.2.2 d_D_readCommand_20
set_option maxHeartbeats 4000000 in
set_option maxRecDepth 100000 in
theorem c_D_refusalHere (l : Launch) (dC : Nat → ClassId) (dI : Nat → Nat → Nat) (tb : tbT) (x me sm to co ru : Nat) (sl fw fh : Int32) (bk : Nat) (pl dp lp ld dn rf qu ov : Int32) (cw : Nat) (kd mn : Int32) (mf qf cf : IF) (cI : ClassId) (sa wa : Nat) (sf wf : IF) (sz : Nat) : MI l y_D_refusalHere (Cond.code y_D_refusalHere b_D_refusalHere 2 (some .int) :: TB) ({ frames := 6, cells := 0, slots := 0, locals := 128 }) tb (dC, dI) [.ref x] [(x, .inr (3, [.ref me, .ref sm, .ref to, .ref co, .ref ru, .int sl, .int fw, .int fh])), (ru, .inr (1, [.ref bk, .int pl, .int dp, .int lp, .int ld, .int dn, .int rf, .int qu, .int ov])), (co, .inr (0, [.ref cw, .int kd, .int mn])), (me, .inl (cI, 4096, .inl mf)), (sm, .inl (cI, 4096, .inl qf)), (cw, .inl (cI, 258, .inl cf)), (to, .inr (2, [.ref sa, .ref wa])), (sa, .inl (cI, 26, .inl sf)), (wa, .inl (cI, 303, .inl wf))] [(x, .inr (3, [.ref me, .ref sm, .ref to, .ref co, .ref ru, .int sl, .int fw, .int fh])), (ru, .inr (1, [.ref bk, .int pl, .int dp, .int lp, .int ld, .int dn, .int rf, .int qu, .int ov])), (co, .inr (0, [.ref cw, .int ((rfC dn dp pl sl mf qf kd mn cf).1), .int ((rfC dn dp pl sl mf qf kd mn cf).2.1)])), (me, .inl (cI, 4096, .inl mf)), (sm, .inl (cI, 4096, .inl qf)), (cw, .inl (cI, 258, .inl ((rfC dn dp pl sl mf qf kd mn cf).2.2))), (to, .inr (2, [.ref sa, .ref wa])), (sa, .inl (cI, 26, .inl sf)), (wa, .inl (cI, 303, .inl wf))] [(cI, .int)] sz (rfH dn dp pl sl fw fh qu mf qf sf wf kd mn cf) := by
  refine Met.ofW (cc := b_D_refusalHere) (maxL := 2) (ret := (some .int)) (by decide) rfl ?_
  intro p e s m args below meth c s₁ B hml hv
  obtain ⟨rfl, hsz, hP, hK, hD0, hE⟩ := hv
  have hx := B.exec
  have hb := B.bytes
  have hr := B.returns
  have ht := fun w (h : w ∈ TB) => atoms_spec (ws := Cond.code y_D_refusalHere b_D_refusalHere 2 (some .int) :: TB) B.pre w (List.mem_cons_of_mem _ h)
  have hown : s.vm.findClass R_D = some m.cls := findClass_of_methodNamed B.named
  have hlocks := B.notSynchronized
  subst hsz
  have hD := hD0.self (sz := s.heap.size)
  generalize hAe : va_A [(x, .inr (3, [.ref me, .ref sm, .ref to, .ref co, .ref ru, .int sl, .int fw, .int fh])), (ru, .inr (1, [.ref bk, .int pl, .int dp, .int lp, .int ld, .int dn, .int rf, .int qu, .int ov])), (co, .inr (0, [.ref cw, .int kd, .int mn])), (me, .inl (cI, 4096, .inl mf)), (sm, .inl (cI, 4096, .inl qf)), (cw, .inl (cI, 258, .inl cf)), (to, .inr (2, [.ref sa, .ref wa])), (sa, .inl (cI, 26, .inl sf)), (wa, .inl (cI, 303, .inl wf))] s.heap.size = A at hD hE ⊢
  have hA : ∀ q : Nat, s.heap.size ≤ q → A q := fun q h => by rw [← hAe]; exact Or.inr h
  have hS : va_S A s.heap s.heap [] := va_S.rf
  have F : CallFix p m c b_D_refusalHere 2 s _ TB R_D := ⟨hx, hb, hml, hown, ht⟩
  have hl := lv_entry ([.ref x]) (n := 2) (Nat.le_of_ble_eq_true rfl)
  rw [lg_entry_eq]
  generalize (lg_sl ([.ref x]) ++ List.replicate (2 - (lg_sl ([.ref x])).length) Slot.unset).toArray = ls at hl ⊢
  have hl : lv_has ls 2 [(0, .ref x)] := hl
  refine lv_aload_n hx hb d_D_refusalHere_0 rfl (lv_at hl 0 rfl) ?_
  refine va_get (D := (dC, dI)) (ci := 3) (v := .ref ru) (C := R_D) (T := F_D) (N := 8) hx hb ht tu_D hown hK hP 0 rfl rfl 4 (by decide) (ht _ tw_180) (fun _ h9 => h9) rfl d_D_refusalHere_1 ?_
  refine va_getN (D := (dC, dI)) (ci := 1) (v := .int dn) (C := R_R) (T := F_R) (N := 9) hx hb ht tu_R hown hK hP 1 rfl rfl 5 (by decide) (va_Nw.use rfl (hE.1 _ nw_11)) (fun _ h9 => h9) rfl d_D_refusalHere_4 ?_
  refine lv_sipush (v := 2000) hx hb d_D_refusalHere_7 (by decide) ?_
  refine lv_icmp_lt (tgt := 16) hx hb d_D_refusalHere_10 (by decide) (fun c_53 => ?_) (fun c_53 => ?_)
  · refine lv_aload_n hx hb d_D_refusalHere_16 rfl (lv_at hl 0 rfl) ?_
    refine mcVi (As := []) (rest := []) (wr := [(to, .inr (2, [.ref sa, .ref wa])), (sa, .inl (cI, 26, .inl sf)), (wa, .inl (cI, 303, .inl wf))]) (c_D_readCommand l dC dI tb x me sm to co ru sl fw fh bk pl dp lp ld dn rf qu ov cw kd mn mf qf cf cI ) F tw_385 tw_28 tw_384 tw_5 tw_382 hP hD [0, 1, 2, 3, 4, 5] [6, 7, 8] rfl rfl (by decide) (by decide) (by decide) hK [0] rfl hE hS hA (q0 := 0) rfl rfl hd_D_readCommand rfl rfl ⟨Nat.le_of_ble_eq_true rfl, Nat.le_of_ble_eq_true rfl⟩ ⟨Nat.le_of_ble_eq_true rfl, Nat.le_of_ble_eq_true rfl⟩ hl.1 rfl (Nat.le_of_ble_eq_true rfl) d_D_refusalHere_17 (fun H locs hP hD hS => ?_)
    have hP : va_P (dC, dI) clX [(to, .inr (2, [.ref sa, .ref wa])), (sa, .inl (cI, 26, .inl sf)), (wa, .inl (cI, 303, .inl wf)), (x, .inr (3, [.ref me, .ref sm, .ref to, .ref co, .ref ru, .int sl, .int fw, .int fh])), (ru, .inr (1, [.ref bk, .int pl, .int dp, .int lp, .int ld, .int dn, .int rf, .int qu, .int ov])), (co, .inr (0, [.ref cw, .int ((rdC dp pl sl mf qf kd mn cf).2.1), .int ((rdC dp pl sl mf qf kd mn cf).2.2.1)])), (me, .inl (cI, 4096, .inl mf)), (sm, .inl (cI, 4096, .inl qf)), (cw, .inl (cI, 258, .inl ((rdC dp pl sl mf qf kd mn cf).2.2.2)))] H := hP
    have hD : va_D A [(to, .inr (2, [.ref sa, .ref wa])), (sa, .inl (cI, 26, .inl sf)), (wa, .inl (cI, 303, .inl wf)), (x, .inr (3, [.ref me, .ref sm, .ref to, .ref co, .ref ru, .int sl, .int fw, .int fh])), (ru, .inr (1, [.ref bk, .int pl, .int dp, .int lp, .int ld, .int dn, .int rf, .int qu, .int ov])), (co, .inr (0, [.ref cw, .int ((rdC dp pl sl mf qf kd mn cf).2.1), .int ((rdC dp pl sl mf qf kd mn cf).2.2.1)])), (me, .inl (cI, 4096, .inl mf)), (sm, .inl (cI, 4096, .inl qf)), (cw, .inl (cI, 258, .inl ((rdC dp pl sl mf qf kd mn cf).2.2.2)))] := hD
    refine lv_istore_n (lv' := [(1, .int ((rdC dp pl sl mf qf kd mn cf).1)), (0, .ref x)]) hx hb d_D_refusalHere_20 rfl hl (by decide) rfl (fun ls hl => ?_)
    refine lv_iload_n hx hb d_D_refusalHere_21 rfl (lv_at hl 0 rfl) ?_
    refine lv_if_eq (tgt := 27) hx hb d_D_refusalHere_22 (by decide) (fun c_54 => ?_) (fun c_54 => ?_)
    · refine lv_aload_n hx hb d_D_refusalHere_27 rfl (lv_at hl 1 rfl) ?_
      refine va_get (D := (dC, dI)) (ci := 3) (v := .ref co) (C := R_D) (T := F_D) (N := 8) hx hb ht tu_D hown hK hP 3 rfl rfl 3 (by decide) (ht _ tw_179) (fun _ h9 => h9) rfl d_D_refusalHere_28 ?_
      refine rcV (As := []) (rest := []) (c_C_valuesMayBe l dC dI tb co cw ((rdC dp pl sl mf qf kd mn cf).2.1) ((rdC dp pl sl mf qf kd mn cf).2.2.1) ((rdC dp pl sl mf qf kd mn cf).2.2.2) cI ) F tw_417 tw_32 tw_415 tw_416 tw_414 hP [5, 8] rfl hK [0] rfl hE hS (q0 := 5) rfl rfl hd_C_valuesMayBe rfl rfl ⟨Nat.le_of_ble_eq_true rfl, Nat.le_of_ble_eq_true rfl⟩ ⟨Nat.le_of_ble_eq_true rfl, Nat.le_of_ble_eq_true rfl⟩ hl.1 rfl (Nat.le_of_ble_eq_true rfl) d_D_refusalHere_31 ?_
      refine lv_if_ne (tgt := 39) hx hb d_D_refusalHere_34 (by decide) (fun c_55 => ?_) (fun c_55 => ?_)
      · refine lv_aload_n hx hb d_D_refusalHere_39 rfl (lv_at hl 1 rfl) ?_
        refine rcV (As := []) (rest := []) (c_D_placesAreThere l dC dI tb x me sm to co ru sl fw fh cw ((rdC dp pl sl mf qf kd mn cf).2.1) ((rdC dp pl sl mf qf kd mn cf).2.2.1) ((rdC dp pl sl mf qf kd mn cf).2.2.2) cI ) F tw_430 tw_28 tw_429 tw_10 tw_427 hP [3, 5, 8] rfl hK [0] rfl hE hS (q0 := 3) rfl rfl hd_D_placesAreThere rfl rfl ⟨Nat.le_of_ble_eq_true rfl, Nat.le_of_ble_eq_true rfl⟩ ⟨Nat.le_of_ble_eq_true rfl, Nat.le_of_ble_eq_true rfl⟩ hl.1 rfl (Nat.le_of_ble_eq_true rfl) d_D_refusalHere_40 ?_
        refine lv_if_ne (tgt := 48) hx hb d_D_refusalHere_43 (by decide) (fun c_56 => ?_) (fun c_56 => ?_)
        · refine lv_aload_n hx hb d_D_refusalHere_48 rfl (lv_at hl 1 rfl) ?_
          refine rcV (As := []) (rest := []) (c_D_stateAllows l dC dI tb x me sm to co ru sl fw fh bk pl dp lp ld dn rf qu ov cw ((rdC dp pl sl mf qf kd mn cf).2.1) ((rdC dp pl sl mf qf kd mn cf).2.2.1) ((rdC dp pl sl mf qf kd mn cf).2.2.2) cI sa wa sf wf ) F tw_438 tw_28 tw_437 tw_11 tw_435 hP [3, 4, 5, 8, 0, 1, 2] rfl hK [0] rfl hE hS (q0 := 3) rfl rfl hd_D_stateAllows rfl rfl ⟨Nat.le_of_ble_eq_true rfl, Nat.le_of_ble_eq_true rfl⟩ ⟨Nat.le_of_ble_eq_true rfl, Nat.le_of_ble_eq_true rfl⟩ hl.1 rfl (Nat.le_of_ble_eq_true rfl) d_D_refusalHere_49 ?_
          refine lv_if_eq (tgt := 59) hx hb d_D_refusalHere_52 (by decide) (fun c_57 => ?_) (fun c_57 => ?_)
          · refine lv_bipush (v := 6) hx hb d_D_refusalHere_59 (by decide) ?_
            have hP9 := hP.sub (ws' := [(x, .inr (3, [.ref me, .ref sm, .ref to, .ref co, .ref ru, .int sl, .int fw, .int fh])), (ru, .inr (1, [.ref bk, .int pl, .int dp, .int lp, .int ld, .int dn, .int rf, .int qu, .int ov])), (co, .inr (0, [.ref cw, .int ((rdC dp pl sl mf qf kd mn cf).2.1), .int ((rdC dp pl sl mf qf kd mn cf).2.2.1)])), (me, .inl (cI, 4096, .inl mf)), (sm, .inl (cI, 4096, .inl qf)), (cw, .inl (cI, 258, .inl ((rdC dp pl sl mf qf kd mn cf).2.2.2))), (to, .inr (2, [.ref sa, .ref wa])), (sa, .inl (cI, 26, .inl sf)), (wa, .inl (cI, 303, .inl wf))]) [3, 4, 5, 6, 7, 8, 0, 1, 2] rfl
            have hD9 := hD.sub (ws' := [(x, .inr (3, [.ref me, .ref sm, .ref to, .ref co, .ref ru, .int sl, .int fw, .int fh])), (ru, .inr (1, [.ref bk, .int pl, .int dp, .int lp, .int ld, .int dn, .int rf, .int qu, .int ov])), (co, .inr (0, [.ref cw, .int ((rdC dp pl sl mf qf kd mn cf).2.1), .int ((rdC dp pl sl mf qf kd mn cf).2.2.1)])), (me, .inl (cI, 4096, .inl mf)), (sm, .inl (cI, 4096, .inl qf)), (cw, .inl (cI, 258, .inl ((rdC dp pl sl mf qf kd mn cf).2.2.2))), (to, .inr (2, [.ref sa, .ref wa])), (sa, .inl (cI, 26, .inl sf)), (wa, .inl (cI, 303, .inl wf))]) [3, 4, 5, 6, 7, 8, 0, 1, 2] (by decide) rfl
            exact W.iret hx hb hr (fun t ht9 hW => ⟨⟨_, (), rfl, by simp only [rfH, if_pos c_53, if_pos c_54, if_neg c_55, if_neg c_56, if_pos c_57], by rw [ht9]; simp only [rfC, if_pos c_53]; exact hP9, va_K.moved hW.alike hK, by rw [hAe]; simp only [rfC, if_pos c_53]; exact hD9⟩, hS.F ht9⟩) hS.2.2 d_D_refusalHere_61
          · refine lv_iconst (v := 0) hx hb d_D_refusalHere_55 (by decide) ?_
            refine lv_goto (tgt := 61) hx hb d_D_refusalHere_56 (by decide) ?_
            have hP9 := hP.sub (ws' := [(x, .inr (3, [.ref me, .ref sm, .ref to, .ref co, .ref ru, .int sl, .int fw, .int fh])), (ru, .inr (1, [.ref bk, .int pl, .int dp, .int lp, .int ld, .int dn, .int rf, .int qu, .int ov])), (co, .inr (0, [.ref cw, .int ((rdC dp pl sl mf qf kd mn cf).2.1), .int ((rdC dp pl sl mf qf kd mn cf).2.2.1)])), (me, .inl (cI, 4096, .inl mf)), (sm, .inl (cI, 4096, .inl qf)), (cw, .inl (cI, 258, .inl ((rdC dp pl sl mf qf kd mn cf).2.2.2))), (to, .inr (2, [.ref sa, .ref wa])), (sa, .inl (cI, 26, .inl sf)), (wa, .inl (cI, 303, .inl wf))]) [3, 4, 5, 6, 7, 8, 0, 1, 2] rfl
            have hD9 := hD.sub (ws' := [(x, .inr (3, [.ref me, .ref sm, .ref to, .ref co, .ref ru, .int sl, .int fw, .int fh])), (ru, .inr (1, [.ref bk, .int pl, .int dp, .int lp, .int ld, .int dn, .int rf, .int qu, .int ov])), (co, .inr (0, [.ref cw, .int ((rdC dp pl sl mf qf kd mn cf).2.1), .int ((rdC dp pl sl mf qf kd mn cf).2.2.1)])), (me, .inl (cI, 4096, .inl mf)), (sm, .inl (cI, 4096, .inl qf)), (cw, .inl (cI, 258, .inl ((rdC dp pl sl mf qf kd mn cf).2.2.2))), (to, .inr (2, [.ref sa, .ref wa])), (sa, .inl (cI, 26, .inl sf)), (wa, .inl (cI, 303, .inl wf))]) [3, 4, 5, 6, 7, 8, 0, 1, 2] (by decide) rfl
            exact W.iret hx hb hr (fun t ht9 hW => ⟨⟨_, (), rfl, by simp only [rfH, if_pos c_53, if_pos c_54, if_neg c_55, if_neg c_56, if_neg c_57], by rw [ht9]; simp only [rfC, if_pos c_53]; exact hP9, va_K.moved hW.alike hK, by rw [hAe]; simp only [rfC, if_pos c_53]; exact hD9⟩, hS.F ht9⟩) hS.2.2 d_D_refusalHere_61
        · refine lv_iconst (v := 5) hx hb d_D_refusalHere_46 (by decide) ?_
          have hP9 := hP.sub (ws' := [(x, .inr (3, [.ref me, .ref sm, .ref to, .ref co, .ref ru, .int sl, .int fw, .int fh])), (ru, .inr (1, [.ref bk, .int pl, .int dp, .int lp, .int ld, .int dn, .int rf, .int qu, .int ov])), (co, .inr (0, [.ref cw, .int ((rdC dp pl sl mf qf kd mn cf).2.1), .int ((rdC dp pl sl mf qf kd mn cf).2.2.1)])), (me, .inl (cI, 4096, .inl mf)), (sm, .inl (cI, 4096, .inl qf)), (cw, .inl (cI, 258, .inl ((rdC dp pl sl mf qf kd mn cf).2.2.2))), (to, .inr (2, [.ref sa, .ref wa])), (sa, .inl (cI, 26, .inl sf)), (wa, .inl (cI, 303, .inl wf))]) [3, 4, 5, 6, 7, 8, 0, 1, 2] rfl
          have hD9 := hD.sub (ws' := [(x, .inr (3, [.ref me, .ref sm, .ref to, .ref co, .ref ru, .int sl, .int fw, .int fh])), (ru, .inr (1, [.ref bk, .int pl, .int dp, .int lp, .int ld, .int dn, .int rf, .int qu, .int ov])), (co, .inr (0, [.ref cw, .int ((rdC dp pl sl mf qf kd mn cf).2.1), .int ((rdC dp pl sl mf qf kd mn cf).2.2.1)])), (me, .inl (cI, 4096, .inl mf)), (sm, .inl (cI, 4096, .inl qf)), (cw, .inl (cI, 258, .inl ((rdC dp pl sl mf qf kd mn cf).2.2.2))), (to, .inr (2, [.ref sa, .ref wa])), (sa, .inl (cI, 26, .inl sf)), (wa, .inl (cI, 303, .inl wf))]) [3, 4, 5, 6, 7, 8, 0, 1, 2] (by decide) rfl
          exact W.iret hx hb hr (fun t ht9 hW => ⟨⟨_, (), rfl, by simp only [rfH, if_pos c_53, if_pos c_54, if_neg c_55, if_pos c_56], by rw [ht9]; simp only [rfC, if_pos c_53]; exact hP9, va_K.moved hW.alike hK, by rw [hAe]; simp only [rfC, if_pos c_53]; exact hD9⟩, hS.F ht9⟩) hS.2.2 d_D_refusalHere_47
      · refine lv_iconst (v := 3) hx hb d_D_refusalHere_37 (by decide) ?_
        have hP9 := hP.sub (ws' := [(x, .inr (3, [.ref me, .ref sm, .ref to, .ref co, .ref ru, .int sl, .int fw, .int fh])), (ru, .inr (1, [.ref bk, .int pl, .int dp, .int lp, .int ld, .int dn, .int rf, .int qu, .int ov])), (co, .inr (0, [.ref cw, .int ((rdC dp pl sl mf qf kd mn cf).2.1), .int ((rdC dp pl sl mf qf kd mn cf).2.2.1)])), (me, .inl (cI, 4096, .inl mf)), (sm, .inl (cI, 4096, .inl qf)), (cw, .inl (cI, 258, .inl ((rdC dp pl sl mf qf kd mn cf).2.2.2))), (to, .inr (2, [.ref sa, .ref wa])), (sa, .inl (cI, 26, .inl sf)), (wa, .inl (cI, 303, .inl wf))]) [3, 4, 5, 6, 7, 8, 0, 1, 2] rfl
        have hD9 := hD.sub (ws' := [(x, .inr (3, [.ref me, .ref sm, .ref to, .ref co, .ref ru, .int sl, .int fw, .int fh])), (ru, .inr (1, [.ref bk, .int pl, .int dp, .int lp, .int ld, .int dn, .int rf, .int qu, .int ov])), (co, .inr (0, [.ref cw, .int ((rdC dp pl sl mf qf kd mn cf).2.1), .int ((rdC dp pl sl mf qf kd mn cf).2.2.1)])), (me, .inl (cI, 4096, .inl mf)), (sm, .inl (cI, 4096, .inl qf)), (cw, .inl (cI, 258, .inl ((rdC dp pl sl mf qf kd mn cf).2.2.2))), (to, .inr (2, [.ref sa, .ref wa])), (sa, .inl (cI, 26, .inl sf)), (wa, .inl (cI, 303, .inl wf))]) [3, 4, 5, 6, 7, 8, 0, 1, 2] (by decide) rfl
        exact W.iret hx hb hr (fun t ht9 hW => ⟨⟨_, (), rfl, by simp only [rfH, if_pos c_53, if_pos c_54, if_pos c_55], by rw [ht9]; simp only [rfC, if_pos c_53]; exact hP9, va_K.moved hW.alike hK, by rw [hAe]; simp only [rfC, if_pos c_53]; exact hD9⟩, hS.F ht9⟩) hS.2.2 d_D_refusalHere_38
    · refine lv_iload_n hx hb d_D_refusalHere_25 rfl (lv_at hl 0 rfl) ?_
      have hP9 := hP.sub (ws' := [(x, .inr (3, [.ref me, .ref sm, .ref to, .ref co, .ref ru, .int sl, .int fw, .int fh])), (ru, .inr (1, [.ref bk, .int pl, .int dp, .int lp, .int ld, .int dn, .int rf, .int qu, .int ov])), (co, .inr (0, [.ref cw, .int ((rdC dp pl sl mf qf kd mn cf).2.1), .int ((rdC dp pl sl mf qf kd mn cf).2.2.1)])), (me, .inl (cI, 4096, .inl mf)), (sm, .inl (cI, 4096, .inl qf)), (cw, .inl (cI, 258, .inl ((rdC dp pl sl mf qf kd mn cf).2.2.2))), (to, .inr (2, [.ref sa, .ref wa])), (sa, .inl (cI, 26, .inl sf)), (wa, .inl (cI, 303, .inl wf))]) [3, 4, 5, 6, 7, 8, 0, 1, 2] rfl
      have hD9 := hD.sub (ws' := [(x, .inr (3, [.ref me, .ref sm, .ref to, .ref co, .ref ru, .int sl, .int fw, .int fh])), (ru, .inr (1, [.ref bk, .int pl, .int dp, .int lp, .int ld, .int dn, .int rf, .int qu, .int ov])), (co, .inr (0, [.ref cw, .int ((rdC dp pl sl mf qf kd mn cf).2.1), .int ((rdC dp pl sl mf qf kd mn cf).2.2.1)])), (me, .inl (cI, 4096, .inl mf)), (sm, .inl (cI, 4096, .inl qf)), (cw, .inl (cI, 258, .inl ((rdC dp pl sl mf qf kd mn cf).2.2.2))), (to, .inr (2, [.ref sa, .ref wa])), (sa, .inl (cI, 26, .inl sf)), (wa, .inl (cI, 303, .inl wf))]) [3, 4, 5, 6, 7, 8, 0, 1, 2] (by decide) rfl
      exact W.iret hx hb hr (fun t ht9 hW => ⟨⟨_, (), rfl, by simp only [rfH, if_pos c_53, if_neg c_54], by rw [ht9]; simp only [rfC, if_pos c_53]; exact hP9, va_K.moved hW.alike hK, by rw [hAe]; simp only [rfC, if_pos c_53]; exact hD9⟩, hS.F ht9⟩) hS.2.2 d_D_refusalHere_26
  · refine lv_bipush (v := 7) hx hb d_D_refusalHere_13 (by decide) ?_
    have hP9 := hP.sub (ws' := [(x, .inr (3, [.ref me, .ref sm, .ref to, .ref co, .ref ru, .int sl, .int fw, .int fh])), (ru, .inr (1, [.ref bk, .int pl, .int dp, .int lp, .int ld, .int dn, .int rf, .int qu, .int ov])), (co, .inr (0, [.ref cw, .int kd, .int mn])), (me, .inl (cI, 4096, .inl mf)), (sm, .inl (cI, 4096, .inl qf)), (cw, .inl (cI, 258, .inl cf)), (to, .inr (2, [.ref sa, .ref wa])), (sa, .inl (cI, 26, .inl sf)), (wa, .inl (cI, 303, .inl wf))]) [0, 1, 2, 3, 4, 5, 6, 7, 8] rfl
    have hD9 := hD.sub (ws' := [(x, .inr (3, [.ref me, .ref sm, .ref to, .ref co, .ref ru, .int sl, .int fw, .int fh])), (ru, .inr (1, [.ref bk, .int pl, .int dp, .int lp, .int ld, .int dn, .int rf, .int qu, .int ov])), (co, .inr (0, [.ref cw, .int kd, .int mn])), (me, .inl (cI, 4096, .inl mf)), (sm, .inl (cI, 4096, .inl qf)), (cw, .inl (cI, 258, .inl cf)), (to, .inr (2, [.ref sa, .ref wa])), (sa, .inl (cI, 26, .inl sf)), (wa, .inl (cI, 303, .inl wf))]) [0, 1, 2, 3, 4, 5, 6, 7, 8] (by decide) rfl
    exact W.iret hx hb hr (fun t ht9 hW => ⟨⟨_, (), rfl, by simp only [rfH, if_neg c_53], by rw [ht9]; simp only [rfC, if_neg c_53]; exact hP9, va_K.moved hW.alike hK, by rw [hAe]; simp only [rfC, if_neg c_53]; exact hD9⟩, hS.F ht9⟩) hS.2.2 d_D_refusalHere_15
set_option maxHeartbeats 4000000 in
set_option maxRecDepth 100000 in
theorem c_D_storeWords (l : Launch) (dC : Nat → ClassId) (dI : Nat → Nat → Nat) (tb : tbT) (x me sm to co ru : Nat) (sl fw fh : Int32) (cw : Nat) (kd mn : Int32) (cf : IF) (cI : ClassId) (mf : IF) (sz : Nat) : MV l y_D_storeWords (Cond.code y_D_storeWords b_D_storeWords 3 none :: TB) ({ frames := 2, cells := 0, slots := 0, locals := 42 }) tb (dC, dI) [.ref x] [(x, .inr (3, [.ref me, .ref sm, .ref to, .ref co, .ref ru, .int sl, .int fw, .int fh])), (co, .inr (0, [.ref cw, .int kd, .int mn])), (cw, .inl (cI, 258, .inl cf)), (me, .inl (cI, 4096, .inl mf))] [(x, .inr (3, [.ref me, .ref sm, .ref to, .ref co, .ref ru, .int sl, .int fw, .int fh])), (co, .inr (0, [.ref cw, .int kd, .int mn])), (cw, .inl (cI, 258, .inl cf)), (me, .inl (cI, 4096, .inl (stW cf mf)))] [(cI, .int)] sz := by
  refine Met.ofW (cc := b_D_storeWords) (maxL := 3) (ret := none) (by decide) rfl ?_
  intro p e s m args below meth c s₁ B hml hv
  obtain ⟨rfl, hsz, hP, hK, hD0, hE⟩ := hv
  have hx := B.exec
  have hb := B.bytes
  have hr := B.returns
  have ht := fun w (h : w ∈ TB) => atoms_spec (ws := Cond.code y_D_storeWords b_D_storeWords 3 none :: TB) B.pre w (List.mem_cons_of_mem _ h)
  have hown : s.vm.findClass R_D = some m.cls := findClass_of_methodNamed B.named
  have hlocks := B.notSynchronized
  subst hsz
  have hD := hD0.self (sz := s.heap.size)
  generalize hAe : va_A [(x, .inr (3, [.ref me, .ref sm, .ref to, .ref co, .ref ru, .int sl, .int fw, .int fh])), (co, .inr (0, [.ref cw, .int kd, .int mn])), (cw, .inl (cI, 258, .inl cf)), (me, .inl (cI, 4096, .inl mf))] s.heap.size = A at hD hE ⊢
  have hA : ∀ q : Nat, s.heap.size ≤ q → A q := fun q h => by rw [← hAe]; exact Or.inr h
  have hS : va_S A s.heap s.heap [] := va_S.rf
  have F : CallFix p m c b_D_storeWords 3 s _ TB R_D := ⟨hx, hb, hml, hown, ht⟩
  have hl := lv_entry ([.ref x]) (n := 3) (Nat.le_of_ble_eq_true rfl)
  rw [lg_entry_eq]
  generalize (lg_sl ([.ref x]) ++ List.replicate (3 - (lg_sl ([.ref x])).length) Slot.unset).toArray = ls at hl ⊢
  have hl : lv_has ls 3 [(0, .ref x)] := hl
  refine lv_aload_n hx hb d_D_storeWords_0 rfl (lv_at hl 0 rfl) ?_
  refine va_get (D := (dC, dI)) (ci := 3) (v := .ref co) (C := R_D) (T := F_D) (N := 8) hx hb ht tu_D hown hK hP 0 rfl rfl 3 (by decide) (ht _ tw_179) (fun _ h9 => h9) rfl d_D_storeWords_1 ?_
  refine lv_iconst (v := 1) hx hb d_D_storeWords_4 (by decide) ?_
  refine rcV (As := [.int 1]) (rest := []) (c_C_at l dC dI tb co cw kd mn cf cI 1 ) F tw_422 tw_32 tw_420 tw_421 tw_431 hP [1, 2] rfl hK [0] rfl hE hS (q0 := 1) rfl rfl hd_C_at rfl rfl ⟨Nat.le_of_ble_eq_true rfl, Nat.le_of_ble_eq_true rfl⟩ ⟨Nat.le_of_ble_eq_true rfl, Nat.le_of_ble_eq_true rfl⟩ hl.1 rfl (Nat.le_of_ble_eq_true rfl) d_D_storeWords_5 ?_
  refine lv_istore_n (lv' := [(1, .int (rdA 258 cf 1)), (0, .ref x)]) hx hb d_D_storeWords_8 rfl hl (by decide) rfl (fun ls hl => ?_)
  refine lv_iconst (v := 0) hx hb d_D_storeWords_9 (by decide) ?_
  refine lv_istore_n (lv' := [(2, .int 0), (1, .int (rdA 258 cf 1)), (0, .ref x)]) hx hb d_D_storeWords_10 rfl hl (by decide) rfl (fun ls hl => ?_)
  refine lp_W (N := (rdA 258 cf 1).toNatClampNeg) (head := 11) (I := fun i H locs ls => va_P (dC, dI) clX [(x, .inr (3, [.ref me, .ref sm, .ref to, .ref co, .ref ru, .int sl, .int fw, .int fh])), (co, .inr (0, [.ref cw, .int kd, .int mn])), (cw, .inl (cI, 258, .inl cf)), (me, .inl (cI, 4096, .inl (itN (fun j m => wrA 4096 m (rdA 258 cf 0 + nI j) (rdA 258 cf (2 + nI j))) i mf)))] H ∧ va_D A [(x, .inr (3, [.ref me, .ref sm, .ref to, .ref co, .ref ru, .int sl, .int fw, .int fh])), (co, .inr (0, [.ref cw, .int kd, .int mn])), (cw, .inl (cI, 258, .inl cf)), (me, .inl (cI, 4096, .inl (itN (fun j m => wrA 4096 m (rdA 258 cf 0 + nI j) (rdA 258 cf (2 + nI j))) i mf)))] ∧ va_S A s.heap H locs ∧ lv_has ls 3 [(2, .int (nI i)), (1, .int (rdA 258 cf 1)), (0, .ref x)]) ?_ ?_ 0 (Nat.zero_le _) ⟨hP, hD, hS, lv_sub hl [0, 1, 2] rfl⟩
  · intro i H locs ls hi_i hI0 kk_i
    obtain ⟨hP, hD, hS, hl⟩ := hI0
    refine lv_iload_n hx hb d_D_storeWords_11 rfl (lv_at hl 0 rfl) ?_
    refine lv_iload_n hx hb d_D_storeWords_12 rfl (lv_at hl 1 rfl) ?_
    refine lv_icmp_ge (tgt := 49) hx hb d_D_storeWords_13 (by decide) (fun c_58 => ?_) (fun c_58 => ?_)
    · exact absurd c_58 (lp_lt hi_i)
    · refine lv_aload_n hx hb d_D_storeWords_16 rfl (lv_at hl 2 rfl) ?_
      refine va_get (D := (dC, dI)) (ci := 3) (v := .ref me) (C := R_D) (T := F_D) (N := 8) hx hb ht tu_D hown hK hP 0 rfl rfl 0 (by decide) (ht _ tw_176) (fun _ h9 => h9) rfl d_D_storeWords_17 ?_
      refine lv_aload_n hx hb d_D_storeWords_20 rfl (lv_at hl 2 rfl) ?_
      refine va_get (D := (dC, dI)) (ci := 3) (v := .ref co) (C := R_D) (T := F_D) (N := 8) hx hb ht tu_D hown hK hP 0 rfl rfl 3 (by decide) (ht _ tw_179) (fun _ h9 => h9) rfl d_D_storeWords_21 ?_
      refine lv_iconst (v := 0) hx hb d_D_storeWords_24 (by decide) ?_
      refine rcV (As := [.int 0]) (rest := [.ref me]) (c_C_at l dC dI tb co cw kd mn cf cI 0 ) F tw_422 tw_32 tw_420 tw_421 tw_431 hP [1, 2] rfl hK [0] rfl hE hS (q0 := 1) rfl rfl hd_C_at rfl rfl ⟨Nat.le_of_ble_eq_true rfl, Nat.le_of_ble_eq_true rfl⟩ ⟨Nat.le_of_ble_eq_true rfl, Nat.le_of_ble_eq_true rfl⟩ hl.1 rfl (Nat.le_of_ble_eq_true rfl) d_D_storeWords_25 ?_
      refine lv_iload_n hx hb d_D_storeWords_28 rfl (lv_at hl 0 rfl) ?_
      refine lv_iadd hx hb d_D_storeWords_29 ?_
      refine lv_aload_n hx hb d_D_storeWords_30 rfl (lv_at hl 2 rfl) ?_
      refine va_get (D := (dC, dI)) (ci := 3) (v := .ref co) (C := R_D) (T := F_D) (N := 8) hx hb ht tu_D hown hK hP 0 rfl rfl 3 (by decide) (ht _ tw_179) (fun _ h9 => h9) rfl d_D_storeWords_31 ?_
      refine lv_iconst (v := 2) hx hb d_D_storeWords_34 (by decide) ?_
      refine lv_iload_n hx hb d_D_storeWords_35 rfl (lv_at hl 0 rfl) ?_
      refine lv_iadd hx hb d_D_storeWords_36 ?_
      refine rcV (As := [.int (2 + (nI i))]) (rest := [.int ((rdA 258 cf 0) + (nI i)), .ref me]) (c_C_at l dC dI tb co cw kd mn cf cI (2 + (nI i)) ) F tw_422 tw_32 tw_420 tw_421 tw_431 hP [1, 2] rfl hK [0] rfl hE hS (q0 := 1) rfl rfl hd_C_at rfl rfl ⟨Nat.le_of_ble_eq_true rfl, Nat.le_of_ble_eq_true rfl⟩ ⟨Nat.le_of_ble_eq_true rfl, Nat.le_of_ble_eq_true rfl⟩ hl.1 rfl (Nat.le_of_ble_eq_true rfl) d_D_storeWords_37 ?_
      refine mcSv (As := [.ref me, .int ((rdA 258 cf 0) + (nI i)), .int (rdA 258 cf (2 + (nI i)))]) (rest := []) (wr := [(x, .inr (3, [.ref me, .ref sm, .ref to, .ref co, .ref ru, .int sl, .int fw, .int fh])), (co, .inr (0, [.ref cw, .int kd, .int mn])), (cw, .inl (cI, 258, .inl cf))]) (c_D_write l dC dI tb me 4096 (itN (fun j m => wrA 4096 m (rdA 258 cf 0 + nI j) (rdA 258 cf (2 + nI j))) i mf) cI ((rdA 258 cf 0) + (nI i)) (rdA 258 cf (2 + (nI i))) (by decide)) F tw_58 tw_28 tw_57 tw_301 hP hD [3] [0, 1, 2] rfl rfl (by decide) (by decide) (by decide) hK [0] rfl hE hS hA hd_D_write rfl rfl ⟨Nat.le_of_ble_eq_true rfl, Nat.le_of_ble_eq_true rfl⟩ ⟨Nat.le_of_ble_eq_true rfl, Nat.le_of_ble_eq_true rfl⟩ hl.1 rfl (Nat.le_of_ble_eq_true rfl) d_D_storeWords_40 (fun H locs hP hD hS => ?_)
      have hP : va_P (dC, dI) clX [(x, .inr (3, [.ref me, .ref sm, .ref to, .ref co, .ref ru, .int sl, .int fw, .int fh])), (co, .inr (0, [.ref cw, .int kd, .int mn])), (cw, .inl (cI, 258, .inl cf)), (me, .inl (cI, 4096, .inl (wrA 4096 (itN (fun j m => wrA 4096 m (rdA 258 cf 0 + nI j) (rdA 258 cf (2 + nI j))) i mf) ((rdA 258 cf 0) + (nI i)) (rdA 258 cf (2 + (nI i))))))] H := hP
      have hD : va_D A [(x, .inr (3, [.ref me, .ref sm, .ref to, .ref co, .ref ru, .int sl, .int fw, .int fh])), (co, .inr (0, [.ref cw, .int kd, .int mn])), (cw, .inl (cI, 258, .inl cf)), (me, .inl (cI, 4096, .inl (wrA 4096 (itN (fun j m => wrA 4096 m (rdA 258 cf 0 + nI j) (rdA 258 cf (2 + nI j))) i mf) ((rdA 258 cf 0) + (nI i)) (rdA 258 cf (2 + (nI i))))))] := hD
      refine lv_iinc (v := ((nI i) + 1)) (lv' := [(2, .int ((nI i) + 1)), (1, .int (rdA 258 cf 1)), (0, .ref x)]) hx hb d_D_storeWords_43 hl (k := 0) rfl rfl (by decide) rfl (fun ls hl => ?_)
      refine lv_goto (tgt := 11) hx hb d_D_storeWords_46 (by decide) ?_
      rw [nI_1] at hl
      exact kk_i _ _ _ ⟨hP.sub [0, 1, 2, 3] rfl, hD.sub [0, 1, 2, 3] (by decide) rfl, hS, lv_sub hl [0, 1, 2] rfl⟩
  · intro H locs ls hI0
    obtain ⟨hP, hD, hS, hl⟩ := hI0
    refine lv_iload_n hx hb d_D_storeWords_11 rfl (lv_at hl 0 rfl) ?_
    refine lv_iload_n hx hb d_D_storeWords_12 rfl (lv_at hl 1 rfl) ?_
    refine lv_icmp_ge (tgt := 49) hx hb d_D_storeWords_13 (by decide) (fun c_59 => ?_) (fun c_59 => ?_)
    · have hP9 := hP.sub (ws' := [(x, .inr (3, [.ref me, .ref sm, .ref to, .ref co, .ref ru, .int sl, .int fw, .int fh])), (co, .inr (0, [.ref cw, .int kd, .int mn])), (cw, .inl (cI, 258, .inl cf)), (me, .inl (cI, 4096, .inl (itN (fun j m => wrA 4096 m (rdA 258 cf 0 + nI j) (rdA 258 cf (2 + nI j))) ((rdA 258 cf 1).toNatClampNeg) mf)))]) [0, 1, 2, 3] rfl
      have hD9 := hD.sub (ws' := [(x, .inr (3, [.ref me, .ref sm, .ref to, .ref co, .ref ru, .int sl, .int fw, .int fh])), (co, .inr (0, [.ref cw, .int kd, .int mn])), (cw, .inl (cI, 258, .inl cf)), (me, .inl (cI, 4096, .inl (itN (fun j m => wrA 4096 m (rdA 258 cf 0 + nI j) (rdA 258 cf (2 + nI j))) ((rdA 258 cf 1).toNatClampNeg) mf)))]) [0, 1, 2, 3] (by decide) rfl
      exact W.vret hx hb hr (fun t ht9 hW => ⟨⟨(), rfl, trivial, by rw [ht9]; exact hP9, va_K.moved hW.alike hK, by rw [hAe]; exact hD9⟩, hS.F ht9⟩) hS.2.2 d_D_storeWords_49
    · exact absurd (lp_ge (rdA 258 cf 1)) c_59
set_option maxHeartbeats 4000000 in
set_option maxRecDepth 100000 in
theorem c_D_keepUniforms (l : Launch) (dC : Nat → ClassId) (dI : Nat → Nat → Nat) (tb : tbT) (x me sm to co ru : Nat) (sl fw fh : Int32) (cw : Nat) (kd mn : Int32) (cf : IF) (cI : ClassId) (mf : IF) (sa wa : Nat) (sf wf : IF) (sz : Nat) : MV l y_D_keepUniforms (Cond.code y_D_keepUniforms b_D_keepUniforms 6 none :: TB) ({ frames := 4, cells := 0, slots := 0, locals := 88 }) tb (dC, dI) [.ref x] [(x, .inr (3, [.ref me, .ref sm, .ref to, .ref co, .ref ru, .int sl, .int fw, .int fh])), (co, .inr (0, [.ref cw, .int kd, .int mn])), (cw, .inl (cI, 258, .inl cf)), (me, .inl (cI, 4096, .inl mf)), (to, .inr (2, [.ref sa, .ref wa])), (sa, .inl (cI, 26, .inl sf)), (wa, .inl (cI, 303, .inl wf))] [(x, .inr (3, [.ref me, .ref sm, .ref to, .ref co, .ref ru, .int sl, .int fw, .int fh])), (co, .inr (0, [.ref cw, .int kd, .int mn])), (cw, .inl (cI, 258, .inl cf)), (me, .inl (cI, 4096, .inl mf)), (to, .inr (2, [.ref sa, .ref wa])), (sa, .inl (cI, 26, .inl sf)), (wa, .inl (cI, 303, .inl (kuA sf mf cf wf)))] [(cI, .int)] sz := by
  refine Met.ofW (cc := b_D_keepUniforms) (maxL := 6) (ret := none) (by decide) rfl ?_
  intro p e s m args below meth c s₁ B hml hv
  obtain ⟨rfl, hsz, hP, hK, hD0, hE⟩ := hv
  have hx := B.exec
  have hb := B.bytes
  have hr := B.returns
  have ht := fun w (h : w ∈ TB) => atoms_spec (ws := Cond.code y_D_keepUniforms b_D_keepUniforms 6 none :: TB) B.pre w (List.mem_cons_of_mem _ h)
  have hown : s.vm.findClass R_D = some m.cls := findClass_of_methodNamed B.named
  have hlocks := B.notSynchronized
  subst hsz
  have hD := hD0.self (sz := s.heap.size)
  generalize hAe : va_A [(x, .inr (3, [.ref me, .ref sm, .ref to, .ref co, .ref ru, .int sl, .int fw, .int fh])), (co, .inr (0, [.ref cw, .int kd, .int mn])), (cw, .inl (cI, 258, .inl cf)), (me, .inl (cI, 4096, .inl mf)), (to, .inr (2, [.ref sa, .ref wa])), (sa, .inl (cI, 26, .inl sf)), (wa, .inl (cI, 303, .inl wf))] s.heap.size = A at hD hE ⊢
  have hA : ∀ q : Nat, s.heap.size ≤ q → A q := fun q h => by rw [← hAe]; exact Or.inr h
  have hS : va_S A s.heap s.heap [] := va_S.rf
  have F : CallFix p m c b_D_keepUniforms 6 s _ TB R_D := ⟨hx, hb, hml, hown, ht⟩
  have hl := lv_entry ([.ref x]) (n := 6) (Nat.le_of_ble_eq_true rfl)
  rw [lg_entry_eq]
  generalize (lg_sl ([.ref x]) ++ List.replicate (6 - (lg_sl ([.ref x])).length) Slot.unset).toArray = ls at hl ⊢
  have hl : lv_has ls 6 [(0, .ref x)] := hl
  refine lv_aload_n hx hb d_D_keepUniforms_0 rfl (lv_at hl 0 rfl) ?_
  refine va_get (D := (dC, dI)) (ci := 3) (v := .ref co) (C := R_D) (T := F_D) (N := 8) hx hb ht tu_D hown hK hP 0 rfl rfl 3 (by decide) (ht _ tw_179) (fun _ h9 => h9) rfl d_D_keepUniforms_1 ?_
  refine lv_iconst (v := 1) hx hb d_D_keepUniforms_4 (by decide) ?_
  refine rcV (As := [.int 1]) (rest := []) (c_C_at l dC dI tb co cw kd mn cf cI 1 ) F tw_422 tw_32 tw_420 tw_421 tw_431 hP [1, 2] rfl hK [0] rfl hE hS (q0 := 1) rfl rfl hd_C_at rfl rfl ⟨Nat.le_of_ble_eq_true rfl, Nat.le_of_ble_eq_true rfl⟩ ⟨Nat.le_of_ble_eq_true rfl, Nat.le_of_ble_eq_true rfl⟩ hl.1 rfl (Nat.le_of_ble_eq_true rfl) d_D_keepUniforms_5 ?_
  refine lv_istore_n (lv' := [(1, .int (rdA 258 cf 1)), (0, .ref x)]) hx hb d_D_keepUniforms_8 rfl hl (by decide) rfl (fun ls hl => ?_)
  refine lv_iconst (v := 0) hx hb d_D_keepUniforms_9 (by decide) ?_
  refine lv_istore_n (lv' := [(2, .int 0), (1, .int (rdA 258 cf 1)), (0, .ref x)]) hx hb d_D_keepUniforms_10 rfl hl (by decide) rfl (fun ls hl => ?_)
  refine lp_W (N := (rdA 258 cf 1).toNatClampNeg) (head := 11) (I := fun i H locs ls => va_P (dC, dI) clX [(x, .inr (3, [.ref me, .ref sm, .ref to, .ref co, .ref ru, .int sl, .int fw, .int fh])), (co, .inr (0, [.ref cw, .int kd, .int mn])), (cw, .inl (cI, 258, .inl cf)), (me, .inl (cI, 4096, .inl mf)), (to, .inr (2, [.ref sa, .ref wa])), (sa, .inl (cI, 26, .inl sf)), (wa, .inl (cI, 303, .inl (itN (fun i w => kuI sf mf (rdA 258 cf 0 + nI i) (rdA 258 cf 2 + 4 * nI i) w) i wf)))] H ∧ va_D A [(x, .inr (3, [.ref me, .ref sm, .ref to, .ref co, .ref ru, .int sl, .int fw, .int fh])), (co, .inr (0, [.ref cw, .int kd, .int mn])), (cw, .inl (cI, 258, .inl cf)), (me, .inl (cI, 4096, .inl mf)), (to, .inr (2, [.ref sa, .ref wa])), (sa, .inl (cI, 26, .inl sf)), (wa, .inl (cI, 303, .inl (itN (fun i w => kuI sf mf (rdA 258 cf 0 + nI i) (rdA 258 cf 2 + 4 * nI i) w) i wf)))] ∧ va_S A s.heap H locs ∧ lv_has ls 6 [(2, .int (nI i)), (1, .int (rdA 258 cf 1)), (0, .ref x)]) ?_ ?_ 0 (Nat.zero_le _) ⟨hP, hD, hS, lv_sub hl [0, 1, 2] rfl⟩
  · intro i H locs ls hi_i hI0 kk_i
    obtain ⟨hP, hD, hS, hl⟩ := hI0
    refine lv_iload_n hx hb d_D_keepUniforms_11 rfl (lv_at hl 0 rfl) ?_
    refine lv_iload_n hx hb d_D_keepUniforms_12 rfl (lv_at hl 1 rfl) ?_
    refine lv_icmp_ge (tgt := 87) hx hb d_D_keepUniforms_13 (by decide) (fun c_60 => ?_) (fun c_60 => ?_)
    · exact absurd c_60 (lp_lt hi_i)
    · refine lv_aload_n hx hb d_D_keepUniforms_16 rfl (lv_at hl 2 rfl) ?_
      refine va_get (D := (dC, dI)) (ci := 3) (v := .ref co) (C := R_D) (T := F_D) (N := 8) hx hb ht tu_D hown hK hP 0 rfl rfl 3 (by decide) (ht _ tw_179) (fun _ h9 => h9) rfl d_D_keepUniforms_17 ?_
      refine lv_iconst (v := 0) hx hb d_D_keepUniforms_20 (by decide) ?_
      refine rcV (As := [.int 0]) (rest := []) (c_C_at l dC dI tb co cw kd mn cf cI 0 ) F tw_422 tw_32 tw_420 tw_421 tw_431 hP [1, 2] rfl hK [0] rfl hE hS (q0 := 1) rfl rfl hd_C_at rfl rfl ⟨Nat.le_of_ble_eq_true rfl, Nat.le_of_ble_eq_true rfl⟩ ⟨Nat.le_of_ble_eq_true rfl, Nat.le_of_ble_eq_true rfl⟩ hl.1 rfl (Nat.le_of_ble_eq_true rfl) d_D_keepUniforms_21 ?_
      refine lv_iload_n hx hb d_D_keepUniforms_24 rfl (lv_at hl 0 rfl) ?_
      refine lv_iadd hx hb d_D_keepUniforms_25 ?_
      refine lv_istore_n (lv' := [(3, .int ((rdA 258 cf 0) + (nI i))), (2, .int (nI i)), (1, .int (rdA 258 cf 1)), (0, .ref x)]) hx hb d_D_keepUniforms_26 rfl hl (by decide) rfl (fun ls hl => ?_)
      refine lv_aload_n hx hb d_D_keepUniforms_27 rfl (lv_at hl 3 rfl) ?_
      refine va_get (D := (dC, dI)) (ci := 3) (v := .ref co) (C := R_D) (T := F_D) (N := 8) hx hb ht tu_D hown hK hP 0 rfl rfl 3 (by decide) (ht _ tw_179) (fun _ h9 => h9) rfl d_D_keepUniforms_28 ?_
      refine lv_iconst (v := 2) hx hb d_D_keepUniforms_31 (by decide) ?_
      refine rcV (As := [.int 2]) (rest := []) (c_C_at l dC dI tb co cw kd mn cf cI 2 ) F tw_422 tw_32 tw_420 tw_421 tw_431 hP [1, 2] rfl hK [0] rfl hE hS (q0 := 1) rfl rfl hd_C_at rfl rfl ⟨Nat.le_of_ble_eq_true rfl, Nat.le_of_ble_eq_true rfl⟩ ⟨Nat.le_of_ble_eq_true rfl, Nat.le_of_ble_eq_true rfl⟩ hl.1 rfl (Nat.le_of_ble_eq_true rfl) d_D_keepUniforms_32 ?_
      refine lv_iconst (v := 4) hx hb d_D_keepUniforms_35 (by decide) ?_
      refine lv_iload_n hx hb d_D_keepUniforms_36 rfl (lv_at hl 1 rfl) ?_
      refine lv_imul hx hb d_D_keepUniforms_37 ?_
      refine lv_iadd hx hb d_D_keepUniforms_38 ?_
      refine lv_istore (lv' := [(4, .int ((rdA 258 cf 2) + (4 * (nI i)))), (3, .int ((rdA 258 cf 0) + (nI i))), (2, .int (nI i)), (1, .int (rdA 258 cf 1)), (0, .ref x)]) hx hb d_D_keepUniforms_39 hl (by decide) rfl (fun ls hl => ?_)
      refine lv_iconst (v := 0) hx hb d_D_keepUniforms_41 (by decide) ?_
      refine lv_istore (lv' := [(5, .int 0), (4, .int ((rdA 258 cf 2) + (4 * (nI i)))), (3, .int ((rdA 258 cf 0) + (nI i))), (2, .int (nI i)), (1, .int (rdA 258 cf 1)), (0, .ref x)]) hx hb d_D_keepUniforms_42 hl (by decide) rfl (fun ls hl => ?_)
      refine lp_W (N := (4 : Int32).toNatClampNeg) (head := 44) (I := fun j H locs ls => va_P (dC, dI) clX [(x, .inr (3, [.ref me, .ref sm, .ref to, .ref co, .ref ru, .int sl, .int fw, .int fh])), (co, .inr (0, [.ref cw, .int kd, .int mn])), (cw, .inl (cI, 258, .inl cf)), (me, .inl (cI, 4096, .inl mf)), (to, .inr (2, [.ref sa, .ref wa])), (sa, .inl (cI, 26, .inl sf)), (wa, .inl (cI, 303, .inl (itN (fun j w => wrA 303 w (plc sf 5 (rdA 258 cf 0 + nI i) (nI j + 1)) (rdA 4096 mf (rdA 258 cf 2 + 4 * nI i + nI j))) j (itN (fun i w => kuI sf mf (rdA 258 cf 0 + nI i) (rdA 258 cf 2 + 4 * nI i) w) i wf))))] H ∧ va_D A [(x, .inr (3, [.ref me, .ref sm, .ref to, .ref co, .ref ru, .int sl, .int fw, .int fh])), (co, .inr (0, [.ref cw, .int kd, .int mn])), (cw, .inl (cI, 258, .inl cf)), (me, .inl (cI, 4096, .inl mf)), (to, .inr (2, [.ref sa, .ref wa])), (sa, .inl (cI, 26, .inl sf)), (wa, .inl (cI, 303, .inl (itN (fun j w => wrA 303 w (plc sf 5 (rdA 258 cf 0 + nI i) (nI j + 1)) (rdA 4096 mf (rdA 258 cf 2 + 4 * nI i + nI j))) j (itN (fun i w => kuI sf mf (rdA 258 cf 0 + nI i) (rdA 258 cf 2 + 4 * nI i) w) i wf))))] ∧ va_S A s.heap H locs ∧ lv_has ls 6 [(5, .int (nI j)), (4, .int ((rdA 258 cf 2) + (4 * (nI i)))), (3, .int ((rdA 258 cf 0) + (nI i))), (2, .int (nI i)), (1, .int (rdA 258 cf 1)), (0, .ref x)]) ?_ ?_ 0 (Nat.zero_le _) ⟨hP, hD, hS, lv_sub hl [0, 1, 2, 3, 4, 5] rfl⟩
      · intro j H locs ls hi_j hI0 kk_j
        obtain ⟨hP, hD, hS, hl⟩ := hI0
        refine lv_iload hx hb d_D_keepUniforms_44 (lv_at hl 0 rfl) ?_
        refine lv_iconst (v := 4) hx hb d_D_keepUniforms_46 (by decide) ?_
        refine lv_icmp_ge (tgt := 81) hx hb d_D_keepUniforms_47 (by decide) (fun c_61 => ?_) (fun c_61 => ?_)
        · exact absurd c_61 (lp_lt hi_j)
        · refine lv_aload_n hx hb d_D_keepUniforms_50 rfl (lv_at hl 5 rfl) ?_
          refine va_get (D := (dC, dI)) (ci := 3) (v := .ref to) (C := R_D) (T := F_D) (N := 8) hx hb ht tu_D hown hK hP 0 rfl rfl 2 (by decide) (ht _ tw_178) (fun _ h9 => h9) rfl d_D_keepUniforms_51 ?_
          refine lv_iconst (v := 5) hx hb d_D_keepUniforms_54 (by decide) ?_
          refine lv_iload_n hx hb d_D_keepUniforms_55 rfl (lv_at hl 2 rfl) ?_
          refine lv_iload hx hb d_D_keepUniforms_56 (lv_at hl 0 rfl) ?_
          refine lv_iconst (v := 1) hx hb d_D_keepUniforms_58 (by decide) ?_
          refine lv_iadd hx hb d_D_keepUniforms_59 ?_
          refine lv_aload_n hx hb d_D_keepUniforms_60 rfl (lv_at hl 5 rfl) ?_
          refine va_get (D := (dC, dI)) (ci := 3) (v := .ref me) (C := R_D) (T := F_D) (N := 8) hx hb ht tu_D hown hK hP 0 rfl rfl 0 (by decide) (ht _ tw_176) (fun _ h9 => h9) rfl d_D_keepUniforms_61 ?_
          refine lv_iload hx hb d_D_keepUniforms_64 (lv_at hl 1 rfl) ?_
          refine lv_iload hx hb d_D_keepUniforms_66 (lv_at hl 0 rfl) ?_
          refine lv_iadd hx hb d_D_keepUniforms_68 ?_
          refine rcS (As := [.ref me, .int (((rdA 258 cf 2) + (4 * (nI i))) + (nI j))]) (rest := [.int ((nI j) + 1), .int ((rdA 258 cf 0) + (nI i)), .int 5, .ref to]) (c_D_read l dC dI tb me 4096 mf cI (((rdA 258 cf 2) + (4 * (nI i))) + (nI j)) (by decide)) F tw_66 tw_28 tw_65 tw_300 hP [3] rfl hK [0] rfl hE hS hd_D_read rfl rfl ⟨Nat.le_of_ble_eq_true rfl, Nat.le_of_ble_eq_true rfl⟩ ⟨Nat.le_of_ble_eq_true rfl, Nat.le_of_ble_eq_true rfl⟩ hl.1 rfl (Nat.le_of_ble_eq_true rfl) d_D_keepUniforms_69 ?_
          refine mcVv (As := [.int 5, .int ((rdA 258 cf 0) + (nI i)), .int ((nI j) + 1), .int (rdA 4096 mf (((rdA 258 cf 2) + (4 * (nI i))) + (nI j)))]) (rest := []) (wr := [(x, .inr (3, [.ref me, .ref sm, .ref to, .ref co, .ref ru, .int sl, .int fw, .int fh])), (co, .inr (0, [.ref cw, .int kd, .int mn])), (cw, .inl (cI, 258, .inl cf)), (me, .inl (cI, 4096, .inl mf))]) (c_T_set l dC dI tb to sa wa sf cI (itN (fun j w => wrA 303 w (plc sf 5 (rdA 258 cf 0 + nI i) (nI j + 1)) (rdA 4096 mf (rdA 258 cf 2 + 4 * nI i + nI j))) j (itN (fun i w => kuI sf mf (rdA 258 cf 0 + nI i) (rdA 258 cf 2 + 4 * nI i) w) i wf)) 5 ((rdA 258 cf 0) + (nI i)) ((nI j) + 1) (rdA 4096 mf (((rdA 258 cf 2) + (4 * (nI i))) + (nI j))) ) F tw_471 tw_29 tw_469 tw_470 tw_468 hP hD [4, 5, 6] [0, 1, 2, 3] rfl rfl (by decide) (by decide) (by decide) hK [0] rfl hE hS hA (q0 := 4) rfl rfl hd_T_set rfl rfl ⟨Nat.le_of_ble_eq_true rfl, Nat.le_of_ble_eq_true rfl⟩ ⟨Nat.le_of_ble_eq_true rfl, Nat.le_of_ble_eq_true rfl⟩ hl.1 rfl (Nat.le_of_ble_eq_true rfl) d_D_keepUniforms_72 (fun H locs hP hD hS => ?_)
          have hP : va_P (dC, dI) clX [(x, .inr (3, [.ref me, .ref sm, .ref to, .ref co, .ref ru, .int sl, .int fw, .int fh])), (co, .inr (0, [.ref cw, .int kd, .int mn])), (cw, .inl (cI, 258, .inl cf)), (me, .inl (cI, 4096, .inl mf)), (to, .inr (2, [.ref sa, .ref wa])), (sa, .inl (cI, 26, .inl sf)), (wa, .inl (cI, 303, .inl (wrA 303 (itN (fun j w => wrA 303 w (plc sf 5 (rdA 258 cf 0 + nI i) (nI j + 1)) (rdA 4096 mf (rdA 258 cf 2 + 4 * nI i + nI j))) j (itN (fun i w => kuI sf mf (rdA 258 cf 0 + nI i) (rdA 258 cf 2 + 4 * nI i) w) i wf)) (plc sf 5 ((rdA 258 cf 0) + (nI i)) ((nI j) + 1)) (rdA 4096 mf (((rdA 258 cf 2) + (4 * (nI i))) + (nI j))))))] H := hP
          have hD : va_D A [(x, .inr (3, [.ref me, .ref sm, .ref to, .ref co, .ref ru, .int sl, .int fw, .int fh])), (co, .inr (0, [.ref cw, .int kd, .int mn])), (cw, .inl (cI, 258, .inl cf)), (me, .inl (cI, 4096, .inl mf)), (to, .inr (2, [.ref sa, .ref wa])), (sa, .inl (cI, 26, .inl sf)), (wa, .inl (cI, 303, .inl (wrA 303 (itN (fun j w => wrA 303 w (plc sf 5 (rdA 258 cf 0 + nI i) (nI j + 1)) (rdA 4096 mf (rdA 258 cf 2 + 4 * nI i + nI j))) j (itN (fun i w => kuI sf mf (rdA 258 cf 0 + nI i) (rdA 258 cf 2 + 4 * nI i) w) i wf)) (plc sf 5 ((rdA 258 cf 0) + (nI i)) ((nI j) + 1)) (rdA 4096 mf (((rdA 258 cf 2) + (4 * (nI i))) + (nI j))))))] := hD
          refine lv_iinc (v := ((nI j) + 1)) (lv' := [(5, .int ((nI j) + 1)), (4, .int ((rdA 258 cf 2) + (4 * (nI i)))), (3, .int ((rdA 258 cf 0) + (nI i))), (2, .int (nI i)), (1, .int (rdA 258 cf 1)), (0, .ref x)]) hx hb d_D_keepUniforms_75 hl (k := 0) rfl rfl (by decide) rfl (fun ls hl => ?_)
          refine lv_goto (tgt := 44) hx hb d_D_keepUniforms_78 (by decide) ?_
          rw [nI_1] at hl
          exact kk_j _ _ _ ⟨hP.sub [0, 1, 2, 3, 4, 5, 6] rfl, hD.sub [0, 1, 2, 3, 4, 5, 6] (by decide) rfl, hS, lv_sub hl [0, 1, 2, 3, 4, 5] rfl⟩
      · intro H locs ls hI0
        obtain ⟨hP, hD, hS, hl⟩ := hI0
        refine lv_iload hx hb d_D_keepUniforms_44 (lv_at hl 0 rfl) ?_
        refine lv_iconst (v := 4) hx hb d_D_keepUniforms_46 (by decide) ?_
        refine lv_icmp_ge (tgt := 81) hx hb d_D_keepUniforms_47 (by decide) (fun c_62 => ?_) (fun c_62 => ?_)
        · refine lv_iinc (v := ((nI i) + 1)) (lv' := [(2, .int ((nI i) + 1)), (5, .int (nI ((4 : Int32).toNatClampNeg))), (4, .int ((rdA 258 cf 2) + (4 * (nI i)))), (3, .int ((rdA 258 cf 0) + (nI i))), (1, .int (rdA 258 cf 1)), (0, .ref x)]) hx hb d_D_keepUniforms_81 hl (k := 3) rfl rfl (by decide) rfl (fun ls hl => ?_)
          refine lv_goto (tgt := 11) hx hb d_D_keepUniforms_84 (by decide) ?_
          rw [nI_1] at hl
          exact kk_i _ _ _ ⟨hP.sub [0, 1, 2, 3, 4, 5, 6] rfl, hD.sub [0, 1, 2, 3, 4, 5, 6] (by decide) rfl, hS, lv_sub hl [0, 4, 5] rfl⟩
        · exact absurd (lp_ge (4 : Int32)) c_62
  · intro H locs ls hI0
    obtain ⟨hP, hD, hS, hl⟩ := hI0
    refine lv_iload_n hx hb d_D_keepUniforms_11 rfl (lv_at hl 0 rfl) ?_
    refine lv_iload_n hx hb d_D_keepUniforms_12 rfl (lv_at hl 1 rfl) ?_
    refine lv_icmp_ge (tgt := 87) hx hb d_D_keepUniforms_13 (by decide) (fun c_63 => ?_) (fun c_63 => ?_)
    · have hP9 := hP.sub (ws' := [(x, .inr (3, [.ref me, .ref sm, .ref to, .ref co, .ref ru, .int sl, .int fw, .int fh])), (co, .inr (0, [.ref cw, .int kd, .int mn])), (cw, .inl (cI, 258, .inl cf)), (me, .inl (cI, 4096, .inl mf)), (to, .inr (2, [.ref sa, .ref wa])), (sa, .inl (cI, 26, .inl sf)), (wa, .inl (cI, 303, .inl (itN (fun i w => kuI sf mf (rdA 258 cf 0 + nI i) (rdA 258 cf 2 + 4 * nI i) w) ((rdA 258 cf 1).toNatClampNeg) wf)))]) [0, 1, 2, 3, 4, 5, 6] rfl
      have hD9 := hD.sub (ws' := [(x, .inr (3, [.ref me, .ref sm, .ref to, .ref co, .ref ru, .int sl, .int fw, .int fh])), (co, .inr (0, [.ref cw, .int kd, .int mn])), (cw, .inl (cI, 258, .inl cf)), (me, .inl (cI, 4096, .inl mf)), (to, .inr (2, [.ref sa, .ref wa])), (sa, .inl (cI, 26, .inl sf)), (wa, .inl (cI, 303, .inl (itN (fun i w => kuI sf mf (rdA 258 cf 0 + nI i) (rdA 258 cf 2 + 4 * nI i) w) ((rdA 258 cf 1).toNatClampNeg) wf)))]) [0, 1, 2, 3, 4, 5, 6] (by decide) rfl
      exact W.vret hx hb hr (fun t ht9 hW => ⟨⟨(), rfl, trivial, by rw [ht9]; exact hP9, va_K.moved hW.alike hK, by rw [hAe]; exact hD9⟩, hS.F ht9⟩) hS.2.2 d_D_keepUniforms_87
    · exact absurd (lp_ge (rdA 258 cf 1)) c_63
set_option maxHeartbeats 4000000 in
set_option maxRecDepth 100000 in
theorem c_T_keep (l : Launch) (dC : Nat → ClassId) (dI : Nat → Nat → Nat) (tb : tbT) (to sa wa : Nat) (sf wf : IF) (cI : ClassId) (co cw : Nat) (kd mn : Int32) (cf : IF) (sz : Nat) : MV l y_T_keep (Cond.code y_T_keep b_T_keep 5 none :: TB) ({ frames := 3, cells := 0, slots := 0, locals := 64 }) tb (dC, dI) [.ref to, .ref co] [(to, .inr (2, [.ref sa, .ref wa])), (sa, .inl (cI, 26, .inl sf)), (wa, .inl (cI, 303, .inl wf)), (co, .inr (0, [.ref cw, .int kd, .int mn])), (cw, .inl (cI, 258, .inl cf))] [(to, .inr (2, [.ref sa, .ref wa])), (sa, .inl (cI, 26, .inl sf)), (wa, .inl (cI, 303, .inl (kpW sf kd mn cf wf))), (co, .inr (0, [.ref cw, .int kd, .int mn])), (cw, .inl (cI, 258, .inl cf))] [(cI, .int)] sz := by
  refine Met.ofW (cc := b_T_keep) (maxL := 5) (ret := none) (by decide) rfl ?_
  intro p e s m args below meth c s₁ B hml hv
  obtain ⟨rfl, hsz, hP, hK, hD0, hE⟩ := hv
  have hx := B.exec
  have hb := B.bytes
  have hr := B.returns
  have ht := fun w (h : w ∈ TB) => atoms_spec (ws := Cond.code y_T_keep b_T_keep 5 none :: TB) B.pre w (List.mem_cons_of_mem _ h)
  have hown : s.vm.findClass R_T = some m.cls := findClass_of_methodNamed B.named
  have hlocks := B.notSynchronized
  subst hsz
  have hD := hD0.self (sz := s.heap.size)
  generalize hAe : va_A [(to, .inr (2, [.ref sa, .ref wa])), (sa, .inl (cI, 26, .inl sf)), (wa, .inl (cI, 303, .inl wf)), (co, .inr (0, [.ref cw, .int kd, .int mn])), (cw, .inl (cI, 258, .inl cf))] s.heap.size = A at hD hE ⊢
  have hA : ∀ q : Nat, s.heap.size ≤ q → A q := fun q h => by rw [← hAe]; exact Or.inr h
  have hS : va_S A s.heap s.heap [] := va_S.rf
  have F : CallFix p m c b_T_keep 5 s _ TB R_T := ⟨hx, hb, hml, hown, ht⟩
  have hl := lv_entry ([.ref to, .ref co]) (n := 5) (Nat.le_of_ble_eq_true rfl)
  rw [lg_entry_eq]
  generalize (lg_sl ([.ref to, .ref co]) ++ List.replicate (5 - (lg_sl ([.ref to, .ref co])).length) Slot.unset).toArray = ls at hl ⊢
  have hl : lv_has ls 5 [(0, .ref to), (1, .ref co)] := hl
  refine lv_aload_n hx hb d_T_keep_0 rfl (lv_at hl 1 rfl) ?_
  refine va_getN (D := (dC, dI)) (ci := 0) (v := .int kd) (C := R_C) (T := F_C) (N := 3) hx hb ht tu_C hown hK hP 3 rfl rfl 1 (by decide) (va_Nw.use rfl (hE.1 _ nw_3)) (fun _ h9 => h9) rfl d_T_keep_1 ?_
  refine lv_istore_n (lv' := [(2, .int kd), (0, .ref to), (1, .ref co)]) hx hb d_T_keep_4 rfl hl (by decide) rfl (fun ls hl => ?_)
  refine lv_iload_n hx hb d_T_keep_5 rfl (lv_at hl 0 rfl) ?_
  refine rcS (As := [.int kd]) (rest := []) (c_S_holders l dC dI tb kd ) F tw_61 tw_30 tw_60 tw_59 hP [] rfl hK [] rfl hE hS hd_S_holders rfl rfl ⟨Nat.le_of_ble_eq_true rfl, Nat.le_of_ble_eq_true rfl⟩ ⟨Nat.le_of_ble_eq_true rfl, Nat.le_of_ble_eq_true rfl⟩ hl.1 rfl (Nat.le_of_ble_eq_true rfl) d_T_keep_6 ?_
  refine lv_if_ne (tgt := 13) hx hb d_T_keep_9 (by decide) (fun c_64 => ?_) (fun c_64 => ?_)
  · refine lv_aload_n hx hb d_T_keep_13 rfl (lv_at hl 1 rfl) ?_
    refine lv_iload_n hx hb d_T_keep_14 rfl (lv_at hl 0 rfl) ?_
    refine lv_iload_n hx hb d_T_keep_15 rfl (lv_at hl 0 rfl) ?_
    refine rcS (As := [.int kd]) (rest := [.int kd, .ref to]) (c_T_namesItsHolder l dC dI tb kd ) F tw_101 tw_29 tw_100 tw_99 hP [] rfl hK [] rfl hE hS hd_T_namesItsHolder rfl rfl ⟨Nat.le_of_ble_eq_true rfl, Nat.le_of_ble_eq_true rfl⟩ ⟨Nat.le_of_ble_eq_true rfl, Nat.le_of_ble_eq_true rfl⟩ hl.1 rfl (Nat.le_of_ble_eq_true rfl) d_T_keep_16 ?_
    refine lv_if_eq (tgt := 30) hx hb d_T_keep_19 (by decide) (fun c_65 => ?_) (fun c_65 => ?_)
    · refine lv_iconst (v := 0) hx hb d_T_keep_30 (by decide) ?_
      refine lv_iconst (v := 0) hx hb d_T_keep_31 (by decide) ?_
      refine rcV (As := [.int kd, .int 0, .int 0]) (rest := []) (c_T_placeOf l dC dI tb to sa wa sf cI kd 0 0 ) F tw_89 tw_29 tw_88 tw_1 tw_86 hP [0, 1] rfl hK [0] rfl hE hS (q0 := 0) rfl rfl hd_T_placeOf rfl rfl ⟨Nat.le_of_ble_eq_true rfl, Nat.le_of_ble_eq_true rfl⟩ ⟨Nat.le_of_ble_eq_true rfl, Nat.le_of_ble_eq_true rfl⟩ hl.1 rfl (Nat.le_of_ble_eq_true rfl) d_T_keep_32 ?_
      refine lv_istore_n (lv' := [(3, .int (plc sf kd 0 0)), (2, .int kd), (0, .ref to), (1, .ref co)]) hx hb d_T_keep_35 rfl hl (by decide) rfl (fun ls hl => ?_)
      refine lv_iconst (v := 0) hx hb d_T_keep_36 (by decide) ?_
      refine lv_istore (lv' := [(4, .int 0), (3, .int (plc sf kd 0 0)), (2, .int kd), (0, .ref to), (1, .ref co)]) hx hb d_T_keep_37 hl (by decide) rfl (fun ls hl => ?_)
      refine lp_W (N := mn.toNatClampNeg) (head := 39) (I := fun i H locs ls => va_P (dC, dI) clX [(to, .inr (2, [.ref sa, .ref wa])), (sa, .inl (cI, 26, .inl sf)), (wa, .inl (cI, 303, .inl (itN (fun j w => wrA 303 w ((plc sf kd 0 0) + nI j) (rdA 258 cf (nI j))) i wf))), (co, .inr (0, [.ref cw, .int kd, .int mn])), (cw, .inl (cI, 258, .inl cf))] H ∧ va_D A [(to, .inr (2, [.ref sa, .ref wa])), (sa, .inl (cI, 26, .inl sf)), (wa, .inl (cI, 303, .inl (itN (fun j w => wrA 303 w ((plc sf kd 0 0) + nI j) (rdA 258 cf (nI j))) i wf))), (co, .inr (0, [.ref cw, .int kd, .int mn])), (cw, .inl (cI, 258, .inl cf))] ∧ va_S A s.heap H locs ∧ lv_has ls 5 [(4, .int (nI i)), (3, .int (plc sf kd 0 0)), (2, .int kd), (0, .ref to), (1, .ref co)]) ?_ ?_ 0 (Nat.zero_le _) ⟨hP, hD, hS, lv_sub hl [0, 1, 2, 3, 4] rfl⟩
      · intro i H locs ls hi_i hI0 kk_i
        obtain ⟨hP, hD, hS, hl⟩ := hI0
        refine lv_iload hx hb d_T_keep_39 (lv_at hl 0 rfl) ?_
        refine lv_aload_n hx hb d_T_keep_41 rfl (lv_at hl 4 rfl) ?_
        refine va_getN (D := (dC, dI)) (ci := 0) (v := .int mn) (C := R_C) (T := F_C) (N := 3) hx hb ht tu_C hown hK hP 3 rfl rfl 2 (by decide) (va_Nw.use rfl (hE.1 _ nw_5)) (fun _ h9 => h9) rfl d_T_keep_42 ?_
        refine lv_icmp_ge (tgt := 71) hx hb d_T_keep_45 (by decide) (fun c_66 => ?_) (fun c_66 => ?_)
        · exact absurd c_66 (lp_lt hi_i)
        · refine lv_aload_n hx hb d_T_keep_48 rfl (lv_at hl 3 rfl) ?_
          refine va_get (D := (dC, dI)) (ci := 2) (v := .ref wa) (C := R_T) (T := F_T) (N := 2) hx hb ht tu_T hown hK hP 0 rfl rfl 1 (by decide) (ht _ tw_103) (fun _ h9 => h9) rfl d_T_keep_49 ?_
          refine lv_iload_n hx hb d_T_keep_52 rfl (lv_at hl 1 rfl) ?_
          refine lv_iload hx hb d_T_keep_53 (lv_at hl 0 rfl) ?_
          refine lv_iadd hx hb d_T_keep_55 ?_
          refine lv_aload_n hx hb d_T_keep_56 rfl (lv_at hl 4 rfl) ?_
          refine lv_iload hx hb d_T_keep_57 (lv_at hl 0 rfl) ?_
          refine rcV (As := [.int (nI i)]) (rest := [.int ((plc sf kd 0 0) + (nI i)), .ref wa]) (c_C_at l dC dI tb co cw kd mn cf cI (nI i) ) F tw_422 tw_32 tw_420 tw_421 tw_485 hP [3, 4] rfl hK [0] rfl hE hS (q0 := 3) rfl rfl hd_C_at rfl rfl ⟨Nat.le_of_ble_eq_true rfl, Nat.le_of_ble_eq_true rfl⟩ ⟨Nat.le_of_ble_eq_true rfl, Nat.le_of_ble_eq_true rfl⟩ hl.1 rfl (Nat.le_of_ble_eq_true rfl) d_T_keep_59 ?_
          refine mcSNv (As := [.ref wa, .int ((plc sf kd 0 0) + (nI i)), .int (rdA 258 cf (nI i))]) (rest := []) (wr := [(to, .inr (2, [.ref sa, .ref wa])), (sa, .inl (cI, 26, .inl sf)), (co, .inr (0, [.ref cw, .int kd, .int mn])), (cw, .inl (cI, 258, .inl cf))]) (c_D_write l dC dI tb wa 303 (itN (fun j w => wrA 303 w ((plc sf kd 0 0) + nI j) (rdA 258 cf (nI j))) i wf) cI ((plc sf kd 0 0) + (nI i)) (rdA 258 cf (nI i)) (by decide)) F tw_58 tw_28 tw_57 nw_0 hP hD [2] [0, 1, 3, 4] rfl rfl (by decide) (by decide) (by decide) hK [0] rfl hE hS hA hd_D_write rfl rfl ⟨Nat.le_of_ble_eq_true rfl, Nat.le_of_ble_eq_true rfl⟩ ⟨Nat.le_of_ble_eq_true rfl, Nat.le_of_ble_eq_true rfl⟩ hl.1 rfl (Nat.le_of_ble_eq_true rfl) d_T_keep_62 (fun H locs hP hD hS => ?_)
          have hP : va_P (dC, dI) clX [(to, .inr (2, [.ref sa, .ref wa])), (sa, .inl (cI, 26, .inl sf)), (co, .inr (0, [.ref cw, .int kd, .int mn])), (cw, .inl (cI, 258, .inl cf)), (wa, .inl (cI, 303, .inl (wrA 303 (itN (fun j w => wrA 303 w ((plc sf kd 0 0) + nI j) (rdA 258 cf (nI j))) i wf) ((plc sf kd 0 0) + (nI i)) (rdA 258 cf (nI i)))))] H := hP
          have hD : va_D A [(to, .inr (2, [.ref sa, .ref wa])), (sa, .inl (cI, 26, .inl sf)), (co, .inr (0, [.ref cw, .int kd, .int mn])), (cw, .inl (cI, 258, .inl cf)), (wa, .inl (cI, 303, .inl (wrA 303 (itN (fun j w => wrA 303 w ((plc sf kd 0 0) + nI j) (rdA 258 cf (nI j))) i wf) ((plc sf kd 0 0) + (nI i)) (rdA 258 cf (nI i)))))] := hD
          refine lv_iinc (v := ((nI i) + 1)) (lv' := [(4, .int ((nI i) + 1)), (3, .int (plc sf kd 0 0)), (2, .int kd), (0, .ref to), (1, .ref co)]) hx hb d_T_keep_65 hl (k := 0) rfl rfl (by decide) rfl (fun ls hl => ?_)
          refine lv_goto (tgt := 39) hx hb d_T_keep_68 (by decide) ?_
          rw [nI_1] at hl
          exact kk_i _ _ _ ⟨hP.sub [0, 1, 4, 2, 3] rfl, hD.sub [0, 1, 4, 2, 3] (by decide) rfl, hS, lv_sub hl [0, 1, 2, 3, 4] rfl⟩
      · intro H locs ls hI0
        obtain ⟨hP, hD, hS, hl⟩ := hI0
        refine lv_iload hx hb d_T_keep_39 (lv_at hl 0 rfl) ?_
        refine lv_aload_n hx hb d_T_keep_41 rfl (lv_at hl 4 rfl) ?_
        refine va_getN (D := (dC, dI)) (ci := 0) (v := .int mn) (C := R_C) (T := F_C) (N := 3) hx hb ht tu_C hown hK hP 3 rfl rfl 2 (by decide) (va_Nw.use rfl (hE.1 _ nw_5)) (fun _ h9 => h9) rfl d_T_keep_42 ?_
        refine lv_icmp_ge (tgt := 71) hx hb d_T_keep_45 (by decide) (fun c_67 => ?_) (fun c_67 => ?_)
        · have hP9 := hP.sub (ws' := [(to, .inr (2, [.ref sa, .ref wa])), (sa, .inl (cI, 26, .inl sf)), (wa, .inl (cI, 303, .inl (itN (fun j w => wrA 303 w ((plc sf kd 0 0) + nI j) (rdA 258 cf (nI j))) mn.toNatClampNeg wf))), (co, .inr (0, [.ref cw, .int kd, .int mn])), (cw, .inl (cI, 258, .inl cf))]) [0, 1, 2, 3, 4] rfl
          have hD9 := hD.sub (ws' := [(to, .inr (2, [.ref sa, .ref wa])), (sa, .inl (cI, 26, .inl sf)), (wa, .inl (cI, 303, .inl (itN (fun j w => wrA 303 w ((plc sf kd 0 0) + nI j) (rdA 258 cf (nI j))) mn.toNatClampNeg wf))), (co, .inr (0, [.ref cw, .int kd, .int mn])), (cw, .inl (cI, 258, .inl cf))]) [0, 1, 2, 3, 4] (by decide) rfl
          exact W.vret hx hb hr (fun t ht9 hW => ⟨⟨(), rfl, trivial, by rw [ht9]; simp only [kpW, if_neg c_64, if_pos c_65, if_pos c_67]; exact hP9, va_K.moved hW.alike hK, by rw [hAe]; simp only [kpW, if_neg c_64, if_pos c_65, if_pos c_67]; exact hD9⟩, hS.F ht9⟩) hS.2.2 d_T_keep_71
        · exact absurd (lp_ge mn) c_67
    · refine lv_aload_n hx hb d_T_keep_22 rfl (lv_at hl 2 rfl) ?_
      refine lv_iconst (v := 0) hx hb d_T_keep_23 (by decide) ?_
      refine rcV (As := [.int 0]) (rest := [.int kd, .ref to]) (c_C_at l dC dI tb co cw kd mn cf cI 0 ) F tw_422 tw_32 tw_420 tw_421 tw_485 hP [3, 4] rfl hK [0] rfl hE hS (q0 := 3) rfl rfl hd_C_at rfl rfl ⟨Nat.le_of_ble_eq_true rfl, Nat.le_of_ble_eq_true rfl⟩ ⟨Nat.le_of_ble_eq_true rfl, Nat.le_of_ble_eq_true rfl⟩ hl.1 rfl (Nat.le_of_ble_eq_true rfl) d_T_keep_24 ?_
      refine lv_goto (tgt := 31) hx hb d_T_keep_27 (by decide) ?_
      refine lv_iconst (v := 0) hx hb d_T_keep_31 (by decide) ?_
      refine rcV (As := [.int kd, .int (rdA 258 cf 0), .int 0]) (rest := []) (c_T_placeOf l dC dI tb to sa wa sf cI kd (rdA 258 cf 0) 0 ) F tw_89 tw_29 tw_88 tw_1 tw_86 hP [0, 1] rfl hK [0] rfl hE hS (q0 := 0) rfl rfl hd_T_placeOf rfl rfl ⟨Nat.le_of_ble_eq_true rfl, Nat.le_of_ble_eq_true rfl⟩ ⟨Nat.le_of_ble_eq_true rfl, Nat.le_of_ble_eq_true rfl⟩ hl.1 rfl (Nat.le_of_ble_eq_true rfl) d_T_keep_32 ?_
      refine lv_istore_n (lv' := [(3, .int (plc sf kd (rdA 258 cf 0) 0)), (2, .int kd), (0, .ref to), (1, .ref co)]) hx hb d_T_keep_35 rfl hl (by decide) rfl (fun ls hl => ?_)
      refine lv_iconst (v := 0) hx hb d_T_keep_36 (by decide) ?_
      refine lv_istore (lv' := [(4, .int 0), (3, .int (plc sf kd (rdA 258 cf 0) 0)), (2, .int kd), (0, .ref to), (1, .ref co)]) hx hb d_T_keep_37 hl (by decide) rfl (fun ls hl => ?_)
      refine lp_W (N := mn.toNatClampNeg) (head := 39) (I := fun i H locs ls => va_P (dC, dI) clX [(to, .inr (2, [.ref sa, .ref wa])), (sa, .inl (cI, 26, .inl sf)), (wa, .inl (cI, 303, .inl (itN (fun j w => wrA 303 w ((plc sf kd (rdA 258 cf 0) 0) + nI j) (rdA 258 cf (nI j))) i wf))), (co, .inr (0, [.ref cw, .int kd, .int mn])), (cw, .inl (cI, 258, .inl cf))] H ∧ va_D A [(to, .inr (2, [.ref sa, .ref wa])), (sa, .inl (cI, 26, .inl sf)), (wa, .inl (cI, 303, .inl (itN (fun j w => wrA 303 w ((plc sf kd (rdA 258 cf 0) 0) + nI j) (rdA 258 cf (nI j))) i wf))), (co, .inr (0, [.ref cw, .int kd, .int mn])), (cw, .inl (cI, 258, .inl cf))] ∧ va_S A s.heap H locs ∧ lv_has ls 5 [(4, .int (nI i)), (3, .int (plc sf kd (rdA 258 cf 0) 0)), (2, .int kd), (0, .ref to), (1, .ref co)]) ?_ ?_ 0 (Nat.zero_le _) ⟨hP, hD, hS, lv_sub hl [0, 1, 2, 3, 4] rfl⟩
      · intro i H locs ls hi_i hI0 kk_i
        obtain ⟨hP, hD, hS, hl⟩ := hI0
        refine lv_iload hx hb d_T_keep_39 (lv_at hl 0 rfl) ?_
        refine lv_aload_n hx hb d_T_keep_41 rfl (lv_at hl 4 rfl) ?_
        refine va_getN (D := (dC, dI)) (ci := 0) (v := .int mn) (C := R_C) (T := F_C) (N := 3) hx hb ht tu_C hown hK hP 3 rfl rfl 2 (by decide) (va_Nw.use rfl (hE.1 _ nw_5)) (fun _ h9 => h9) rfl d_T_keep_42 ?_
        refine lv_icmp_ge (tgt := 71) hx hb d_T_keep_45 (by decide) (fun c_68 => ?_) (fun c_68 => ?_)
        · exact absurd c_68 (lp_lt hi_i)
        · refine lv_aload_n hx hb d_T_keep_48 rfl (lv_at hl 3 rfl) ?_
          refine va_get (D := (dC, dI)) (ci := 2) (v := .ref wa) (C := R_T) (T := F_T) (N := 2) hx hb ht tu_T hown hK hP 0 rfl rfl 1 (by decide) (ht _ tw_103) (fun _ h9 => h9) rfl d_T_keep_49 ?_
          refine lv_iload_n hx hb d_T_keep_52 rfl (lv_at hl 1 rfl) ?_
          refine lv_iload hx hb d_T_keep_53 (lv_at hl 0 rfl) ?_
          refine lv_iadd hx hb d_T_keep_55 ?_
          refine lv_aload_n hx hb d_T_keep_56 rfl (lv_at hl 4 rfl) ?_
          refine lv_iload hx hb d_T_keep_57 (lv_at hl 0 rfl) ?_
          refine rcV (As := [.int (nI i)]) (rest := [.int ((plc sf kd (rdA 258 cf 0) 0) + (nI i)), .ref wa]) (c_C_at l dC dI tb co cw kd mn cf cI (nI i) ) F tw_422 tw_32 tw_420 tw_421 tw_485 hP [3, 4] rfl hK [0] rfl hE hS (q0 := 3) rfl rfl hd_C_at rfl rfl ⟨Nat.le_of_ble_eq_true rfl, Nat.le_of_ble_eq_true rfl⟩ ⟨Nat.le_of_ble_eq_true rfl, Nat.le_of_ble_eq_true rfl⟩ hl.1 rfl (Nat.le_of_ble_eq_true rfl) d_T_keep_59 ?_
          refine mcSNv (As := [.ref wa, .int ((plc sf kd (rdA 258 cf 0) 0) + (nI i)), .int (rdA 258 cf (nI i))]) (rest := []) (wr := [(to, .inr (2, [.ref sa, .ref wa])), (sa, .inl (cI, 26, .inl sf)), (co, .inr (0, [.ref cw, .int kd, .int mn])), (cw, .inl (cI, 258, .inl cf))]) (c_D_write l dC dI tb wa 303 (itN (fun j w => wrA 303 w ((plc sf kd (rdA 258 cf 0) 0) + nI j) (rdA 258 cf (nI j))) i wf) cI ((plc sf kd (rdA 258 cf 0) 0) + (nI i)) (rdA 258 cf (nI i)) (by decide)) F tw_58 tw_28 tw_57 nw_0 hP hD [2] [0, 1, 3, 4] rfl rfl (by decide) (by decide) (by decide) hK [0] rfl hE hS hA hd_D_write rfl rfl ⟨Nat.le_of_ble_eq_true rfl, Nat.le_of_ble_eq_true rfl⟩ ⟨Nat.le_of_ble_eq_true rfl, Nat.le_of_ble_eq_true rfl⟩ hl.1 rfl (Nat.le_of_ble_eq_true rfl) d_T_keep_62 (fun H locs hP hD hS => ?_)
          have hP : va_P (dC, dI) clX [(to, .inr (2, [.ref sa, .ref wa])), (sa, .inl (cI, 26, .inl sf)), (co, .inr (0, [.ref cw, .int kd, .int mn])), (cw, .inl (cI, 258, .inl cf)), (wa, .inl (cI, 303, .inl (wrA 303 (itN (fun j w => wrA 303 w ((plc sf kd (rdA 258 cf 0) 0) + nI j) (rdA 258 cf (nI j))) i wf) ((plc sf kd (rdA 258 cf 0) 0) + (nI i)) (rdA 258 cf (nI i)))))] H := hP
          have hD : va_D A [(to, .inr (2, [.ref sa, .ref wa])), (sa, .inl (cI, 26, .inl sf)), (co, .inr (0, [.ref cw, .int kd, .int mn])), (cw, .inl (cI, 258, .inl cf)), (wa, .inl (cI, 303, .inl (wrA 303 (itN (fun j w => wrA 303 w ((plc sf kd (rdA 258 cf 0) 0) + nI j) (rdA 258 cf (nI j))) i wf) ((plc sf kd (rdA 258 cf 0) 0) + (nI i)) (rdA 258 cf (nI i)))))] := hD
          refine lv_iinc (v := ((nI i) + 1)) (lv' := [(4, .int ((nI i) + 1)), (3, .int (plc sf kd (rdA 258 cf 0) 0)), (2, .int kd), (0, .ref to), (1, .ref co)]) hx hb d_T_keep_65 hl (k := 0) rfl rfl (by decide) rfl (fun ls hl => ?_)
          refine lv_goto (tgt := 39) hx hb d_T_keep_68 (by decide) ?_
          rw [nI_1] at hl
          exact kk_i _ _ _ ⟨hP.sub [0, 1, 4, 2, 3] rfl, hD.sub [0, 1, 4, 2, 3] (by decide) rfl, hS, lv_sub hl [0, 1, 2, 3, 4] rfl⟩
      · intro H locs ls hI0
        obtain ⟨hP, hD, hS, hl⟩ := hI0
        refine lv_iload hx hb d_T_keep_39 (lv_at hl 0 rfl) ?_
        refine lv_aload_n hx hb d_T_keep_41 rfl (lv_at hl 4 rfl) ?_
        refine va_getN (D := (dC, dI)) (ci := 0) (v := .int mn) (C := R_C) (T := F_C) (N := 3) hx hb ht tu_C hown hK hP 3 rfl rfl 2 (by decide) (va_Nw.use rfl (hE.1 _ nw_5)) (fun _ h9 => h9) rfl d_T_keep_42 ?_
        refine lv_icmp_ge (tgt := 71) hx hb d_T_keep_45 (by decide) (fun c_69 => ?_) (fun c_69 => ?_)
        · have hP9 := hP.sub (ws' := [(to, .inr (2, [.ref sa, .ref wa])), (sa, .inl (cI, 26, .inl sf)), (wa, .inl (cI, 303, .inl (itN (fun j w => wrA 303 w ((plc sf kd (rdA 258 cf 0) 0) + nI j) (rdA 258 cf (nI j))) mn.toNatClampNeg wf))), (co, .inr (0, [.ref cw, .int kd, .int mn])), (cw, .inl (cI, 258, .inl cf))]) [0, 1, 2, 3, 4] rfl
          have hD9 := hD.sub (ws' := [(to, .inr (2, [.ref sa, .ref wa])), (sa, .inl (cI, 26, .inl sf)), (wa, .inl (cI, 303, .inl (itN (fun j w => wrA 303 w ((plc sf kd (rdA 258 cf 0) 0) + nI j) (rdA 258 cf (nI j))) mn.toNatClampNeg wf))), (co, .inr (0, [.ref cw, .int kd, .int mn])), (cw, .inl (cI, 258, .inl cf))]) [0, 1, 2, 3, 4] (by decide) rfl
          exact W.vret hx hb hr (fun t ht9 hW => ⟨⟨(), rfl, trivial, by rw [ht9]; simp only [kpW, if_neg c_64, if_neg c_65, if_pos c_69]; exact hP9, va_K.moved hW.alike hK, by rw [hAe]; simp only [kpW, if_neg c_64, if_neg c_65, if_pos c_69]; exact hD9⟩, hS.F ht9⟩) hS.2.2 d_T_keep_71
        · exact absurd (lp_ge mn) c_69
  · have hP9 := hP.sub (ws' := [(to, .inr (2, [.ref sa, .ref wa])), (sa, .inl (cI, 26, .inl sf)), (wa, .inl (cI, 303, .inl wf)), (co, .inr (0, [.ref cw, .int kd, .int mn])), (cw, .inl (cI, 258, .inl cf))]) [0, 1, 2, 3, 4] rfl
    have hD9 := hD.sub (ws' := [(to, .inr (2, [.ref sa, .ref wa])), (sa, .inl (cI, 26, .inl sf)), (wa, .inl (cI, 303, .inl wf)), (co, .inr (0, [.ref cw, .int kd, .int mn])), (cw, .inl (cI, 258, .inl cf))]) [0, 1, 2, 3, 4] (by decide) rfl
    exact W.vret hx hb hr (fun t ht9 hW => ⟨⟨(), rfl, trivial, by rw [ht9]; simp only [kpW, if_pos c_64]; exact hP9, va_K.moved hW.alike hK, by rw [hAe]; simp only [kpW, if_pos c_64]; exact hD9⟩, hS.F ht9⟩) hS.2.2 d_T_keep_12
set_option maxHeartbeats 4000000 in
set_option maxRecDepth 100000 in
theorem c_T_forgetOne (l : Launch) (dC : Nat → ClassId) (dI : Nat → Nat → Nat) (tb : tbT) (to sa wa : Nat) (sf wf : IF) (cI : ClassId) (k9 n9 : Int32) (sz : Nat) : MV l y_T_forgetOne (Cond.code y_T_forgetOne b_T_forgetOne 6 none :: TB) ({ frames := 3, cells := 0, slots := 0, locals := 64 }) tb (dC, dI) [.ref to, .int k9, .int n9] [(to, .inr (2, [.ref sa, .ref wa])), (sa, .inl (cI, 26, .inl sf)), (wa, .inl (cI, 303, .inl wf))] [(to, .inr (2, [.ref sa, .ref wa])), (sa, .inl (cI, 26, .inl sf)), (wa, .inl (cI, 303, .inl (fgO sf k9 n9 wf)))] [(cI, .int)] sz := by
  refine Met.ofW (cc := b_T_forgetOne) (maxL := 6) (ret := none) (by decide) rfl ?_
  intro p e s m args below meth c s₁ B hml hv
  obtain ⟨rfl, hsz, hP, hK, hD0, hE⟩ := hv
  have hx := B.exec
  have hb := B.bytes
  have hr := B.returns
  have ht := fun w (h : w ∈ TB) => atoms_spec (ws := Cond.code y_T_forgetOne b_T_forgetOne 6 none :: TB) B.pre w (List.mem_cons_of_mem _ h)
  have hown : s.vm.findClass R_T = some m.cls := findClass_of_methodNamed B.named
  have hlocks := B.notSynchronized
  subst hsz
  have hD := hD0.self (sz := s.heap.size)
  generalize hAe : va_A [(to, .inr (2, [.ref sa, .ref wa])), (sa, .inl (cI, 26, .inl sf)), (wa, .inl (cI, 303, .inl wf))] s.heap.size = A at hD hE ⊢
  have hA : ∀ q : Nat, s.heap.size ≤ q → A q := fun q h => by rw [← hAe]; exact Or.inr h
  have hS : va_S A s.heap s.heap [] := va_S.rf
  have F : CallFix p m c b_T_forgetOne 6 s _ TB R_T := ⟨hx, hb, hml, hown, ht⟩
  have hl := lv_entry ([.ref to, .int k9, .int n9]) (n := 6) (Nat.le_of_ble_eq_true rfl)
  rw [lg_entry_eq]
  generalize (lg_sl ([.ref to, .int k9, .int n9]) ++ List.replicate (6 - (lg_sl ([.ref to, .int k9, .int n9])).length) Slot.unset).toArray = ls at hl ⊢
  have hl : lv_has ls 6 [(0, .ref to), (1, .int k9), (2, .int n9)] := hl
  refine lv_aload_n hx hb d_T_forgetOne_0 rfl (lv_at hl 0 rfl) ?_
  refine lv_iload_n hx hb d_T_forgetOne_1 rfl (lv_at hl 1 rfl) ?_
  refine lv_iload_n hx hb d_T_forgetOne_2 rfl (lv_at hl 2 rfl) ?_
  refine lv_iconst (v := 0) hx hb d_T_forgetOne_3 (by decide) ?_
  refine rcV (As := [.int k9, .int n9, .int 0]) (rest := []) (c_T_placeOf l dC dI tb to sa wa sf cI k9 n9 0 ) F tw_89 tw_29 tw_88 tw_1 tw_86 hP [0, 1] rfl hK [0] rfl hE hS (q0 := 0) rfl rfl hd_T_placeOf rfl rfl ⟨Nat.le_of_ble_eq_true rfl, Nat.le_of_ble_eq_true rfl⟩ ⟨Nat.le_of_ble_eq_true rfl, Nat.le_of_ble_eq_true rfl⟩ hl.1 rfl (Nat.le_of_ble_eq_true rfl) d_T_forgetOne_4 ?_
  refine lv_istore_n (lv' := [(3, .int (plc sf k9 n9 0)), (0, .ref to), (1, .int k9), (2, .int n9)]) hx hb d_T_forgetOne_7 rfl hl (by decide) rfl (fun ls hl => ?_)
  refine lv_iload_n hx hb d_T_forgetOne_8 rfl (lv_at hl 2 rfl) ?_
  refine rcS (As := [.int k9]) (rest := []) (c_S_fixed l dC dI tb k9 ) F tw_69 tw_30 tw_68 tw_67 hP [] rfl hK [] rfl hE hS hd_S_fixed rfl rfl ⟨Nat.le_of_ble_eq_true rfl, Nat.le_of_ble_eq_true rfl⟩ ⟨Nat.le_of_ble_eq_true rfl, Nat.le_of_ble_eq_true rfl⟩ hl.1 rfl (Nat.le_of_ble_eq_true rfl) d_T_forgetOne_9 ?_
  refine lv_istore (lv' := [(4, .int (fxd k9)), (3, .int (plc sf k9 n9 0)), (0, .ref to), (1, .int k9), (2, .int n9)]) hx hb d_T_forgetOne_12 hl (by decide) rfl (fun ls hl => ?_)
  refine lv_iconst (v := 0) hx hb d_T_forgetOne_14 (by decide) ?_
  refine lv_istore (lv' := [(5, .int 0), (4, .int (fxd k9)), (3, .int (plc sf k9 n9 0)), (0, .ref to), (1, .int k9), (2, .int n9)]) hx hb d_T_forgetOne_15 hl (by decide) rfl (fun ls hl => ?_)
  refine lp_W (N := (fxd k9).toNatClampNeg) (head := 17) (I := fun i H locs ls => va_P (dC, dI) clX [(to, .inr (2, [.ref sa, .ref wa])), (sa, .inl (cI, 26, .inl sf)), (wa, .inl (cI, 303, .inl (itN (fun j w => wrA 303 w (plc sf k9 n9 0 + nI j) (colm k9 (nI j) 2)) i wf)))] H ∧ va_D A [(to, .inr (2, [.ref sa, .ref wa])), (sa, .inl (cI, 26, .inl sf)), (wa, .inl (cI, 303, .inl (itN (fun j w => wrA 303 w (plc sf k9 n9 0 + nI j) (colm k9 (nI j) 2)) i wf)))] ∧ va_S A s.heap H locs ∧ lv_has ls 6 [(5, .int (nI i)), (4, .int (fxd k9)), (3, .int (plc sf k9 n9 0)), (0, .ref to), (1, .int k9), (2, .int n9)]) ?_ ?_ 0 (Nat.zero_le _) ⟨hP, hD, hS, lv_sub hl [0, 1, 2, 3, 4, 5] rfl⟩
  · intro i H locs ls hi_i hI0 kk_i
    obtain ⟨hP, hD, hS, hl⟩ := hI0
    refine lv_iload hx hb d_T_forgetOne_17 (lv_at hl 0 rfl) ?_
    refine lv_iload hx hb d_T_forgetOne_19 (lv_at hl 1 rfl) ?_
    refine lv_icmp_ge (tgt := 47) hx hb d_T_forgetOne_21 (by decide) (fun c_70 => ?_) (fun c_70 => ?_)
    · exact absurd c_70 (lp_lt hi_i)
    · refine lv_aload_n hx hb d_T_forgetOne_24 rfl (lv_at hl 3 rfl) ?_
      refine va_get (D := (dC, dI)) (ci := 2) (v := .ref wa) (C := R_T) (T := F_T) (N := 2) hx hb ht tu_T hown hK hP 0 rfl rfl 1 (by decide) (ht _ tw_103) (fun _ h9 => h9) rfl d_T_forgetOne_25 ?_
      refine lv_iload_n hx hb d_T_forgetOne_28 rfl (lv_at hl 2 rfl) ?_
      refine lv_iload hx hb d_T_forgetOne_29 (lv_at hl 0 rfl) ?_
      refine lv_iadd hx hb d_T_forgetOne_31 ?_
      refine lv_iload_n hx hb d_T_forgetOne_32 rfl (lv_at hl 4 rfl) ?_
      refine lv_iload hx hb d_T_forgetOne_33 (lv_at hl 0 rfl) ?_
      refine rcS (As := [.int k9, .int (nI i)]) (rest := [.int ((plc sf k9 n9 0) + (nI i)), .ref wa]) (c_S_untold l dC dI tb k9 (nI i) ) F tw_93 tw_30 tw_92 tw_91 hP [] rfl hK [] rfl hE hS hd_S_untold rfl rfl ⟨Nat.le_of_ble_eq_true rfl, Nat.le_of_ble_eq_true rfl⟩ ⟨Nat.le_of_ble_eq_true rfl, Nat.le_of_ble_eq_true rfl⟩ hl.1 rfl (Nat.le_of_ble_eq_true rfl) d_T_forgetOne_35 ?_
      refine mcSNv (As := [.ref wa, .int ((plc sf k9 n9 0) + (nI i)), .int (colm k9 (nI i) 2)]) (rest := []) (wr := [(to, .inr (2, [.ref sa, .ref wa])), (sa, .inl (cI, 26, .inl sf))]) (c_D_write l dC dI tb wa 303 (itN (fun j w => wrA 303 w (plc sf k9 n9 0 + nI j) (colm k9 (nI j) 2)) i wf) cI ((plc sf k9 n9 0) + (nI i)) (colm k9 (nI i) 2) (by decide)) F tw_58 tw_28 tw_57 nw_0 hP hD [2] [0, 1] rfl rfl (by decide) (by decide) (by decide) hK [0] rfl hE hS hA hd_D_write rfl rfl ⟨Nat.le_of_ble_eq_true rfl, Nat.le_of_ble_eq_true rfl⟩ ⟨Nat.le_of_ble_eq_true rfl, Nat.le_of_ble_eq_true rfl⟩ hl.1 rfl (Nat.le_of_ble_eq_true rfl) d_T_forgetOne_38 (fun H locs hP hD hS => ?_)
      have hP : va_P (dC, dI) clX [(to, .inr (2, [.ref sa, .ref wa])), (sa, .inl (cI, 26, .inl sf)), (wa, .inl (cI, 303, .inl (wrA 303 (itN (fun j w => wrA 303 w (plc sf k9 n9 0 + nI j) (colm k9 (nI j) 2)) i wf) ((plc sf k9 n9 0) + (nI i)) (colm k9 (nI i) 2))))] H := hP
      have hD : va_D A [(to, .inr (2, [.ref sa, .ref wa])), (sa, .inl (cI, 26, .inl sf)), (wa, .inl (cI, 303, .inl (wrA 303 (itN (fun j w => wrA 303 w (plc sf k9 n9 0 + nI j) (colm k9 (nI j) 2)) i wf) ((plc sf k9 n9 0) + (nI i)) (colm k9 (nI i) 2))))] := hD
      refine lv_iinc (v := ((nI i) + 1)) (lv' := [(5, .int ((nI i) + 1)), (4, .int (fxd k9)), (3, .int (plc sf k9 n9 0)), (0, .ref to), (1, .int k9), (2, .int n9)]) hx hb d_T_forgetOne_41 hl (k := 0) rfl rfl (by decide) rfl (fun ls hl => ?_)
      refine lv_goto (tgt := 17) hx hb d_T_forgetOne_44 (by decide) ?_
      rw [nI_1] at hl
      exact kk_i _ _ _ ⟨hP.sub [0, 1, 2] rfl, hD.sub [0, 1, 2] (by decide) rfl, hS, lv_sub hl [0, 1, 2, 3, 4, 5] rfl⟩
  · intro H locs ls hI0
    obtain ⟨hP, hD, hS, hl⟩ := hI0
    refine lv_iload hx hb d_T_forgetOne_17 (lv_at hl 0 rfl) ?_
    refine lv_iload hx hb d_T_forgetOne_19 (lv_at hl 1 rfl) ?_
    refine lv_icmp_ge (tgt := 47) hx hb d_T_forgetOne_21 (by decide) (fun c_71 => ?_) (fun c_71 => ?_)
    · refine lv_iload_n hx hb d_T_forgetOne_47 rfl (lv_at hl 4 rfl) ?_
      refine rcS (As := [.int k9]) (rest := []) (c_T_namesItsHolder l dC dI tb k9 ) F tw_101 tw_29 tw_100 tw_99 hP [] rfl hK [] rfl hE hS hd_T_namesItsHolder rfl rfl ⟨Nat.le_of_ble_eq_true rfl, Nat.le_of_ble_eq_true rfl⟩ ⟨Nat.le_of_ble_eq_true rfl, Nat.le_of_ble_eq_true rfl⟩ hl.1 rfl (Nat.le_of_ble_eq_true rfl) d_T_forgetOne_48 ?_
      refine lv_if_eq (tgt := 63) hx hb d_T_forgetOne_51 (by decide) (fun c_72 => ?_) (fun c_72 => ?_)
      · have hP9 := hP.sub (ws' := [(to, .inr (2, [.ref sa, .ref wa])), (sa, .inl (cI, 26, .inl sf)), (wa, .inl (cI, 303, .inl (itN (fun j w => wrA 303 w (plc sf k9 n9 0 + nI j) (colm k9 (nI j) 2)) ((fxd k9).toNatClampNeg) wf)))]) [0, 1, 2] rfl
        have hD9 := hD.sub (ws' := [(to, .inr (2, [.ref sa, .ref wa])), (sa, .inl (cI, 26, .inl sf)), (wa, .inl (cI, 303, .inl (itN (fun j w => wrA 303 w (plc sf k9 n9 0 + nI j) (colm k9 (nI j) 2)) ((fxd k9).toNatClampNeg) wf)))]) [0, 1, 2] (by decide) rfl
        exact W.vret hx hb hr (fun t ht9 hW => ⟨⟨(), rfl, trivial, by rw [ht9]; simp only [fgO, if_pos c_71, if_pos c_72]; exact hP9, va_K.moved hW.alike hK, by rw [hAe]; simp only [fgO, if_pos c_71, if_pos c_72]; exact hD9⟩, hS.F ht9⟩) hS.2.2 d_T_forgetOne_63
      · refine lv_aload_n hx hb d_T_forgetOne_54 rfl (lv_at hl 3 rfl) ?_
        refine va_get (D := (dC, dI)) (ci := 2) (v := .ref wa) (C := R_T) (T := F_T) (N := 2) hx hb ht tu_T hown hK hP 0 rfl rfl 1 (by decide) (ht _ tw_103) (fun _ h9 => h9) rfl d_T_forgetOne_55 ?_
        refine lv_iload_n hx hb d_T_forgetOne_58 rfl (lv_at hl 2 rfl) ?_
        refine lv_iload_n hx hb d_T_forgetOne_59 rfl (lv_at hl 5 rfl) ?_
        refine mcSNv (As := [.ref wa, .int (plc sf k9 n9 0), .int n9]) (rest := []) (wr := [(to, .inr (2, [.ref sa, .ref wa])), (sa, .inl (cI, 26, .inl sf))]) (c_D_write l dC dI tb wa 303 (itN (fun j w => wrA 303 w (plc sf k9 n9 0 + nI j) (colm k9 (nI j) 2)) ((fxd k9).toNatClampNeg) wf) cI (plc sf k9 n9 0) n9 (by decide)) F tw_58 tw_28 tw_57 nw_0 hP hD [2] [0, 1] rfl rfl (by decide) (by decide) (by decide) hK [0] rfl hE hS hA hd_D_write rfl rfl ⟨Nat.le_of_ble_eq_true rfl, Nat.le_of_ble_eq_true rfl⟩ ⟨Nat.le_of_ble_eq_true rfl, Nat.le_of_ble_eq_true rfl⟩ hl.1 rfl (Nat.le_of_ble_eq_true rfl) d_T_forgetOne_60 (fun H locs hP hD hS => ?_)
        have hP : va_P (dC, dI) clX [(to, .inr (2, [.ref sa, .ref wa])), (sa, .inl (cI, 26, .inl sf)), (wa, .inl (cI, 303, .inl (wrA 303 (itN (fun j w => wrA 303 w (plc sf k9 n9 0 + nI j) (colm k9 (nI j) 2)) ((fxd k9).toNatClampNeg) wf) (plc sf k9 n9 0) n9)))] H := hP
        have hD : va_D A [(to, .inr (2, [.ref sa, .ref wa])), (sa, .inl (cI, 26, .inl sf)), (wa, .inl (cI, 303, .inl (wrA 303 (itN (fun j w => wrA 303 w (plc sf k9 n9 0 + nI j) (colm k9 (nI j) 2)) ((fxd k9).toNatClampNeg) wf) (plc sf k9 n9 0) n9)))] := hD
        have hP9 := hP.sub (ws' := [(to, .inr (2, [.ref sa, .ref wa])), (sa, .inl (cI, 26, .inl sf)), (wa, .inl (cI, 303, .inl (wrA 303 (itN (fun j w => wrA 303 w (plc sf k9 n9 0 + nI j) (colm k9 (nI j) 2)) ((fxd k9).toNatClampNeg) wf) (plc sf k9 n9 0) n9)))]) [0, 1, 2] rfl
        have hD9 := hD.sub (ws' := [(to, .inr (2, [.ref sa, .ref wa])), (sa, .inl (cI, 26, .inl sf)), (wa, .inl (cI, 303, .inl (wrA 303 (itN (fun j w => wrA 303 w (plc sf k9 n9 0 + nI j) (colm k9 (nI j) 2)) ((fxd k9).toNatClampNeg) wf) (plc sf k9 n9 0) n9)))]) [0, 1, 2] (by decide) rfl
        exact W.vret hx hb hr (fun t ht9 hW => ⟨⟨(), rfl, trivial, by rw [ht9]; simp only [fgO, if_pos c_71, if_neg c_72]; exact hP9, va_K.moved hW.alike hK, by rw [hAe]; simp only [fgO, if_pos c_71, if_neg c_72]; exact hD9⟩, hS.F ht9⟩) hS.2.2 d_T_forgetOne_63
    · exact absurd (lp_ge (fxd k9)) c_71
set_option maxHeartbeats 4000000 in
set_option maxRecDepth 100000 in
theorem c_T_forget (l : Launch) (dC : Nat → ClassId) (dI : Nat → Nat → Nat) (tb : tbT) (to sa wa : Nat) (sf wf : IF) (cI : ClassId) (sz : Nat) : MV l y_T_forget (Cond.code y_T_forget b_T_forget 4 none :: TB) ({ frames := 4, cells := 0, slots := 0, locals := 89 }) tb (dC, dI) [.ref to] [(to, .inr (2, [.ref sa, .ref wa])), (sa, .inl (cI, 26, .inl sf)), (wa, .inl (cI, 303, .inl wf))] [(to, .inr (2, [.ref sa, .ref wa])), (sa, .inl (cI, 26, .inl sf)), (wa, .inl (cI, 303, .inl (fgA sf wf)))] [(cI, .int)] sz := by
  refine Met.ofW (cc := b_T_forget) (maxL := 4) (ret := none) (by decide) rfl ?_
  intro p e s m args below meth c s₁ B hml hv
  obtain ⟨rfl, hsz, hP, hK, hD0, hE⟩ := hv
  have hx := B.exec
  have hb := B.bytes
  have hr := B.returns
  have ht := fun w (h : w ∈ TB) => atoms_spec (ws := Cond.code y_T_forget b_T_forget 4 none :: TB) B.pre w (List.mem_cons_of_mem _ h)
  have hown : s.vm.findClass R_T = some m.cls := findClass_of_methodNamed B.named
  have hlocks := B.notSynchronized
  subst hsz
  have hD := hD0.self (sz := s.heap.size)
  generalize hAe : va_A [(to, .inr (2, [.ref sa, .ref wa])), (sa, .inl (cI, 26, .inl sf)), (wa, .inl (cI, 303, .inl wf))] s.heap.size = A at hD hE ⊢
  have hA : ∀ q : Nat, s.heap.size ≤ q → A q := fun q h => by rw [← hAe]; exact Or.inr h
  have hS : va_S A s.heap s.heap [] := va_S.rf
  have F : CallFix p m c b_T_forget 4 s _ TB R_T := ⟨hx, hb, hml, hown, ht⟩
  have hl := lv_entry ([.ref to]) (n := 4) (Nat.le_of_ble_eq_true rfl)
  rw [lg_entry_eq]
  generalize (lg_sl ([.ref to]) ++ List.replicate (4 - (lg_sl ([.ref to])).length) Slot.unset).toArray = ls at hl ⊢
  have hl : lv_has ls 4 [(0, .ref to)] := hl
  refine lv_iconst (v := 0) hx hb d_T_forget_0 (by decide) ?_
  refine lv_istore_n (lv' := [(1, .int 0), (0, .ref to)]) hx hb d_T_forget_1 rfl hl (by decide) rfl (fun ls hl => ?_)
  refine lp_W (N := (26 : Int32).toNatClampNeg) (head := 2) (I := fun i H locs ls => va_P (dC, dI) clX [(to, .inr (2, [.ref sa, .ref wa])), (sa, .inl (cI, 26, .inl sf)), (wa, .inl (cI, 303, .inl (itN (fun k w => itN (fun n w => fgO sf (nI k) (nI n) w) (hld (nI k)).toNatClampNeg w) i wf)))] H ∧ va_D A [(to, .inr (2, [.ref sa, .ref wa])), (sa, .inl (cI, 26, .inl sf)), (wa, .inl (cI, 303, .inl (itN (fun k w => itN (fun n w => fgO sf (nI k) (nI n) w) (hld (nI k)).toNatClampNeg w) i wf)))] ∧ va_S A s.heap H locs ∧ lv_has ls 4 [(1, .int (nI i)), (0, .ref to)]) ?_ ?_ 0 (Nat.zero_le _) ⟨hP, hD, hS, lv_sub hl [0, 1] rfl⟩
  · intro i H locs ls hi_i hI0 kk_i
    obtain ⟨hP, hD, hS, hl⟩ := hI0
    refine lv_iload_n hx hb d_T_forget_2 rfl (lv_at hl 0 rfl) ?_
    refine lv_bipush (v := 26) hx hb d_T_forget_3 (by decide) ?_
    refine lv_icmp_ge (tgt := 38) hx hb d_T_forget_5 (by decide) (fun c_73 => ?_) (fun c_73 => ?_)
    · exact absurd c_73 (lp_lt hi_i)
    · refine lv_iload_n hx hb d_T_forget_8 rfl (lv_at hl 0 rfl) ?_
      refine rcS (As := [.int (nI i)]) (rest := []) (c_S_holders l dC dI tb (nI i) ) F tw_61 tw_30 tw_60 tw_59 hP [] rfl hK [] rfl hE hS hd_S_holders rfl rfl ⟨Nat.le_of_ble_eq_true rfl, Nat.le_of_ble_eq_true rfl⟩ ⟨Nat.le_of_ble_eq_true rfl, Nat.le_of_ble_eq_true rfl⟩ hl.1 rfl (Nat.le_of_ble_eq_true rfl) d_T_forget_9 ?_
      refine lv_istore_n (lv' := [(2, .int (hld (nI i))), (1, .int (nI i)), (0, .ref to)]) hx hb d_T_forget_12 rfl hl (by decide) rfl (fun ls hl => ?_)
      refine lv_iconst (v := 0) hx hb d_T_forget_13 (by decide) ?_
      refine lv_istore_n (lv' := [(3, .int 0), (2, .int (hld (nI i))), (1, .int (nI i)), (0, .ref to)]) hx hb d_T_forget_14 rfl hl (by decide) rfl (fun ls hl => ?_)
      refine lp_W (N := (hld (nI i)).toNatClampNeg) (head := 15) (I := fun j H locs ls => va_P (dC, dI) clX [(to, .inr (2, [.ref sa, .ref wa])), (sa, .inl (cI, 26, .inl sf)), (wa, .inl (cI, 303, .inl (itN (fun n w => fgO sf (nI i) (nI n) w) j (itN (fun k w => itN (fun n w => fgO sf (nI k) (nI n) w) (hld (nI k)).toNatClampNeg w) i wf))))] H ∧ va_D A [(to, .inr (2, [.ref sa, .ref wa])), (sa, .inl (cI, 26, .inl sf)), (wa, .inl (cI, 303, .inl (itN (fun n w => fgO sf (nI i) (nI n) w) j (itN (fun k w => itN (fun n w => fgO sf (nI k) (nI n) w) (hld (nI k)).toNatClampNeg w) i wf))))] ∧ va_S A s.heap H locs ∧ lv_has ls 4 [(3, .int (nI j)), (2, .int (hld (nI i))), (1, .int (nI i)), (0, .ref to)]) ?_ ?_ 0 (Nat.zero_le _) ⟨hP, hD, hS, lv_sub hl [0, 1, 2, 3] rfl⟩
      · intro j H locs ls hi_j hI0 kk_j
        obtain ⟨hP, hD, hS, hl⟩ := hI0
        refine lv_iload_n hx hb d_T_forget_15 rfl (lv_at hl 0 rfl) ?_
        refine lv_iload_n hx hb d_T_forget_16 rfl (lv_at hl 1 rfl) ?_
        refine lv_icmp_ge (tgt := 32) hx hb d_T_forget_17 (by decide) (fun c_74 => ?_) (fun c_74 => ?_)
        · exact absurd c_74 (lp_lt hi_j)
        · refine lv_aload_n hx hb d_T_forget_20 rfl (lv_at hl 3 rfl) ?_
          refine lv_iload_n hx hb d_T_forget_21 rfl (lv_at hl 2 rfl) ?_
          refine lv_iload_n hx hb d_T_forget_22 rfl (lv_at hl 0 rfl) ?_
          refine mcVv (As := [.int (nI i), .int (nI j)]) (rest := []) (wr := []) (c_T_forgetOne l dC dI tb to sa wa sf (itN (fun n w => fgO sf (nI i) (nI n) w) j (itN (fun k w => itN (fun n w => fgO sf (nI k) (nI n) w) (hld (nI k)).toNatClampNeg w) i wf)) cI (nI i) (nI j) ) F tw_85 tw_29 tw_84 tw_0 tw_82 hP hD [0, 1, 2] [] rfl rfl (by decide) (by decide) (by decide) hK [0] rfl hE hS hA (q0 := 0) rfl rfl hd_T_forgetOne rfl rfl ⟨Nat.le_of_ble_eq_true rfl, Nat.le_of_ble_eq_true rfl⟩ ⟨Nat.le_of_ble_eq_true rfl, Nat.le_of_ble_eq_true rfl⟩ hl.1 rfl (Nat.le_of_ble_eq_true rfl) d_T_forget_23 (fun H locs hP hD hS => ?_)
          have hP : va_P (dC, dI) clX [(to, .inr (2, [.ref sa, .ref wa])), (sa, .inl (cI, 26, .inl sf)), (wa, .inl (cI, 303, .inl (fgO sf (nI i) (nI j) (itN (fun n w => fgO sf (nI i) (nI n) w) j (itN (fun k w => itN (fun n w => fgO sf (nI k) (nI n) w) (hld (nI k)).toNatClampNeg w) i wf)))))] H := hP
          have hD : va_D A [(to, .inr (2, [.ref sa, .ref wa])), (sa, .inl (cI, 26, .inl sf)), (wa, .inl (cI, 303, .inl (fgO sf (nI i) (nI j) (itN (fun n w => fgO sf (nI i) (nI n) w) j (itN (fun k w => itN (fun n w => fgO sf (nI k) (nI n) w) (hld (nI k)).toNatClampNeg w) i wf)))))] := hD
          refine lv_iinc (v := ((nI j) + 1)) (lv' := [(3, .int ((nI j) + 1)), (2, .int (hld (nI i))), (1, .int (nI i)), (0, .ref to)]) hx hb d_T_forget_26 hl (k := 0) rfl rfl (by decide) rfl (fun ls hl => ?_)
          refine lv_goto (tgt := 15) hx hb d_T_forget_29 (by decide) ?_
          rw [nI_1] at hl
          exact kk_j _ _ _ ⟨hP.sub [0, 1, 2] rfl, hD.sub [0, 1, 2] (by decide) rfl, hS, lv_sub hl [0, 1, 2, 3] rfl⟩
      · intro H locs ls hI0
        obtain ⟨hP, hD, hS, hl⟩ := hI0
        refine lv_iload_n hx hb d_T_forget_15 rfl (lv_at hl 0 rfl) ?_
        refine lv_iload_n hx hb d_T_forget_16 rfl (lv_at hl 1 rfl) ?_
        refine lv_icmp_ge (tgt := 32) hx hb d_T_forget_17 (by decide) (fun c_75 => ?_) (fun c_75 => ?_)
        · refine lv_iinc (v := ((nI i) + 1)) (lv' := [(1, .int ((nI i) + 1)), (3, .int (nI ((hld (nI i)).toNatClampNeg))), (2, .int (hld (nI i))), (0, .ref to)]) hx hb d_T_forget_32 hl (k := 2) rfl rfl (by decide) rfl (fun ls hl => ?_)
          refine lv_goto (tgt := 2) hx hb d_T_forget_35 (by decide) ?_
          rw [nI_1] at hl
          exact kk_i _ _ _ ⟨hP.sub [0, 1, 2] rfl, hD.sub [0, 1, 2] (by decide) rfl, hS, lv_sub hl [0, 3] rfl⟩
        · exact absurd (lp_ge (hld (nI i))) c_75
  · intro H locs ls hI0
    obtain ⟨hP, hD, hS, hl⟩ := hI0
    refine lv_iload_n hx hb d_T_forget_2 rfl (lv_at hl 0 rfl) ?_
    refine lv_bipush (v := 26) hx hb d_T_forget_3 (by decide) ?_
    refine lv_icmp_ge (tgt := 38) hx hb d_T_forget_5 (by decide) (fun c_76 => ?_) (fun c_76 => ?_)
    · have hP9 := hP.sub (ws' := [(to, .inr (2, [.ref sa, .ref wa])), (sa, .inl (cI, 26, .inl sf)), (wa, .inl (cI, 303, .inl (itN (fun k w => itN (fun n w => fgO sf (nI k) (nI n) w) (hld (nI k)).toNatClampNeg w) ((26 : Int32).toNatClampNeg) wf)))]) [0, 1, 2] rfl
      have hD9 := hD.sub (ws' := [(to, .inr (2, [.ref sa, .ref wa])), (sa, .inl (cI, 26, .inl sf)), (wa, .inl (cI, 303, .inl (itN (fun k w => itN (fun n w => fgO sf (nI k) (nI n) w) (hld (nI k)).toNatClampNeg w) ((26 : Int32).toNatClampNeg) wf)))]) [0, 1, 2] (by decide) rfl
      exact W.vret hx hb hr (fun t ht9 hW => ⟨⟨(), rfl, trivial, by rw [ht9]; exact hP9, va_K.moved hW.alike hK, by rw [hAe]; exact hD9⟩, hS.F ht9⟩) hS.2.2 d_T_forget_38
    · exact absurd (lp_ge (26 : Int32)) c_76
set_option maxHeartbeats 4000000 in
set_option maxRecDepth 100000 in
theorem c_D_startAnew (l : Launch) (dC : Nat → ClassId) (dI : Nat → Nat → Nat) (tb : tbT) (x me sm to co ru : Nat) (sl fw fh : Int32) (bk : Nat) (pl dp lp ld dn rf qu ov : Int32) (cw : Nat) (kd mn : Int32) (sz : Nat) : MV l y_D_startAnew (Cond.code y_D_startAnew b_D_startAnew 1 none :: TB) ({ frames := 2, cells := 0, slots := 0, locals := 42 }) tb (dC, dI) [.ref x] [(x, .inr (3, [.ref me, .ref sm, .ref to, .ref co, .ref ru, .int sl, .int fw, .int fh])), (ru, .inr (1, [.ref bk, .int pl, .int dp, .int lp, .int ld, .int dn, .int rf, .int qu, .int ov])), (co, .inr (0, [.ref cw, .int kd, .int mn]))] [(x, .inr (3, [.ref me, .ref sm, .ref to, .ref co, .ref ru, .int sl, .int fw, .int fh])), (ru, .inr (1, [.ref bk, .int 0, .int 0, .int (-1), .int (-1), .int 0, .int 0, .int (-1), .int 0])), (co, .inr (0, [.ref cw, .int 0, .int 0]))] [] sz := by
  refine Met.ofW (cc := b_D_startAnew) (maxL := 1) (ret := none) (by decide) rfl ?_
  intro p e s m args below meth c s₁ B hml hv
  obtain ⟨rfl, hsz, hP, hK, hD0, hE⟩ := hv
  have hx := B.exec
  have hb := B.bytes
  have hr := B.returns
  have ht := fun w (h : w ∈ TB) => atoms_spec (ws := Cond.code y_D_startAnew b_D_startAnew 1 none :: TB) B.pre w (List.mem_cons_of_mem _ h)
  have hown : s.vm.findClass R_D = some m.cls := findClass_of_methodNamed B.named
  have hlocks := B.notSynchronized
  subst hsz
  have hD := hD0.self (sz := s.heap.size)
  generalize hAe : va_A [(x, .inr (3, [.ref me, .ref sm, .ref to, .ref co, .ref ru, .int sl, .int fw, .int fh])), (ru, .inr (1, [.ref bk, .int pl, .int dp, .int lp, .int ld, .int dn, .int rf, .int qu, .int ov])), (co, .inr (0, [.ref cw, .int kd, .int mn]))] s.heap.size = A at hD hE ⊢
  have hA : ∀ q : Nat, s.heap.size ≤ q → A q := fun q h => by rw [← hAe]; exact Or.inr h
  have hS : va_S A s.heap s.heap [] := va_S.rf
  have F : CallFix p m c b_D_startAnew 1 s _ TB R_D := ⟨hx, hb, hml, hown, ht⟩
  have hl := lv_entry ([.ref x]) (n := 1) (Nat.le_of_ble_eq_true rfl)
  rw [lg_entry_eq]
  generalize (lg_sl ([.ref x]) ++ List.replicate (1 - (lg_sl ([.ref x])).length) Slot.unset).toArray = ls at hl ⊢
  have hl : lv_has ls 1 [(0, .ref x)] := hl
  refine lv_aload_n hx hb d_D_startAnew_0 rfl (lv_at hl 0 rfl) ?_
  refine va_get (D := (dC, dI)) (ci := 3) (v := .ref co) (C := R_D) (T := F_D) (N := 8) hx hb ht tu_D hown hK hP 0 rfl rfl 3 (by decide) (ht _ tw_179) (fun _ h9 => h9) rfl d_D_startAnew_1 ?_
  refine mcVv (As := []) (rest := []) (wr := [(x, .inr (3, [.ref me, .ref sm, .ref to, .ref co, .ref ru, .int sl, .int fw, .int fh])), (ru, .inr (1, [.ref bk, .int pl, .int dp, .int lp, .int ld, .int dn, .int rf, .int qu, .int ov]))]) (c_C_forget l dC dI tb co cw kd mn ) F tw_212 tw_32 tw_210 tw_211 tw_209 hP hD [2] [0, 1] rfl rfl (by decide) (by decide) (by decide) hK [] rfl hE hS hA (q0 := 2) rfl rfl hd_C_forget rfl rfl ⟨Nat.le_of_ble_eq_true rfl, Nat.le_of_ble_eq_true rfl⟩ ⟨Nat.le_of_ble_eq_true rfl, Nat.le_of_ble_eq_true rfl⟩ hl.1 rfl (Nat.le_of_ble_eq_true rfl) d_D_startAnew_4 (fun H locs hP hD hS => ?_)
  have hP : va_P (dC, dI) clX [(x, .inr (3, [.ref me, .ref sm, .ref to, .ref co, .ref ru, .int sl, .int fw, .int fh])), (ru, .inr (1, [.ref bk, .int pl, .int dp, .int lp, .int ld, .int dn, .int rf, .int qu, .int ov])), (co, .inr (0, [.ref cw, .int 0, .int 0]))] H := hP
  have hD : va_D A [(x, .inr (3, [.ref me, .ref sm, .ref to, .ref co, .ref ru, .int sl, .int fw, .int fh])), (ru, .inr (1, [.ref bk, .int pl, .int dp, .int lp, .int ld, .int dn, .int rf, .int qu, .int ov])), (co, .inr (0, [.ref cw, .int 0, .int 0]))] := hD
  refine lv_aload_n hx hb d_D_startAnew_7 rfl (lv_at hl 0 rfl) ?_
  refine va_get (D := (dC, dI)) (ci := 3) (v := .ref ru) (C := R_D) (T := F_D) (N := 8) hx hb ht tu_D hown hK hP 0 rfl rfl 4 (by decide) (ht _ tw_180) (fun _ h9 => h9) rfl d_D_startAnew_8 ?_
  refine mcVv (As := []) (rest := []) (wr := [(x, .inr (3, [.ref me, .ref sm, .ref to, .ref co, .ref ru, .int sl, .int fw, .int fh])), (co, .inr (0, [.ref cw, .int 0, .int 0]))]) (c_R_restart l dC dI tb ru bk pl dp lp ld dn rf qu ov ) F tw_139 tw_33 tw_137 tw_138 tw_217 hP hD [1] [0, 2] rfl rfl (by decide) (by decide) (by decide) hK [] rfl hE hS hA (q0 := 1) rfl rfl hd_R_restart rfl rfl ⟨Nat.le_of_ble_eq_true rfl, Nat.le_of_ble_eq_true rfl⟩ ⟨Nat.le_of_ble_eq_true rfl, Nat.le_of_ble_eq_true rfl⟩ hl.1 rfl (Nat.le_of_ble_eq_true rfl) d_D_startAnew_11 (fun H locs hP hD hS => ?_)
  have hP : va_P (dC, dI) clX [(x, .inr (3, [.ref me, .ref sm, .ref to, .ref co, .ref ru, .int sl, .int fw, .int fh])), (co, .inr (0, [.ref cw, .int 0, .int 0])), (ru, .inr (1, [.ref bk, .int 0, .int 0, .int (-1), .int (-1), .int 0, .int 0, .int (-1), .int 0]))] H := hP
  have hD : va_D A [(x, .inr (3, [.ref me, .ref sm, .ref to, .ref co, .ref ru, .int sl, .int fw, .int fh])), (co, .inr (0, [.ref cw, .int 0, .int 0])), (ru, .inr (1, [.ref bk, .int 0, .int 0, .int (-1), .int (-1), .int 0, .int 0, .int (-1), .int 0]))] := hD
  have hP9 := hP.sub (ws' := [(x, .inr (3, [.ref me, .ref sm, .ref to, .ref co, .ref ru, .int sl, .int fw, .int fh])), (ru, .inr (1, [.ref bk, .int 0, .int 0, .int (-1), .int (-1), .int 0, .int 0, .int (-1), .int 0])), (co, .inr (0, [.ref cw, .int 0, .int 0]))]) [0, 2, 1] rfl
  have hD9 := hD.sub (ws' := [(x, .inr (3, [.ref me, .ref sm, .ref to, .ref co, .ref ru, .int sl, .int fw, .int fh])), (ru, .inr (1, [.ref bk, .int 0, .int 0, .int (-1), .int (-1), .int 0, .int 0, .int (-1), .int 0])), (co, .inr (0, [.ref cw, .int 0, .int 0]))]) [0, 2, 1] (by decide) rfl
  exact W.vret hx hb hr (fun t ht9 hW => ⟨⟨(), rfl, trivial, by rw [ht9]; exact hP9, va_K.moved hW.alike hK, by rw [hAe]; exact hD9⟩, hS.F ht9⟩) hS.2.2 d_D_startAnew_14
set_option maxHeartbeats 4000000 in
set_option maxRecDepth 100000 in
theorem c_D_clear (l : Launch) (dC : Nat → ClassId) (dI : Nat → Nat → Nat) (tb : tbT) (x me sm to co ru : Nat) (sl fw fh : Int32) (bk : Nat) (pl dp lp ld dn rf qu ov : Int32) (cw : Nat) (kd mn : Int32) (sz : Nat) : MV l y_D_clear (Cond.code y_D_clear b_D_clear 1 none :: TB) ({ frames := 3, cells := 0, slots := 0, locals := 62 }) tb (dC, dI) [.ref x] [(x, .inr (3, [.ref me, .ref sm, .ref to, .ref co, .ref ru, .int sl, .int fw, .int fh])), (ru, .inr (1, [.ref bk, .int pl, .int dp, .int lp, .int ld, .int dn, .int rf, .int qu, .int ov])), (co, .inr (0, [.ref cw, .int kd, .int mn]))] [(x, .inr (3, [.ref me, .ref sm, .ref to, .ref co, .ref ru, .int 0, .int fw, .int fh])), (ru, .inr (1, [.ref bk, .int 0, .int 0, .int (-1), .int (-1), .int 0, .int 0, .int (-1), .int 0])), (co, .inr (0, [.ref cw, .int 0, .int 0]))] [] sz := by
  refine Met.ofW (cc := b_D_clear) (maxL := 1) (ret := none) (by decide) rfl ?_
  intro p e s m args below meth c s₁ B hml hv
  obtain ⟨rfl, hsz, hP, hK, hD0, hE⟩ := hv
  have hx := B.exec
  have hb := B.bytes
  have hr := B.returns
  have ht := fun w (h : w ∈ TB) => atoms_spec (ws := Cond.code y_D_clear b_D_clear 1 none :: TB) B.pre w (List.mem_cons_of_mem _ h)
  have hown : s.vm.findClass R_D = some m.cls := findClass_of_methodNamed B.named
  have hlocks := B.notSynchronized
  subst hsz
  have hD := hD0.self (sz := s.heap.size)
  generalize hAe : va_A [(x, .inr (3, [.ref me, .ref sm, .ref to, .ref co, .ref ru, .int sl, .int fw, .int fh])), (ru, .inr (1, [.ref bk, .int pl, .int dp, .int lp, .int ld, .int dn, .int rf, .int qu, .int ov])), (co, .inr (0, [.ref cw, .int kd, .int mn]))] s.heap.size = A at hD hE ⊢
  have hA : ∀ q : Nat, s.heap.size ≤ q → A q := fun q h => by rw [← hAe]; exact Or.inr h
  have hS : va_S A s.heap s.heap [] := va_S.rf
  have F : CallFix p m c b_D_clear 1 s _ TB R_D := ⟨hx, hb, hml, hown, ht⟩
  have hl := lv_entry ([.ref x]) (n := 1) (Nat.le_of_ble_eq_true rfl)
  rw [lg_entry_eq]
  generalize (lg_sl ([.ref x]) ++ List.replicate (1 - (lg_sl ([.ref x])).length) Slot.unset).toArray = ls at hl ⊢
  have hl : lv_has ls 1 [(0, .ref x)] := hl
  refine lv_aload_n hx hb d_D_clear_0 rfl (lv_at hl 0 rfl) ?_
  refine lv_iconst (v := 0) hx hb d_D_clear_1 (by decide) ?_
  refine va_put (D := (dC, dI)) (ci := 3) (v := .int 0) (ty := .int) (C := R_D) (T := F_D) (N := 8) hx hb ht tu_D ft_D ft_D_ok n_D hown hK hP hD hS 0 rfl rfl 5 (by decide) (ht _ tw_181) (fun _ h9 => h9) rfl (by decide +kernel) rfl rfl (Nat.le_of_ble_eq_true rfl) d_D_clear_2 (fun H locs hP hD hS => ?_)
  have hP : va_P (dC, dI) clX [(x, .inr (3, [.ref me, .ref sm, .ref to, .ref co, .ref ru, .int 0, .int fw, .int fh])), (ru, .inr (1, [.ref bk, .int pl, .int dp, .int lp, .int ld, .int dn, .int rf, .int qu, .int ov])), (co, .inr (0, [.ref cw, .int kd, .int mn]))] H := hP
  have hD : va_D A [(x, .inr (3, [.ref me, .ref sm, .ref to, .ref co, .ref ru, .int 0, .int fw, .int fh])), (ru, .inr (1, [.ref bk, .int pl, .int dp, .int lp, .int ld, .int dn, .int rf, .int qu, .int ov])), (co, .inr (0, [.ref cw, .int kd, .int mn]))] := hD
  refine lv_aload_n hx hb d_D_clear_5 rfl (lv_at hl 0 rfl) ?_
  refine mcVv (As := []) (rest := []) (wr := []) (c_D_startAnew l dC dI tb x me sm to co ru 0 fw fh bk pl dp lp ld dn rf qu ov cw kd mn ) F tw_208 tw_28 tw_207 tw_2 tw_205 hP hD [0, 1, 2] [] rfl rfl (by decide) (by decide) (by decide) hK [] rfl hE hS hA (q0 := 0) rfl rfl hd_D_startAnew rfl rfl ⟨Nat.le_of_ble_eq_true rfl, Nat.le_of_ble_eq_true rfl⟩ ⟨Nat.le_of_ble_eq_true rfl, Nat.le_of_ble_eq_true rfl⟩ hl.1 rfl (Nat.le_of_ble_eq_true rfl) d_D_clear_6 (fun H locs hP hD hS => ?_)
  have hP : va_P (dC, dI) clX [(x, .inr (3, [.ref me, .ref sm, .ref to, .ref co, .ref ru, .int 0, .int fw, .int fh])), (ru, .inr (1, [.ref bk, .int 0, .int 0, .int (-1), .int (-1), .int 0, .int 0, .int (-1), .int 0])), (co, .inr (0, [.ref cw, .int 0, .int 0]))] H := hP
  have hD : va_D A [(x, .inr (3, [.ref me, .ref sm, .ref to, .ref co, .ref ru, .int 0, .int fw, .int fh])), (ru, .inr (1, [.ref bk, .int 0, .int 0, .int (-1), .int (-1), .int 0, .int 0, .int (-1), .int 0])), (co, .inr (0, [.ref cw, .int 0, .int 0]))] := hD
  have hP9 := hP.sub (ws' := [(x, .inr (3, [.ref me, .ref sm, .ref to, .ref co, .ref ru, .int 0, .int fw, .int fh])), (ru, .inr (1, [.ref bk, .int 0, .int 0, .int (-1), .int (-1), .int 0, .int 0, .int (-1), .int 0])), (co, .inr (0, [.ref cw, .int 0, .int 0]))]) [0, 1, 2] rfl
  have hD9 := hD.sub (ws' := [(x, .inr (3, [.ref me, .ref sm, .ref to, .ref co, .ref ru, .int 0, .int fw, .int fh])), (ru, .inr (1, [.ref bk, .int 0, .int 0, .int (-1), .int (-1), .int 0, .int 0, .int (-1), .int 0])), (co, .inr (0, [.ref cw, .int 0, .int 0]))]) [0, 1, 2] (by decide) rfl
  exact W.vret hx hb hr (fun t ht9 hW => ⟨⟨(), rfl, trivial, by rw [ht9]; exact hP9, va_K.moved hW.alike hK, by rw [hAe]; exact hD9⟩, hS.F ht9⟩) hS.2.2 d_D_clear_9
set_option maxHeartbeats 4000000 in
set_option maxRecDepth 100000 in
theorem c_D_begin (l : Launch) (dC : Nat → ClassId) (dI : Nat → Nat → Nat) (tb : tbT) (x me sm to co ru : Nat) (sl fw fh : Int32) (bk : Nat) (pl dp lp ld dn rf qu ov : Int32) (cw : Nat) (kd mn : Int32) (sa wa : Nat) (sf wf : IF) (cI : ClassId) (k9 : Int32) (sz : Nat) : MV l y_D_begin (Cond.code y_D_begin b_D_begin 2 none :: TB) ({ frames := 5, cells := 0, slots := 0, locals := 112 }) tb (dC, dI) [.ref x, .int k9] [(x, .inr (3, [.ref me, .ref sm, .ref to, .ref co, .ref ru, .int sl, .int fw, .int fh])), (ru, .inr (1, [.ref bk, .int pl, .int dp, .int lp, .int ld, .int dn, .int rf, .int qu, .int ov])), (co, .inr (0, [.ref cw, .int kd, .int mn])), (to, .inr (2, [.ref sa, .ref wa])), (sa, .inl (cI, 26, .inl sf)), (wa, .inl (cI, 303, .inl wf))] [(x, .inr (3, [.ref me, .ref sm, .ref to, .ref co, .ref ru, .int sl, .int fw, .int fh])), (ru, .inr (1, [.ref bk, .int 0, .int 0, .int (-1), .int (-1), .int 0, .int 0, .int (-1), .int 0])), (co, .inr (0, [.ref cw, .int 0, .int 0])), (to, .inr (2, [.ref sa, .ref wa])), (sa, .inl (cI, 26, .inl sf)), (wa, .inl (cI, 303, .inl (if k9 = 0 then fgA sf wf else wf)))] [(cI, .int)] sz := by
  refine Met.ofW (cc := b_D_begin) (maxL := 2) (ret := none) (by decide) rfl ?_
  intro p e s m args below meth c s₁ B hml hv
  obtain ⟨rfl, hsz, hP, hK, hD0, hE⟩ := hv
  have hx := B.exec
  have hb := B.bytes
  have hr := B.returns
  have ht := fun w (h : w ∈ TB) => atoms_spec (ws := Cond.code y_D_begin b_D_begin 2 none :: TB) B.pre w (List.mem_cons_of_mem _ h)
  have hown : s.vm.findClass R_D = some m.cls := findClass_of_methodNamed B.named
  have hlocks := B.notSynchronized
  subst hsz
  have hD := hD0.self (sz := s.heap.size)
  generalize hAe : va_A [(x, .inr (3, [.ref me, .ref sm, .ref to, .ref co, .ref ru, .int sl, .int fw, .int fh])), (ru, .inr (1, [.ref bk, .int pl, .int dp, .int lp, .int ld, .int dn, .int rf, .int qu, .int ov])), (co, .inr (0, [.ref cw, .int kd, .int mn])), (to, .inr (2, [.ref sa, .ref wa])), (sa, .inl (cI, 26, .inl sf)), (wa, .inl (cI, 303, .inl wf))] s.heap.size = A at hD hE ⊢
  have hA : ∀ q : Nat, s.heap.size ≤ q → A q := fun q h => by rw [← hAe]; exact Or.inr h
  have hS : va_S A s.heap s.heap [] := va_S.rf
  have F : CallFix p m c b_D_begin 2 s _ TB R_D := ⟨hx, hb, hml, hown, ht⟩
  have hl := lv_entry ([.ref x, .int k9]) (n := 2) (Nat.le_of_ble_eq_true rfl)
  rw [lg_entry_eq]
  generalize (lg_sl ([.ref x, .int k9]) ++ List.replicate (2 - (lg_sl ([.ref x, .int k9])).length) Slot.unset).toArray = ls at hl ⊢
  have hl : lv_has ls 2 [(0, .ref x), (1, .int k9)] := hl
  refine lv_iload_n hx hb d_D_begin_0 rfl (lv_at hl 1 rfl) ?_
  refine lv_if_ne (tgt := 11) hx hb d_D_begin_1 (by decide) (fun c_77 => ?_) (fun c_77 => ?_)
  · refine lv_aload_n hx hb d_D_begin_11 rfl (lv_at hl 0 rfl) ?_
    refine mcVv (As := []) (rest := []) (wr := [(to, .inr (2, [.ref sa, .ref wa])), (sa, .inl (cI, 26, .inl sf)), (wa, .inl (cI, 303, .inl wf))]) (c_D_startAnew l dC dI tb x me sm to co ru sl fw fh bk pl dp lp ld dn rf qu ov cw kd mn ) F tw_208 tw_28 tw_207 tw_2 tw_205 hP hD [0, 1, 2] [3, 4, 5] rfl rfl (by decide) (by decide) (by decide) hK [] rfl hE hS hA (q0 := 0) rfl rfl hd_D_startAnew rfl rfl ⟨Nat.le_of_ble_eq_true rfl, Nat.le_of_ble_eq_true rfl⟩ ⟨Nat.le_of_ble_eq_true rfl, Nat.le_of_ble_eq_true rfl⟩ hl.1 rfl (Nat.le_of_ble_eq_true rfl) d_D_begin_12 (fun H locs hP hD hS => ?_)
    have hP : va_P (dC, dI) clX [(to, .inr (2, [.ref sa, .ref wa])), (sa, .inl (cI, 26, .inl sf)), (wa, .inl (cI, 303, .inl wf)), (x, .inr (3, [.ref me, .ref sm, .ref to, .ref co, .ref ru, .int sl, .int fw, .int fh])), (ru, .inr (1, [.ref bk, .int 0, .int 0, .int (-1), .int (-1), .int 0, .int 0, .int (-1), .int 0])), (co, .inr (0, [.ref cw, .int 0, .int 0]))] H := hP
    have hD : va_D A [(to, .inr (2, [.ref sa, .ref wa])), (sa, .inl (cI, 26, .inl sf)), (wa, .inl (cI, 303, .inl wf)), (x, .inr (3, [.ref me, .ref sm, .ref to, .ref co, .ref ru, .int sl, .int fw, .int fh])), (ru, .inr (1, [.ref bk, .int 0, .int 0, .int (-1), .int (-1), .int 0, .int 0, .int (-1), .int 0])), (co, .inr (0, [.ref cw, .int 0, .int 0]))] := hD
    have hP9 := hP.sub (ws' := [(x, .inr (3, [.ref me, .ref sm, .ref to, .ref co, .ref ru, .int sl, .int fw, .int fh])), (ru, .inr (1, [.ref bk, .int 0, .int 0, .int (-1), .int (-1), .int 0, .int 0, .int (-1), .int 0])), (co, .inr (0, [.ref cw, .int 0, .int 0])), (to, .inr (2, [.ref sa, .ref wa])), (sa, .inl (cI, 26, .inl sf)), (wa, .inl (cI, 303, .inl wf))]) [3, 4, 5, 0, 1, 2] rfl
    have hD9 := hD.sub (ws' := [(x, .inr (3, [.ref me, .ref sm, .ref to, .ref co, .ref ru, .int sl, .int fw, .int fh])), (ru, .inr (1, [.ref bk, .int 0, .int 0, .int (-1), .int (-1), .int 0, .int 0, .int (-1), .int 0])), (co, .inr (0, [.ref cw, .int 0, .int 0])), (to, .inr (2, [.ref sa, .ref wa])), (sa, .inl (cI, 26, .inl sf)), (wa, .inl (cI, 303, .inl wf))]) [3, 4, 5, 0, 1, 2] (by decide) rfl
    exact W.vret hx hb hr (fun t ht9 hW => ⟨⟨(), rfl, trivial, by rw [ht9]; simp only [if_neg c_77]; exact hP9, va_K.moved hW.alike hK, by rw [hAe]; simp only [if_neg c_77]; exact hD9⟩, hS.F ht9⟩) hS.2.2 d_D_begin_15
  · refine lv_aload_n hx hb d_D_begin_4 rfl (lv_at hl 0 rfl) ?_
    refine va_get (D := (dC, dI)) (ci := 3) (v := .ref to) (C := R_D) (T := F_D) (N := 8) hx hb ht tu_D hown hK hP 0 rfl rfl 2 (by decide) (ht _ tw_178) (fun _ h9 => h9) rfl d_D_begin_5 ?_
    refine mcVv (As := []) (rest := []) (wr := [(x, .inr (3, [.ref me, .ref sm, .ref to, .ref co, .ref ru, .int sl, .int fw, .int fh])), (ru, .inr (1, [.ref bk, .int pl, .int dp, .int lp, .int ld, .int dn, .int rf, .int qu, .int ov])), (co, .inr (0, [.ref cw, .int kd, .int mn]))]) (c_T_forget l dC dI tb to sa wa sf wf cI ) F tw_81 tw_29 tw_79 tw_80 tw_222 hP hD [3, 4, 5] [0, 1, 2] rfl rfl (by decide) (by decide) (by decide) hK [0] rfl hE hS hA (q0 := 3) rfl rfl hd_T_forget rfl rfl ⟨Nat.le_of_ble_eq_true rfl, Nat.le_of_ble_eq_true rfl⟩ ⟨Nat.le_of_ble_eq_true rfl, Nat.le_of_ble_eq_true rfl⟩ hl.1 rfl (Nat.le_of_ble_eq_true rfl) d_D_begin_8 (fun H locs hP hD hS => ?_)
    have hP : va_P (dC, dI) clX [(x, .inr (3, [.ref me, .ref sm, .ref to, .ref co, .ref ru, .int sl, .int fw, .int fh])), (ru, .inr (1, [.ref bk, .int pl, .int dp, .int lp, .int ld, .int dn, .int rf, .int qu, .int ov])), (co, .inr (0, [.ref cw, .int kd, .int mn])), (to, .inr (2, [.ref sa, .ref wa])), (sa, .inl (cI, 26, .inl sf)), (wa, .inl (cI, 303, .inl (fgA sf wf)))] H := hP
    have hD : va_D A [(x, .inr (3, [.ref me, .ref sm, .ref to, .ref co, .ref ru, .int sl, .int fw, .int fh])), (ru, .inr (1, [.ref bk, .int pl, .int dp, .int lp, .int ld, .int dn, .int rf, .int qu, .int ov])), (co, .inr (0, [.ref cw, .int kd, .int mn])), (to, .inr (2, [.ref sa, .ref wa])), (sa, .inl (cI, 26, .inl sf)), (wa, .inl (cI, 303, .inl (fgA sf wf)))] := hD
    refine lv_aload_n hx hb d_D_begin_11 rfl (lv_at hl 0 rfl) ?_
    refine mcVv (As := []) (rest := []) (wr := [(to, .inr (2, [.ref sa, .ref wa])), (sa, .inl (cI, 26, .inl sf)), (wa, .inl (cI, 303, .inl (fgA sf wf)))]) (c_D_startAnew l dC dI tb x me sm to co ru sl fw fh bk pl dp lp ld dn rf qu ov cw kd mn ) F tw_208 tw_28 tw_207 tw_2 tw_205 hP hD [0, 1, 2] [3, 4, 5] rfl rfl (by decide) (by decide) (by decide) hK [] rfl hE hS hA (q0 := 0) rfl rfl hd_D_startAnew rfl rfl ⟨Nat.le_of_ble_eq_true rfl, Nat.le_of_ble_eq_true rfl⟩ ⟨Nat.le_of_ble_eq_true rfl, Nat.le_of_ble_eq_true rfl⟩ hl.1 rfl (Nat.le_of_ble_eq_true rfl) d_D_begin_12 (fun H locs hP hD hS => ?_)
    have hP : va_P (dC, dI) clX [(to, .inr (2, [.ref sa, .ref wa])), (sa, .inl (cI, 26, .inl sf)), (wa, .inl (cI, 303, .inl (fgA sf wf))), (x, .inr (3, [.ref me, .ref sm, .ref to, .ref co, .ref ru, .int sl, .int fw, .int fh])), (ru, .inr (1, [.ref bk, .int 0, .int 0, .int (-1), .int (-1), .int 0, .int 0, .int (-1), .int 0])), (co, .inr (0, [.ref cw, .int 0, .int 0]))] H := hP
    have hD : va_D A [(to, .inr (2, [.ref sa, .ref wa])), (sa, .inl (cI, 26, .inl sf)), (wa, .inl (cI, 303, .inl (fgA sf wf))), (x, .inr (3, [.ref me, .ref sm, .ref to, .ref co, .ref ru, .int sl, .int fw, .int fh])), (ru, .inr (1, [.ref bk, .int 0, .int 0, .int (-1), .int (-1), .int 0, .int 0, .int (-1), .int 0])), (co, .inr (0, [.ref cw, .int 0, .int 0]))] := hD
    have hP9 := hP.sub (ws' := [(x, .inr (3, [.ref me, .ref sm, .ref to, .ref co, .ref ru, .int sl, .int fw, .int fh])), (ru, .inr (1, [.ref bk, .int 0, .int 0, .int (-1), .int (-1), .int 0, .int 0, .int (-1), .int 0])), (co, .inr (0, [.ref cw, .int 0, .int 0])), (to, .inr (2, [.ref sa, .ref wa])), (sa, .inl (cI, 26, .inl sf)), (wa, .inl (cI, 303, .inl (fgA sf wf)))]) [3, 4, 5, 0, 1, 2] rfl
    have hD9 := hD.sub (ws' := [(x, .inr (3, [.ref me, .ref sm, .ref to, .ref co, .ref ru, .int sl, .int fw, .int fh])), (ru, .inr (1, [.ref bk, .int 0, .int 0, .int (-1), .int (-1), .int 0, .int 0, .int (-1), .int 0])), (co, .inr (0, [.ref cw, .int 0, .int 0])), (to, .inr (2, [.ref sa, .ref wa])), (sa, .inl (cI, 26, .inl sf)), (wa, .inl (cI, 303, .inl (fgA sf wf)))]) [3, 4, 5, 0, 1, 2] (by decide) rfl
    exact W.vret hx hb hr (fun t ht9 hW => ⟨⟨(), rfl, trivial, by rw [ht9]; simp only [if_pos c_77]; exact hP9, va_K.moved hW.alike hK, by rw [hAe]; simp only [if_pos c_77]; exact hD9⟩, hS.F ht9⟩) hS.2.2 d_D_begin_15
set_option maxHeartbeats 4000000 in
set_option maxRecDepth 100000 in
theorem c_D_carryOut (l : Launch) (dC : Nat → ClassId) (dI : Nat → Nat → Nat) (tb : tbT) (x me sm to co ru : Nat) (sl fw fh : Int32) (bk : Nat) (pl dp lp ld dn rf qu ov : Int32) (bf : IF) (cw : Nat) (kd mn : Int32) (cf : IF) (cI : ClassId) (mf : IF) (sa wa : Nat) (sf wf : IF) (sz : Nat) : MV l y_D_carryOut (Cond.code y_D_carryOut b_D_carryOut 1 none :: TB) ({ frames := 5, cells := 0, slots := 0, locals := 113 }) tb (dC, dI) [.ref x] [(x, .inr (3, [.ref me, .ref sm, .ref to, .ref co, .ref ru, .int sl, .int fw, .int fh])), (ru, .inr (1, [.ref bk, .int pl, .int dp, .int lp, .int ld, .int dn, .int rf, .int qu, .int ov])), (bk, .inl (cI, 4, .inl bf)), (co, .inr (0, [.ref cw, .int kd, .int mn])), (cw, .inl (cI, 258, .inl cf)), (to, .inr (2, [.ref sa, .ref wa])), (sa, .inl (cI, 26, .inl sf)), (wa, .inl (cI, 303, .inl wf)), (me, .inl (cI, 4096, .inl mf))] [(x, .inr (3, [.ref me, .ref sm, .ref to, .ref co, .ref ru, .int sl, .int fw, .int fh])), (ru, .inr (1, [.ref bk, .int ((cry pl dp ov qu kd mn bf cf sf wf mf).1), .int ((cry pl dp ov qu kd mn bf cf sf wf mf).2.1), .int lp, .int ld, .int (dn + 1), .int rf, .int ((cry pl dp ov qu kd mn bf cf sf wf mf).2.2.2.1), .int ((cry pl dp ov qu kd mn bf cf sf wf mf).2.2.1)])), (bk, .inl (cI, 4, .inl ((cry pl dp ov qu kd mn bf cf sf wf mf).2.2.2.2.1))), (co, .inr (0, [.ref cw, .int kd, .int mn])), (cw, .inl (cI, 258, .inl cf)), (to, .inr (2, [.ref sa, .ref wa])), (sa, .inl (cI, 26, .inl sf)), (wa, .inl (cI, 303, .inl ((cry pl dp ov qu kd mn bf cf sf wf mf).2.2.2.2.2.1))), (me, .inl (cI, 4096, .inl ((cry pl dp ov qu kd mn bf cf sf wf mf).2.2.2.2.2.2)))] [(cI, .int)] sz := by
  refine Met.ofW (cc := b_D_carryOut) (maxL := 1) (ret := none) (by decide) rfl ?_
  intro p e s m args below meth c s₁ B hml hv
  obtain ⟨rfl, hsz, hP, hK, hD0, hE⟩ := hv
  have hx := B.exec
  have hb := B.bytes
  have hr := B.returns
  have ht := fun w (h : w ∈ TB) => atoms_spec (ws := Cond.code y_D_carryOut b_D_carryOut 1 none :: TB) B.pre w (List.mem_cons_of_mem _ h)
  have hown : s.vm.findClass R_D = some m.cls := findClass_of_methodNamed B.named
  have hlocks := B.notSynchronized
  subst hsz
  have hD := hD0.self (sz := s.heap.size)
  generalize hAe : va_A [(x, .inr (3, [.ref me, .ref sm, .ref to, .ref co, .ref ru, .int sl, .int fw, .int fh])), (ru, .inr (1, [.ref bk, .int pl, .int dp, .int lp, .int ld, .int dn, .int rf, .int qu, .int ov])), (bk, .inl (cI, 4, .inl bf)), (co, .inr (0, [.ref cw, .int kd, .int mn])), (cw, .inl (cI, 258, .inl cf)), (to, .inr (2, [.ref sa, .ref wa])), (sa, .inl (cI, 26, .inl sf)), (wa, .inl (cI, 303, .inl wf)), (me, .inl (cI, 4096, .inl mf))] s.heap.size = A at hD hE ⊢
  have hA : ∀ q : Nat, s.heap.size ≤ q → A q := fun q h => by rw [← hAe]; exact Or.inr h
  have hS : va_S A s.heap s.heap [] := va_S.rf
  have F : CallFix p m c b_D_carryOut 1 s _ TB R_D := ⟨hx, hb, hml, hown, ht⟩
  have hl := lv_entry ([.ref x]) (n := 1) (Nat.le_of_ble_eq_true rfl)
  rw [lg_entry_eq]
  generalize (lg_sl ([.ref x]) ++ List.replicate (1 - (lg_sl ([.ref x])).length) Slot.unset).toArray = ls at hl ⊢
  have hl : lv_has ls 1 [(0, .ref x)] := hl
  refine lv_aload_n hx hb d_D_carryOut_0 rfl (lv_at hl 0 rfl) ?_
  refine va_get (D := (dC, dI)) (ci := 3) (v := .ref ru) (C := R_D) (T := F_D) (N := 8) hx hb ht tu_D hown hK hP 0 rfl rfl 4 (by decide) (ht _ tw_180) (fun _ h9 => h9) rfl d_D_carryOut_1 ?_
  refine lv_aload_n hx hb d_D_carryOut_4 rfl (lv_at hl 0 rfl) ?_
  refine va_get (D := (dC, dI)) (ci := 3) (v := .ref co) (C := R_D) (T := F_D) (N := 8) hx hb ht tu_D hown hK hP 0 rfl rfl 3 (by decide) (ht _ tw_179) (fun _ h9 => h9) rfl d_D_carryOut_5 ?_
  refine va_getN (D := (dC, dI)) (ci := 0) (v := .int mn) (C := R_C) (T := F_C) (N := 3) hx hb ht tu_C hown hK hP 3 rfl rfl 2 (by decide) (va_Nw.use rfl (hE.1 _ nw_6)) (fun _ h9 => h9) rfl d_D_carryOut_8 ?_
  refine mcVv (As := [.int mn]) (rest := []) (wr := [(x, .inr (3, [.ref me, .ref sm, .ref to, .ref co, .ref ru, .int sl, .int fw, .int fh])), (bk, .inl (cI, 4, .inl bf)), (co, .inr (0, [.ref cw, .int kd, .int mn])), (cw, .inl (cI, 258, .inl cf)), (to, .inr (2, [.ref sa, .ref wa])), (sa, .inl (cI, 26, .inl sf)), (wa, .inl (cI, 303, .inl wf)), (me, .inl (cI, 4096, .inl mf))]) (c_R_passOver l dC dI tb ru bk pl dp lp ld dn rf qu ov mn ) F tw_458 tw_33 tw_456 tw_457 tw_455 hP hD [1] [0, 2, 3, 4, 5, 6, 7, 8] rfl rfl (by decide) (by decide) (by decide) hK [] rfl hE hS hA (q0 := 1) rfl rfl hd_R_passOver rfl rfl ⟨Nat.le_of_ble_eq_true rfl, Nat.le_of_ble_eq_true rfl⟩ ⟨Nat.le_of_ble_eq_true rfl, Nat.le_of_ble_eq_true rfl⟩ hl.1 rfl (Nat.le_of_ble_eq_true rfl) d_D_carryOut_11 (fun H locs hP hD hS => ?_)
  have hP : va_P (dC, dI) clX [(x, .inr (3, [.ref me, .ref sm, .ref to, .ref co, .ref ru, .int sl, .int fw, .int fh])), (bk, .inl (cI, 4, .inl bf)), (co, .inr (0, [.ref cw, .int kd, .int mn])), (cw, .inl (cI, 258, .inl cf)), (to, .inr (2, [.ref sa, .ref wa])), (sa, .inl (cI, 26, .inl sf)), (wa, .inl (cI, 303, .inl wf)), (me, .inl (cI, 4096, .inl mf)), (ru, .inr (1, [.ref bk, .int (pl + (1 + mn)), .int dp, .int lp, .int ld, .int (dn + 1), .int rf, .int qu, .int ov]))] H := hP
  have hD : va_D A [(x, .inr (3, [.ref me, .ref sm, .ref to, .ref co, .ref ru, .int sl, .int fw, .int fh])), (bk, .inl (cI, 4, .inl bf)), (co, .inr (0, [.ref cw, .int kd, .int mn])), (cw, .inl (cI, 258, .inl cf)), (to, .inr (2, [.ref sa, .ref wa])), (sa, .inl (cI, 26, .inl sf)), (wa, .inl (cI, 303, .inl wf)), (me, .inl (cI, 4096, .inl mf)), (ru, .inr (1, [.ref bk, .int (pl + (1 + mn)), .int dp, .int lp, .int ld, .int (dn + 1), .int rf, .int qu, .int ov]))] := hD
  refine lv_aload_n hx hb d_D_carryOut_14 rfl (lv_at hl 0 rfl) ?_
  refine va_get (D := (dC, dI)) (ci := 3) (v := .ref co) (C := R_D) (T := F_D) (N := 8) hx hb ht tu_D hown hK hP 0 rfl rfl 3 (by decide) (ht _ tw_179) (fun _ h9 => h9) rfl d_D_carryOut_15 ?_
  refine va_getN (D := (dC, dI)) (ci := 0) (v := .int kd) (C := R_C) (T := F_C) (N := 3) hx hb ht tu_C hown hK hP 2 rfl rfl 1 (by decide) (va_Nw.use rfl (hE.1 _ nw_4)) (fun _ h9 => h9) rfl d_D_carryOut_18 ?_
  by_cases sv_78 : kd = 0
  · refine lv_lookup (off := 51) (tgt := 72) hx hb d_D_carryOut_21 (by decide) (by rw [sv_78]; decide +kernel) (by decide) ?_
    refine lv_aload_n hx hb d_D_carryOut_72 rfl (lv_at hl 0 rfl) ?_
    refine va_get (D := (dC, dI)) (ci := 3) (v := .ref ru) (C := R_D) (T := F_D) (N := 8) hx hb ht tu_D hown hK hP 0 rfl rfl 4 (by decide) (ht _ tw_180) (fun _ h9 => h9) rfl d_D_carryOut_73 ?_
    refine mcVv (As := []) (rest := []) (wr := [(x, .inr (3, [.ref me, .ref sm, .ref to, .ref co, .ref ru, .int sl, .int fw, .int fh])), (co, .inr (0, [.ref cw, .int kd, .int mn])), (cw, .inl (cI, 258, .inl cf)), (to, .inr (2, [.ref sa, .ref wa])), (sa, .inl (cI, 26, .inl sf)), (wa, .inl (cI, 303, .inl wf)), (me, .inl (cI, 4096, .inl mf))]) (c_R_leave l dC dI tb ru bk (pl + (1 + mn)) dp lp ld (dn + 1) rf qu ov bf cI ) F tw_462 tw_33 tw_460 tw_461 tw_459 hP hD [8, 1] [0, 2, 3, 4, 5, 6, 7] rfl rfl (by decide) (by decide) (by decide) hK [0] rfl hE hS hA (q0 := 8) rfl rfl hd_R_leave rfl rfl ⟨Nat.le_of_ble_eq_true rfl, Nat.le_of_ble_eq_true rfl⟩ ⟨Nat.le_of_ble_eq_true rfl, Nat.le_of_ble_eq_true rfl⟩ hl.1 rfl (Nat.le_of_ble_eq_true rfl) d_D_carryOut_76 (fun H locs hP hD hS => ?_)
    have hP : va_P (dC, dI) clX [(x, .inr (3, [.ref me, .ref sm, .ref to, .ref co, .ref ru, .int sl, .int fw, .int fh])), (co, .inr (0, [.ref cw, .int kd, .int mn])), (cw, .inl (cI, 258, .inl cf)), (to, .inr (2, [.ref sa, .ref wa])), (sa, .inl (cI, 26, .inl sf)), (wa, .inl (cI, 303, .inl wf)), (me, .inl (cI, 4096, .inl mf)), (ru, .inr (1, [.ref bk, .int (if dp = 0 then (pl + (1 + mn)) else rdA 4 bf (dp - 1)), .int (if dp = 0 then dp else (dp - 1)), .int lp, .int ld, .int (dn + 1), .int rf, .int qu, .int (if dp = 0 then 1 else ov)])), (bk, .inl (cI, 4, .inl bf))] H := hP
    have hD : va_D A [(x, .inr (3, [.ref me, .ref sm, .ref to, .ref co, .ref ru, .int sl, .int fw, .int fh])), (co, .inr (0, [.ref cw, .int kd, .int mn])), (cw, .inl (cI, 258, .inl cf)), (to, .inr (2, [.ref sa, .ref wa])), (sa, .inl (cI, 26, .inl sf)), (wa, .inl (cI, 303, .inl wf)), (me, .inl (cI, 4096, .inl mf)), (ru, .inr (1, [.ref bk, .int (if dp = 0 then (pl + (1 + mn)) else rdA 4 bf (dp - 1)), .int (if dp = 0 then dp else (dp - 1)), .int lp, .int ld, .int (dn + 1), .int rf, .int qu, .int (if dp = 0 then 1 else ov)])), (bk, .inl (cI, 4, .inl bf))] := hD
    refine lv_goto (tgt := 159) hx hb d_D_carryOut_79 (by decide) ?_
    have hP9 := hP.sub (ws' := [(x, .inr (3, [.ref me, .ref sm, .ref to, .ref co, .ref ru, .int sl, .int fw, .int fh])), (ru, .inr (1, [.ref bk, .int (if dp = 0 then (pl + (1 + mn)) else rdA 4 bf (dp - 1)), .int (if dp = 0 then dp else (dp - 1)), .int lp, .int ld, .int (dn + 1), .int rf, .int qu, .int (if dp = 0 then 1 else ov)])), (bk, .inl (cI, 4, .inl bf)), (co, .inr (0, [.ref cw, .int kd, .int mn])), (cw, .inl (cI, 258, .inl cf)), (to, .inr (2, [.ref sa, .ref wa])), (sa, .inl (cI, 26, .inl sf)), (wa, .inl (cI, 303, .inl wf)), (me, .inl (cI, 4096, .inl mf))]) [0, 7, 8, 1, 2, 3, 4, 5, 6] rfl
    have hD9 := hD.sub (ws' := [(x, .inr (3, [.ref me, .ref sm, .ref to, .ref co, .ref ru, .int sl, .int fw, .int fh])), (ru, .inr (1, [.ref bk, .int (if dp = 0 then (pl + (1 + mn)) else rdA 4 bf (dp - 1)), .int (if dp = 0 then dp else (dp - 1)), .int lp, .int ld, .int (dn + 1), .int rf, .int qu, .int (if dp = 0 then 1 else ov)])), (bk, .inl (cI, 4, .inl bf)), (co, .inr (0, [.ref cw, .int kd, .int mn])), (cw, .inl (cI, 258, .inl cf)), (to, .inr (2, [.ref sa, .ref wa])), (sa, .inl (cI, 26, .inl sf)), (wa, .inl (cI, 303, .inl wf)), (me, .inl (cI, 4096, .inl mf))]) [0, 7, 8, 1, 2, 3, 4, 5, 6] (by decide) rfl
    exact W.vret hx hb hr (fun t ht9 hW => ⟨⟨(), rfl, trivial, by rw [ht9]; rw [show cry pl dp ov qu kd mn bf cf sf wf mf = ((if dp = 0 then (pl + (1 + mn)) else rdA 4 bf (dp - 1)), (if dp = 0 then dp else (dp - 1)), (if dp = 0 then 1 else ov), qu, bf, wf, mf) from by simp only [cry, if_pos sv_78]]; exact hP9, va_K.moved hW.alike hK, by rw [hAe]; rw [show cry pl dp ov qu kd mn bf cf sf wf mf = ((if dp = 0 then (pl + (1 + mn)) else rdA 4 bf (dp - 1)), (if dp = 0 then dp else (dp - 1)), (if dp = 0 then 1 else ov), qu, bf, wf, mf) from by simp only [cry, if_pos sv_78]]; exact hD9⟩, hS.F ht9⟩) hS.2.2 d_D_carryOut_159
  · skip
    by_cases sv_79 : kd = 6
    · refine lv_lookup (off := 61) (tgt := 82) hx hb d_D_carryOut_21 (by decide) (by rw [sv_79]; decide +kernel) (by decide) ?_
      refine lv_aload_n hx hb d_D_carryOut_82 rfl (lv_at hl 0 rfl) ?_
      refine mcVv (As := []) (rest := []) (wr := [(bk, .inl (cI, 4, .inl bf)), (ru, .inr (1, [.ref bk, .int (pl + (1 + mn)), .int dp, .int lp, .int ld, .int (dn + 1), .int rf, .int qu, .int ov]))]) (c_D_keepUniforms l dC dI tb x me sm to co ru sl fw fh cw kd mn cf cI mf sa wa sf wf ) F tw_467 tw_28 tw_466 tw_13 tw_464 hP hD [0, 2, 3, 7, 4, 5, 6] [1, 8] rfl rfl (by decide) (by decide) (by decide) hK [0] rfl hE hS hA (q0 := 0) rfl rfl hd_D_keepUniforms rfl rfl ⟨Nat.le_of_ble_eq_true rfl, Nat.le_of_ble_eq_true rfl⟩ ⟨Nat.le_of_ble_eq_true rfl, Nat.le_of_ble_eq_true rfl⟩ hl.1 rfl (Nat.le_of_ble_eq_true rfl) d_D_carryOut_83 (fun H locs hP hD hS => ?_)
      have hP : va_P (dC, dI) clX [(bk, .inl (cI, 4, .inl bf)), (ru, .inr (1, [.ref bk, .int (pl + (1 + mn)), .int dp, .int lp, .int ld, .int (dn + 1), .int rf, .int qu, .int ov])), (x, .inr (3, [.ref me, .ref sm, .ref to, .ref co, .ref ru, .int sl, .int fw, .int fh])), (co, .inr (0, [.ref cw, .int kd, .int mn])), (cw, .inl (cI, 258, .inl cf)), (me, .inl (cI, 4096, .inl mf)), (to, .inr (2, [.ref sa, .ref wa])), (sa, .inl (cI, 26, .inl sf)), (wa, .inl (cI, 303, .inl (kuA sf mf cf wf)))] H := hP
      have hD : va_D A [(bk, .inl (cI, 4, .inl bf)), (ru, .inr (1, [.ref bk, .int (pl + (1 + mn)), .int dp, .int lp, .int ld, .int (dn + 1), .int rf, .int qu, .int ov])), (x, .inr (3, [.ref me, .ref sm, .ref to, .ref co, .ref ru, .int sl, .int fw, .int fh])), (co, .inr (0, [.ref cw, .int kd, .int mn])), (cw, .inl (cI, 258, .inl cf)), (me, .inl (cI, 4096, .inl mf)), (to, .inr (2, [.ref sa, .ref wa])), (sa, .inl (cI, 26, .inl sf)), (wa, .inl (cI, 303, .inl (kuA sf mf cf wf)))] := hD
      refine lv_goto (tgt := 159) hx hb d_D_carryOut_86 (by decide) ?_
      have hP9 := hP.sub (ws' := [(x, .inr (3, [.ref me, .ref sm, .ref to, .ref co, .ref ru, .int sl, .int fw, .int fh])), (ru, .inr (1, [.ref bk, .int (pl + (1 + mn)), .int dp, .int lp, .int ld, .int (dn + 1), .int rf, .int qu, .int ov])), (bk, .inl (cI, 4, .inl bf)), (co, .inr (0, [.ref cw, .int kd, .int mn])), (cw, .inl (cI, 258, .inl cf)), (to, .inr (2, [.ref sa, .ref wa])), (sa, .inl (cI, 26, .inl sf)), (wa, .inl (cI, 303, .inl (kuA sf mf cf wf))), (me, .inl (cI, 4096, .inl mf))]) [2, 1, 0, 3, 4, 6, 7, 8, 5] rfl
      have hD9 := hD.sub (ws' := [(x, .inr (3, [.ref me, .ref sm, .ref to, .ref co, .ref ru, .int sl, .int fw, .int fh])), (ru, .inr (1, [.ref bk, .int (pl + (1 + mn)), .int dp, .int lp, .int ld, .int (dn + 1), .int rf, .int qu, .int ov])), (bk, .inl (cI, 4, .inl bf)), (co, .inr (0, [.ref cw, .int kd, .int mn])), (cw, .inl (cI, 258, .inl cf)), (to, .inr (2, [.ref sa, .ref wa])), (sa, .inl (cI, 26, .inl sf)), (wa, .inl (cI, 303, .inl (kuA sf mf cf wf))), (me, .inl (cI, 4096, .inl mf))]) [2, 1, 0, 3, 4, 6, 7, 8, 5] (by decide) rfl
      exact W.vret hx hb hr (fun t ht9 hW => ⟨⟨(), rfl, trivial, by rw [ht9]; rw [show cry pl dp ov qu kd mn bf cf sf wf mf = ((pl + (1 + mn)), dp, ov, qu, bf, (kuA sf mf cf wf), mf) from by simp only [cry, if_neg sv_78, if_pos sv_79]]; exact hP9, va_K.moved hW.alike hK, by rw [hAe]; rw [show cry pl dp ov qu kd mn bf cf sf wf mf = ((pl + (1 + mn)), dp, ov, qu, bf, (kuA sf mf cf wf), mf) from by simp only [cry, if_neg sv_78, if_pos sv_79]]; exact hD9⟩, hS.F ht9⟩) hS.2.2 d_D_carryOut_159
    · skip
      by_cases sv_80 : kd = 19
      · refine lv_lookup (off := 68) (tgt := 89) hx hb d_D_carryOut_21 (by decide) (by rw [sv_80]; decide +kernel) (by decide) ?_
        refine lv_aload_n hx hb d_D_carryOut_89 rfl (lv_at hl 0 rfl) ?_
        refine va_get (D := (dC, dI)) (ci := 3) (v := .ref ru) (C := R_D) (T := F_D) (N := 8) hx hb ht tu_D hown hK hP 0 rfl rfl 4 (by decide) (ht _ tw_180) (fun _ h9 => h9) rfl d_D_carryOut_90 ?_
        refine lv_aload_n hx hb d_D_carryOut_93 rfl (lv_at hl 0 rfl) ?_
        refine va_get (D := (dC, dI)) (ci := 3) (v := .ref co) (C := R_D) (T := F_D) (N := 8) hx hb ht tu_D hown hK hP 0 rfl rfl 3 (by decide) (ht _ tw_179) (fun _ h9 => h9) rfl d_D_carryOut_94 ?_
        refine lv_iconst (v := 1) hx hb d_D_carryOut_97 (by decide) ?_
        refine rcV (As := [.int 1]) (rest := [.ref ru]) (c_C_at l dC dI tb co cw kd mn cf cI 1 ) F tw_422 tw_32 tw_420 tw_421 tw_431 hP [2, 3] rfl hK [0] rfl hE hS (q0 := 2) rfl rfl hd_C_at rfl rfl ⟨Nat.le_of_ble_eq_true rfl, Nat.le_of_ble_eq_true rfl⟩ ⟨Nat.le_of_ble_eq_true rfl, Nat.le_of_ble_eq_true rfl⟩ hl.1 rfl (Nat.le_of_ble_eq_true rfl) d_D_carryOut_98 ?_
        refine lv_iconst (v := 1) hx hb d_D_carryOut_101 (by decide) ?_
        refine lv_icmp_ne (tgt := 116) hx hb d_D_carryOut_102 (by decide) (fun c_81 => ?_) (fun c_81 => ?_)
        · refine lv_iconst (v := (-1)) hx hb d_D_carryOut_116 (by decide) ?_
          refine va_putN (D := (dC, dI)) (ci := 1) (v := .int (-1)) (ty := .int) (C := R_R) (T := F_R) (N := 9) hx hb ht tu_R ft_R ft_R_ok n_R hown hK hP hD hS 8 rfl rfl 7 (by decide) (va_Nw.use rfl (hE.1 _ nw_13)) (fun _ h9 => h9) rfl (by decide +kernel) rfl rfl (Nat.le_of_ble_eq_true rfl) d_D_carryOut_117 (fun H locs hP hD hS => ?_)
          have hP : va_P (dC, dI) clX [(x, .inr (3, [.ref me, .ref sm, .ref to, .ref co, .ref ru, .int sl, .int fw, .int fh])), (bk, .inl (cI, 4, .inl bf)), (co, .inr (0, [.ref cw, .int kd, .int mn])), (cw, .inl (cI, 258, .inl cf)), (to, .inr (2, [.ref sa, .ref wa])), (sa, .inl (cI, 26, .inl sf)), (wa, .inl (cI, 303, .inl wf)), (me, .inl (cI, 4096, .inl mf)), (ru, .inr (1, [.ref bk, .int (pl + (1 + mn)), .int dp, .int lp, .int ld, .int (dn + 1), .int rf, .int (-1), .int ov]))] H := hP
          have hD : va_D A [(x, .inr (3, [.ref me, .ref sm, .ref to, .ref co, .ref ru, .int sl, .int fw, .int fh])), (bk, .inl (cI, 4, .inl bf)), (co, .inr (0, [.ref cw, .int kd, .int mn])), (cw, .inl (cI, 258, .inl cf)), (to, .inr (2, [.ref sa, .ref wa])), (sa, .inl (cI, 26, .inl sf)), (wa, .inl (cI, 303, .inl wf)), (me, .inl (cI, 4096, .inl mf)), (ru, .inr (1, [.ref bk, .int (pl + (1 + mn)), .int dp, .int lp, .int ld, .int (dn + 1), .int rf, .int (-1), .int ov]))] := hD
          refine lv_goto (tgt := 159) hx hb d_D_carryOut_120 (by decide) ?_
          have hP9 := hP.sub (ws' := [(x, .inr (3, [.ref me, .ref sm, .ref to, .ref co, .ref ru, .int sl, .int fw, .int fh])), (ru, .inr (1, [.ref bk, .int (pl + (1 + mn)), .int dp, .int lp, .int ld, .int (dn + 1), .int rf, .int (-1), .int ov])), (bk, .inl (cI, 4, .inl bf)), (co, .inr (0, [.ref cw, .int kd, .int mn])), (cw, .inl (cI, 258, .inl cf)), (to, .inr (2, [.ref sa, .ref wa])), (sa, .inl (cI, 26, .inl sf)), (wa, .inl (cI, 303, .inl wf)), (me, .inl (cI, 4096, .inl mf))]) [0, 8, 1, 2, 3, 4, 5, 6, 7] rfl
          have hD9 := hD.sub (ws' := [(x, .inr (3, [.ref me, .ref sm, .ref to, .ref co, .ref ru, .int sl, .int fw, .int fh])), (ru, .inr (1, [.ref bk, .int (pl + (1 + mn)), .int dp, .int lp, .int ld, .int (dn + 1), .int rf, .int (-1), .int ov])), (bk, .inl (cI, 4, .inl bf)), (co, .inr (0, [.ref cw, .int kd, .int mn])), (cw, .inl (cI, 258, .inl cf)), (to, .inr (2, [.ref sa, .ref wa])), (sa, .inl (cI, 26, .inl sf)), (wa, .inl (cI, 303, .inl wf)), (me, .inl (cI, 4096, .inl mf))]) [0, 8, 1, 2, 3, 4, 5, 6, 7] (by decide) rfl
          exact W.vret hx hb hr (fun t ht9 hW => ⟨⟨(), rfl, trivial, by rw [ht9]; rw [show cry pl dp ov qu kd mn bf cf sf wf mf = ((pl + (1 + mn)), dp, ov, (-1), bf, wf, mf) from by simp only [cry, if_neg sv_78, if_neg sv_79, if_pos sv_80, if_neg c_81]]; exact hP9, va_K.moved hW.alike hK, by rw [hAe]; rw [show cry pl dp ov qu kd mn bf cf sf wf mf = ((pl + (1 + mn)), dp, ov, (-1), bf, wf, mf) from by simp only [cry, if_neg sv_78, if_neg sv_79, if_pos sv_80, if_neg c_81]]; exact hD9⟩, hS.F ht9⟩) hS.2.2 d_D_carryOut_159
        · refine lv_aload_n hx hb d_D_carryOut_105 rfl (lv_at hl 0 rfl) ?_
          refine va_get (D := (dC, dI)) (ci := 3) (v := .ref co) (C := R_D) (T := F_D) (N := 8) hx hb ht tu_D hown hK hP 0 rfl rfl 3 (by decide) (ht _ tw_179) (fun _ h9 => h9) rfl d_D_carryOut_106 ?_
          refine lv_iconst (v := 0) hx hb d_D_carryOut_109 (by decide) ?_
          refine rcV (As := [.int 0]) (rest := [.ref ru]) (c_C_at l dC dI tb co cw kd mn cf cI 0 ) F tw_422 tw_32 tw_420 tw_421 tw_431 hP [2, 3] rfl hK [0] rfl hE hS (q0 := 2) rfl rfl hd_C_at rfl rfl ⟨Nat.le_of_ble_eq_true rfl, Nat.le_of_ble_eq_true rfl⟩ ⟨Nat.le_of_ble_eq_true rfl, Nat.le_of_ble_eq_true rfl⟩ hl.1 rfl (Nat.le_of_ble_eq_true rfl) d_D_carryOut_110 ?_
          refine lv_goto (tgt := 117) hx hb d_D_carryOut_113 (by decide) ?_
          refine va_putN (D := (dC, dI)) (ci := 1) (v := .int (rdA 258 cf 0)) (ty := .int) (C := R_R) (T := F_R) (N := 9) hx hb ht tu_R ft_R ft_R_ok n_R hown hK hP hD hS 8 rfl rfl 7 (by decide) (va_Nw.use rfl (hE.1 _ nw_13)) (fun _ h9 => h9) rfl (by decide +kernel) rfl rfl (Nat.le_of_ble_eq_true rfl) d_D_carryOut_117 (fun H locs hP hD hS => ?_)
          have hP : va_P (dC, dI) clX [(x, .inr (3, [.ref me, .ref sm, .ref to, .ref co, .ref ru, .int sl, .int fw, .int fh])), (bk, .inl (cI, 4, .inl bf)), (co, .inr (0, [.ref cw, .int kd, .int mn])), (cw, .inl (cI, 258, .inl cf)), (to, .inr (2, [.ref sa, .ref wa])), (sa, .inl (cI, 26, .inl sf)), (wa, .inl (cI, 303, .inl wf)), (me, .inl (cI, 4096, .inl mf)), (ru, .inr (1, [.ref bk, .int (pl + (1 + mn)), .int dp, .int lp, .int ld, .int (dn + 1), .int rf, .int (rdA 258 cf 0), .int ov]))] H := hP
          have hD : va_D A [(x, .inr (3, [.ref me, .ref sm, .ref to, .ref co, .ref ru, .int sl, .int fw, .int fh])), (bk, .inl (cI, 4, .inl bf)), (co, .inr (0, [.ref cw, .int kd, .int mn])), (cw, .inl (cI, 258, .inl cf)), (to, .inr (2, [.ref sa, .ref wa])), (sa, .inl (cI, 26, .inl sf)), (wa, .inl (cI, 303, .inl wf)), (me, .inl (cI, 4096, .inl mf)), (ru, .inr (1, [.ref bk, .int (pl + (1 + mn)), .int dp, .int lp, .int ld, .int (dn + 1), .int rf, .int (rdA 258 cf 0), .int ov]))] := hD
          refine lv_goto (tgt := 159) hx hb d_D_carryOut_120 (by decide) ?_
          have hP9 := hP.sub (ws' := [(x, .inr (3, [.ref me, .ref sm, .ref to, .ref co, .ref ru, .int sl, .int fw, .int fh])), (ru, .inr (1, [.ref bk, .int (pl + (1 + mn)), .int dp, .int lp, .int ld, .int (dn + 1), .int rf, .int (rdA 258 cf 0), .int ov])), (bk, .inl (cI, 4, .inl bf)), (co, .inr (0, [.ref cw, .int kd, .int mn])), (cw, .inl (cI, 258, .inl cf)), (to, .inr (2, [.ref sa, .ref wa])), (sa, .inl (cI, 26, .inl sf)), (wa, .inl (cI, 303, .inl wf)), (me, .inl (cI, 4096, .inl mf))]) [0, 8, 1, 2, 3, 4, 5, 6, 7] rfl
          have hD9 := hD.sub (ws' := [(x, .inr (3, [.ref me, .ref sm, .ref to, .ref co, .ref ru, .int sl, .int fw, .int fh])), (ru, .inr (1, [.ref bk, .int (pl + (1 + mn)), .int dp, .int lp, .int ld, .int (dn + 1), .int rf, .int (rdA 258 cf 0), .int ov])), (bk, .inl (cI, 4, .inl bf)), (co, .inr (0, [.ref cw, .int kd, .int mn])), (cw, .inl (cI, 258, .inl cf)), (to, .inr (2, [.ref sa, .ref wa])), (sa, .inl (cI, 26, .inl sf)), (wa, .inl (cI, 303, .inl wf)), (me, .inl (cI, 4096, .inl mf))]) [0, 8, 1, 2, 3, 4, 5, 6, 7] (by decide) rfl
          exact W.vret hx hb hr (fun t ht9 hW => ⟨⟨(), rfl, trivial, by rw [ht9]; rw [show cry pl dp ov qu kd mn bf cf sf wf mf = ((pl + (1 + mn)), dp, ov, (rdA 258 cf 0), bf, wf, mf) from by simp only [cry, if_neg sv_78, if_neg sv_79, if_pos sv_80, if_pos c_81]]; exact hP9, va_K.moved hW.alike hK, by rw [hAe]; rw [show cry pl dp ov qu kd mn bf cf sf wf mf = ((pl + (1 + mn)), dp, ov, (rdA 258 cf 0), bf, wf, mf) from by simp only [cry, if_neg sv_78, if_neg sv_79, if_pos sv_80, if_pos c_81]]; exact hD9⟩, hS.F ht9⟩) hS.2.2 d_D_carryOut_159
      · skip
        by_cases sv_82 : kd = 21
        · refine lv_lookup (off := 102) (tgt := 123) hx hb d_D_carryOut_21 (by decide) (by rw [sv_82]; decide +kernel) (by decide) ?_
          refine lv_aload_n hx hb d_D_carryOut_123 rfl (lv_at hl 0 rfl) ?_
          refine mcVv (As := []) (rest := []) (wr := [(bk, .inl (cI, 4, .inl bf)), (to, .inr (2, [.ref sa, .ref wa])), (sa, .inl (cI, 26, .inl sf)), (wa, .inl (cI, 303, .inl wf)), (ru, .inr (1, [.ref bk, .int (pl + (1 + mn)), .int dp, .int lp, .int ld, .int (dn + 1), .int rf, .int qu, .int ov]))]) (c_D_storeWords l dC dI tb x me sm to co ru sl fw fh cw kd mn cf cI mf ) F tw_475 tw_28 tw_474 tw_14 tw_472 hP hD [0, 2, 3, 7] [1, 4, 5, 6, 8] rfl rfl (by decide) (by decide) (by decide) hK [0] rfl hE hS hA (q0 := 0) rfl rfl hd_D_storeWords rfl rfl ⟨Nat.le_of_ble_eq_true rfl, Nat.le_of_ble_eq_true rfl⟩ ⟨Nat.le_of_ble_eq_true rfl, Nat.le_of_ble_eq_true rfl⟩ hl.1 rfl (Nat.le_of_ble_eq_true rfl) d_D_carryOut_124 (fun H locs hP hD hS => ?_)
          have hP : va_P (dC, dI) clX [(bk, .inl (cI, 4, .inl bf)), (to, .inr (2, [.ref sa, .ref wa])), (sa, .inl (cI, 26, .inl sf)), (wa, .inl (cI, 303, .inl wf)), (ru, .inr (1, [.ref bk, .int (pl + (1 + mn)), .int dp, .int lp, .int ld, .int (dn + 1), .int rf, .int qu, .int ov])), (x, .inr (3, [.ref me, .ref sm, .ref to, .ref co, .ref ru, .int sl, .int fw, .int fh])), (co, .inr (0, [.ref cw, .int kd, .int mn])), (cw, .inl (cI, 258, .inl cf)), (me, .inl (cI, 4096, .inl (stW cf mf)))] H := hP
          have hD : va_D A [(bk, .inl (cI, 4, .inl bf)), (to, .inr (2, [.ref sa, .ref wa])), (sa, .inl (cI, 26, .inl sf)), (wa, .inl (cI, 303, .inl wf)), (ru, .inr (1, [.ref bk, .int (pl + (1 + mn)), .int dp, .int lp, .int ld, .int (dn + 1), .int rf, .int qu, .int ov])), (x, .inr (3, [.ref me, .ref sm, .ref to, .ref co, .ref ru, .int sl, .int fw, .int fh])), (co, .inr (0, [.ref cw, .int kd, .int mn])), (cw, .inl (cI, 258, .inl cf)), (me, .inl (cI, 4096, .inl (stW cf mf)))] := hD
          refine lv_goto (tgt := 159) hx hb d_D_carryOut_127 (by decide) ?_
          have hP9 := hP.sub (ws' := [(x, .inr (3, [.ref me, .ref sm, .ref to, .ref co, .ref ru, .int sl, .int fw, .int fh])), (ru, .inr (1, [.ref bk, .int (pl + (1 + mn)), .int dp, .int lp, .int ld, .int (dn + 1), .int rf, .int qu, .int ov])), (bk, .inl (cI, 4, .inl bf)), (co, .inr (0, [.ref cw, .int kd, .int mn])), (cw, .inl (cI, 258, .inl cf)), (to, .inr (2, [.ref sa, .ref wa])), (sa, .inl (cI, 26, .inl sf)), (wa, .inl (cI, 303, .inl wf)), (me, .inl (cI, 4096, .inl (stW cf mf)))]) [5, 4, 0, 6, 7, 1, 2, 3, 8] rfl
          have hD9 := hD.sub (ws' := [(x, .inr (3, [.ref me, .ref sm, .ref to, .ref co, .ref ru, .int sl, .int fw, .int fh])), (ru, .inr (1, [.ref bk, .int (pl + (1 + mn)), .int dp, .int lp, .int ld, .int (dn + 1), .int rf, .int qu, .int ov])), (bk, .inl (cI, 4, .inl bf)), (co, .inr (0, [.ref cw, .int kd, .int mn])), (cw, .inl (cI, 258, .inl cf)), (to, .inr (2, [.ref sa, .ref wa])), (sa, .inl (cI, 26, .inl sf)), (wa, .inl (cI, 303, .inl wf)), (me, .inl (cI, 4096, .inl (stW cf mf)))]) [5, 4, 0, 6, 7, 1, 2, 3, 8] (by decide) rfl
          exact W.vret hx hb hr (fun t ht9 hW => ⟨⟨(), rfl, trivial, by rw [ht9]; rw [show cry pl dp ov qu kd mn bf cf sf wf mf = ((pl + (1 + mn)), dp, ov, qu, bf, wf, (stW cf mf)) from by simp only [cry, if_neg sv_78, if_neg sv_79, if_neg sv_80, if_pos sv_82]]; exact hP9, va_K.moved hW.alike hK, by rw [hAe]; rw [show cry pl dp ov qu kd mn bf cf sf wf mf = ((pl + (1 + mn)), dp, ov, qu, bf, wf, (stW cf mf)) from by simp only [cry, if_neg sv_78, if_neg sv_79, if_neg sv_80, if_pos sv_82]]; exact hD9⟩, hS.F ht9⟩) hS.2.2 d_D_carryOut_159
        · skip
          by_cases sv_83 : kd = 23
          · refine lv_lookup (off := 109) (tgt := 130) hx hb d_D_carryOut_21 (by decide) (by rw [sv_83]; decide +kernel) (by decide) ?_
            refine lv_aload_n hx hb d_D_carryOut_130 rfl (lv_at hl 0 rfl) ?_
            refine va_get (D := (dC, dI)) (ci := 3) (v := .ref ru) (C := R_D) (T := F_D) (N := 8) hx hb ht tu_D hown hK hP 0 rfl rfl 4 (by decide) (ht _ tw_180) (fun _ h9 => h9) rfl d_D_carryOut_131 ?_
            refine lv_aload_n hx hb d_D_carryOut_134 rfl (lv_at hl 0 rfl) ?_
            refine va_get (D := (dC, dI)) (ci := 3) (v := .ref co) (C := R_D) (T := F_D) (N := 8) hx hb ht tu_D hown hK hP 0 rfl rfl 3 (by decide) (ht _ tw_179) (fun _ h9 => h9) rfl d_D_carryOut_135 ?_
            refine lv_iconst (v := 0) hx hb d_D_carryOut_138 (by decide) ?_
            refine rcV (As := [.int 0]) (rest := [.ref ru]) (c_C_at l dC dI tb co cw kd mn cf cI 0 ) F tw_422 tw_32 tw_420 tw_421 tw_431 hP [2, 3] rfl hK [0] rfl hE hS (q0 := 2) rfl rfl hd_C_at rfl rfl ⟨Nat.le_of_ble_eq_true rfl, Nat.le_of_ble_eq_true rfl⟩ ⟨Nat.le_of_ble_eq_true rfl, Nat.le_of_ble_eq_true rfl⟩ hl.1 rfl (Nat.le_of_ble_eq_true rfl) d_D_carryOut_139 ?_
            refine mcVv (As := [.int (rdA 258 cf 0)]) (rest := []) (wr := [(x, .inr (3, [.ref me, .ref sm, .ref to, .ref co, .ref ru, .int sl, .int fw, .int fh])), (co, .inr (0, [.ref cw, .int kd, .int mn])), (cw, .inl (cI, 258, .inl cf)), (to, .inr (2, [.ref sa, .ref wa])), (sa, .inl (cI, 26, .inl sf)), (wa, .inl (cI, 303, .inl wf)), (me, .inl (cI, 4096, .inl mf))]) (c_R_enter l dC dI tb ru bk (pl + (1 + mn)) dp lp ld (dn + 1) rf qu ov bf cI (rdA 258 cf 0) ) F tw_479 tw_33 tw_477 tw_478 tw_476 hP hD [8, 1] [0, 2, 3, 4, 5, 6, 7] rfl rfl (by decide) (by decide) (by decide) hK [0] rfl hE hS hA (q0 := 8) rfl rfl hd_R_enter rfl rfl ⟨Nat.le_of_ble_eq_true rfl, Nat.le_of_ble_eq_true rfl⟩ ⟨Nat.le_of_ble_eq_true rfl, Nat.le_of_ble_eq_true rfl⟩ hl.1 rfl (Nat.le_of_ble_eq_true rfl) d_D_carryOut_142 (fun H locs hP hD hS => ?_)
            have hP : va_P (dC, dI) clX [(x, .inr (3, [.ref me, .ref sm, .ref to, .ref co, .ref ru, .int sl, .int fw, .int fh])), (co, .inr (0, [.ref cw, .int kd, .int mn])), (cw, .inl (cI, 258, .inl cf)), (to, .inr (2, [.ref sa, .ref wa])), (sa, .inl (cI, 26, .inl sf)), (wa, .inl (cI, 303, .inl wf)), (me, .inl (cI, 4096, .inl mf)), (ru, .inr (1, [.ref bk, .int (rdA 258 cf 0), .int (dp + 1), .int lp, .int ld, .int (dn + 1), .int rf, .int qu, .int ov])), (bk, .inl (cI, 4, .inl (wrA 4 bf dp (pl + (1 + mn)))))] H := hP
            have hD : va_D A [(x, .inr (3, [.ref me, .ref sm, .ref to, .ref co, .ref ru, .int sl, .int fw, .int fh])), (co, .inr (0, [.ref cw, .int kd, .int mn])), (cw, .inl (cI, 258, .inl cf)), (to, .inr (2, [.ref sa, .ref wa])), (sa, .inl (cI, 26, .inl sf)), (wa, .inl (cI, 303, .inl wf)), (me, .inl (cI, 4096, .inl mf)), (ru, .inr (1, [.ref bk, .int (rdA 258 cf 0), .int (dp + 1), .int lp, .int ld, .int (dn + 1), .int rf, .int qu, .int ov])), (bk, .inl (cI, 4, .inl (wrA 4 bf dp (pl + (1 + mn)))))] := hD
            refine lv_goto (tgt := 159) hx hb d_D_carryOut_145 (by decide) ?_
            have hP9 := hP.sub (ws' := [(x, .inr (3, [.ref me, .ref sm, .ref to, .ref co, .ref ru, .int sl, .int fw, .int fh])), (ru, .inr (1, [.ref bk, .int (rdA 258 cf 0), .int (dp + 1), .int lp, .int ld, .int (dn + 1), .int rf, .int qu, .int ov])), (bk, .inl (cI, 4, .inl (wrA 4 bf dp (pl + (1 + mn))))), (co, .inr (0, [.ref cw, .int kd, .int mn])), (cw, .inl (cI, 258, .inl cf)), (to, .inr (2, [.ref sa, .ref wa])), (sa, .inl (cI, 26, .inl sf)), (wa, .inl (cI, 303, .inl wf)), (me, .inl (cI, 4096, .inl mf))]) [0, 7, 8, 1, 2, 3, 4, 5, 6] rfl
            have hD9 := hD.sub (ws' := [(x, .inr (3, [.ref me, .ref sm, .ref to, .ref co, .ref ru, .int sl, .int fw, .int fh])), (ru, .inr (1, [.ref bk, .int (rdA 258 cf 0), .int (dp + 1), .int lp, .int ld, .int (dn + 1), .int rf, .int qu, .int ov])), (bk, .inl (cI, 4, .inl (wrA 4 bf dp (pl + (1 + mn))))), (co, .inr (0, [.ref cw, .int kd, .int mn])), (cw, .inl (cI, 258, .inl cf)), (to, .inr (2, [.ref sa, .ref wa])), (sa, .inl (cI, 26, .inl sf)), (wa, .inl (cI, 303, .inl wf)), (me, .inl (cI, 4096, .inl mf))]) [0, 7, 8, 1, 2, 3, 4, 5, 6] (by decide) rfl
            exact W.vret hx hb hr (fun t ht9 hW => ⟨⟨(), rfl, trivial, by rw [ht9]; rw [show cry pl dp ov qu kd mn bf cf sf wf mf = ((rdA 258 cf 0), (dp + 1), ov, qu, (wrA 4 bf dp (pl + (1 + mn))), wf, mf) from by simp only [cry, if_neg sv_78, if_neg sv_79, if_neg sv_80, if_neg sv_82, if_pos sv_83]]; exact hP9, va_K.moved hW.alike hK, by rw [hAe]; rw [show cry pl dp ov qu kd mn bf cf sf wf mf = ((rdA 258 cf 0), (dp + 1), ov, qu, (wrA 4 bf dp (pl + (1 + mn))), wf, mf) from by simp only [cry, if_neg sv_78, if_neg sv_79, if_neg sv_80, if_neg sv_82, if_pos sv_83]]; exact hD9⟩, hS.F ht9⟩) hS.2.2 d_D_carryOut_159
          · skip
            refine lv_lookup (off := 127) (tgt := 148) hx hb d_D_carryOut_21 (by decide) ((lv_osw sv_78 rfl).trans ((lv_osw sv_79 rfl).trans ((lv_osw sv_80 rfl).trans ((lv_osw sv_82 rfl).trans ((lv_osw sv_83 rfl).trans (rfl)))))) (by decide) ?_
            refine lv_aload_n hx hb d_D_carryOut_148 rfl (lv_at hl 0 rfl) ?_
            refine va_get (D := (dC, dI)) (ci := 3) (v := .ref to) (C := R_D) (T := F_D) (N := 8) hx hb ht tu_D hown hK hP 0 rfl rfl 2 (by decide) (ht _ tw_178) (fun _ h9 => h9) rfl d_D_carryOut_149 ?_
            refine lv_aload_n hx hb d_D_carryOut_152 rfl (lv_at hl 0 rfl) ?_
            refine va_get (D := (dC, dI)) (ci := 3) (v := .ref co) (C := R_D) (T := F_D) (N := 8) hx hb ht tu_D hown hK hP 0 rfl rfl 3 (by decide) (ht _ tw_179) (fun _ h9 => h9) rfl d_D_carryOut_153 ?_
            refine mcVv (As := [.ref co]) (rest := []) (wr := [(x, .inr (3, [.ref me, .ref sm, .ref to, .ref co, .ref ru, .int sl, .int fw, .int fh])), (bk, .inl (cI, 4, .inl bf)), (me, .inl (cI, 4096, .inl mf)), (ru, .inr (1, [.ref bk, .int (pl + (1 + mn)), .int dp, .int lp, .int ld, .int (dn + 1), .int rf, .int qu, .int ov]))]) (c_T_keep l dC dI tb to sa wa sf wf cI co cw kd mn cf ) F tw_484 tw_29 tw_482 tw_483 tw_481 hP hD [4, 5, 6, 2, 3] [0, 1, 7, 8] rfl rfl (by decide) (by decide) (by decide) hK [0] rfl hE hS hA (q0 := 4) rfl rfl hd_T_keep rfl rfl ⟨Nat.le_of_ble_eq_true rfl, Nat.le_of_ble_eq_true rfl⟩ ⟨Nat.le_of_ble_eq_true rfl, Nat.le_of_ble_eq_true rfl⟩ hl.1 rfl (Nat.le_of_ble_eq_true rfl) d_D_carryOut_156 (fun H locs hP hD hS => ?_)
            have hP : va_P (dC, dI) clX [(x, .inr (3, [.ref me, .ref sm, .ref to, .ref co, .ref ru, .int sl, .int fw, .int fh])), (bk, .inl (cI, 4, .inl bf)), (me, .inl (cI, 4096, .inl mf)), (ru, .inr (1, [.ref bk, .int (pl + (1 + mn)), .int dp, .int lp, .int ld, .int (dn + 1), .int rf, .int qu, .int ov])), (to, .inr (2, [.ref sa, .ref wa])), (sa, .inl (cI, 26, .inl sf)), (wa, .inl (cI, 303, .inl (kpW sf kd mn cf wf))), (co, .inr (0, [.ref cw, .int kd, .int mn])), (cw, .inl (cI, 258, .inl cf))] H := hP
            have hD : va_D A [(x, .inr (3, [.ref me, .ref sm, .ref to, .ref co, .ref ru, .int sl, .int fw, .int fh])), (bk, .inl (cI, 4, .inl bf)), (me, .inl (cI, 4096, .inl mf)), (ru, .inr (1, [.ref bk, .int (pl + (1 + mn)), .int dp, .int lp, .int ld, .int (dn + 1), .int rf, .int qu, .int ov])), (to, .inr (2, [.ref sa, .ref wa])), (sa, .inl (cI, 26, .inl sf)), (wa, .inl (cI, 303, .inl (kpW sf kd mn cf wf))), (co, .inr (0, [.ref cw, .int kd, .int mn])), (cw, .inl (cI, 258, .inl cf))] := hD
            have hP9 := hP.sub (ws' := [(x, .inr (3, [.ref me, .ref sm, .ref to, .ref co, .ref ru, .int sl, .int fw, .int fh])), (ru, .inr (1, [.ref bk, .int (pl + (1 + mn)), .int dp, .int lp, .int ld, .int (dn + 1), .int rf, .int qu, .int ov])), (bk, .inl (cI, 4, .inl bf)), (co, .inr (0, [.ref cw, .int kd, .int mn])), (cw, .inl (cI, 258, .inl cf)), (to, .inr (2, [.ref sa, .ref wa])), (sa, .inl (cI, 26, .inl sf)), (wa, .inl (cI, 303, .inl (kpW sf kd mn cf wf))), (me, .inl (cI, 4096, .inl mf))]) [0, 3, 1, 7, 8, 4, 5, 6, 2] rfl
            have hD9 := hD.sub (ws' := [(x, .inr (3, [.ref me, .ref sm, .ref to, .ref co, .ref ru, .int sl, .int fw, .int fh])), (ru, .inr (1, [.ref bk, .int (pl + (1 + mn)), .int dp, .int lp, .int ld, .int (dn + 1), .int rf, .int qu, .int ov])), (bk, .inl (cI, 4, .inl bf)), (co, .inr (0, [.ref cw, .int kd, .int mn])), (cw, .inl (cI, 258, .inl cf)), (to, .inr (2, [.ref sa, .ref wa])), (sa, .inl (cI, 26, .inl sf)), (wa, .inl (cI, 303, .inl (kpW sf kd mn cf wf))), (me, .inl (cI, 4096, .inl mf))]) [0, 3, 1, 7, 8, 4, 5, 6, 2] (by decide) rfl
            exact W.vret hx hb hr (fun t ht9 hW => ⟨⟨(), rfl, trivial, by rw [ht9]; rw [show cry pl dp ov qu kd mn bf cf sf wf mf = ((pl + (1 + mn)), dp, ov, qu, bf, (kpW sf kd mn cf wf), mf) from by simp only [cry, if_neg sv_78, if_neg sv_79, if_neg sv_80, if_neg sv_82, if_neg sv_83]]; exact hP9, va_K.moved hW.alike hK, by rw [hAe]; rw [show cry pl dp ov qu kd mn bf cf sf wf mf = ((pl + (1 + mn)), dp, ov, qu, bf, (kpW sf kd mn cf wf), mf) from by simp only [cry, if_neg sv_78, if_neg sv_79, if_neg sv_80, if_neg sv_82, if_neg sv_83]]; exact hD9⟩, hS.F ht9⟩) hS.2.2 d_D_carryOut_159
end
section
def inL (v9 lo9 hi9 : Int64) : Int32 := (if (lg_cmp v9 lo9) < 0 then 0 else (if 0 < (lg_cmp v9 hi9) then 0 else 1))
theorem nar_inL (v9 lo9 hi9 : Int64) : narrow .boolean (.int (inL v9 lo9 hi9)) = .int (inL v9 lo9 hi9) := by
  unfold inL
  repeat' split
  all_goals rfl
set_option maxHeartbeats 4000000 in
set_option maxRecDepth 100000 in
theorem c_M_in (l : Launch) (dC : Nat → ClassId) (dI : Nat → Nat → Nat) (tb : tbT) (v9 lo9 hi9 : Int64) : RM l y_M_in (Cond.code y_M_in b_M_in 6 (some .boolean) :: TB) ({ frames := 0, cells := 0, slots := 0, locals := 0 }) tb (dC, dI) [.long v9, .long lo9, .long hi9] [] [] (inL v9 lo9 hi9) := by
  refine Met.ofW (cc := b_M_in) (maxL := 6) (ret := (some .boolean)) (by decide) rfl ?_
  intro p e s m args below meth c s₁ B hml hv
  obtain ⟨rfl, hP, hK, hE⟩ := hv
  have hx := B.exec
  have hb := B.bytes
  have hr := B.returns
  have ht := fun w (h : w ∈ TB) => atoms_spec (ws := Cond.code y_M_in b_M_in 6 (some .boolean) :: TB) B.pre w (List.mem_cons_of_mem _ h)
  have hown : s.vm.findClass R_M = some m.cls := findClass_of_methodNamed B.named
  have hlocks := B.notSynchronized
  have hS : va_S (fun _ => False) s.heap s.heap [] := va_S.rf
  have F : CallFix p m c b_M_in 6 s _ TB R_M := ⟨hx, hb, hml, hown, ht⟩
  have hl := lv_entry ([.long v9, .long lo9, .long hi9]) (n := 6) (Nat.le_of_ble_eq_true rfl)
  rw [lg_entry_eq]
  generalize (lg_sl ([.long v9, .long lo9, .long hi9]) ++ List.replicate (6 - (lg_sl ([.long v9, .long lo9, .long hi9])).length) Slot.unset).toArray = ls at hl ⊢
  have hl : lv_has ls 6 [(0, .long v9), (2, .long lo9), (4, .long hi9)] := hl
  refine lv_lload_n hx hb d_M_in_0 rfl (lv_at hl 0 rfl) ?_
  refine lv_lload_n hx hb d_M_in_1 rfl (lv_at hl 1 rfl) ?_
  refine W.lcmp hx hb d_M_in_2 ?_
  refine lv_if_lt (tgt := 17) hx hb d_M_in_3 (by decide) (fun c_1 => ?_) (fun c_1 => ?_)
  · refine lv_iconst (v := 0) hx hb d_M_in_17 (by decide) ?_
    exact W.zret hx hb hr (rfl) (fun t ht9 hW => ⟨_, rfl, by simp only [inL, if_pos c_1], ht9⟩) hS.2.2 d_M_in_18
  · refine lv_lload_n hx hb d_M_in_6 rfl (lv_at hl 0 rfl) ?_
    refine lv_lload hx hb d_M_in_7 (lv_at hl 2 rfl) ?_
    refine W.lcmp hx hb d_M_in_9 ?_
    refine lv_if_gt (tgt := 17) hx hb d_M_in_10 (by decide) (fun c_2 => ?_) (fun c_2 => ?_)
    · refine lv_iconst (v := 0) hx hb d_M_in_17 (by decide) ?_
      exact W.zret hx hb hr (rfl) (fun t ht9 hW => ⟨_, rfl, by simp only [inL, if_neg c_1, if_pos c_2], ht9⟩) hS.2.2 d_M_in_18
    · refine lv_iconst (v := 1) hx hb d_M_in_13 (by decide) ?_
      refine lv_goto (tgt := 18) hx hb d_M_in_14 (by decide) ?_
      exact W.zret hx hb hr (rfl) (fun t ht9 hW => ⟨_, rfl, by simp only [inL, if_neg c_1, if_neg c_2], ht9⟩) hS.2.2 d_M_in_18
def cnt (k9 : Int32) : Int32 := (if k9 = 0 ∨ k9 = 22 then 0 else (if k9 = 1 ∨ k9 = 3 ∨ k9 = 24 then 4 else (if k9 = 4 ∨ k9 = 5 ∨ k9 = 18 ∨ k9 = 25 then 5 else (if k9 = 6 ∨ k9 = 17 then 3 else (if k9 = 7 ∨ k9 = 8 ∨ k9 = 10 ∨ k9 = 16 ∨ k9 = 19 ∨ k9 = 21 then 2 else (if k9 = 11 then 8 else (if k9 = 13 ∨ k9 = 14 ∨ k9 = 15 ∨ k9 = 23 then 1 else 6)))))))
set_option maxHeartbeats 4000000 in
set_option maxRecDepth 100000 in
theorem c_M_count (l : Launch) (dC : Nat → ClassId) (dI : Nat → Nat → Nat) (tb : tbT) (k9 : Int32) : RM l y_M_count (Cond.code y_M_count b_M_count 1 (some .int) :: TB) ({ frames := 0, cells := 0, slots := 0, locals := 0 }) tb (dC, dI) [.int k9] [] [] (cnt k9) := by
  refine Met.ofW (cc := b_M_count) (maxL := 1) (ret := (some .int)) (by decide) rfl ?_
  intro p e s m args below meth c s₁ B hml hv
  obtain ⟨rfl, hP, hK, hE⟩ := hv
  have hx := B.exec
  have hb := B.bytes
  have hr := B.returns
  have ht := fun w (h : w ∈ TB) => atoms_spec (ws := Cond.code y_M_count b_M_count 1 (some .int) :: TB) B.pre w (List.mem_cons_of_mem _ h)
  have hown : s.vm.findClass R_M = some m.cls := findClass_of_methodNamed B.named
  have hlocks := B.notSynchronized
  have hS : va_S (fun _ => False) s.heap s.heap [] := va_S.rf
  have F : CallFix p m c b_M_count 1 s _ TB R_M := ⟨hx, hb, hml, hown, ht⟩
  have hl := lv_entry ([.int k9]) (n := 1) (Nat.le_of_ble_eq_true rfl)
  rw [lg_entry_eq]
  generalize (lg_sl ([.int k9]) ++ List.replicate (1 - (lg_sl ([.int k9])).length) Slot.unset).toArray = ls at hl ⊢
  have hl : lv_has ls 1 [(0, .int k9)] := hl
  refine lv_iload_n hx hb d_M_count_0 rfl (lv_at hl 0 rfl) ?_
  by_cases sv_3 : k9 = 0 ∨ k9 = 22
  · refine lv_tab (off := 119) (tgt := 120) hx hb d_M_count_1 (by decide) (by rcases sv_3 with h9 | h9 <;> rw [h9] <;> decide +kernel) (by decide) ?_
    refine lv_iconst (v := 0) hx hb d_M_count_120 (by decide) ?_
    exact W.iret hx hb hr (fun t ht9 hW => ⟨_, rfl, by simp only [cnt, if_pos sv_3], ht9⟩) hS.2.2 d_M_count_121
  · skip
    by_cases sv_4 : k9 = 1 ∨ k9 = 3 ∨ k9 = 24
    · refine lv_tab (off := 127) (tgt := 128) hx hb d_M_count_1 (by decide) (by rcases sv_4 with h9 | h9 | h9 <;> rw [h9] <;> decide +kernel) (by decide) ?_
      refine lv_iconst (v := 4) hx hb d_M_count_128 (by decide) ?_
      exact W.iret hx hb hr (fun t ht9 hW => ⟨_, rfl, by simp only [cnt, if_neg sv_3, if_pos sv_4], ht9⟩) hS.2.2 d_M_count_129
    · skip
      by_cases sv_5 : k9 = 4 ∨ k9 = 5 ∨ k9 = 18 ∨ k9 = 25
      · refine lv_tab (off := 129) (tgt := 130) hx hb d_M_count_1 (by decide) (by rcases sv_5 with h9 | h9 | h9 | h9 <;> rw [h9] <;> decide +kernel) (by decide) ?_
        refine lv_iconst (v := 5) hx hb d_M_count_130 (by decide) ?_
        exact W.iret hx hb hr (fun t ht9 hW => ⟨_, rfl, by simp only [cnt, if_neg sv_3, if_neg sv_4, if_pos sv_5], ht9⟩) hS.2.2 d_M_count_131
      · skip
        by_cases sv_6 : k9 = 6 ∨ k9 = 17
        · refine lv_tab (off := 125) (tgt := 126) hx hb d_M_count_1 (by decide) (by rcases sv_6 with h9 | h9 <;> rw [h9] <;> decide +kernel) (by decide) ?_
          refine lv_iconst (v := 3) hx hb d_M_count_126 (by decide) ?_
          exact W.iret hx hb hr (fun t ht9 hW => ⟨_, rfl, by simp only [cnt, if_neg sv_3, if_neg sv_4, if_neg sv_5, if_pos sv_6], ht9⟩) hS.2.2 d_M_count_127
        · skip
          by_cases sv_7 : k9 = 7 ∨ k9 = 8 ∨ k9 = 10 ∨ k9 = 16 ∨ k9 = 19 ∨ k9 = 21
          · refine lv_tab (off := 123) (tgt := 124) hx hb d_M_count_1 (by decide) (by rcases sv_7 with h9 | h9 | h9 | h9 | h9 | h9 <;> rw [h9] <;> decide +kernel) (by decide) ?_
            refine lv_iconst (v := 2) hx hb d_M_count_124 (by decide) ?_
            exact W.iret hx hb hr (fun t ht9 hW => ⟨_, rfl, by simp only [cnt, if_neg sv_3, if_neg sv_4, if_neg sv_5, if_neg sv_6, if_pos sv_7], ht9⟩) hS.2.2 d_M_count_125
          · skip
            by_cases sv_8 : k9 = 11
            · refine lv_tab (off := 131) (tgt := 132) hx hb d_M_count_1 (by decide) (by rw [sv_8]; decide +kernel) (by decide) ?_
              refine lv_bipush (v := 8) hx hb d_M_count_132 (by decide) ?_
              exact W.iret hx hb hr (fun t ht9 hW => ⟨_, rfl, by simp only [cnt, if_neg sv_3, if_neg sv_4, if_neg sv_5, if_neg sv_6, if_neg sv_7, if_pos sv_8], ht9⟩) hS.2.2 d_M_count_134
            · skip
              by_cases sv_9 : k9 = 13 ∨ k9 = 14 ∨ k9 = 15 ∨ k9 = 23
              · refine lv_tab (off := 121) (tgt := 122) hx hb d_M_count_1 (by decide) (by rcases sv_9 with h9 | h9 | h9 | h9 <;> rw [h9] <;> decide +kernel) (by decide) ?_
                refine lv_iconst (v := 1) hx hb d_M_count_122 (by decide) ?_
                exact W.iret hx hb hr (fun t ht9 hW => ⟨_, rfl, by simp only [cnt, if_neg sv_3, if_neg sv_4, if_neg sv_5, if_neg sv_6, if_neg sv_7, if_neg sv_8, if_pos sv_9], ht9⟩) hS.2.2 d_M_count_123
              · skip
                have hsw : ∀ b ∈ ([0, 22, 1, 3, 24, 4, 5, 18, 25, 6, 17, 7, 8, 10, 16, 19, 21, 11, 13, 14, 15, 23] : List Int32), ¬ k9 = b := by
                  intro b9 hb9
                  simp only [List.mem_cons, List.not_mem_nil, or_false] at hb9
                  rcases hb9 with rfl | rfl | rfl | rfl | rfl | rfl | rfl | rfl | rfl | rfl | rfl | rfl | rfl | rfl | rfl | rfl | rfl | rfl | rfl | rfl | rfl | rfl
                  · exact fun h9 => sv_3 (Or.inl h9)
                  · exact fun h9 => sv_3 (Or.inr (h9))
                  · exact fun h9 => sv_4 (Or.inl h9)
                  · exact fun h9 => sv_4 (Or.inr (Or.inl h9))
                  · exact fun h9 => sv_4 (Or.inr (Or.inr (h9)))
                  · exact fun h9 => sv_5 (Or.inl h9)
                  · exact fun h9 => sv_5 (Or.inr (Or.inl h9))
                  · exact fun h9 => sv_5 (Or.inr (Or.inr (Or.inl h9)))
                  · exact fun h9 => sv_5 (Or.inr (Or.inr (Or.inr (h9))))
                  · exact fun h9 => sv_6 (Or.inl h9)
                  · exact fun h9 => sv_6 (Or.inr (h9))
                  · exact fun h9 => sv_7 (Or.inl h9)
                  · exact fun h9 => sv_7 (Or.inr (Or.inl h9))
                  · exact fun h9 => sv_7 (Or.inr (Or.inr (Or.inl h9)))
                  · exact fun h9 => sv_7 (Or.inr (Or.inr (Or.inr (Or.inl h9))))
                  · exact fun h9 => sv_7 (Or.inr (Or.inr (Or.inr (Or.inr (Or.inl h9)))))
                  · exact fun h9 => sv_7 (Or.inr (Or.inr (Or.inr (Or.inr (Or.inr (h9))))))
                  · exact sv_8
                  · exact fun h9 => sv_9 (Or.inl h9)
                  · exact fun h9 => sv_9 (Or.inr (Or.inl h9))
                  · exact fun h9 => sv_9 (Or.inr (Or.inr (Or.inl h9)))
                  · exact fun h9 => sv_9 (Or.inr (Or.inr (Or.inr (h9))))
                refine lv_tab (off := 134) (tgt := 135) hx hb d_M_count_1 (by decide) (sw_def [0, 22, 1, 3, 24, 4, 5, 18, 25, 6, 17, 7, 8, 10, 16, 19, 21, 11, 13, 14, 15, 23] hsw (by decide +kernel) (by decide)) (by decide) ?_
                refine lv_bipush (v := 6) hx hb d_M_count_135 (by decide) ?_
                exact W.iret hx hb hr (fun t ht9 hW => ⟨_, rfl, by simp only [cnt, if_neg sv_3, if_neg sv_4, if_neg sv_5, if_neg sv_6, if_neg sv_7, if_neg sv_8, if_neg sv_9], ht9⟩) hS.2.2 d_M_count_137
def mny (k9 : Int32) : Int32 := (if k9 = 2 ∨ k9 = 3 ∨ k9 = 7 ∨ k9 = 8 ∨ k9 = 10 ∨ k9 = 12 ∨ k9 = 13 ∨ k9 = 14 ∨ k9 = 15 ∨ k9 = 16 then 1 else (if k9 = 4 then 8 else (if k9 = 5 then 32 else (if k9 = 9 ∨ k9 = 24 ∨ k9 = 25 then 4 else (if k9 = 11 then 2 else 0)))))
set_option maxHeartbeats 4000000 in
set_option maxRecDepth 100000 in
theorem c_M_many (l : Launch) (dC : Nat → ClassId) (dI : Nat → Nat → Nat) (tb : tbT) (k9 : Int32) : RM l y_M_many (Cond.code y_M_many b_M_many 1 (some .int) :: TB) ({ frames := 0, cells := 0, slots := 0, locals := 0 }) tb (dC, dI) [.int k9] [] [] (mny k9) := by
  refine Met.ofW (cc := b_M_many) (maxL := 1) (ret := (some .int)) (by decide) rfl ?_
  intro p e s m args below meth c s₁ B hml hv
  obtain ⟨rfl, hP, hK, hE⟩ := hv
  have hx := B.exec
  have hb := B.bytes
  have hr := B.returns
  have ht := fun w (h : w ∈ TB) => atoms_spec (ws := Cond.code y_M_many b_M_many 1 (some .int) :: TB) B.pre w (List.mem_cons_of_mem _ h)
  have hown : s.vm.findClass R_M = some m.cls := findClass_of_methodNamed B.named
  have hlocks := B.notSynchronized
  have hS : va_S (fun _ => False) s.heap s.heap [] := va_S.rf
  have F : CallFix p m c b_M_many 1 s _ TB R_M := ⟨hx, hb, hml, hown, ht⟩
  have hl := lv_entry ([.int k9]) (n := 1) (Nat.le_of_ble_eq_true rfl)
  rw [lg_entry_eq]
  generalize (lg_sl ([.int k9]) ++ List.replicate (1 - (lg_sl ([.int k9])).length) Slot.unset).toArray = ls at hl ⊢
  have hl : lv_has ls 1 [(0, .int k9)] := hl
  refine lv_iload_n hx hb d_M_many_0 rfl (lv_at hl 0 rfl) ?_
  by_cases sv_10 : k9 = 2 ∨ k9 = 3 ∨ k9 = 7 ∨ k9 = 8 ∨ k9 = 10 ∨ k9 = 12 ∨ k9 = 13 ∨ k9 = 14 ∨ k9 = 15 ∨ k9 = 16
  · refine lv_tab (off := 121) (tgt := 122) hx hb d_M_many_1 (by decide) (by rcases sv_10 with h9 | h9 | h9 | h9 | h9 | h9 | h9 | h9 | h9 | h9 <;> rw [h9] <;> decide +kernel) (by decide) ?_
    refine lv_iconst (v := 1) hx hb d_M_many_122 (by decide) ?_
    exact W.iret hx hb hr (fun t ht9 hW => ⟨_, rfl, by simp only [mny, if_pos sv_10], ht9⟩) hS.2.2 d_M_many_123
  · skip
    by_cases sv_11 : k9 = 4
    · refine lv_tab (off := 111) (tgt := 112) hx hb d_M_many_1 (by decide) (by rw [sv_11]; decide +kernel) (by decide) ?_
      refine lv_bipush (v := 8) hx hb d_M_many_112 (by decide) ?_
      exact W.iret hx hb hr (fun t ht9 hW => ⟨_, rfl, by simp only [mny, if_neg sv_10, if_pos sv_11], ht9⟩) hS.2.2 d_M_many_114
    · skip
      by_cases sv_12 : k9 = 5
      · refine lv_tab (off := 114) (tgt := 115) hx hb d_M_many_1 (by decide) (by rw [sv_12]; decide +kernel) (by decide) ?_
        refine lv_bipush (v := 32) hx hb d_M_many_115 (by decide) ?_
        exact W.iret hx hb hr (fun t ht9 hW => ⟨_, rfl, by simp only [mny, if_neg sv_10, if_neg sv_11, if_pos sv_12], ht9⟩) hS.2.2 d_M_many_117
      · skip
        by_cases sv_13 : k9 = 9 ∨ k9 = 24 ∨ k9 = 25
        · refine lv_tab (off := 117) (tgt := 118) hx hb d_M_many_1 (by decide) (by rcases sv_13 with h9 | h9 | h9 <;> rw [h9] <;> decide +kernel) (by decide) ?_
          refine lv_iconst (v := 4) hx hb d_M_many_118 (by decide) ?_
          exact W.iret hx hb hr (fun t ht9 hW => ⟨_, rfl, by simp only [mny, if_neg sv_10, if_neg sv_11, if_neg sv_12, if_pos sv_13], ht9⟩) hS.2.2 d_M_many_119
        · skip
          by_cases sv_14 : k9 = 11
          · refine lv_tab (off := 119) (tgt := 120) hx hb d_M_many_1 (by decide) (by rw [sv_14]; decide +kernel) (by decide) ?_
            refine lv_iconst (v := 2) hx hb d_M_many_120 (by decide) ?_
            exact W.iret hx hb hr (fun t ht9 hW => ⟨_, rfl, by simp only [mny, if_neg sv_10, if_neg sv_11, if_neg sv_12, if_neg sv_13, if_pos sv_14], ht9⟩) hS.2.2 d_M_many_121
          · skip
            have hsw : ∀ b ∈ ([2, 3, 7, 8, 10, 12, 13, 14, 15, 16, 4, 5, 9, 24, 25, 11] : List Int32), ¬ k9 = b := by
              intro b9 hb9
              simp only [List.mem_cons, List.not_mem_nil, or_false] at hb9
              rcases hb9 with rfl | rfl | rfl | rfl | rfl | rfl | rfl | rfl | rfl | rfl | rfl | rfl | rfl | rfl | rfl | rfl
              · exact fun h9 => sv_10 (Or.inl h9)
              · exact fun h9 => sv_10 (Or.inr (Or.inl h9))
              · exact fun h9 => sv_10 (Or.inr (Or.inr (Or.inl h9)))
              · exact fun h9 => sv_10 (Or.inr (Or.inr (Or.inr (Or.inl h9))))
              · exact fun h9 => sv_10 (Or.inr (Or.inr (Or.inr (Or.inr (Or.inl h9)))))
              · exact fun h9 => sv_10 (Or.inr (Or.inr (Or.inr (Or.inr (Or.inr (Or.inl h9))))))
              · exact fun h9 => sv_10 (Or.inr (Or.inr (Or.inr (Or.inr (Or.inr (Or.inr (Or.inl h9)))))))
              · exact fun h9 => sv_10 (Or.inr (Or.inr (Or.inr (Or.inr (Or.inr (Or.inr (Or.inr (Or.inl h9))))))))
              · exact fun h9 => sv_10 (Or.inr (Or.inr (Or.inr (Or.inr (Or.inr (Or.inr (Or.inr (Or.inr (Or.inl h9)))))))))
              · exact fun h9 => sv_10 (Or.inr (Or.inr (Or.inr (Or.inr (Or.inr (Or.inr (Or.inr (Or.inr (Or.inr (h9))))))))))
              · exact sv_11
              · exact sv_12
              · exact fun h9 => sv_13 (Or.inl h9)
              · exact fun h9 => sv_13 (Or.inr (Or.inl h9))
              · exact fun h9 => sv_13 (Or.inr (Or.inr (h9)))
              · exact sv_14
            refine lv_tab (off := 123) (tgt := 124) hx hb d_M_many_1 (by decide) (sw_def [2, 3, 7, 8, 10, 12, 13, 14, 15, 16, 4, 5, 9, 24, 25, 11] hsw (by decide +kernel) (by decide)) (by decide) ?_
            refine lv_iconst (v := 0) hx hb d_M_many_124 (by decide) ?_
            exact W.iret hx hb hr (fun t ht9 hW => ⟨_, rfl, by simp only [mny, if_neg sv_10, if_neg sv_11, if_neg sv_12, if_neg sv_13, if_neg sv_14], ht9⟩) hS.2.2 d_M_many_125
def isV (k9 v9 : Int32) : Int32 := (if 2 ≤ k9 then (if 4 ≤ k9 then (inL v9.toInt64 0 16777215) else (inL v9.toInt64 1 1024)) else (inL v9.toInt64 (-1023) 1023))
theorem nar_isV (k9 v9 : Int32) : narrow .boolean (.int (isV k9 v9)) = .int (isV k9 v9) := by
  unfold isV
  repeat' split
  all_goals first | rfl | exact nar_inL _ _ _
set_option maxHeartbeats 4000000 in
set_option maxRecDepth 100000 in
theorem c_M_isViews (l : Launch) (dC : Nat → ClassId) (dI : Nat → Nat → Nat) (tb : tbT) (k9 v9 : Int32) : RM l y_M_isViews (Cond.code y_M_isViews b_M_isViews 2 (some .boolean) :: TB) ({ frames := 1, cells := 0, slots := 0, locals := 25 }) tb (dC, dI) [.int k9, .int v9] [] [] (isV k9 v9) := by
  refine Met.ofW (cc := b_M_isViews) (maxL := 2) (ret := (some .boolean)) (by decide) rfl ?_
  intro p e s m args below meth c s₁ B hml hv
  obtain ⟨rfl, hP, hK, hE⟩ := hv
  have hx := B.exec
  have hb := B.bytes
  have hr := B.returns
  have ht := fun w (h : w ∈ TB) => atoms_spec (ws := Cond.code y_M_isViews b_M_isViews 2 (some .boolean) :: TB) B.pre w (List.mem_cons_of_mem _ h)
  have hown : s.vm.findClass R_M = some m.cls := findClass_of_methodNamed B.named
  have hlocks := B.notSynchronized
  have hS : va_S (fun _ => False) s.heap s.heap [] := va_S.rf
  have F : CallFix p m c b_M_isViews 2 s _ TB R_M := ⟨hx, hb, hml, hown, ht⟩
  have hl := lv_entry ([.int k9, .int v9]) (n := 2) (Nat.le_of_ble_eq_true rfl)
  rw [lg_entry_eq]
  generalize (lg_sl ([.int k9, .int v9]) ++ List.replicate (2 - (lg_sl ([.int k9, .int v9])).length) Slot.unset).toArray = ls at hl ⊢
  have hl : lv_has ls 2 [(0, .int k9), (1, .int v9)] := hl
  refine lv_iload_n hx hb d_M_isViews_0 rfl (lv_at hl 0 rfl) ?_
  refine lv_iconst (v := 2) hx hb d_M_isViews_1 (by decide) ?_
  refine lv_icmp_ge (tgt := 19) hx hb d_M_isViews_2 (by decide) (fun c_15 => ?_) (fun c_15 => ?_)
  · refine lv_iload_n hx hb d_M_isViews_19 rfl (lv_at hl 0 rfl) ?_
    refine lv_iconst (v := 4) hx hb d_M_isViews_20 (by decide) ?_
    refine lv_icmp_ge (tgt := 36) hx hb d_M_isViews_21 (by decide) (fun c_16 => ?_) (fun c_16 => ?_)
    · refine lv_iload_n hx hb d_M_isViews_36 rfl (lv_at hl 1 rfl) ?_
      refine lv_i2l (v := v9.toInt64) hx hb d_M_isViews_37 rfl ?_
      refine lv_lconst (v := 0) hx hb d_M_isViews_38 (by decide) ?_
      refine lv_ldc2 hx hb hown (ht _ tw_649) d_M_isViews_39 ?_
      refine rcS (As := [.long v9.toInt64, .long 0, .long 16777215]) (rest := []) (c_M_in l dC dI tb v9.toInt64 0 16777215 ) F tw_598 tw_34 tw_597 tw_596 hP [] rfl hK [] rfl hE hS hd_M_in rfl rfl ⟨Nat.le_of_ble_eq_true rfl, Nat.le_of_ble_eq_true rfl⟩ ⟨Nat.le_of_ble_eq_true rfl, Nat.le_of_ble_eq_true rfl⟩ hl.1 rfl (Nat.le_of_ble_eq_true rfl) d_M_isViews_42 ?_
      exact W.zret hx hb hr (nar_inL _ _ _) (fun t ht9 hW => ⟨_, rfl, by simp only [isV, if_pos c_15, if_pos c_16], ht9⟩) hS.2.2 d_M_isViews_45
    · refine lv_iload_n hx hb d_M_isViews_24 rfl (lv_at hl 1 rfl) ?_
      refine lv_i2l (v := v9.toInt64) hx hb d_M_isViews_25 rfl ?_
      refine lv_lconst (v := 1) hx hb d_M_isViews_26 (by decide) ?_
      refine lv_ldc2 hx hb hown (ht _ tw_656) d_M_isViews_27 ?_
      refine rcS (As := [.long v9.toInt64, .long 1, .long 1024]) (rest := []) (c_M_in l dC dI tb v9.toInt64 1 1024 ) F tw_598 tw_34 tw_597 tw_596 hP [] rfl hK [] rfl hE hS hd_M_in rfl rfl ⟨Nat.le_of_ble_eq_true rfl, Nat.le_of_ble_eq_true rfl⟩ ⟨Nat.le_of_ble_eq_true rfl, Nat.le_of_ble_eq_true rfl⟩ hl.1 rfl (Nat.le_of_ble_eq_true rfl) d_M_isViews_30 ?_
      refine lv_goto (tgt := 45) hx hb d_M_isViews_33 (by decide) ?_
      exact W.zret hx hb hr (nar_inL _ _ _) (fun t ht9 hW => ⟨_, rfl, by simp only [isV, if_pos c_15, if_neg c_16], ht9⟩) hS.2.2 d_M_isViews_45
  · refine lv_iload_n hx hb d_M_isViews_5 rfl (lv_at hl 1 rfl) ?_
    refine lv_i2l (v := v9.toInt64) hx hb d_M_isViews_6 rfl ?_
    refine lv_ldc2 hx hb hown (ht _ tw_654) d_M_isViews_7 ?_
    refine lv_ldc2 hx hb hown (ht _ tw_655) d_M_isViews_10 ?_
    refine rcS (As := [.long v9.toInt64, .long (-1023), .long 1023]) (rest := []) (c_M_in l dC dI tb v9.toInt64 (-1023) 1023 ) F tw_598 tw_34 tw_597 tw_596 hP [] rfl hK [] rfl hE hS hd_M_in rfl rfl ⟨Nat.le_of_ble_eq_true rfl, Nat.le_of_ble_eq_true rfl⟩ ⟨Nat.le_of_ble_eq_true rfl, Nat.le_of_ble_eq_true rfl⟩ hl.1 rfl (Nat.le_of_ble_eq_true rfl) d_M_isViews_13 ?_
    refine lv_goto (tgt := 45) hx hb d_M_isViews_16 (by decide) ?_
    exact W.zret hx hb hr (nar_inL _ _ _) (fun t ht9 hW => ⟨_, rfl, by simp only [isV, if_neg c_15], ht9⟩) hS.2.2 d_M_isViews_45
def isS (k9 v9 : Int32) : Int32 := (if k9 = 0 then (inL v9.toInt64 0 1) else (if k9 = 1 then (inL v9.toInt64 (-1) 7) else (if 5 ≤ k9 then (inL v9.toInt64 0 7) else (inL v9.toInt64 0 255))))
theorem nar_isS (k9 v9 : Int32) : narrow .boolean (.int (isS k9 v9)) = .int (isS k9 v9) := by
  unfold isS
  repeat' split
  all_goals first | rfl | exact nar_inL _ _ _
set_option maxHeartbeats 4000000 in
set_option maxRecDepth 100000 in
theorem c_M_isStencils (l : Launch) (dC : Nat → ClassId) (dI : Nat → Nat → Nat) (tb : tbT) (k9 v9 : Int32) : RM l y_M_isStencils (Cond.code y_M_isStencils b_M_isStencils 2 (some .boolean) :: TB) ({ frames := 1, cells := 0, slots := 0, locals := 25 }) tb (dC, dI) [.int k9, .int v9] [] [] (isS k9 v9) := by
  refine Met.ofW (cc := b_M_isStencils) (maxL := 2) (ret := (some .boolean)) (by decide) rfl ?_
  intro p e s m args below meth c s₁ B hml hv
  obtain ⟨rfl, hP, hK, hE⟩ := hv
  have hx := B.exec
  have hb := B.bytes
  have hr := B.returns
  have ht := fun w (h : w ∈ TB) => atoms_spec (ws := Cond.code y_M_isStencils b_M_isStencils 2 (some .boolean) :: TB) B.pre w (List.mem_cons_of_mem _ h)
  have hown : s.vm.findClass R_M = some m.cls := findClass_of_methodNamed B.named
  have hlocks := B.notSynchronized
  have hS : va_S (fun _ => False) s.heap s.heap [] := va_S.rf
  have F : CallFix p m c b_M_isStencils 2 s _ TB R_M := ⟨hx, hb, hml, hown, ht⟩
  have hl := lv_entry ([.int k9, .int v9]) (n := 2) (Nat.le_of_ble_eq_true rfl)
  rw [lg_entry_eq]
  generalize (lg_sl ([.int k9, .int v9]) ++ List.replicate (2 - (lg_sl ([.int k9, .int v9])).length) Slot.unset).toArray = ls at hl ⊢
  have hl : lv_has ls 2 [(0, .int k9), (1, .int v9)] := hl
  refine lv_iload_n hx hb d_M_isStencils_0 rfl (lv_at hl 0 rfl) ?_
  refine lv_if_ne (tgt := 14) hx hb d_M_isStencils_1 (by decide) (fun c_17 => ?_) (fun c_17 => ?_)
  · refine lv_iload_n hx hb d_M_isStencils_14 rfl (lv_at hl 0 rfl) ?_
    refine lv_iconst (v := 1) hx hb d_M_isStencils_15 (by decide) ?_
    refine lv_icmp_ne (tgt := 33) hx hb d_M_isStencils_16 (by decide) (fun c_18 => ?_) (fun c_18 => ?_)
    · refine lv_iload_n hx hb d_M_isStencils_33 rfl (lv_at hl 0 rfl) ?_
      refine lv_iconst (v := 5) hx hb d_M_isStencils_34 (by decide) ?_
      refine lv_icmp_ge (tgt := 50) hx hb d_M_isStencils_35 (by decide) (fun c_19 => ?_) (fun c_19 => ?_)
      · refine lv_iload_n hx hb d_M_isStencils_50 rfl (lv_at hl 1 rfl) ?_
        refine lv_i2l (v := v9.toInt64) hx hb d_M_isStencils_51 rfl ?_
        refine lv_lconst (v := 0) hx hb d_M_isStencils_52 (by decide) ?_
        refine lv_ldc2 hx hb hown (ht _ tw_648) d_M_isStencils_53 ?_
        refine rcS (As := [.long v9.toInt64, .long 0, .long 7]) (rest := []) (c_M_in l dC dI tb v9.toInt64 0 7 ) F tw_598 tw_34 tw_597 tw_596 hP [] rfl hK [] rfl hE hS hd_M_in rfl rfl ⟨Nat.le_of_ble_eq_true rfl, Nat.le_of_ble_eq_true rfl⟩ ⟨Nat.le_of_ble_eq_true rfl, Nat.le_of_ble_eq_true rfl⟩ hl.1 rfl (Nat.le_of_ble_eq_true rfl) d_M_isStencils_56 ?_
        exact W.zret hx hb hr (nar_inL _ _ _) (fun t ht9 hW => ⟨_, rfl, by simp only [isS, if_neg c_17, if_neg c_18, if_pos c_19], ht9⟩) hS.2.2 d_M_isStencils_59
      · refine lv_iload_n hx hb d_M_isStencils_38 rfl (lv_at hl 1 rfl) ?_
        refine lv_i2l (v := v9.toInt64) hx hb d_M_isStencils_39 rfl ?_
        refine lv_lconst (v := 0) hx hb d_M_isStencils_40 (by decide) ?_
        refine lv_ldc2 hx hb hown (ht _ tw_650) d_M_isStencils_41 ?_
        refine rcS (As := [.long v9.toInt64, .long 0, .long 255]) (rest := []) (c_M_in l dC dI tb v9.toInt64 0 255 ) F tw_598 tw_34 tw_597 tw_596 hP [] rfl hK [] rfl hE hS hd_M_in rfl rfl ⟨Nat.le_of_ble_eq_true rfl, Nat.le_of_ble_eq_true rfl⟩ ⟨Nat.le_of_ble_eq_true rfl, Nat.le_of_ble_eq_true rfl⟩ hl.1 rfl (Nat.le_of_ble_eq_true rfl) d_M_isStencils_44 ?_
        refine lv_goto (tgt := 59) hx hb d_M_isStencils_47 (by decide) ?_
        exact W.zret hx hb hr (nar_inL _ _ _) (fun t ht9 hW => ⟨_, rfl, by simp only [isS, if_neg c_17, if_neg c_18, if_neg c_19], ht9⟩) hS.2.2 d_M_isStencils_59
    · refine lv_iload_n hx hb d_M_isStencils_19 rfl (lv_at hl 1 rfl) ?_
      refine lv_i2l (v := v9.toInt64) hx hb d_M_isStencils_20 rfl ?_
      refine lv_ldc2 hx hb hown (ht _ tw_668) d_M_isStencils_21 ?_
      refine lv_ldc2 hx hb hown (ht _ tw_648) d_M_isStencils_24 ?_
      refine rcS (As := [.long v9.toInt64, .long (-1), .long 7]) (rest := []) (c_M_in l dC dI tb v9.toInt64 (-1) 7 ) F tw_598 tw_34 tw_597 tw_596 hP [] rfl hK [] rfl hE hS hd_M_in rfl rfl ⟨Nat.le_of_ble_eq_true rfl, Nat.le_of_ble_eq_true rfl⟩ ⟨Nat.le_of_ble_eq_true rfl, Nat.le_of_ble_eq_true rfl⟩ hl.1 rfl (Nat.le_of_ble_eq_true rfl) d_M_isStencils_27 ?_
      refine lv_goto (tgt := 59) hx hb d_M_isStencils_30 (by decide) ?_
      exact W.zret hx hb hr (nar_inL _ _ _) (fun t ht9 hW => ⟨_, rfl, by simp only [isS, if_neg c_17, if_pos c_18], ht9⟩) hS.2.2 d_M_isStencils_59
  · refine lv_iload_n hx hb d_M_isStencils_4 rfl (lv_at hl 1 rfl) ?_
    refine lv_i2l (v := v9.toInt64) hx hb d_M_isStencils_5 rfl ?_
    refine lv_lconst (v := 0) hx hb d_M_isStencils_6 (by decide) ?_
    refine lv_lconst (v := 1) hx hb d_M_isStencils_7 (by decide) ?_
    refine rcS (As := [.long v9.toInt64, .long 0, .long 1]) (rest := []) (c_M_in l dC dI tb v9.toInt64 0 1 ) F tw_598 tw_34 tw_597 tw_596 hP [] rfl hK [] rfl hE hS hd_M_in rfl rfl ⟨Nat.le_of_ble_eq_true rfl, Nat.le_of_ble_eq_true rfl⟩ ⟨Nat.le_of_ble_eq_true rfl, Nat.le_of_ble_eq_true rfl⟩ hl.1 rfl (Nat.le_of_ble_eq_true rfl) d_M_isStencils_8 ?_
    refine lv_goto (tgt := 59) hx hb d_M_isStencils_11 (by decide) ?_
    exact W.zret hx hb hr (nar_inL _ _ _) (fun t ht9 hW => ⟨_, rfl, by simp only [isS, if_pos c_17], ht9⟩) hS.2.2 d_M_isStencils_59
def isT (k9 v9 : Int32) : Int32 := (if k9 = 0 then (inL v9.toInt64 0 3) else (if k9 = 1 then (inL v9.toInt64 0 1048576) else (if 4 ≤ k9 then (if k9 = 4 then (inL v9.toInt64 1 11) else (inL v9.toInt64 0 7)) else (inL v9.toInt64 0 10))))
theorem nar_isT (k9 v9 : Int32) : narrow .boolean (.int (isT k9 v9)) = .int (isT k9 v9) := by
  unfold isT
  repeat' split
  all_goals first | rfl | exact nar_inL _ _ _
set_option maxHeartbeats 4000000 in
set_option maxRecDepth 100000 in
theorem c_M_isTextures (l : Launch) (dC : Nat → ClassId) (dI : Nat → Nat → Nat) (tb : tbT) (k9 v9 : Int32) : RM l y_M_isTextures (Cond.code y_M_isTextures b_M_isTextures 2 (some .boolean) :: TB) ({ frames := 1, cells := 0, slots := 0, locals := 25 }) tb (dC, dI) [.int k9, .int v9] [] [] (isT k9 v9) := by
  refine Met.ofW (cc := b_M_isTextures) (maxL := 2) (ret := (some .boolean)) (by decide) rfl ?_
  intro p e s m args below meth c s₁ B hml hv
  obtain ⟨rfl, hP, hK, hE⟩ := hv
  have hx := B.exec
  have hb := B.bytes
  have hr := B.returns
  have ht := fun w (h : w ∈ TB) => atoms_spec (ws := Cond.code y_M_isTextures b_M_isTextures 2 (some .boolean) :: TB) B.pre w (List.mem_cons_of_mem _ h)
  have hown : s.vm.findClass R_M = some m.cls := findClass_of_methodNamed B.named
  have hlocks := B.notSynchronized
  have hS : va_S (fun _ => False) s.heap s.heap [] := va_S.rf
  have F : CallFix p m c b_M_isTextures 2 s _ TB R_M := ⟨hx, hb, hml, hown, ht⟩
  have hl := lv_entry ([.int k9, .int v9]) (n := 2) (Nat.le_of_ble_eq_true rfl)
  rw [lg_entry_eq]
  generalize (lg_sl ([.int k9, .int v9]) ++ List.replicate (2 - (lg_sl ([.int k9, .int v9])).length) Slot.unset).toArray = ls at hl ⊢
  have hl : lv_has ls 2 [(0, .int k9), (1, .int v9)] := hl
  refine lv_iload_n hx hb d_M_isTextures_0 rfl (lv_at hl 0 rfl) ?_
  refine lv_if_ne (tgt := 16) hx hb d_M_isTextures_1 (by decide) (fun c_20 => ?_) (fun c_20 => ?_)
  · refine lv_iload_n hx hb d_M_isTextures_16 rfl (lv_at hl 0 rfl) ?_
    refine lv_iconst (v := 1) hx hb d_M_isTextures_17 (by decide) ?_
    refine lv_icmp_ne (tgt := 33) hx hb d_M_isTextures_18 (by decide) (fun c_21 => ?_) (fun c_21 => ?_)
    · refine lv_iload_n hx hb d_M_isTextures_33 rfl (lv_at hl 0 rfl) ?_
      refine lv_iconst (v := 4) hx hb d_M_isTextures_34 (by decide) ?_
      refine lv_icmp_ge (tgt := 50) hx hb d_M_isTextures_35 (by decide) (fun c_22 => ?_) (fun c_22 => ?_)
      · refine lv_iload_n hx hb d_M_isTextures_50 rfl (lv_at hl 0 rfl) ?_
        refine lv_iconst (v := 4) hx hb d_M_isTextures_51 (by decide) ?_
        refine lv_icmp_ne (tgt := 67) hx hb d_M_isTextures_52 (by decide) (fun c_23 => ?_) (fun c_23 => ?_)
        · refine lv_iload_n hx hb d_M_isTextures_67 rfl (lv_at hl 1 rfl) ?_
          refine lv_i2l (v := v9.toInt64) hx hb d_M_isTextures_68 rfl ?_
          refine lv_lconst (v := 0) hx hb d_M_isTextures_69 (by decide) ?_
          refine lv_ldc2 hx hb hown (ht _ tw_648) d_M_isTextures_70 ?_
          refine rcS (As := [.long v9.toInt64, .long 0, .long 7]) (rest := []) (c_M_in l dC dI tb v9.toInt64 0 7 ) F tw_598 tw_34 tw_597 tw_596 hP [] rfl hK [] rfl hE hS hd_M_in rfl rfl ⟨Nat.le_of_ble_eq_true rfl, Nat.le_of_ble_eq_true rfl⟩ ⟨Nat.le_of_ble_eq_true rfl, Nat.le_of_ble_eq_true rfl⟩ hl.1 rfl (Nat.le_of_ble_eq_true rfl) d_M_isTextures_73 ?_
          exact W.zret hx hb hr (nar_inL _ _ _) (fun t ht9 hW => ⟨_, rfl, by simp only [isT, if_neg c_20, if_neg c_21, if_pos c_22, if_neg c_23], ht9⟩) hS.2.2 d_M_isTextures_76
        · refine lv_iload_n hx hb d_M_isTextures_55 rfl (lv_at hl 1 rfl) ?_
          refine lv_i2l (v := v9.toInt64) hx hb d_M_isTextures_56 rfl ?_
          refine lv_lconst (v := 1) hx hb d_M_isTextures_57 (by decide) ?_
          refine lv_ldc2 hx hb hown (ht _ tw_667) d_M_isTextures_58 ?_
          refine rcS (As := [.long v9.toInt64, .long 1, .long 11]) (rest := []) (c_M_in l dC dI tb v9.toInt64 1 11 ) F tw_598 tw_34 tw_597 tw_596 hP [] rfl hK [] rfl hE hS hd_M_in rfl rfl ⟨Nat.le_of_ble_eq_true rfl, Nat.le_of_ble_eq_true rfl⟩ ⟨Nat.le_of_ble_eq_true rfl, Nat.le_of_ble_eq_true rfl⟩ hl.1 rfl (Nat.le_of_ble_eq_true rfl) d_M_isTextures_61 ?_
          refine lv_goto (tgt := 76) hx hb d_M_isTextures_64 (by decide) ?_
          exact W.zret hx hb hr (nar_inL _ _ _) (fun t ht9 hW => ⟨_, rfl, by simp only [isT, if_neg c_20, if_neg c_21, if_pos c_22, if_pos c_23], ht9⟩) hS.2.2 d_M_isTextures_76
      · refine lv_iload_n hx hb d_M_isTextures_38 rfl (lv_at hl 1 rfl) ?_
        refine lv_i2l (v := v9.toInt64) hx hb d_M_isTextures_39 rfl ?_
        refine lv_lconst (v := 0) hx hb d_M_isTextures_40 (by decide) ?_
        refine lv_ldc2 hx hb hown (ht _ tw_666) d_M_isTextures_41 ?_
        refine rcS (As := [.long v9.toInt64, .long 0, .long 10]) (rest := []) (c_M_in l dC dI tb v9.toInt64 0 10 ) F tw_598 tw_34 tw_597 tw_596 hP [] rfl hK [] rfl hE hS hd_M_in rfl rfl ⟨Nat.le_of_ble_eq_true rfl, Nat.le_of_ble_eq_true rfl⟩ ⟨Nat.le_of_ble_eq_true rfl, Nat.le_of_ble_eq_true rfl⟩ hl.1 rfl (Nat.le_of_ble_eq_true rfl) d_M_isTextures_44 ?_
        refine lv_goto (tgt := 76) hx hb d_M_isTextures_47 (by decide) ?_
        exact W.zret hx hb hr (nar_inL _ _ _) (fun t ht9 hW => ⟨_, rfl, by simp only [isT, if_neg c_20, if_neg c_21, if_neg c_22], ht9⟩) hS.2.2 d_M_isTextures_76
    · refine lv_iload_n hx hb d_M_isTextures_21 rfl (lv_at hl 1 rfl) ?_
      refine lv_i2l (v := v9.toInt64) hx hb d_M_isTextures_22 rfl ?_
      refine lv_lconst (v := 0) hx hb d_M_isTextures_23 (by decide) ?_
      refine lv_ldc2 hx hb hown (ht _ tw_657) d_M_isTextures_24 ?_
      refine rcS (As := [.long v9.toInt64, .long 0, .long 1048576]) (rest := []) (c_M_in l dC dI tb v9.toInt64 0 1048576 ) F tw_598 tw_34 tw_597 tw_596 hP [] rfl hK [] rfl hE hS hd_M_in rfl rfl ⟨Nat.le_of_ble_eq_true rfl, Nat.le_of_ble_eq_true rfl⟩ ⟨Nat.le_of_ble_eq_true rfl, Nat.le_of_ble_eq_true rfl⟩ hl.1 rfl (Nat.le_of_ble_eq_true rfl) d_M_isTextures_27 ?_
      refine lv_goto (tgt := 76) hx hb d_M_isTextures_30 (by decide) ?_
      exact W.zret hx hb hr (nar_inL _ _ _) (fun t ht9 hW => ⟨_, rfl, by simp only [isT, if_neg c_20, if_pos c_21], ht9⟩) hS.2.2 d_M_isTextures_76
  · refine lv_iload_n hx hb d_M_isTextures_4 rfl (lv_at hl 1 rfl) ?_
    refine lv_i2l (v := v9.toInt64) hx hb d_M_isTextures_5 rfl ?_
    refine lv_lconst (v := 0) hx hb d_M_isTextures_6 (by decide) ?_
    refine lv_ldc2 hx hb hown (ht _ tw_659) d_M_isTextures_7 ?_
    refine rcS (As := [.long v9.toInt64, .long 0, .long 3]) (rest := []) (c_M_in l dC dI tb v9.toInt64 0 3 ) F tw_598 tw_34 tw_597 tw_596 hP [] rfl hK [] rfl hE hS hd_M_in rfl rfl ⟨Nat.le_of_ble_eq_true rfl, Nat.le_of_ble_eq_true rfl⟩ ⟨Nat.le_of_ble_eq_true rfl, Nat.le_of_ble_eq_true rfl⟩ hl.1 rfl (Nat.le_of_ble_eq_true rfl) d_M_isTextures_10 ?_
    refine lv_goto (tgt := 76) hx hb d_M_isTextures_13 (by decide) ?_
    exact W.zret hx hb hr (nar_inL _ _ _) (fun t ht9 hW => ⟨_, rfl, by simp only [isT, if_pos c_20], ht9⟩) hS.2.2 d_M_isTextures_76
def isC (k9 v9 : Int32) : Int32 := (if 2 ≤ k9 then (if 4 ≤ k9 then (if k9 = 4 then (inL v9.toInt64 0 1048576) else (inL v9.toInt64 0 2)) else (inL v9.toInt64 1 128)) else (inL v9.toInt64 0 127))
theorem nar_isC (k9 v9 : Int32) : narrow .boolean (.int (isC k9 v9)) = .int (isC k9 v9) := by
  unfold isC
  repeat' split
  all_goals first | rfl | exact nar_inL _ _ _
set_option maxHeartbeats 4000000 in
set_option maxRecDepth 100000 in
theorem c_M_isCopys (l : Launch) (dC : Nat → ClassId) (dI : Nat → Nat → Nat) (tb : tbT) (k9 v9 : Int32) : RM l y_M_isCopys (Cond.code y_M_isCopys b_M_isCopys 2 (some .boolean) :: TB) ({ frames := 1, cells := 0, slots := 0, locals := 25 }) tb (dC, dI) [.int k9, .int v9] [] [] (isC k9 v9) := by
  refine Met.ofW (cc := b_M_isCopys) (maxL := 2) (ret := (some .boolean)) (by decide) rfl ?_
  intro p e s m args below meth c s₁ B hml hv
  obtain ⟨rfl, hP, hK, hE⟩ := hv
  have hx := B.exec
  have hb := B.bytes
  have hr := B.returns
  have ht := fun w (h : w ∈ TB) => atoms_spec (ws := Cond.code y_M_isCopys b_M_isCopys 2 (some .boolean) :: TB) B.pre w (List.mem_cons_of_mem _ h)
  have hown : s.vm.findClass R_M = some m.cls := findClass_of_methodNamed B.named
  have hlocks := B.notSynchronized
  have hS : va_S (fun _ => False) s.heap s.heap [] := va_S.rf
  have F : CallFix p m c b_M_isCopys 2 s _ TB R_M := ⟨hx, hb, hml, hown, ht⟩
  have hl := lv_entry ([.int k9, .int v9]) (n := 2) (Nat.le_of_ble_eq_true rfl)
  rw [lg_entry_eq]
  generalize (lg_sl ([.int k9, .int v9]) ++ List.replicate (2 - (lg_sl ([.int k9, .int v9])).length) Slot.unset).toArray = ls at hl ⊢
  have hl : lv_has ls 2 [(0, .int k9), (1, .int v9)] := hl
  refine lv_iload_n hx hb d_M_isCopys_0 rfl (lv_at hl 0 rfl) ?_
  refine lv_iconst (v := 2) hx hb d_M_isCopys_1 (by decide) ?_
  refine lv_icmp_ge (tgt := 17) hx hb d_M_isCopys_2 (by decide) (fun c_24 => ?_) (fun c_24 => ?_)
  · refine lv_iload_n hx hb d_M_isCopys_17 rfl (lv_at hl 0 rfl) ?_
    refine lv_iconst (v := 4) hx hb d_M_isCopys_18 (by decide) ?_
    refine lv_icmp_ge (tgt := 34) hx hb d_M_isCopys_19 (by decide) (fun c_25 => ?_) (fun c_25 => ?_)
    · refine lv_iload_n hx hb d_M_isCopys_34 rfl (lv_at hl 0 rfl) ?_
      refine lv_iconst (v := 4) hx hb d_M_isCopys_35 (by decide) ?_
      refine lv_icmp_ne (tgt := 51) hx hb d_M_isCopys_36 (by decide) (fun c_26 => ?_) (fun c_26 => ?_)
      · refine lv_iload_n hx hb d_M_isCopys_51 rfl (lv_at hl 1 rfl) ?_
        refine lv_i2l (v := v9.toInt64) hx hb d_M_isCopys_52 rfl ?_
        refine lv_lconst (v := 0) hx hb d_M_isCopys_53 (by decide) ?_
        refine lv_ldc2 hx hb hown (ht _ tw_674) d_M_isCopys_54 ?_
        refine rcS (As := [.long v9.toInt64, .long 0, .long 2]) (rest := []) (c_M_in l dC dI tb v9.toInt64 0 2 ) F tw_598 tw_34 tw_597 tw_596 hP [] rfl hK [] rfl hE hS hd_M_in rfl rfl ⟨Nat.le_of_ble_eq_true rfl, Nat.le_of_ble_eq_true rfl⟩ ⟨Nat.le_of_ble_eq_true rfl, Nat.le_of_ble_eq_true rfl⟩ hl.1 rfl (Nat.le_of_ble_eq_true rfl) d_M_isCopys_57 ?_
        exact W.zret hx hb hr (nar_inL _ _ _) (fun t ht9 hW => ⟨_, rfl, by simp only [isC, if_pos c_24, if_pos c_25, if_neg c_26], ht9⟩) hS.2.2 d_M_isCopys_60
      · refine lv_iload_n hx hb d_M_isCopys_39 rfl (lv_at hl 1 rfl) ?_
        refine lv_i2l (v := v9.toInt64) hx hb d_M_isCopys_40 rfl ?_
        refine lv_lconst (v := 0) hx hb d_M_isCopys_41 (by decide) ?_
        refine lv_ldc2 hx hb hown (ht _ tw_657) d_M_isCopys_42 ?_
        refine rcS (As := [.long v9.toInt64, .long 0, .long 1048576]) (rest := []) (c_M_in l dC dI tb v9.toInt64 0 1048576 ) F tw_598 tw_34 tw_597 tw_596 hP [] rfl hK [] rfl hE hS hd_M_in rfl rfl ⟨Nat.le_of_ble_eq_true rfl, Nat.le_of_ble_eq_true rfl⟩ ⟨Nat.le_of_ble_eq_true rfl, Nat.le_of_ble_eq_true rfl⟩ hl.1 rfl (Nat.le_of_ble_eq_true rfl) d_M_isCopys_45 ?_
        refine lv_goto (tgt := 60) hx hb d_M_isCopys_48 (by decide) ?_
        exact W.zret hx hb hr (nar_inL _ _ _) (fun t ht9 hW => ⟨_, rfl, by simp only [isC, if_pos c_24, if_pos c_25, if_pos c_26], ht9⟩) hS.2.2 d_M_isCopys_60
    · refine lv_iload_n hx hb d_M_isCopys_22 rfl (lv_at hl 1 rfl) ?_
      refine lv_i2l (v := v9.toInt64) hx hb d_M_isCopys_23 rfl ?_
      refine lv_lconst (v := 1) hx hb d_M_isCopys_24 (by decide) ?_
      refine lv_ldc2 hx hb hown (ht _ tw_607) d_M_isCopys_25 ?_
      refine rcS (As := [.long v9.toInt64, .long 1, .long 128]) (rest := []) (c_M_in l dC dI tb v9.toInt64 1 128 ) F tw_598 tw_34 tw_597 tw_596 hP [] rfl hK [] rfl hE hS hd_M_in rfl rfl ⟨Nat.le_of_ble_eq_true rfl, Nat.le_of_ble_eq_true rfl⟩ ⟨Nat.le_of_ble_eq_true rfl, Nat.le_of_ble_eq_true rfl⟩ hl.1 rfl (Nat.le_of_ble_eq_true rfl) d_M_isCopys_28 ?_
      refine lv_goto (tgt := 60) hx hb d_M_isCopys_31 (by decide) ?_
      exact W.zret hx hb hr (nar_inL _ _ _) (fun t ht9 hW => ⟨_, rfl, by simp only [isC, if_pos c_24, if_neg c_25], ht9⟩) hS.2.2 d_M_isCopys_60
  · refine lv_iload_n hx hb d_M_isCopys_5 rfl (lv_at hl 1 rfl) ?_
    refine lv_i2l (v := v9.toInt64) hx hb d_M_isCopys_6 rfl ?_
    refine lv_lconst (v := 0) hx hb d_M_isCopys_7 (by decide) ?_
    refine lv_ldc2 hx hb hown (ht _ tw_679) d_M_isCopys_8 ?_
    refine rcS (As := [.long v9.toInt64, .long 0, .long 127]) (rest := []) (c_M_in l dC dI tb v9.toInt64 0 127 ) F tw_598 tw_34 tw_597 tw_596 hP [] rfl hK [] rfl hE hS hd_M_in rfl rfl ⟨Nat.le_of_ble_eq_true rfl, Nat.le_of_ble_eq_true rfl⟩ ⟨Nat.le_of_ble_eq_true rfl, Nat.le_of_ble_eq_true rfl⟩ hl.1 rfl (Nat.le_of_ble_eq_true rfl) d_M_isCopys_11 ?_
    refine lv_goto (tgt := 60) hx hb d_M_isCopys_14 (by decide) ?_
    exact W.zret hx hb hr (nar_inL _ _ _) (fun t ht9 hW => ⟨_, rfl, by simp only [isC, if_neg c_24], ht9⟩) hS.2.2 d_M_isCopys_60
def mayM (d9 k9 v9 : Int32) : Int32 := (if d9 = 1 then (if k9 = 0 then (inL v9.toInt64 0 7) else (if k9 = 1 then 1 else (if k9 = 2 then (if (inL v9.toInt64 0 16777215) = 0 then 0 else 1) else (if (inL v9.toInt64 0 255) = 0 then 0 else 1)))) else (if d9 = 2 then (isV k9 v9) else (if d9 = 3 ∨ d9 = 13 then 1 else (if d9 = 4 then (if k9 = 0 then (inL v9.toInt64 0 7) else (if k9 = 1 then (inL v9.toInt64 0 1048576) else (if k9 = 2 then (inL v9.toInt64 0 1024) else (if k9 = 3 then (inL v9.toInt64 0 4) else (inL v9.toInt64 0 3))))) else (if d9 = 5 then (if 0 < k9 then 1 else (if (inL v9.toInt64 0 31) = 0 then 0 else 1)) else (if d9 = 6 then (if k9 = 0 then (inL v9.toInt64 0 31) else (if k9 = 1 then (inL v9.toInt64 0 32) else (inL v9.toInt64 0 1048576))) else (if d9 = 7 ∨ d9 = 8 then (if k9 = 0 then (inL v9.toInt64 0 1048576) else (inL v9.toInt64 1 256)) else (if d9 = 9 then (isT k9 v9) else (if d9 = 10 then (if k9 = 0 then (inL v9.toInt64 (-1) 7) else (inL v9.toInt64 0 1)) else (if d9 = 11 then (isS k9 v9) else (if d9 = 12 then (if 4 ≤ k9 then (if k9 = 4 then (inL v9.toInt64 (-1) 4) else (inL v9.toInt64 0 4)) else (inL v9.toInt64 0 14)) else (if d9 = 14 then (inL v9.toInt64 (-1) 15) else (if d9 = 15 then (inL v9.toInt64 0 15) else (if d9 = 16 then (if k9 = 0 then (inL v9.toInt64 0 3) else (inL v9.toInt64 0 1)) else (if d9 = 17 then (if k9 = 0 then (inL v9.toInt64 0 2) else (if k9 = 1 then (inL v9.toInt64 0 1048576) else (inL v9.toInt64 0 4096))) else (if d9 = 18 then (if k9 = 4 then 1 else (if k9 = 0 then (if (inL v9.toInt64 0 2) = 0 then 0 else 1) else (if k9 = 3 then (if (inL v9.toInt64 0 2) = 0 then 0 else 1) else (if k9 = 1 then (if (inL v9.toInt64 0 1048576) = 0 then 0 else 1) else (if (inL v9.toInt64 0 4096) = 0 then 0 else 1))))) else (if d9 = 19 then (if k9 = 0 then (inL v9.toInt64 0 7) else (inL v9.toInt64 0 1)) else (if d9 = 20 then (isC k9 v9) else (if d9 = 21 then (if 1 < k9 then 1 else (if k9 = 0 then (if (inL v9.toInt64 0 1048576) = 0 then 0 else 1) else (if (inL v9.toInt64 0 256) = 0 then 0 else 1))) else (if d9 = 23 then (inL v9.toInt64 0 1048576) else (if d9 = 24 then (inL v9.toInt64 0 3) else (if 0 < k9 then 1 else (if (inL v9.toInt64 0 3) = 0 then 0 else 1)))))))))))))))))))))))
set_option maxHeartbeats 4000000 in
set_option maxRecDepth 100000 in
theorem c_M_may (l : Launch) (dC : Nat → ClassId) (dI : Nat → Nat → Nat) (tb : tbT) (d9 k9 v9 : Int32) : RM l y_M_may (Cond.code y_M_may b_M_may 3 (some .boolean) :: TB) ({ frames := 2, cells := 0, slots := 0, locals := 46 }) tb (dC, dI) [.int d9, .int k9, .int v9] [] [] (mayM d9 k9 v9) := by
  refine Met.ofW (cc := b_M_may) (maxL := 3) (ret := (some .boolean)) (by decide) rfl ?_
  intro p e s m args below meth c s₁ B hml hv
  obtain ⟨rfl, hP, hK, hE⟩ := hv
  have hx := B.exec
  have hb := B.bytes
  have hr := B.returns
  have ht := fun w (h : w ∈ TB) => atoms_spec (ws := Cond.code y_M_may b_M_may 3 (some .boolean) :: TB) B.pre w (List.mem_cons_of_mem _ h)
  have hown : s.vm.findClass R_M = some m.cls := findClass_of_methodNamed B.named
  have hlocks := B.notSynchronized
  have hS : va_S (fun _ => False) s.heap s.heap [] := va_S.rf
  have F : CallFix p m c b_M_may 3 s _ TB R_M := ⟨hx, hb, hml, hown, ht⟩
  have hl := lv_entry ([.int d9, .int k9, .int v9]) (n := 3) (Nat.le_of_ble_eq_true rfl)
  rw [lg_entry_eq]
  generalize (lg_sl ([.int d9, .int k9, .int v9]) ++ List.replicate (3 - (lg_sl ([.int d9, .int k9, .int v9])).length) Slot.unset).toArray = ls at hl ⊢
  have hl : lv_has ls 3 [(0, .int d9), (1, .int k9), (2, .int v9)] := hl
  refine lv_iload_n hx hb d_M_may_0 rfl (lv_at hl 0 rfl) ?_
  by_cases sv_27 : d9 = 1
  · refine lv_tab (off := 111) (tgt := 112) hx hb d_M_may_1 (by decide) (by rw [sv_27]; decide +kernel) (by decide) ?_
    refine lv_iload_n hx hb d_M_may_112 rfl (lv_at hl 1 rfl) ?_
    refine lv_if_ne (tgt := 128) hx hb d_M_may_113 (by decide) (fun c_28 => ?_) (fun c_28 => ?_)
    · refine lv_iload_n hx hb d_M_may_128 rfl (lv_at hl 1 rfl) ?_
      refine lv_iconst (v := 1) hx hb d_M_may_129 (by decide) ?_
      refine lv_icmp_eq (tgt := 156) hx hb d_M_may_130 (by decide) (fun c_29 => ?_) (fun c_29 => ?_)
      · refine lv_iconst (v := 1) hx hb d_M_may_156 (by decide) ?_
        refine lv_goto (tgt := 161) hx hb d_M_may_157 (by decide) ?_
        exact W.zret hx hb hr (rfl) (fun t ht9 hW => ⟨_, rfl, by simp only [mayM, if_pos sv_27, if_neg c_28, if_pos c_29], ht9⟩) hS.2.2 d_M_may_161
      · refine lv_iload_n hx hb d_M_may_133 rfl (lv_at hl 2 rfl) ?_
        refine lv_i2l (v := v9.toInt64) hx hb d_M_may_134 rfl ?_
        refine lv_lconst (v := 0) hx hb d_M_may_135 (by decide) ?_
        refine lv_iload_n hx hb d_M_may_136 rfl (lv_at hl 1 rfl) ?_
        refine lv_iconst (v := 2) hx hb d_M_may_137 (by decide) ?_
        refine lv_icmp_ne (tgt := 147) hx hb d_M_may_138 (by decide) (fun c_30 => ?_) (fun c_30 => ?_)
        · refine lv_ldc2 hx hb hown (ht _ tw_650) d_M_may_147 ?_
          refine rcS (As := [.long v9.toInt64, .long 0, .long 255]) (rest := []) (c_M_in l dC dI tb v9.toInt64 0 255 ) F tw_598 tw_34 tw_597 tw_596 hP [] rfl hK [] rfl hE hS hd_M_in rfl rfl ⟨Nat.le_of_ble_eq_true rfl, Nat.le_of_ble_eq_true rfl⟩ ⟨Nat.le_of_ble_eq_true rfl, Nat.le_of_ble_eq_true rfl⟩ hl.1 rfl (Nat.le_of_ble_eq_true rfl) d_M_may_150 ?_
          refine lv_if_eq (tgt := 160) hx hb d_M_may_153 (by decide) (fun c_31 => ?_) (fun c_31 => ?_)
          · refine lv_iconst (v := 0) hx hb d_M_may_160 (by decide) ?_
            exact W.zret hx hb hr (rfl) (fun t ht9 hW => ⟨_, rfl, by simp only [mayM, if_pos sv_27, if_neg c_28, if_neg c_29, if_neg c_30, if_pos c_31], ht9⟩) hS.2.2 d_M_may_161
          · refine lv_iconst (v := 1) hx hb d_M_may_156 (by decide) ?_
            refine lv_goto (tgt := 161) hx hb d_M_may_157 (by decide) ?_
            exact W.zret hx hb hr (rfl) (fun t ht9 hW => ⟨_, rfl, by simp only [mayM, if_pos sv_27, if_neg c_28, if_neg c_29, if_neg c_30, if_neg c_31], ht9⟩) hS.2.2 d_M_may_161
        · refine lv_ldc2 hx hb hown (ht _ tw_649) d_M_may_141 ?_
          refine lv_goto (tgt := 150) hx hb d_M_may_144 (by decide) ?_
          refine rcS (As := [.long v9.toInt64, .long 0, .long 16777215]) (rest := []) (c_M_in l dC dI tb v9.toInt64 0 16777215 ) F tw_598 tw_34 tw_597 tw_596 hP [] rfl hK [] rfl hE hS hd_M_in rfl rfl ⟨Nat.le_of_ble_eq_true rfl, Nat.le_of_ble_eq_true rfl⟩ ⟨Nat.le_of_ble_eq_true rfl, Nat.le_of_ble_eq_true rfl⟩ hl.1 rfl (Nat.le_of_ble_eq_true rfl) d_M_may_150 ?_
          refine lv_if_eq (tgt := 160) hx hb d_M_may_153 (by decide) (fun c_32 => ?_) (fun c_32 => ?_)
          · refine lv_iconst (v := 0) hx hb d_M_may_160 (by decide) ?_
            exact W.zret hx hb hr (rfl) (fun t ht9 hW => ⟨_, rfl, by simp only [mayM, if_pos sv_27, if_neg c_28, if_neg c_29, if_pos c_30, if_pos c_32], ht9⟩) hS.2.2 d_M_may_161
          · refine lv_iconst (v := 1) hx hb d_M_may_156 (by decide) ?_
            refine lv_goto (tgt := 161) hx hb d_M_may_157 (by decide) ?_
            exact W.zret hx hb hr (rfl) (fun t ht9 hW => ⟨_, rfl, by simp only [mayM, if_pos sv_27, if_neg c_28, if_neg c_29, if_pos c_30, if_neg c_32], ht9⟩) hS.2.2 d_M_may_161
    · refine lv_iload_n hx hb d_M_may_116 rfl (lv_at hl 2 rfl) ?_
      refine lv_i2l (v := v9.toInt64) hx hb d_M_may_117 rfl ?_
      refine lv_lconst (v := 0) hx hb d_M_may_118 (by decide) ?_
      refine lv_ldc2 hx hb hown (ht _ tw_648) d_M_may_119 ?_
      refine rcS (As := [.long v9.toInt64, .long 0, .long 7]) (rest := []) (c_M_in l dC dI tb v9.toInt64 0 7 ) F tw_598 tw_34 tw_597 tw_596 hP [] rfl hK [] rfl hE hS hd_M_in rfl rfl ⟨Nat.le_of_ble_eq_true rfl, Nat.le_of_ble_eq_true rfl⟩ ⟨Nat.le_of_ble_eq_true rfl, Nat.le_of_ble_eq_true rfl⟩ hl.1 rfl (Nat.le_of_ble_eq_true rfl) d_M_may_122 ?_
      refine lv_goto (tgt := 161) hx hb d_M_may_125 (by decide) ?_
      exact W.zret hx hb hr (nar_inL _ _ _) (fun t ht9 hW => ⟨_, rfl, by simp only [mayM, if_pos sv_27, if_pos c_28], ht9⟩) hS.2.2 d_M_may_161
  · skip
    by_cases sv_33 : d9 = 2
    · refine lv_tab (off := 161) (tgt := 162) hx hb d_M_may_1 (by decide) (by rw [sv_33]; decide +kernel) (by decide) ?_
      refine lv_iload_n hx hb d_M_may_162 rfl (lv_at hl 1 rfl) ?_
      refine lv_iload_n hx hb d_M_may_163 rfl (lv_at hl 2 rfl) ?_
      refine rcS (As := [.int k9, .int v9]) (rest := []) (c_M_isViews l dC dI tb k9 v9 ) F tw_653 tw_34 tw_652 tw_651 hP [] rfl hK [] rfl hE hS hd_M_isViews rfl rfl ⟨Nat.le_of_ble_eq_true rfl, Nat.le_of_ble_eq_true rfl⟩ ⟨Nat.le_of_ble_eq_true rfl, Nat.le_of_ble_eq_true rfl⟩ hl.1 rfl (Nat.le_of_ble_eq_true rfl) d_M_may_164 ?_
      exact W.zret hx hb hr (nar_isV _ _) (fun t ht9 hW => ⟨_, rfl, by simp only [mayM, if_neg sv_27, if_pos sv_33], ht9⟩) hS.2.2 d_M_may_167
    · skip
      by_cases sv_34 : d9 = 3 ∨ d9 = 13
      · refine lv_tab (off := 167) (tgt := 168) hx hb d_M_may_1 (by decide) (by rcases sv_34 with h9 | h9 <;> rw [h9] <;> decide +kernel) (by decide) ?_
        refine lv_iconst (v := 1) hx hb d_M_may_168 (by decide) ?_
        exact W.zret hx hb hr (rfl) (fun t ht9 hW => ⟨_, rfl, by simp only [mayM, if_neg sv_27, if_neg sv_33, if_pos sv_34], ht9⟩) hS.2.2 d_M_may_169
      · skip
        by_cases sv_35 : d9 = 4
        · refine lv_tab (off := 169) (tgt := 170) hx hb d_M_may_1 (by decide) (by rw [sv_35]; decide +kernel) (by decide) ?_
          refine lv_iload_n hx hb d_M_may_170 rfl (lv_at hl 2 rfl) ?_
          refine lv_i2l (v := v9.toInt64) hx hb d_M_may_171 rfl ?_
          refine lv_lconst (v := 0) hx hb d_M_may_172 (by decide) ?_
          refine lv_iload_n hx hb d_M_may_173 rfl (lv_at hl 1 rfl) ?_
          refine lv_if_ne (tgt := 183) hx hb d_M_may_174 (by decide) (fun c_36 => ?_) (fun c_36 => ?_)
          · refine lv_iload_n hx hb d_M_may_183 rfl (lv_at hl 1 rfl) ?_
            refine lv_iconst (v := 1) hx hb d_M_may_184 (by decide) ?_
            refine lv_icmp_ne (tgt := 194) hx hb d_M_may_185 (by decide) (fun c_37 => ?_) (fun c_37 => ?_)
            · refine lv_iload_n hx hb d_M_may_194 rfl (lv_at hl 1 rfl) ?_
              refine lv_iconst (v := 2) hx hb d_M_may_195 (by decide) ?_
              refine lv_icmp_ne (tgt := 205) hx hb d_M_may_196 (by decide) (fun c_38 => ?_) (fun c_38 => ?_)
              · refine lv_iload_n hx hb d_M_may_205 rfl (lv_at hl 1 rfl) ?_
                refine lv_iconst (v := 3) hx hb d_M_may_206 (by decide) ?_
                refine lv_icmp_ne (tgt := 216) hx hb d_M_may_207 (by decide) (fun c_39 => ?_) (fun c_39 => ?_)
                · refine lv_ldc2 hx hb hown (ht _ tw_659) d_M_may_216 ?_
                  refine rcS (As := [.long v9.toInt64, .long 0, .long 3]) (rest := []) (c_M_in l dC dI tb v9.toInt64 0 3 ) F tw_598 tw_34 tw_597 tw_596 hP [] rfl hK [] rfl hE hS hd_M_in rfl rfl ⟨Nat.le_of_ble_eq_true rfl, Nat.le_of_ble_eq_true rfl⟩ ⟨Nat.le_of_ble_eq_true rfl, Nat.le_of_ble_eq_true rfl⟩ hl.1 rfl (Nat.le_of_ble_eq_true rfl) d_M_may_219 ?_
                  exact W.zret hx hb hr (nar_inL _ _ _) (fun t ht9 hW => ⟨_, rfl, by simp only [mayM, if_neg sv_27, if_neg sv_33, if_neg sv_34, if_pos sv_35, if_neg c_36, if_neg c_37, if_neg c_38, if_neg c_39], ht9⟩) hS.2.2 d_M_may_222
                · refine lv_ldc2 hx hb hown (ht _ tw_658) d_M_may_210 ?_
                  refine lv_goto (tgt := 219) hx hb d_M_may_213 (by decide) ?_
                  refine rcS (As := [.long v9.toInt64, .long 0, .long 4]) (rest := []) (c_M_in l dC dI tb v9.toInt64 0 4 ) F tw_598 tw_34 tw_597 tw_596 hP [] rfl hK [] rfl hE hS hd_M_in rfl rfl ⟨Nat.le_of_ble_eq_true rfl, Nat.le_of_ble_eq_true rfl⟩ ⟨Nat.le_of_ble_eq_true rfl, Nat.le_of_ble_eq_true rfl⟩ hl.1 rfl (Nat.le_of_ble_eq_true rfl) d_M_may_219 ?_
                  exact W.zret hx hb hr (nar_inL _ _ _) (fun t ht9 hW => ⟨_, rfl, by simp only [mayM, if_neg sv_27, if_neg sv_33, if_neg sv_34, if_pos sv_35, if_neg c_36, if_neg c_37, if_neg c_38, if_pos c_39], ht9⟩) hS.2.2 d_M_may_222
              · refine lv_ldc2 hx hb hown (ht _ tw_656) d_M_may_199 ?_
                refine lv_goto (tgt := 219) hx hb d_M_may_202 (by decide) ?_
                refine rcS (As := [.long v9.toInt64, .long 0, .long 1024]) (rest := []) (c_M_in l dC dI tb v9.toInt64 0 1024 ) F tw_598 tw_34 tw_597 tw_596 hP [] rfl hK [] rfl hE hS hd_M_in rfl rfl ⟨Nat.le_of_ble_eq_true rfl, Nat.le_of_ble_eq_true rfl⟩ ⟨Nat.le_of_ble_eq_true rfl, Nat.le_of_ble_eq_true rfl⟩ hl.1 rfl (Nat.le_of_ble_eq_true rfl) d_M_may_219 ?_
                exact W.zret hx hb hr (nar_inL _ _ _) (fun t ht9 hW => ⟨_, rfl, by simp only [mayM, if_neg sv_27, if_neg sv_33, if_neg sv_34, if_pos sv_35, if_neg c_36, if_neg c_37, if_pos c_38], ht9⟩) hS.2.2 d_M_may_222
            · refine lv_ldc2 hx hb hown (ht _ tw_657) d_M_may_188 ?_
              refine lv_goto (tgt := 219) hx hb d_M_may_191 (by decide) ?_
              refine rcS (As := [.long v9.toInt64, .long 0, .long 1048576]) (rest := []) (c_M_in l dC dI tb v9.toInt64 0 1048576 ) F tw_598 tw_34 tw_597 tw_596 hP [] rfl hK [] rfl hE hS hd_M_in rfl rfl ⟨Nat.le_of_ble_eq_true rfl, Nat.le_of_ble_eq_true rfl⟩ ⟨Nat.le_of_ble_eq_true rfl, Nat.le_of_ble_eq_true rfl⟩ hl.1 rfl (Nat.le_of_ble_eq_true rfl) d_M_may_219 ?_
              exact W.zret hx hb hr (nar_inL _ _ _) (fun t ht9 hW => ⟨_, rfl, by simp only [mayM, if_neg sv_27, if_neg sv_33, if_neg sv_34, if_pos sv_35, if_neg c_36, if_pos c_37], ht9⟩) hS.2.2 d_M_may_222
          · refine lv_ldc2 hx hb hown (ht _ tw_648) d_M_may_177 ?_
            refine lv_goto (tgt := 219) hx hb d_M_may_180 (by decide) ?_
            refine rcS (As := [.long v9.toInt64, .long 0, .long 7]) (rest := []) (c_M_in l dC dI tb v9.toInt64 0 7 ) F tw_598 tw_34 tw_597 tw_596 hP [] rfl hK [] rfl hE hS hd_M_in rfl rfl ⟨Nat.le_of_ble_eq_true rfl, Nat.le_of_ble_eq_true rfl⟩ ⟨Nat.le_of_ble_eq_true rfl, Nat.le_of_ble_eq_true rfl⟩ hl.1 rfl (Nat.le_of_ble_eq_true rfl) d_M_may_219 ?_
            exact W.zret hx hb hr (nar_inL _ _ _) (fun t ht9 hW => ⟨_, rfl, by simp only [mayM, if_neg sv_27, if_neg sv_33, if_neg sv_34, if_pos sv_35, if_pos c_36], ht9⟩) hS.2.2 d_M_may_222
        · skip
          by_cases sv_40 : d9 = 5
          · refine lv_tab (off := 222) (tgt := 223) hx hb d_M_may_1 (by decide) (by rw [sv_40]; decide +kernel) (by decide) ?_
            refine lv_iload_n hx hb d_M_may_223 rfl (lv_at hl 1 rfl) ?_
            refine lv_if_gt (tgt := 239) hx hb d_M_may_224 (by decide) (fun c_41 => ?_) (fun c_41 => ?_)
            · refine lv_iconst (v := 1) hx hb d_M_may_239 (by decide) ?_
              refine lv_goto (tgt := 244) hx hb d_M_may_240 (by decide) ?_
              exact W.zret hx hb hr (rfl) (fun t ht9 hW => ⟨_, rfl, by simp only [mayM, if_neg sv_27, if_neg sv_33, if_neg sv_34, if_neg sv_35, if_pos sv_40, if_pos c_41], ht9⟩) hS.2.2 d_M_may_244
            · refine lv_iload_n hx hb d_M_may_227 rfl (lv_at hl 2 rfl) ?_
              refine lv_i2l (v := v9.toInt64) hx hb d_M_may_228 rfl ?_
              refine lv_lconst (v := 0) hx hb d_M_may_229 (by decide) ?_
              refine lv_ldc2 hx hb hown (ht _ tw_660) d_M_may_230 ?_
              refine rcS (As := [.long v9.toInt64, .long 0, .long 31]) (rest := []) (c_M_in l dC dI tb v9.toInt64 0 31 ) F tw_598 tw_34 tw_597 tw_596 hP [] rfl hK [] rfl hE hS hd_M_in rfl rfl ⟨Nat.le_of_ble_eq_true rfl, Nat.le_of_ble_eq_true rfl⟩ ⟨Nat.le_of_ble_eq_true rfl, Nat.le_of_ble_eq_true rfl⟩ hl.1 rfl (Nat.le_of_ble_eq_true rfl) d_M_may_233 ?_
              refine lv_if_eq (tgt := 243) hx hb d_M_may_236 (by decide) (fun c_42 => ?_) (fun c_42 => ?_)
              · refine lv_iconst (v := 0) hx hb d_M_may_243 (by decide) ?_
                exact W.zret hx hb hr (rfl) (fun t ht9 hW => ⟨_, rfl, by simp only [mayM, if_neg sv_27, if_neg sv_33, if_neg sv_34, if_neg sv_35, if_pos sv_40, if_neg c_41, if_pos c_42], ht9⟩) hS.2.2 d_M_may_244
              · refine lv_iconst (v := 1) hx hb d_M_may_239 (by decide) ?_
                refine lv_goto (tgt := 244) hx hb d_M_may_240 (by decide) ?_
                exact W.zret hx hb hr (rfl) (fun t ht9 hW => ⟨_, rfl, by simp only [mayM, if_neg sv_27, if_neg sv_33, if_neg sv_34, if_neg sv_35, if_pos sv_40, if_neg c_41, if_neg c_42], ht9⟩) hS.2.2 d_M_may_244
          · skip
            by_cases sv_43 : d9 = 6
            · refine lv_tab (off := 244) (tgt := 245) hx hb d_M_may_1 (by decide) (by rw [sv_43]; decide +kernel) (by decide) ?_
              refine lv_iload_n hx hb d_M_may_245 rfl (lv_at hl 2 rfl) ?_
              refine lv_i2l (v := v9.toInt64) hx hb d_M_may_246 rfl ?_
              refine lv_lconst (v := 0) hx hb d_M_may_247 (by decide) ?_
              refine lv_iload_n hx hb d_M_may_248 rfl (lv_at hl 1 rfl) ?_
              refine lv_if_ne (tgt := 258) hx hb d_M_may_249 (by decide) (fun c_44 => ?_) (fun c_44 => ?_)
              · refine lv_iload_n hx hb d_M_may_258 rfl (lv_at hl 1 rfl) ?_
                refine lv_iconst (v := 1) hx hb d_M_may_259 (by decide) ?_
                refine lv_icmp_ne (tgt := 269) hx hb d_M_may_260 (by decide) (fun c_45 => ?_) (fun c_45 => ?_)
                · refine lv_ldc2 hx hb hown (ht _ tw_657) d_M_may_269 ?_
                  refine rcS (As := [.long v9.toInt64, .long 0, .long 1048576]) (rest := []) (c_M_in l dC dI tb v9.toInt64 0 1048576 ) F tw_598 tw_34 tw_597 tw_596 hP [] rfl hK [] rfl hE hS hd_M_in rfl rfl ⟨Nat.le_of_ble_eq_true rfl, Nat.le_of_ble_eq_true rfl⟩ ⟨Nat.le_of_ble_eq_true rfl, Nat.le_of_ble_eq_true rfl⟩ hl.1 rfl (Nat.le_of_ble_eq_true rfl) d_M_may_272 ?_
                  exact W.zret hx hb hr (nar_inL _ _ _) (fun t ht9 hW => ⟨_, rfl, by simp only [mayM, if_neg sv_27, if_neg sv_33, if_neg sv_34, if_neg sv_35, if_neg sv_40, if_pos sv_43, if_neg c_44, if_neg c_45], ht9⟩) hS.2.2 d_M_may_275
                · refine lv_ldc2 hx hb hown (ht _ tw_661) d_M_may_263 ?_
                  refine lv_goto (tgt := 272) hx hb d_M_may_266 (by decide) ?_
                  refine rcS (As := [.long v9.toInt64, .long 0, .long 32]) (rest := []) (c_M_in l dC dI tb v9.toInt64 0 32 ) F tw_598 tw_34 tw_597 tw_596 hP [] rfl hK [] rfl hE hS hd_M_in rfl rfl ⟨Nat.le_of_ble_eq_true rfl, Nat.le_of_ble_eq_true rfl⟩ ⟨Nat.le_of_ble_eq_true rfl, Nat.le_of_ble_eq_true rfl⟩ hl.1 rfl (Nat.le_of_ble_eq_true rfl) d_M_may_272 ?_
                  exact W.zret hx hb hr (nar_inL _ _ _) (fun t ht9 hW => ⟨_, rfl, by simp only [mayM, if_neg sv_27, if_neg sv_33, if_neg sv_34, if_neg sv_35, if_neg sv_40, if_pos sv_43, if_neg c_44, if_pos c_45], ht9⟩) hS.2.2 d_M_may_275
              · refine lv_ldc2 hx hb hown (ht _ tw_660) d_M_may_252 ?_
                refine lv_goto (tgt := 272) hx hb d_M_may_255 (by decide) ?_
                refine rcS (As := [.long v9.toInt64, .long 0, .long 31]) (rest := []) (c_M_in l dC dI tb v9.toInt64 0 31 ) F tw_598 tw_34 tw_597 tw_596 hP [] rfl hK [] rfl hE hS hd_M_in rfl rfl ⟨Nat.le_of_ble_eq_true rfl, Nat.le_of_ble_eq_true rfl⟩ ⟨Nat.le_of_ble_eq_true rfl, Nat.le_of_ble_eq_true rfl⟩ hl.1 rfl (Nat.le_of_ble_eq_true rfl) d_M_may_272 ?_
                exact W.zret hx hb hr (nar_inL _ _ _) (fun t ht9 hW => ⟨_, rfl, by simp only [mayM, if_neg sv_27, if_neg sv_33, if_neg sv_34, if_neg sv_35, if_neg sv_40, if_pos sv_43, if_pos c_44], ht9⟩) hS.2.2 d_M_may_275
            · skip
              by_cases sv_46 : d9 = 7 ∨ d9 = 8
              · refine lv_tab (off := 275) (tgt := 276) hx hb d_M_may_1 (by decide) (by rcases sv_46 with h9 | h9 <;> rw [h9] <;> decide +kernel) (by decide) ?_
                refine lv_iload_n hx hb d_M_may_276 rfl (lv_at hl 1 rfl) ?_
                refine lv_if_ne (tgt := 292) hx hb d_M_may_277 (by decide) (fun c_47 => ?_) (fun c_47 => ?_)
                · refine lv_iload_n hx hb d_M_may_292 rfl (lv_at hl 2 rfl) ?_
                  refine lv_i2l (v := v9.toInt64) hx hb d_M_may_293 rfl ?_
                  refine lv_lconst (v := 1) hx hb d_M_may_294 (by decide) ?_
                  refine lv_ldc2 hx hb hown (ht _ tw_662) d_M_may_295 ?_
                  refine rcS (As := [.long v9.toInt64, .long 1, .long 256]) (rest := []) (c_M_in l dC dI tb v9.toInt64 1 256 ) F tw_598 tw_34 tw_597 tw_596 hP [] rfl hK [] rfl hE hS hd_M_in rfl rfl ⟨Nat.le_of_ble_eq_true rfl, Nat.le_of_ble_eq_true rfl⟩ ⟨Nat.le_of_ble_eq_true rfl, Nat.le_of_ble_eq_true rfl⟩ hl.1 rfl (Nat.le_of_ble_eq_true rfl) d_M_may_298 ?_
                  exact W.zret hx hb hr (nar_inL _ _ _) (fun t ht9 hW => ⟨_, rfl, by simp only [mayM, if_neg sv_27, if_neg sv_33, if_neg sv_34, if_neg sv_35, if_neg sv_40, if_neg sv_43, if_pos sv_46, if_neg c_47], ht9⟩) hS.2.2 d_M_may_301
                · refine lv_iload_n hx hb d_M_may_280 rfl (lv_at hl 2 rfl) ?_
                  refine lv_i2l (v := v9.toInt64) hx hb d_M_may_281 rfl ?_
                  refine lv_lconst (v := 0) hx hb d_M_may_282 (by decide) ?_
                  refine lv_ldc2 hx hb hown (ht _ tw_657) d_M_may_283 ?_
                  refine rcS (As := [.long v9.toInt64, .long 0, .long 1048576]) (rest := []) (c_M_in l dC dI tb v9.toInt64 0 1048576 ) F tw_598 tw_34 tw_597 tw_596 hP [] rfl hK [] rfl hE hS hd_M_in rfl rfl ⟨Nat.le_of_ble_eq_true rfl, Nat.le_of_ble_eq_true rfl⟩ ⟨Nat.le_of_ble_eq_true rfl, Nat.le_of_ble_eq_true rfl⟩ hl.1 rfl (Nat.le_of_ble_eq_true rfl) d_M_may_286 ?_
                  refine lv_goto (tgt := 301) hx hb d_M_may_289 (by decide) ?_
                  exact W.zret hx hb hr (nar_inL _ _ _) (fun t ht9 hW => ⟨_, rfl, by simp only [mayM, if_neg sv_27, if_neg sv_33, if_neg sv_34, if_neg sv_35, if_neg sv_40, if_neg sv_43, if_pos sv_46, if_pos c_47], ht9⟩) hS.2.2 d_M_may_301
              · skip
                by_cases sv_48 : d9 = 9
                · refine lv_tab (off := 301) (tgt := 302) hx hb d_M_may_1 (by decide) (by rw [sv_48]; decide +kernel) (by decide) ?_
                  refine lv_iload_n hx hb d_M_may_302 rfl (lv_at hl 1 rfl) ?_
                  refine lv_iload_n hx hb d_M_may_303 rfl (lv_at hl 2 rfl) ?_
                  refine rcS (As := [.int k9, .int v9]) (rest := []) (c_M_isTextures l dC dI tb k9 v9 ) F tw_665 tw_34 tw_664 tw_663 hP [] rfl hK [] rfl hE hS hd_M_isTextures rfl rfl ⟨Nat.le_of_ble_eq_true rfl, Nat.le_of_ble_eq_true rfl⟩ ⟨Nat.le_of_ble_eq_true rfl, Nat.le_of_ble_eq_true rfl⟩ hl.1 rfl (Nat.le_of_ble_eq_true rfl) d_M_may_304 ?_
                  exact W.zret hx hb hr (nar_isT _ _) (fun t ht9 hW => ⟨_, rfl, by simp only [mayM, if_neg sv_27, if_neg sv_33, if_neg sv_34, if_neg sv_35, if_neg sv_40, if_neg sv_43, if_neg sv_46, if_pos sv_48], ht9⟩) hS.2.2 d_M_may_307
                · skip
                  by_cases sv_49 : d9 = 10
                  · refine lv_tab (off := 307) (tgt := 308) hx hb d_M_may_1 (by decide) (by rw [sv_49]; decide +kernel) (by decide) ?_
                    refine lv_iload_n hx hb d_M_may_308 rfl (lv_at hl 1 rfl) ?_
                    refine lv_if_ne (tgt := 326) hx hb d_M_may_309 (by decide) (fun c_50 => ?_) (fun c_50 => ?_)
                    · refine lv_iload_n hx hb d_M_may_326 rfl (lv_at hl 2 rfl) ?_
                      refine lv_i2l (v := v9.toInt64) hx hb d_M_may_327 rfl ?_
                      refine lv_lconst (v := 0) hx hb d_M_may_328 (by decide) ?_
                      refine lv_lconst (v := 1) hx hb d_M_may_329 (by decide) ?_
                      refine rcS (As := [.long v9.toInt64, .long 0, .long 1]) (rest := []) (c_M_in l dC dI tb v9.toInt64 0 1 ) F tw_598 tw_34 tw_597 tw_596 hP [] rfl hK [] rfl hE hS hd_M_in rfl rfl ⟨Nat.le_of_ble_eq_true rfl, Nat.le_of_ble_eq_true rfl⟩ ⟨Nat.le_of_ble_eq_true rfl, Nat.le_of_ble_eq_true rfl⟩ hl.1 rfl (Nat.le_of_ble_eq_true rfl) d_M_may_330 ?_
                      exact W.zret hx hb hr (nar_inL _ _ _) (fun t ht9 hW => ⟨_, rfl, by simp only [mayM, if_neg sv_27, if_neg sv_33, if_neg sv_34, if_neg sv_35, if_neg sv_40, if_neg sv_43, if_neg sv_46, if_neg sv_48, if_pos sv_49, if_neg c_50], ht9⟩) hS.2.2 d_M_may_333
                    · refine lv_iload_n hx hb d_M_may_312 rfl (lv_at hl 2 rfl) ?_
                      refine lv_i2l (v := v9.toInt64) hx hb d_M_may_313 rfl ?_
                      refine lv_ldc2 hx hb hown (ht _ tw_668) d_M_may_314 ?_
                      refine lv_ldc2 hx hb hown (ht _ tw_648) d_M_may_317 ?_
                      refine rcS (As := [.long v9.toInt64, .long (-1), .long 7]) (rest := []) (c_M_in l dC dI tb v9.toInt64 (-1) 7 ) F tw_598 tw_34 tw_597 tw_596 hP [] rfl hK [] rfl hE hS hd_M_in rfl rfl ⟨Nat.le_of_ble_eq_true rfl, Nat.le_of_ble_eq_true rfl⟩ ⟨Nat.le_of_ble_eq_true rfl, Nat.le_of_ble_eq_true rfl⟩ hl.1 rfl (Nat.le_of_ble_eq_true rfl) d_M_may_320 ?_
                      refine lv_goto (tgt := 333) hx hb d_M_may_323 (by decide) ?_
                      exact W.zret hx hb hr (nar_inL _ _ _) (fun t ht9 hW => ⟨_, rfl, by simp only [mayM, if_neg sv_27, if_neg sv_33, if_neg sv_34, if_neg sv_35, if_neg sv_40, if_neg sv_43, if_neg sv_46, if_neg sv_48, if_pos sv_49, if_pos c_50], ht9⟩) hS.2.2 d_M_may_333
                  · skip
                    by_cases sv_51 : d9 = 11
                    · refine lv_tab (off := 333) (tgt := 334) hx hb d_M_may_1 (by decide) (by rw [sv_51]; decide +kernel) (by decide) ?_
                      refine lv_iload_n hx hb d_M_may_334 rfl (lv_at hl 1 rfl) ?_
                      refine lv_iload_n hx hb d_M_may_335 rfl (lv_at hl 2 rfl) ?_
                      refine rcS (As := [.int k9, .int v9]) (rest := []) (c_M_isStencils l dC dI tb k9 v9 ) F tw_671 tw_34 tw_670 tw_669 hP [] rfl hK [] rfl hE hS hd_M_isStencils rfl rfl ⟨Nat.le_of_ble_eq_true rfl, Nat.le_of_ble_eq_true rfl⟩ ⟨Nat.le_of_ble_eq_true rfl, Nat.le_of_ble_eq_true rfl⟩ hl.1 rfl (Nat.le_of_ble_eq_true rfl) d_M_may_336 ?_
                      exact W.zret hx hb hr (nar_isS _ _) (fun t ht9 hW => ⟨_, rfl, by simp only [mayM, if_neg sv_27, if_neg sv_33, if_neg sv_34, if_neg sv_35, if_neg sv_40, if_neg sv_43, if_neg sv_46, if_neg sv_48, if_neg sv_49, if_pos sv_51], ht9⟩) hS.2.2 d_M_may_339
                    · skip
                      by_cases sv_52 : d9 = 12
                      · refine lv_tab (off := 339) (tgt := 340) hx hb d_M_may_1 (by decide) (by rw [sv_52]; decide +kernel) (by decide) ?_
                        refine lv_iload_n hx hb d_M_may_340 rfl (lv_at hl 1 rfl) ?_
                        refine lv_iconst (v := 4) hx hb d_M_may_341 (by decide) ?_
                        refine lv_icmp_ge (tgt := 357) hx hb d_M_may_342 (by decide) (fun c_53 => ?_) (fun c_53 => ?_)
                        · refine lv_iload_n hx hb d_M_may_357 rfl (lv_at hl 2 rfl) ?_
                          refine lv_i2l (v := v9.toInt64) hx hb d_M_may_358 rfl ?_
                          refine lv_iload_n hx hb d_M_may_359 rfl (lv_at hl 1 rfl) ?_
                          refine lv_iconst (v := 4) hx hb d_M_may_360 (by decide) ?_
                          refine lv_icmp_ne (tgt := 370) hx hb d_M_may_361 (by decide) (fun c_54 => ?_) (fun c_54 => ?_)
                          · refine lv_lconst (v := 0) hx hb d_M_may_370 (by decide) ?_
                            refine lv_ldc2 hx hb hown (ht _ tw_658) d_M_may_371 ?_
                            refine rcS (As := [.long v9.toInt64, .long 0, .long 4]) (rest := []) (c_M_in l dC dI tb v9.toInt64 0 4 ) F tw_598 tw_34 tw_597 tw_596 hP [] rfl hK [] rfl hE hS hd_M_in rfl rfl ⟨Nat.le_of_ble_eq_true rfl, Nat.le_of_ble_eq_true rfl⟩ ⟨Nat.le_of_ble_eq_true rfl, Nat.le_of_ble_eq_true rfl⟩ hl.1 rfl (Nat.le_of_ble_eq_true rfl) d_M_may_374 ?_
                            exact W.zret hx hb hr (nar_inL _ _ _) (fun t ht9 hW => ⟨_, rfl, by simp only [mayM, if_neg sv_27, if_neg sv_33, if_neg sv_34, if_neg sv_35, if_neg sv_40, if_neg sv_43, if_neg sv_46, if_neg sv_48, if_neg sv_49, if_neg sv_51, if_pos sv_52, if_pos c_53, if_neg c_54], ht9⟩) hS.2.2 d_M_may_377
                          · refine lv_ldc2 hx hb hown (ht _ tw_668) d_M_may_364 ?_
                            refine lv_goto (tgt := 371) hx hb d_M_may_367 (by decide) ?_
                            refine lv_ldc2 hx hb hown (ht _ tw_658) d_M_may_371 ?_
                            refine rcS (As := [.long v9.toInt64, .long (-1), .long 4]) (rest := []) (c_M_in l dC dI tb v9.toInt64 (-1) 4 ) F tw_598 tw_34 tw_597 tw_596 hP [] rfl hK [] rfl hE hS hd_M_in rfl rfl ⟨Nat.le_of_ble_eq_true rfl, Nat.le_of_ble_eq_true rfl⟩ ⟨Nat.le_of_ble_eq_true rfl, Nat.le_of_ble_eq_true rfl⟩ hl.1 rfl (Nat.le_of_ble_eq_true rfl) d_M_may_374 ?_
                            exact W.zret hx hb hr (nar_inL _ _ _) (fun t ht9 hW => ⟨_, rfl, by simp only [mayM, if_neg sv_27, if_neg sv_33, if_neg sv_34, if_neg sv_35, if_neg sv_40, if_neg sv_43, if_neg sv_46, if_neg sv_48, if_neg sv_49, if_neg sv_51, if_pos sv_52, if_pos c_53, if_pos c_54], ht9⟩) hS.2.2 d_M_may_377
                        · refine lv_iload_n hx hb d_M_may_345 rfl (lv_at hl 2 rfl) ?_
                          refine lv_i2l (v := v9.toInt64) hx hb d_M_may_346 rfl ?_
                          refine lv_lconst (v := 0) hx hb d_M_may_347 (by decide) ?_
                          refine lv_ldc2 hx hb hown (ht _ tw_672) d_M_may_348 ?_
                          refine rcS (As := [.long v9.toInt64, .long 0, .long 14]) (rest := []) (c_M_in l dC dI tb v9.toInt64 0 14 ) F tw_598 tw_34 tw_597 tw_596 hP [] rfl hK [] rfl hE hS hd_M_in rfl rfl ⟨Nat.le_of_ble_eq_true rfl, Nat.le_of_ble_eq_true rfl⟩ ⟨Nat.le_of_ble_eq_true rfl, Nat.le_of_ble_eq_true rfl⟩ hl.1 rfl (Nat.le_of_ble_eq_true rfl) d_M_may_351 ?_
                          refine lv_goto (tgt := 377) hx hb d_M_may_354 (by decide) ?_
                          exact W.zret hx hb hr (nar_inL _ _ _) (fun t ht9 hW => ⟨_, rfl, by simp only [mayM, if_neg sv_27, if_neg sv_33, if_neg sv_34, if_neg sv_35, if_neg sv_40, if_neg sv_43, if_neg sv_46, if_neg sv_48, if_neg sv_49, if_neg sv_51, if_pos sv_52, if_neg c_53], ht9⟩) hS.2.2 d_M_may_377
                      · skip
                        by_cases sv_55 : d9 = 14
                        · refine lv_tab (off := 377) (tgt := 378) hx hb d_M_may_1 (by decide) (by rw [sv_55]; decide +kernel) (by decide) ?_
                          refine lv_iload_n hx hb d_M_may_378 rfl (lv_at hl 2 rfl) ?_
                          refine lv_i2l (v := v9.toInt64) hx hb d_M_may_379 rfl ?_
                          refine lv_ldc2 hx hb hown (ht _ tw_668) d_M_may_380 ?_
                          refine lv_ldc2 hx hb hown (ht _ tw_673) d_M_may_383 ?_
                          refine rcS (As := [.long v9.toInt64, .long (-1), .long 15]) (rest := []) (c_M_in l dC dI tb v9.toInt64 (-1) 15 ) F tw_598 tw_34 tw_597 tw_596 hP [] rfl hK [] rfl hE hS hd_M_in rfl rfl ⟨Nat.le_of_ble_eq_true rfl, Nat.le_of_ble_eq_true rfl⟩ ⟨Nat.le_of_ble_eq_true rfl, Nat.le_of_ble_eq_true rfl⟩ hl.1 rfl (Nat.le_of_ble_eq_true rfl) d_M_may_386 ?_
                          exact W.zret hx hb hr (nar_inL _ _ _) (fun t ht9 hW => ⟨_, rfl, by simp only [mayM, if_neg sv_27, if_neg sv_33, if_neg sv_34, if_neg sv_35, if_neg sv_40, if_neg sv_43, if_neg sv_46, if_neg sv_48, if_neg sv_49, if_neg sv_51, if_neg sv_52, if_pos sv_55], ht9⟩) hS.2.2 d_M_may_389
                        · skip
                          by_cases sv_56 : d9 = 15
                          · refine lv_tab (off := 389) (tgt := 390) hx hb d_M_may_1 (by decide) (by rw [sv_56]; decide +kernel) (by decide) ?_
                            refine lv_iload_n hx hb d_M_may_390 rfl (lv_at hl 2 rfl) ?_
                            refine lv_i2l (v := v9.toInt64) hx hb d_M_may_391 rfl ?_
                            refine lv_lconst (v := 0) hx hb d_M_may_392 (by decide) ?_
                            refine lv_ldc2 hx hb hown (ht _ tw_673) d_M_may_393 ?_
                            refine rcS (As := [.long v9.toInt64, .long 0, .long 15]) (rest := []) (c_M_in l dC dI tb v9.toInt64 0 15 ) F tw_598 tw_34 tw_597 tw_596 hP [] rfl hK [] rfl hE hS hd_M_in rfl rfl ⟨Nat.le_of_ble_eq_true rfl, Nat.le_of_ble_eq_true rfl⟩ ⟨Nat.le_of_ble_eq_true rfl, Nat.le_of_ble_eq_true rfl⟩ hl.1 rfl (Nat.le_of_ble_eq_true rfl) d_M_may_396 ?_
                            exact W.zret hx hb hr (nar_inL _ _ _) (fun t ht9 hW => ⟨_, rfl, by simp only [mayM, if_neg sv_27, if_neg sv_33, if_neg sv_34, if_neg sv_35, if_neg sv_40, if_neg sv_43, if_neg sv_46, if_neg sv_48, if_neg sv_49, if_neg sv_51, if_neg sv_52, if_neg sv_55, if_pos sv_56], ht9⟩) hS.2.2 d_M_may_399
                          · skip
                            by_cases sv_57 : d9 = 16
                            · refine lv_tab (off := 399) (tgt := 400) hx hb d_M_may_1 (by decide) (by rw [sv_57]; decide +kernel) (by decide) ?_
                              refine lv_iload_n hx hb d_M_may_400 rfl (lv_at hl 2 rfl) ?_
                              refine lv_i2l (v := v9.toInt64) hx hb d_M_may_401 rfl ?_
                              refine lv_lconst (v := 0) hx hb d_M_may_402 (by decide) ?_
                              refine lv_iload_n hx hb d_M_may_403 rfl (lv_at hl 1 rfl) ?_
                              refine lv_if_ne (tgt := 413) hx hb d_M_may_404 (by decide) (fun c_58 => ?_) (fun c_58 => ?_)
                              · refine lv_lconst (v := 1) hx hb d_M_may_413 (by decide) ?_
                                refine rcS (As := [.long v9.toInt64, .long 0, .long 1]) (rest := []) (c_M_in l dC dI tb v9.toInt64 0 1 ) F tw_598 tw_34 tw_597 tw_596 hP [] rfl hK [] rfl hE hS hd_M_in rfl rfl ⟨Nat.le_of_ble_eq_true rfl, Nat.le_of_ble_eq_true rfl⟩ ⟨Nat.le_of_ble_eq_true rfl, Nat.le_of_ble_eq_true rfl⟩ hl.1 rfl (Nat.le_of_ble_eq_true rfl) d_M_may_414 ?_
                                exact W.zret hx hb hr (nar_inL _ _ _) (fun t ht9 hW => ⟨_, rfl, by simp only [mayM, if_neg sv_27, if_neg sv_33, if_neg sv_34, if_neg sv_35, if_neg sv_40, if_neg sv_43, if_neg sv_46, if_neg sv_48, if_neg sv_49, if_neg sv_51, if_neg sv_52, if_neg sv_55, if_neg sv_56, if_pos sv_57, if_neg c_58], ht9⟩) hS.2.2 d_M_may_417
                              · refine lv_ldc2 hx hb hown (ht _ tw_659) d_M_may_407 ?_
                                refine lv_goto (tgt := 414) hx hb d_M_may_410 (by decide) ?_
                                refine rcS (As := [.long v9.toInt64, .long 0, .long 3]) (rest := []) (c_M_in l dC dI tb v9.toInt64 0 3 ) F tw_598 tw_34 tw_597 tw_596 hP [] rfl hK [] rfl hE hS hd_M_in rfl rfl ⟨Nat.le_of_ble_eq_true rfl, Nat.le_of_ble_eq_true rfl⟩ ⟨Nat.le_of_ble_eq_true rfl, Nat.le_of_ble_eq_true rfl⟩ hl.1 rfl (Nat.le_of_ble_eq_true rfl) d_M_may_414 ?_
                                exact W.zret hx hb hr (nar_inL _ _ _) (fun t ht9 hW => ⟨_, rfl, by simp only [mayM, if_neg sv_27, if_neg sv_33, if_neg sv_34, if_neg sv_35, if_neg sv_40, if_neg sv_43, if_neg sv_46, if_neg sv_48, if_neg sv_49, if_neg sv_51, if_neg sv_52, if_neg sv_55, if_neg sv_56, if_pos sv_57, if_pos c_58], ht9⟩) hS.2.2 d_M_may_417
                            · skip
                              by_cases sv_59 : d9 = 17
                              · refine lv_tab (off := 417) (tgt := 418) hx hb d_M_may_1 (by decide) (by rw [sv_59]; decide +kernel) (by decide) ?_
                                refine lv_iload_n hx hb d_M_may_418 rfl (lv_at hl 2 rfl) ?_
                                refine lv_i2l (v := v9.toInt64) hx hb d_M_may_419 rfl ?_
                                refine lv_lconst (v := 0) hx hb d_M_may_420 (by decide) ?_
                                refine lv_iload_n hx hb d_M_may_421 rfl (lv_at hl 1 rfl) ?_
                                refine lv_if_ne (tgt := 431) hx hb d_M_may_422 (by decide) (fun c_60 => ?_) (fun c_60 => ?_)
                                · refine lv_iload_n hx hb d_M_may_431 rfl (lv_at hl 1 rfl) ?_
                                  refine lv_iconst (v := 1) hx hb d_M_may_432 (by decide) ?_
                                  refine lv_icmp_ne (tgt := 442) hx hb d_M_may_433 (by decide) (fun c_61 => ?_) (fun c_61 => ?_)
                                  · refine lv_ldc2 hx hb hown (ht _ tw_675) d_M_may_442 ?_
                                    refine rcS (As := [.long v9.toInt64, .long 0, .long 4096]) (rest := []) (c_M_in l dC dI tb v9.toInt64 0 4096 ) F tw_598 tw_34 tw_597 tw_596 hP [] rfl hK [] rfl hE hS hd_M_in rfl rfl ⟨Nat.le_of_ble_eq_true rfl, Nat.le_of_ble_eq_true rfl⟩ ⟨Nat.le_of_ble_eq_true rfl, Nat.le_of_ble_eq_true rfl⟩ hl.1 rfl (Nat.le_of_ble_eq_true rfl) d_M_may_445 ?_
                                    exact W.zret hx hb hr (nar_inL _ _ _) (fun t ht9 hW => ⟨_, rfl, by simp only [mayM, if_neg sv_27, if_neg sv_33, if_neg sv_34, if_neg sv_35, if_neg sv_40, if_neg sv_43, if_neg sv_46, if_neg sv_48, if_neg sv_49, if_neg sv_51, if_neg sv_52, if_neg sv_55, if_neg sv_56, if_neg sv_57, if_pos sv_59, if_neg c_60, if_neg c_61], ht9⟩) hS.2.2 d_M_may_448
                                  · refine lv_ldc2 hx hb hown (ht _ tw_657) d_M_may_436 ?_
                                    refine lv_goto (tgt := 445) hx hb d_M_may_439 (by decide) ?_
                                    refine rcS (As := [.long v9.toInt64, .long 0, .long 1048576]) (rest := []) (c_M_in l dC dI tb v9.toInt64 0 1048576 ) F tw_598 tw_34 tw_597 tw_596 hP [] rfl hK [] rfl hE hS hd_M_in rfl rfl ⟨Nat.le_of_ble_eq_true rfl, Nat.le_of_ble_eq_true rfl⟩ ⟨Nat.le_of_ble_eq_true rfl, Nat.le_of_ble_eq_true rfl⟩ hl.1 rfl (Nat.le_of_ble_eq_true rfl) d_M_may_445 ?_
                                    exact W.zret hx hb hr (nar_inL _ _ _) (fun t ht9 hW => ⟨_, rfl, by simp only [mayM, if_neg sv_27, if_neg sv_33, if_neg sv_34, if_neg sv_35, if_neg sv_40, if_neg sv_43, if_neg sv_46, if_neg sv_48, if_neg sv_49, if_neg sv_51, if_neg sv_52, if_neg sv_55, if_neg sv_56, if_neg sv_57, if_pos sv_59, if_neg c_60, if_pos c_61], ht9⟩) hS.2.2 d_M_may_448
                                · refine lv_ldc2 hx hb hown (ht _ tw_674) d_M_may_425 ?_
                                  refine lv_goto (tgt := 445) hx hb d_M_may_428 (by decide) ?_
                                  refine rcS (As := [.long v9.toInt64, .long 0, .long 2]) (rest := []) (c_M_in l dC dI tb v9.toInt64 0 2 ) F tw_598 tw_34 tw_597 tw_596 hP [] rfl hK [] rfl hE hS hd_M_in rfl rfl ⟨Nat.le_of_ble_eq_true rfl, Nat.le_of_ble_eq_true rfl⟩ ⟨Nat.le_of_ble_eq_true rfl, Nat.le_of_ble_eq_true rfl⟩ hl.1 rfl (Nat.le_of_ble_eq_true rfl) d_M_may_445 ?_
                                  exact W.zret hx hb hr (nar_inL _ _ _) (fun t ht9 hW => ⟨_, rfl, by simp only [mayM, if_neg sv_27, if_neg sv_33, if_neg sv_34, if_neg sv_35, if_neg sv_40, if_neg sv_43, if_neg sv_46, if_neg sv_48, if_neg sv_49, if_neg sv_51, if_neg sv_52, if_neg sv_55, if_neg sv_56, if_neg sv_57, if_pos sv_59, if_pos c_60], ht9⟩) hS.2.2 d_M_may_448
                              · skip
                                by_cases sv_62 : d9 = 18
                                · refine lv_tab (off := 448) (tgt := 449) hx hb d_M_may_1 (by decide) (by rw [sv_62]; decide +kernel) (by decide) ?_
                                  refine lv_iload_n hx hb d_M_may_449 rfl (lv_at hl 1 rfl) ?_
                                  refine lv_iconst (v := 4) hx hb d_M_may_450 (by decide) ?_
                                  refine lv_icmp_eq (tgt := 492) hx hb d_M_may_451 (by decide) (fun c_63 => ?_) (fun c_63 => ?_)
                                  · refine lv_iconst (v := 1) hx hb d_M_may_492 (by decide) ?_
                                    refine lv_goto (tgt := 497) hx hb d_M_may_493 (by decide) ?_
                                    exact W.zret hx hb hr (rfl) (fun t ht9 hW => ⟨_, rfl, by simp only [mayM, if_neg sv_27, if_neg sv_33, if_neg sv_34, if_neg sv_35, if_neg sv_40, if_neg sv_43, if_neg sv_46, if_neg sv_48, if_neg sv_49, if_neg sv_51, if_neg sv_52, if_neg sv_55, if_neg sv_56, if_neg sv_57, if_neg sv_59, if_pos sv_62, if_pos c_63], ht9⟩) hS.2.2 d_M_may_497
                                  · refine lv_iload_n hx hb d_M_may_454 rfl (lv_at hl 2 rfl) ?_
                                    refine lv_i2l (v := v9.toInt64) hx hb d_M_may_455 rfl ?_
                                    refine lv_lconst (v := 0) hx hb d_M_may_456 (by decide) ?_
                                    refine lv_iload_n hx hb d_M_may_457 rfl (lv_at hl 1 rfl) ?_
                                    refine lv_if_eq (tgt := 466) hx hb d_M_may_458 (by decide) (fun c_64 => ?_) (fun c_64 => ?_)
                                    · refine lv_ldc2 hx hb hown (ht _ tw_674) d_M_may_466 ?_
                                      refine lv_goto (tgt := 486) hx hb d_M_may_469 (by decide) ?_
                                      refine rcS (As := [.long v9.toInt64, .long 0, .long 2]) (rest := []) (c_M_in l dC dI tb v9.toInt64 0 2 ) F tw_598 tw_34 tw_597 tw_596 hP [] rfl hK [] rfl hE hS hd_M_in rfl rfl ⟨Nat.le_of_ble_eq_true rfl, Nat.le_of_ble_eq_true rfl⟩ ⟨Nat.le_of_ble_eq_true rfl, Nat.le_of_ble_eq_true rfl⟩ hl.1 rfl (Nat.le_of_ble_eq_true rfl) d_M_may_486 ?_
                                      refine lv_if_eq (tgt := 496) hx hb d_M_may_489 (by decide) (fun c_65 => ?_) (fun c_65 => ?_)
                                      · refine lv_iconst (v := 0) hx hb d_M_may_496 (by decide) ?_
                                        exact W.zret hx hb hr (rfl) (fun t ht9 hW => ⟨_, rfl, by simp only [mayM, if_neg sv_27, if_neg sv_33, if_neg sv_34, if_neg sv_35, if_neg sv_40, if_neg sv_43, if_neg sv_46, if_neg sv_48, if_neg sv_49, if_neg sv_51, if_neg sv_52, if_neg sv_55, if_neg sv_56, if_neg sv_57, if_neg sv_59, if_pos sv_62, if_neg c_63, if_pos c_64, if_pos c_65], ht9⟩) hS.2.2 d_M_may_497
                                      · refine lv_iconst (v := 1) hx hb d_M_may_492 (by decide) ?_
                                        refine lv_goto (tgt := 497) hx hb d_M_may_493 (by decide) ?_
                                        exact W.zret hx hb hr (rfl) (fun t ht9 hW => ⟨_, rfl, by simp only [mayM, if_neg sv_27, if_neg sv_33, if_neg sv_34, if_neg sv_35, if_neg sv_40, if_neg sv_43, if_neg sv_46, if_neg sv_48, if_neg sv_49, if_neg sv_51, if_neg sv_52, if_neg sv_55, if_neg sv_56, if_neg sv_57, if_neg sv_59, if_pos sv_62, if_neg c_63, if_pos c_64, if_neg c_65], ht9⟩) hS.2.2 d_M_may_497
                                    · refine lv_iload_n hx hb d_M_may_461 rfl (lv_at hl 1 rfl) ?_
                                      refine lv_iconst (v := 3) hx hb d_M_may_462 (by decide) ?_
                                      refine lv_icmp_ne (tgt := 472) hx hb d_M_may_463 (by decide) (fun c_66 => ?_) (fun c_66 => ?_)
                                      · refine lv_iload_n hx hb d_M_may_472 rfl (lv_at hl 1 rfl) ?_
                                        refine lv_iconst (v := 1) hx hb d_M_may_473 (by decide) ?_
                                        refine lv_icmp_ne (tgt := 483) hx hb d_M_may_474 (by decide) (fun c_67 => ?_) (fun c_67 => ?_)
                                        · refine lv_ldc2 hx hb hown (ht _ tw_675) d_M_may_483 ?_
                                          refine rcS (As := [.long v9.toInt64, .long 0, .long 4096]) (rest := []) (c_M_in l dC dI tb v9.toInt64 0 4096 ) F tw_598 tw_34 tw_597 tw_596 hP [] rfl hK [] rfl hE hS hd_M_in rfl rfl ⟨Nat.le_of_ble_eq_true rfl, Nat.le_of_ble_eq_true rfl⟩ ⟨Nat.le_of_ble_eq_true rfl, Nat.le_of_ble_eq_true rfl⟩ hl.1 rfl (Nat.le_of_ble_eq_true rfl) d_M_may_486 ?_
                                          refine lv_if_eq (tgt := 496) hx hb d_M_may_489 (by decide) (fun c_68 => ?_) (fun c_68 => ?_)
                                          · refine lv_iconst (v := 0) hx hb d_M_may_496 (by decide) ?_
                                            exact W.zret hx hb hr (rfl) (fun t ht9 hW => ⟨_, rfl, by simp only [mayM, if_neg sv_27, if_neg sv_33, if_neg sv_34, if_neg sv_35, if_neg sv_40, if_neg sv_43, if_neg sv_46, if_neg sv_48, if_neg sv_49, if_neg sv_51, if_neg sv_52, if_neg sv_55, if_neg sv_56, if_neg sv_57, if_neg sv_59, if_pos sv_62, if_neg c_63, if_neg c_64, if_neg c_66, if_neg c_67, if_pos c_68], ht9⟩) hS.2.2 d_M_may_497
                                          · refine lv_iconst (v := 1) hx hb d_M_may_492 (by decide) ?_
                                            refine lv_goto (tgt := 497) hx hb d_M_may_493 (by decide) ?_
                                            exact W.zret hx hb hr (rfl) (fun t ht9 hW => ⟨_, rfl, by simp only [mayM, if_neg sv_27, if_neg sv_33, if_neg sv_34, if_neg sv_35, if_neg sv_40, if_neg sv_43, if_neg sv_46, if_neg sv_48, if_neg sv_49, if_neg sv_51, if_neg sv_52, if_neg sv_55, if_neg sv_56, if_neg sv_57, if_neg sv_59, if_pos sv_62, if_neg c_63, if_neg c_64, if_neg c_66, if_neg c_67, if_neg c_68], ht9⟩) hS.2.2 d_M_may_497
                                        · refine lv_ldc2 hx hb hown (ht _ tw_657) d_M_may_477 ?_
                                          refine lv_goto (tgt := 486) hx hb d_M_may_480 (by decide) ?_
                                          refine rcS (As := [.long v9.toInt64, .long 0, .long 1048576]) (rest := []) (c_M_in l dC dI tb v9.toInt64 0 1048576 ) F tw_598 tw_34 tw_597 tw_596 hP [] rfl hK [] rfl hE hS hd_M_in rfl rfl ⟨Nat.le_of_ble_eq_true rfl, Nat.le_of_ble_eq_true rfl⟩ ⟨Nat.le_of_ble_eq_true rfl, Nat.le_of_ble_eq_true rfl⟩ hl.1 rfl (Nat.le_of_ble_eq_true rfl) d_M_may_486 ?_
                                          refine lv_if_eq (tgt := 496) hx hb d_M_may_489 (by decide) (fun c_69 => ?_) (fun c_69 => ?_)
                                          · refine lv_iconst (v := 0) hx hb d_M_may_496 (by decide) ?_
                                            exact W.zret hx hb hr (rfl) (fun t ht9 hW => ⟨_, rfl, by simp only [mayM, if_neg sv_27, if_neg sv_33, if_neg sv_34, if_neg sv_35, if_neg sv_40, if_neg sv_43, if_neg sv_46, if_neg sv_48, if_neg sv_49, if_neg sv_51, if_neg sv_52, if_neg sv_55, if_neg sv_56, if_neg sv_57, if_neg sv_59, if_pos sv_62, if_neg c_63, if_neg c_64, if_neg c_66, if_pos c_67, if_pos c_69], ht9⟩) hS.2.2 d_M_may_497
                                          · refine lv_iconst (v := 1) hx hb d_M_may_492 (by decide) ?_
                                            refine lv_goto (tgt := 497) hx hb d_M_may_493 (by decide) ?_
                                            exact W.zret hx hb hr (rfl) (fun t ht9 hW => ⟨_, rfl, by simp only [mayM, if_neg sv_27, if_neg sv_33, if_neg sv_34, if_neg sv_35, if_neg sv_40, if_neg sv_43, if_neg sv_46, if_neg sv_48, if_neg sv_49, if_neg sv_51, if_neg sv_52, if_neg sv_55, if_neg sv_56, if_neg sv_57, if_neg sv_59, if_pos sv_62, if_neg c_63, if_neg c_64, if_neg c_66, if_pos c_67, if_neg c_69], ht9⟩) hS.2.2 d_M_may_497
                                      · refine lv_ldc2 hx hb hown (ht _ tw_674) d_M_may_466 ?_
                                        refine lv_goto (tgt := 486) hx hb d_M_may_469 (by decide) ?_
                                        refine rcS (As := [.long v9.toInt64, .long 0, .long 2]) (rest := []) (c_M_in l dC dI tb v9.toInt64 0 2 ) F tw_598 tw_34 tw_597 tw_596 hP [] rfl hK [] rfl hE hS hd_M_in rfl rfl ⟨Nat.le_of_ble_eq_true rfl, Nat.le_of_ble_eq_true rfl⟩ ⟨Nat.le_of_ble_eq_true rfl, Nat.le_of_ble_eq_true rfl⟩ hl.1 rfl (Nat.le_of_ble_eq_true rfl) d_M_may_486 ?_
                                        refine lv_if_eq (tgt := 496) hx hb d_M_may_489 (by decide) (fun c_70 => ?_) (fun c_70 => ?_)
                                        · refine lv_iconst (v := 0) hx hb d_M_may_496 (by decide) ?_
                                          exact W.zret hx hb hr (rfl) (fun t ht9 hW => ⟨_, rfl, by simp only [mayM, if_neg sv_27, if_neg sv_33, if_neg sv_34, if_neg sv_35, if_neg sv_40, if_neg sv_43, if_neg sv_46, if_neg sv_48, if_neg sv_49, if_neg sv_51, if_neg sv_52, if_neg sv_55, if_neg sv_56, if_neg sv_57, if_neg sv_59, if_pos sv_62, if_neg c_63, if_neg c_64, if_pos c_66, if_pos c_70], ht9⟩) hS.2.2 d_M_may_497
                                        · refine lv_iconst (v := 1) hx hb d_M_may_492 (by decide) ?_
                                          refine lv_goto (tgt := 497) hx hb d_M_may_493 (by decide) ?_
                                          exact W.zret hx hb hr (rfl) (fun t ht9 hW => ⟨_, rfl, by simp only [mayM, if_neg sv_27, if_neg sv_33, if_neg sv_34, if_neg sv_35, if_neg sv_40, if_neg sv_43, if_neg sv_46, if_neg sv_48, if_neg sv_49, if_neg sv_51, if_neg sv_52, if_neg sv_55, if_neg sv_56, if_neg sv_57, if_neg sv_59, if_pos sv_62, if_neg c_63, if_neg c_64, if_pos c_66, if_neg c_70], ht9⟩) hS.2.2 d_M_may_497
                                · skip
                                  by_cases sv_71 : d9 = 19
                                  · refine lv_tab (off := 497) (tgt := 498) hx hb d_M_may_1 (by decide) (by rw [sv_71]; decide +kernel) (by decide) ?_
                                    refine lv_iload_n hx hb d_M_may_498 rfl (lv_at hl 2 rfl) ?_
                                    refine lv_i2l (v := v9.toInt64) hx hb d_M_may_499 rfl ?_
                                    refine lv_lconst (v := 0) hx hb d_M_may_500 (by decide) ?_
                                    refine lv_iload_n hx hb d_M_may_501 rfl (lv_at hl 1 rfl) ?_
                                    refine lv_if_ne (tgt := 511) hx hb d_M_may_502 (by decide) (fun c_72 => ?_) (fun c_72 => ?_)
                                    · refine lv_lconst (v := 1) hx hb d_M_may_511 (by decide) ?_
                                      refine rcS (As := [.long v9.toInt64, .long 0, .long 1]) (rest := []) (c_M_in l dC dI tb v9.toInt64 0 1 ) F tw_598 tw_34 tw_597 tw_596 hP [] rfl hK [] rfl hE hS hd_M_in rfl rfl ⟨Nat.le_of_ble_eq_true rfl, Nat.le_of_ble_eq_true rfl⟩ ⟨Nat.le_of_ble_eq_true rfl, Nat.le_of_ble_eq_true rfl⟩ hl.1 rfl (Nat.le_of_ble_eq_true rfl) d_M_may_512 ?_
                                      exact W.zret hx hb hr (nar_inL _ _ _) (fun t ht9 hW => ⟨_, rfl, by simp only [mayM, if_neg sv_27, if_neg sv_33, if_neg sv_34, if_neg sv_35, if_neg sv_40, if_neg sv_43, if_neg sv_46, if_neg sv_48, if_neg sv_49, if_neg sv_51, if_neg sv_52, if_neg sv_55, if_neg sv_56, if_neg sv_57, if_neg sv_59, if_neg sv_62, if_pos sv_71, if_neg c_72], ht9⟩) hS.2.2 d_M_may_515
                                    · refine lv_ldc2 hx hb hown (ht _ tw_648) d_M_may_505 ?_
                                      refine lv_goto (tgt := 512) hx hb d_M_may_508 (by decide) ?_
                                      refine rcS (As := [.long v9.toInt64, .long 0, .long 7]) (rest := []) (c_M_in l dC dI tb v9.toInt64 0 7 ) F tw_598 tw_34 tw_597 tw_596 hP [] rfl hK [] rfl hE hS hd_M_in rfl rfl ⟨Nat.le_of_ble_eq_true rfl, Nat.le_of_ble_eq_true rfl⟩ ⟨Nat.le_of_ble_eq_true rfl, Nat.le_of_ble_eq_true rfl⟩ hl.1 rfl (Nat.le_of_ble_eq_true rfl) d_M_may_512 ?_
                                      exact W.zret hx hb hr (nar_inL _ _ _) (fun t ht9 hW => ⟨_, rfl, by simp only [mayM, if_neg sv_27, if_neg sv_33, if_neg sv_34, if_neg sv_35, if_neg sv_40, if_neg sv_43, if_neg sv_46, if_neg sv_48, if_neg sv_49, if_neg sv_51, if_neg sv_52, if_neg sv_55, if_neg sv_56, if_neg sv_57, if_neg sv_59, if_neg sv_62, if_pos sv_71, if_pos c_72], ht9⟩) hS.2.2 d_M_may_515
                                  · skip
                                    by_cases sv_73 : d9 = 20
                                    · refine lv_tab (off := 515) (tgt := 516) hx hb d_M_may_1 (by decide) (by rw [sv_73]; decide +kernel) (by decide) ?_
                                      refine lv_iload_n hx hb d_M_may_516 rfl (lv_at hl 1 rfl) ?_
                                      refine lv_iload_n hx hb d_M_may_517 rfl (lv_at hl 2 rfl) ?_
                                      refine rcS (As := [.int k9, .int v9]) (rest := []) (c_M_isCopys l dC dI tb k9 v9 ) F tw_678 tw_34 tw_677 tw_676 hP [] rfl hK [] rfl hE hS hd_M_isCopys rfl rfl ⟨Nat.le_of_ble_eq_true rfl, Nat.le_of_ble_eq_true rfl⟩ ⟨Nat.le_of_ble_eq_true rfl, Nat.le_of_ble_eq_true rfl⟩ hl.1 rfl (Nat.le_of_ble_eq_true rfl) d_M_may_518 ?_
                                      exact W.zret hx hb hr (nar_isC _ _) (fun t ht9 hW => ⟨_, rfl, by simp only [mayM, if_neg sv_27, if_neg sv_33, if_neg sv_34, if_neg sv_35, if_neg sv_40, if_neg sv_43, if_neg sv_46, if_neg sv_48, if_neg sv_49, if_neg sv_51, if_neg sv_52, if_neg sv_55, if_neg sv_56, if_neg sv_57, if_neg sv_59, if_neg sv_62, if_neg sv_71, if_pos sv_73], ht9⟩) hS.2.2 d_M_may_521
                                    · skip
                                      by_cases sv_74 : d9 = 21
                                      · refine lv_tab (off := 521) (tgt := 522) hx hb d_M_may_1 (by decide) (by rw [sv_74]; decide +kernel) (by decide) ?_
                                        refine lv_iload_n hx hb d_M_may_522 rfl (lv_at hl 1 rfl) ?_
                                        refine lv_iconst (v := 1) hx hb d_M_may_523 (by decide) ?_
                                        refine lv_icmp_gt (tgt := 549) hx hb d_M_may_524 (by decide) (fun c_75 => ?_) (fun c_75 => ?_)
                                        · refine lv_iconst (v := 1) hx hb d_M_may_549 (by decide) ?_
                                          refine lv_goto (tgt := 554) hx hb d_M_may_550 (by decide) ?_
                                          exact W.zret hx hb hr (rfl) (fun t ht9 hW => ⟨_, rfl, by simp only [mayM, if_neg sv_27, if_neg sv_33, if_neg sv_34, if_neg sv_35, if_neg sv_40, if_neg sv_43, if_neg sv_46, if_neg sv_48, if_neg sv_49, if_neg sv_51, if_neg sv_52, if_neg sv_55, if_neg sv_56, if_neg sv_57, if_neg sv_59, if_neg sv_62, if_neg sv_71, if_neg sv_73, if_pos sv_74, if_pos c_75], ht9⟩) hS.2.2 d_M_may_554
                                        · refine lv_iload_n hx hb d_M_may_527 rfl (lv_at hl 2 rfl) ?_
                                          refine lv_i2l (v := v9.toInt64) hx hb d_M_may_528 rfl ?_
                                          refine lv_lconst (v := 0) hx hb d_M_may_529 (by decide) ?_
                                          refine lv_iload_n hx hb d_M_may_530 rfl (lv_at hl 1 rfl) ?_
                                          refine lv_if_ne (tgt := 540) hx hb d_M_may_531 (by decide) (fun c_76 => ?_) (fun c_76 => ?_)
                                          · refine lv_ldc2 hx hb hown (ht _ tw_662) d_M_may_540 ?_
                                            refine rcS (As := [.long v9.toInt64, .long 0, .long 256]) (rest := []) (c_M_in l dC dI tb v9.toInt64 0 256 ) F tw_598 tw_34 tw_597 tw_596 hP [] rfl hK [] rfl hE hS hd_M_in rfl rfl ⟨Nat.le_of_ble_eq_true rfl, Nat.le_of_ble_eq_true rfl⟩ ⟨Nat.le_of_ble_eq_true rfl, Nat.le_of_ble_eq_true rfl⟩ hl.1 rfl (Nat.le_of_ble_eq_true rfl) d_M_may_543 ?_
                                            refine lv_if_eq (tgt := 553) hx hb d_M_may_546 (by decide) (fun c_77 => ?_) (fun c_77 => ?_)
                                            · refine lv_iconst (v := 0) hx hb d_M_may_553 (by decide) ?_
                                              exact W.zret hx hb hr (rfl) (fun t ht9 hW => ⟨_, rfl, by simp only [mayM, if_neg sv_27, if_neg sv_33, if_neg sv_34, if_neg sv_35, if_neg sv_40, if_neg sv_43, if_neg sv_46, if_neg sv_48, if_neg sv_49, if_neg sv_51, if_neg sv_52, if_neg sv_55, if_neg sv_56, if_neg sv_57, if_neg sv_59, if_neg sv_62, if_neg sv_71, if_neg sv_73, if_pos sv_74, if_neg c_75, if_neg c_76, if_pos c_77], ht9⟩) hS.2.2 d_M_may_554
                                            · refine lv_iconst (v := 1) hx hb d_M_may_549 (by decide) ?_
                                              refine lv_goto (tgt := 554) hx hb d_M_may_550 (by decide) ?_
                                              exact W.zret hx hb hr (rfl) (fun t ht9 hW => ⟨_, rfl, by simp only [mayM, if_neg sv_27, if_neg sv_33, if_neg sv_34, if_neg sv_35, if_neg sv_40, if_neg sv_43, if_neg sv_46, if_neg sv_48, if_neg sv_49, if_neg sv_51, if_neg sv_52, if_neg sv_55, if_neg sv_56, if_neg sv_57, if_neg sv_59, if_neg sv_62, if_neg sv_71, if_neg sv_73, if_pos sv_74, if_neg c_75, if_neg c_76, if_neg c_77], ht9⟩) hS.2.2 d_M_may_554
                                          · refine lv_ldc2 hx hb hown (ht _ tw_657) d_M_may_534 ?_
                                            refine lv_goto (tgt := 543) hx hb d_M_may_537 (by decide) ?_
                                            refine rcS (As := [.long v9.toInt64, .long 0, .long 1048576]) (rest := []) (c_M_in l dC dI tb v9.toInt64 0 1048576 ) F tw_598 tw_34 tw_597 tw_596 hP [] rfl hK [] rfl hE hS hd_M_in rfl rfl ⟨Nat.le_of_ble_eq_true rfl, Nat.le_of_ble_eq_true rfl⟩ ⟨Nat.le_of_ble_eq_true rfl, Nat.le_of_ble_eq_true rfl⟩ hl.1 rfl (Nat.le_of_ble_eq_true rfl) d_M_may_543 ?_
                                            refine lv_if_eq (tgt := 553) hx hb d_M_may_546 (by decide) (fun c_78 => ?_) (fun c_78 => ?_)
                                            · refine lv_iconst (v := 0) hx hb d_M_may_553 (by decide) ?_
                                              exact W.zret hx hb hr (rfl) (fun t ht9 hW => ⟨_, rfl, by simp only [mayM, if_neg sv_27, if_neg sv_33, if_neg sv_34, if_neg sv_35, if_neg sv_40, if_neg sv_43, if_neg sv_46, if_neg sv_48, if_neg sv_49, if_neg sv_51, if_neg sv_52, if_neg sv_55, if_neg sv_56, if_neg sv_57, if_neg sv_59, if_neg sv_62, if_neg sv_71, if_neg sv_73, if_pos sv_74, if_neg c_75, if_pos c_76, if_pos c_78], ht9⟩) hS.2.2 d_M_may_554
                                            · refine lv_iconst (v := 1) hx hb d_M_may_549 (by decide) ?_
                                              refine lv_goto (tgt := 554) hx hb d_M_may_550 (by decide) ?_
                                              exact W.zret hx hb hr (rfl) (fun t ht9 hW => ⟨_, rfl, by simp only [mayM, if_neg sv_27, if_neg sv_33, if_neg sv_34, if_neg sv_35, if_neg sv_40, if_neg sv_43, if_neg sv_46, if_neg sv_48, if_neg sv_49, if_neg sv_51, if_neg sv_52, if_neg sv_55, if_neg sv_56, if_neg sv_57, if_neg sv_59, if_neg sv_62, if_neg sv_71, if_neg sv_73, if_pos sv_74, if_neg c_75, if_pos c_76, if_neg c_78], ht9⟩) hS.2.2 d_M_may_554
                                      · skip
                                        by_cases sv_79 : d9 = 23
                                        · refine lv_tab (off := 554) (tgt := 555) hx hb d_M_may_1 (by decide) (by rw [sv_79]; decide +kernel) (by decide) ?_
                                          refine lv_iload_n hx hb d_M_may_555 rfl (lv_at hl 2 rfl) ?_
                                          refine lv_i2l (v := v9.toInt64) hx hb d_M_may_556 rfl ?_
                                          refine lv_lconst (v := 0) hx hb d_M_may_557 (by decide) ?_
                                          refine lv_ldc2 hx hb hown (ht _ tw_657) d_M_may_558 ?_
                                          refine rcS (As := [.long v9.toInt64, .long 0, .long 1048576]) (rest := []) (c_M_in l dC dI tb v9.toInt64 0 1048576 ) F tw_598 tw_34 tw_597 tw_596 hP [] rfl hK [] rfl hE hS hd_M_in rfl rfl ⟨Nat.le_of_ble_eq_true rfl, Nat.le_of_ble_eq_true rfl⟩ ⟨Nat.le_of_ble_eq_true rfl, Nat.le_of_ble_eq_true rfl⟩ hl.1 rfl (Nat.le_of_ble_eq_true rfl) d_M_may_561 ?_
                                          exact W.zret hx hb hr (nar_inL _ _ _) (fun t ht9 hW => ⟨_, rfl, by simp only [mayM, if_neg sv_27, if_neg sv_33, if_neg sv_34, if_neg sv_35, if_neg sv_40, if_neg sv_43, if_neg sv_46, if_neg sv_48, if_neg sv_49, if_neg sv_51, if_neg sv_52, if_neg sv_55, if_neg sv_56, if_neg sv_57, if_neg sv_59, if_neg sv_62, if_neg sv_71, if_neg sv_73, if_neg sv_74, if_pos sv_79], ht9⟩) hS.2.2 d_M_may_564
                                        · skip
                                          by_cases sv_80 : d9 = 24
                                          · refine lv_tab (off := 564) (tgt := 565) hx hb d_M_may_1 (by decide) (by rw [sv_80]; decide +kernel) (by decide) ?_
                                            refine lv_iload_n hx hb d_M_may_565 rfl (lv_at hl 2 rfl) ?_
                                            refine lv_i2l (v := v9.toInt64) hx hb d_M_may_566 rfl ?_
                                            refine lv_lconst (v := 0) hx hb d_M_may_567 (by decide) ?_
                                            refine lv_ldc2 hx hb hown (ht _ tw_659) d_M_may_568 ?_
                                            refine rcS (As := [.long v9.toInt64, .long 0, .long 3]) (rest := []) (c_M_in l dC dI tb v9.toInt64 0 3 ) F tw_598 tw_34 tw_597 tw_596 hP [] rfl hK [] rfl hE hS hd_M_in rfl rfl ⟨Nat.le_of_ble_eq_true rfl, Nat.le_of_ble_eq_true rfl⟩ ⟨Nat.le_of_ble_eq_true rfl, Nat.le_of_ble_eq_true rfl⟩ hl.1 rfl (Nat.le_of_ble_eq_true rfl) d_M_may_571 ?_
                                            exact W.zret hx hb hr (nar_inL _ _ _) (fun t ht9 hW => ⟨_, rfl, by simp only [mayM, if_neg sv_27, if_neg sv_33, if_neg sv_34, if_neg sv_35, if_neg sv_40, if_neg sv_43, if_neg sv_46, if_neg sv_48, if_neg sv_49, if_neg sv_51, if_neg sv_52, if_neg sv_55, if_neg sv_56, if_neg sv_57, if_neg sv_59, if_neg sv_62, if_neg sv_71, if_neg sv_73, if_neg sv_74, if_neg sv_79, if_pos sv_80], ht9⟩) hS.2.2 d_M_may_574
                                          · skip
                                            have hsw : ∀ b ∈ ([1, 2, 3, 13, 4, 5, 6, 7, 8, 9, 10, 11, 12, 14, 15, 16, 17, 18, 19, 20, 21, 23, 24] : List Int32), ¬ d9 = b := by
                                              intro b9 hb9
                                              simp only [List.mem_cons, List.not_mem_nil, or_false] at hb9
                                              rcases hb9 with rfl | rfl | rfl | rfl | rfl | rfl | rfl | rfl | rfl | rfl | rfl | rfl | rfl | rfl | rfl | rfl | rfl | rfl | rfl | rfl | rfl | rfl | rfl
                                              · exact sv_27
                                              · exact sv_33
                                              · exact fun h9 => sv_34 (Or.inl h9)
                                              · exact fun h9 => sv_34 (Or.inr (h9))
                                              · exact sv_35
                                              · exact sv_40
                                              · exact sv_43
                                              · exact fun h9 => sv_46 (Or.inl h9)
                                              · exact fun h9 => sv_46 (Or.inr (h9))
                                              · exact sv_48
                                              · exact sv_49
                                              · exact sv_51
                                              · exact sv_52
                                              · exact sv_55
                                              · exact sv_56
                                              · exact sv_57
                                              · exact sv_59
                                              · exact sv_62
                                              · exact sv_71
                                              · exact sv_73
                                              · exact sv_74
                                              · exact sv_79
                                              · exact sv_80
                                            refine lv_tab (off := 574) (tgt := 575) hx hb d_M_may_1 (by decide) (sw_def [1, 2, 3, 13, 4, 5, 6, 7, 8, 9, 10, 11, 12, 14, 15, 16, 17, 18, 19, 20, 21, 23, 24] hsw (by decide +kernel) (by decide)) (by decide) ?_
                                            refine lv_iload_n hx hb d_M_may_575 rfl (lv_at hl 1 rfl) ?_
                                            refine lv_if_gt (tgt := 591) hx hb d_M_may_576 (by decide) (fun c_81 => ?_) (fun c_81 => ?_)
                                            · refine lv_iconst (v := 1) hx hb d_M_may_591 (by decide) ?_
                                              refine lv_goto (tgt := 596) hx hb d_M_may_592 (by decide) ?_
                                              exact W.zret hx hb hr (rfl) (fun t ht9 hW => ⟨_, rfl, by simp only [mayM, if_neg sv_27, if_neg sv_33, if_neg sv_34, if_neg sv_35, if_neg sv_40, if_neg sv_43, if_neg sv_46, if_neg sv_48, if_neg sv_49, if_neg sv_51, if_neg sv_52, if_neg sv_55, if_neg sv_56, if_neg sv_57, if_neg sv_59, if_neg sv_62, if_neg sv_71, if_neg sv_73, if_neg sv_74, if_neg sv_79, if_neg sv_80, if_pos c_81], ht9⟩) hS.2.2 d_M_may_596
                                            · refine lv_iload_n hx hb d_M_may_579 rfl (lv_at hl 2 rfl) ?_
                                              refine lv_i2l (v := v9.toInt64) hx hb d_M_may_580 rfl ?_
                                              refine lv_lconst (v := 0) hx hb d_M_may_581 (by decide) ?_
                                              refine lv_ldc2 hx hb hown (ht _ tw_659) d_M_may_582 ?_
                                              refine rcS (As := [.long v9.toInt64, .long 0, .long 3]) (rest := []) (c_M_in l dC dI tb v9.toInt64 0 3 ) F tw_598 tw_34 tw_597 tw_596 hP [] rfl hK [] rfl hE hS hd_M_in rfl rfl ⟨Nat.le_of_ble_eq_true rfl, Nat.le_of_ble_eq_true rfl⟩ ⟨Nat.le_of_ble_eq_true rfl, Nat.le_of_ble_eq_true rfl⟩ hl.1 rfl (Nat.le_of_ble_eq_true rfl) d_M_may_585 ?_
                                              refine lv_if_eq (tgt := 595) hx hb d_M_may_588 (by decide) (fun c_82 => ?_) (fun c_82 => ?_)
                                              · refine lv_iconst (v := 0) hx hb d_M_may_595 (by decide) ?_
                                                exact W.zret hx hb hr (rfl) (fun t ht9 hW => ⟨_, rfl, by simp only [mayM, if_neg sv_27, if_neg sv_33, if_neg sv_34, if_neg sv_35, if_neg sv_40, if_neg sv_43, if_neg sv_46, if_neg sv_48, if_neg sv_49, if_neg sv_51, if_neg sv_52, if_neg sv_55, if_neg sv_56, if_neg sv_57, if_neg sv_59, if_neg sv_62, if_neg sv_71, if_neg sv_73, if_neg sv_74, if_neg sv_79, if_neg sv_80, if_neg c_81, if_pos c_82], ht9⟩) hS.2.2 d_M_may_596
                                              · refine lv_iconst (v := 1) hx hb d_M_may_591 (by decide) ?_
                                                refine lv_goto (tgt := 596) hx hb d_M_may_592 (by decide) ?_
                                                exact W.zret hx hb hr (rfl) (fun t ht9 hW => ⟨_, rfl, by simp only [mayM, if_neg sv_27, if_neg sv_33, if_neg sv_34, if_neg sv_35, if_neg sv_40, if_neg sv_43, if_neg sv_46, if_neg sv_48, if_neg sv_49, if_neg sv_51, if_neg sv_52, if_neg sv_55, if_neg sv_56, if_neg sv_57, if_neg sv_59, if_neg sv_62, if_neg sv_71, if_neg sv_73, if_neg sv_74, if_neg sv_79, if_neg sv_80, if_neg c_81, if_neg c_82], ht9⟩) hS.2.2 d_M_may_596
def rwO (d9 n9 : Int32) : Int32 := 160 * d9 + n9 * cnt d9
set_option maxHeartbeats 4000000 in
set_option maxRecDepth 100000 in
theorem c_M_rowOf (l : Launch) (dC : Nat → ClassId) (dI : Nat → Nat → Nat) (tb : tbT) (d9 n9 : Int32) : RM l y_M_rowOf (Cond.code y_M_rowOf b_M_rowOf 2 (some .int) :: TB) ({ frames := 1, cells := 0, slots := 0, locals := 20 }) tb (dC, dI) [.int d9, .int n9] [] [] (rwO d9 n9) := by
  refine Met.ofW (cc := b_M_rowOf) (maxL := 2) (ret := (some .int)) (by decide) rfl ?_
  intro p e s m args below meth c s₁ B hml hv
  obtain ⟨rfl, hP, hK, hE⟩ := hv
  have hx := B.exec
  have hb := B.bytes
  have hr := B.returns
  have ht := fun w (h : w ∈ TB) => atoms_spec (ws := Cond.code y_M_rowOf b_M_rowOf 2 (some .int) :: TB) B.pre w (List.mem_cons_of_mem _ h)
  have hown : s.vm.findClass R_M = some m.cls := findClass_of_methodNamed B.named
  have hlocks := B.notSynchronized
  have hS : va_S (fun _ => False) s.heap s.heap [] := va_S.rf
  have F : CallFix p m c b_M_rowOf 2 s _ TB R_M := ⟨hx, hb, hml, hown, ht⟩
  have hl := lv_entry ([.int d9, .int n9]) (n := 2) (Nat.le_of_ble_eq_true rfl)
  rw [lg_entry_eq]
  generalize (lg_sl ([.int d9, .int n9]) ++ List.replicate (2 - (lg_sl ([.int d9, .int n9])).length) Slot.unset).toArray = ls at hl ⊢
  have hl : lv_has ls 2 [(0, .int d9), (1, .int n9)] := hl
  refine lv_sipush (v := 160) hx hb d_M_rowOf_0 (by decide) ?_
  refine lv_iload_n hx hb d_M_rowOf_3 rfl (lv_at hl 0 rfl) ?_
  refine lv_imul hx hb d_M_rowOf_4 ?_
  refine lv_iload_n hx hb d_M_rowOf_5 rfl (lv_at hl 1 rfl) ?_
  refine lv_iload_n hx hb d_M_rowOf_6 rfl (lv_at hl 0 rfl) ?_
  refine rcS (As := [.int d9]) (rest := [.int n9, .int (160 * d9)]) (c_M_count l dC dI tb d9 ) F tw_530 tw_34 tw_529 tw_528 hP [] rfl hK [] rfl hE hS hd_M_count rfl rfl ⟨Nat.le_of_ble_eq_true rfl, Nat.le_of_ble_eq_true rfl⟩ ⟨Nat.le_of_ble_eq_true rfl, Nat.le_of_ble_eq_true rfl⟩ hl.1 rfl (Nat.le_of_ble_eq_true rfl) d_M_rowOf_7 ?_
  refine lv_imul hx hb d_M_rowOf_10 ?_
  refine lv_iadd hx hb d_M_rowOf_11 ?_
  exact W.iret hx hb hr (fun t ht9 hW => ⟨_, rfl, rfl, ht9⟩) hS.2.2 d_M_rowOf_12
end
section
set_option maxHeartbeats 4000000 in
set_option maxRecDepth 100000 in
theorem c_M_thrown (l : Launch) (dC : Nat → ClassId) (dI : Nat → Nat → Nat) (tb : tbT) (y ma qa ba aa ka : Nat) (th wi hg zs ta de oe re pa ee dq qe ag : Int32) : RM l y_M_thrown (Cond.code y_M_thrown b_M_thrown 1 (some .int) :: TB) ({ frames := 0, cells := 0, slots := 0, locals := 0 }) tb (dC, dI) [.ref y] [(y, .inr (4, [.int th, .ref ma, .int wi, .int hg, .ref qa, .int zs, .int ta, .int de, .ref ba, .int oe, .int re, .int pa, .int ee, .int dq, .int qe, .int ag, .ref aa, .ref ka]))] [] th := by
  refine Met.ofW (cc := b_M_thrown) (maxL := 1) (ret := (some .int)) (by decide) rfl ?_
  intro p e s m args below meth c s₁ B hml hv
  obtain ⟨rfl, hP, hK, hE⟩ := hv
  have hx := B.exec
  have hb := B.bytes
  have hr := B.returns
  have ht := fun w (h : w ∈ TB) => atoms_spec (ws := Cond.code y_M_thrown b_M_thrown 1 (some .int) :: TB) B.pre w (List.mem_cons_of_mem _ h)
  have hown : s.vm.findClass R_M = some m.cls := findClass_of_methodNamed B.named
  have hlocks := B.notSynchronized
  have hS : va_S (fun _ => False) s.heap s.heap [] := va_S.rf
  have F : CallFix p m c b_M_thrown 1 s _ TB R_M := ⟨hx, hb, hml, hown, ht⟩
  have hl := lv_entry ([.ref y]) (n := 1) (Nat.le_of_ble_eq_true rfl)
  rw [lg_entry_eq]
  generalize (lg_sl ([.ref y]) ++ List.replicate (1 - (lg_sl ([.ref y])).length) Slot.unset).toArray = ls at hl ⊢
  have hl : lv_has ls 1 [(0, .ref y)] := hl
  refine lv_aload_n hx hb d_M_thrown_0 rfl (lv_at hl 0 rfl) ?_
  refine va_get (D := (dC, dI)) (ci := 4) (v := .int th) (C := R_M) (T := F_M) (N := 18) hx hb ht tu_M hown hK hP 0 rfl rfl 0 (by decide) (ht _ tw_532) (fun _ h9 => h9) rfl d_M_thrown_1 ?_
  exact W.iret hx hb hr (fun t ht9 hW => ⟨_, rfl, rfl, ht9⟩) hS.2.2 d_M_thrown_4
def isTh (zs de k9 : Int32) : Int32 := (if de = 0 then (if zs ≤ k9 then 0 else 1) else (if 4096 ≤ k9 then 0 else 1))
set_option maxHeartbeats 4000000 in
set_option maxRecDepth 100000 in
theorem c_M_isThere (l : Launch) (dC : Nat → ClassId) (dI : Nat → Nat → Nat) (tb : tbT) (y ma qa ba aa ka : Nat) (th wi hg zs ta de oe re pa ee dq qe ag : Int32) (k9 : Int32) : RM l y_M_isThere (Cond.code y_M_isThere b_M_isThere 2 (some .boolean) :: TB) ({ frames := 0, cells := 0, slots := 0, locals := 0 }) tb (dC, dI) [.ref y, .int k9] [(y, .inr (4, [.int th, .ref ma, .int wi, .int hg, .ref qa, .int zs, .int ta, .int de, .ref ba, .int oe, .int re, .int pa, .int ee, .int dq, .int qe, .int ag, .ref aa, .ref ka]))] [] (isTh zs de k9) := by
  refine Met.ofW (cc := b_M_isThere) (maxL := 2) (ret := (some .boolean)) (by decide) rfl ?_
  intro p e s m args below meth c s₁ B hml hv
  obtain ⟨rfl, hP, hK, hE⟩ := hv
  have hx := B.exec
  have hb := B.bytes
  have hr := B.returns
  have ht := fun w (h : w ∈ TB) => atoms_spec (ws := Cond.code y_M_isThere b_M_isThere 2 (some .boolean) :: TB) B.pre w (List.mem_cons_of_mem _ h)
  have hown : s.vm.findClass R_M = some m.cls := findClass_of_methodNamed B.named
  have hlocks := B.notSynchronized
  have hS : va_S (fun _ => False) s.heap s.heap [] := va_S.rf
  have F : CallFix p m c b_M_isThere 2 s _ TB R_M := ⟨hx, hb, hml, hown, ht⟩
  have hl := lv_entry ([.ref y, .int k9]) (n := 2) (Nat.le_of_ble_eq_true rfl)
  rw [lg_entry_eq]
  generalize (lg_sl ([.ref y, .int k9]) ++ List.replicate (2 - (lg_sl ([.ref y, .int k9])).length) Slot.unset).toArray = ls at hl ⊢
  have hl : lv_has ls 2 [(0, .ref y), (1, .int k9)] := hl
  refine lv_iload_n hx hb d_M_isThere_0 rfl (lv_at hl 1 rfl) ?_
  refine lv_aload_n hx hb d_M_isThere_1 rfl (lv_at hl 0 rfl) ?_
  refine va_get (D := (dC, dI)) (ci := 4) (v := .int de) (C := R_M) (T := F_M) (N := 18) hx hb ht tu_M hown hK hP 0 rfl rfl 7 (by decide) (ht _ tw_539) (fun _ h9 => h9) rfl d_M_isThere_2 ?_
  refine lv_if_ne (tgt := 15) hx hb d_M_isThere_5 (by decide) (fun c_83 => ?_) (fun c_83 => ?_)
  · refine lv_sipush (v := 4096) hx hb d_M_isThere_15 (by decide) ?_
    refine lv_icmp_ge (tgt := 25) hx hb d_M_isThere_18 (by decide) (fun c_84 => ?_) (fun c_84 => ?_)
    · refine lv_iconst (v := 0) hx hb d_M_isThere_25 (by decide) ?_
      exact W.zret hx hb hr (rfl) (fun t ht9 hW => ⟨_, rfl, by simp only [isTh, if_neg c_83, if_pos c_84], ht9⟩) hS.2.2 d_M_isThere_26
    · refine lv_iconst (v := 1) hx hb d_M_isThere_21 (by decide) ?_
      refine lv_goto (tgt := 26) hx hb d_M_isThere_22 (by decide) ?_
      exact W.zret hx hb hr (rfl) (fun t ht9 hW => ⟨_, rfl, by simp only [isTh, if_neg c_83, if_neg c_84], ht9⟩) hS.2.2 d_M_isThere_26
  · refine lv_aload_n hx hb d_M_isThere_8 rfl (lv_at hl 0 rfl) ?_
    refine va_get (D := (dC, dI)) (ci := 4) (v := .int zs) (C := R_M) (T := F_M) (N := 18) hx hb ht tu_M hown hK hP 0 rfl rfl 5 (by decide) (ht _ tw_537) (fun _ h9 => h9) rfl d_M_isThere_9 ?_
    refine lv_goto (tgt := 18) hx hb d_M_isThere_12 (by decide) ?_
    refine lv_icmp_ge (tgt := 25) hx hb d_M_isThere_18 (by decide) (fun c_85 => ?_) (fun c_85 => ?_)
    · refine lv_iconst (v := 0) hx hb d_M_isThere_25 (by decide) ?_
      exact W.zret hx hb hr (rfl) (fun t ht9 hW => ⟨_, rfl, by simp only [isTh, if_pos c_83, if_pos c_85], ht9⟩) hS.2.2 d_M_isThere_26
    · refine lv_iconst (v := 1) hx hb d_M_isThere_21 (by decide) ?_
      refine lv_goto (tgt := 26) hx hb d_M_isThere_22 (by decide) ?_
      exact W.zret hx hb hr (rfl) (fun t ht9 hW => ⟨_, rfl, by simp only [isTh, if_pos c_83, if_neg c_85], ht9⟩) hS.2.2 d_M_isThere_26
def mrd (de : Int32) (mF qF : IF) (k9 : Int32) : Int32 := (if de = 0 then (qF k9.toNatClampNeg) else (mF k9.toNatClampNeg))
set_option maxHeartbeats 4000000 in
set_option maxRecDepth 100000 in
theorem c_M_read (l : Launch) (dC : Nat → ClassId) (dI : Nat → Nat → Nat) (tb : tbT) (y ma qa ba aa ka : Nat) (th wi hg zs ta de oe re pa ee dq qe ag : Int32) (mF qF : IF) (cI : ClassId) (k9 : Int32) (hk : vp_in k9 4096) : RM l y_M_read (Cond.code y_M_read b_M_read 2 (some .int) :: TB) ({ frames := 0, cells := 0, slots := 0, locals := 0 }) tb (dC, dI) [.ref y, .int k9] [(y, .inr (4, [.int th, .ref ma, .int wi, .int hg, .ref qa, .int zs, .int ta, .int de, .ref ba, .int oe, .int re, .int pa, .int ee, .int dq, .int qe, .int ag, .ref aa, .ref ka])), (ma, .inl (cI, 4096, .inl mF)), (qa, .inl (cI, 4096, .inl qF))] [(cI, .int)] (mrd de mF qF k9) := by
  refine Met.ofW (cc := b_M_read) (maxL := 2) (ret := (some .int)) (by decide) rfl ?_
  intro p e s m args below meth c s₁ B hml hv
  obtain ⟨rfl, hP, hK, hE⟩ := hv
  have hx := B.exec
  have hb := B.bytes
  have hr := B.returns
  have ht := fun w (h : w ∈ TB) => atoms_spec (ws := Cond.code y_M_read b_M_read 2 (some .int) :: TB) B.pre w (List.mem_cons_of_mem _ h)
  have hown : s.vm.findClass R_M = some m.cls := findClass_of_methodNamed B.named
  have hlocks := B.notSynchronized
  have hS : va_S (fun _ => False) s.heap s.heap [] := va_S.rf
  have F : CallFix p m c b_M_read 2 s _ TB R_M := ⟨hx, hb, hml, hown, ht⟩
  have hl := lv_entry ([.ref y, .int k9]) (n := 2) (Nat.le_of_ble_eq_true rfl)
  rw [lg_entry_eq]
  generalize (lg_sl ([.ref y, .int k9]) ++ List.replicate (2 - (lg_sl ([.ref y, .int k9])).length) Slot.unset).toArray = ls at hl ⊢
  have hl : lv_has ls 2 [(0, .ref y), (1, .int k9)] := hl
  refine lv_aload_n hx hb d_M_read_0 rfl (lv_at hl 0 rfl) ?_
  refine va_get (D := (dC, dI)) (ci := 4) (v := .int de) (C := R_M) (T := F_M) (N := 18) hx hb ht tu_M hown hK hP 0 rfl rfl 7 (by decide) (ht _ tw_539) (fun _ h9 => h9) rfl d_M_read_1 ?_
  refine lv_if_ne (tgt := 16) hx hb d_M_read_4 (by decide) (fun c_86 => ?_) (fun c_86 => ?_)
  · refine lv_aload_n hx hb d_M_read_16 rfl (lv_at hl 0 rfl) ?_
    refine va_get (D := (dC, dI)) (ci := 4) (v := .ref ma) (C := R_M) (T := F_M) (N := 18) hx hb ht tu_M hown hK hP 0 rfl rfl 1 (by decide) (ht _ tw_533) (fun _ h9 => h9) rfl d_M_read_17 ?_
    refine lv_iload_n hx hb d_M_read_20 rfl (lv_at hl 1 rfl) ?_
    refine va_iald hx hb hK hP 1 0 rfl rfl (hk) d_M_read_21 ?_
    exact W.iret hx hb hr (fun t ht9 hW => ⟨_, rfl, by simp only [mrd, if_neg c_86], ht9⟩) hS.2.2 d_M_read_22
  · refine lv_aload_n hx hb d_M_read_7 rfl (lv_at hl 0 rfl) ?_
    refine va_get (D := (dC, dI)) (ci := 4) (v := .ref qa) (C := R_M) (T := F_M) (N := 18) hx hb ht tu_M hown hK hP 0 rfl rfl 4 (by decide) (ht _ tw_536) (fun _ h9 => h9) rfl d_M_read_8 ?_
    refine lv_iload_n hx hb d_M_read_11 rfl (lv_at hl 1 rfl) ?_
    refine va_iald hx hb hK hP 2 0 rfl rfl (hk) d_M_read_12 ?_
    refine lv_goto (tgt := 22) hx hb d_M_read_13 (by decide) ?_
    exact W.iret hx hb hr (fun t ht9 hW => ⟨_, rfl, by simp only [mrd, if_pos c_86], ht9⟩) hS.2.2 d_M_read_22
def lenM (zs ta de : Int32) (mF qF : IF) (k9 : Int32) : Int32 := (if k9 = 21 then (if (isTh zs de (ta + 2)) = 0 then ((cnt k9) + 0) else (if 0 ≤ (mrd de mF qF (ta + 2)) then (if (mrd de mF qF (ta + 2)) ≤ 256 then ((cnt k9) + (mrd de mF qF (ta + 2))) else ((cnt k9) + 256)) else ((cnt k9) + 0))) else ((cnt k9) + 0))
set_option maxHeartbeats 4000000 in
set_option maxRecDepth 100000 in
theorem c_M_length (l : Launch) (dC : Nat → ClassId) (dI : Nat → Nat → Nat) (tb : tbT) (y ma qa ba aa ka : Nat) (th wi hg zs ta de oe re pa ee dq qe ag : Int32) (mF qF : IF) (cI : ClassId) (k9 : Int32) (h2 : ¬ isTh zs de (ta + 2) = 0 → vp_in (ta + 2) 4096) : RM l y_M_length (Cond.code y_M_length b_M_length 3 (some .int) :: TB) ({ frames := 1, cells := 0, slots := 0, locals := 21 }) tb (dC, dI) [.ref y, .int k9] [(y, .inr (4, [.int th, .ref ma, .int wi, .int hg, .ref qa, .int zs, .int ta, .int de, .ref ba, .int oe, .int re, .int pa, .int ee, .int dq, .int qe, .int ag, .ref aa, .ref ka])), (ma, .inl (cI, 4096, .inl mF)), (qa, .inl (cI, 4096, .inl qF))] [(cI, .int)] (lenM zs ta de mF qF k9) := by
  refine Met.ofW (cc := b_M_length) (maxL := 3) (ret := (some .int)) (by decide) rfl ?_
  intro p e s m args below meth c s₁ B hml hv
  obtain ⟨rfl, hP, hK, hE⟩ := hv
  have hx := B.exec
  have hb := B.bytes
  have hr := B.returns
  have ht := fun w (h : w ∈ TB) => atoms_spec (ws := Cond.code y_M_length b_M_length 3 (some .int) :: TB) B.pre w (List.mem_cons_of_mem _ h)
  have hown : s.vm.findClass R_M = some m.cls := findClass_of_methodNamed B.named
  have hlocks := B.notSynchronized
  have hS : va_S (fun _ => False) s.heap s.heap [] := va_S.rf
  have F : CallFix p m c b_M_length 3 s _ TB R_M := ⟨hx, hb, hml, hown, ht⟩
  have hl := lv_entry ([.ref y, .int k9]) (n := 3) (Nat.le_of_ble_eq_true rfl)
  rw [lg_entry_eq]
  generalize (lg_sl ([.ref y, .int k9]) ++ List.replicate (3 - (lg_sl ([.ref y, .int k9])).length) Slot.unset).toArray = ls at hl ⊢
  have hl : lv_has ls 3 [(0, .ref y), (1, .int k9)] := hl
  refine lv_iconst (v := 0) hx hb d_M_length_0 (by decide) ?_
  refine lv_istore_n (lv' := [(2, .int 0), (0, .ref y), (1, .int k9)]) hx hb d_M_length_1 rfl hl (by decide) rfl (fun ls hl => ?_)
  refine lv_iload_n hx hb d_M_length_2 rfl (lv_at hl 2 rfl) ?_
  refine lv_bipush (v := 21) hx hb d_M_length_3 (by decide) ?_
  refine lv_icmp_ne (tgt := 55) hx hb d_M_length_5 (by decide) (fun c_87 => ?_) (fun c_87 => ?_)
  · refine lv_iload_n hx hb d_M_length_55 rfl (lv_at hl 2 rfl) ?_
    refine rcS (As := [.int k9]) (rest := []) (c_M_count l dC dI tb k9 ) F tw_530 tw_34 tw_529 tw_528 hP [] rfl hK [] rfl hE hS hd_M_count rfl rfl ⟨Nat.le_of_ble_eq_true rfl, Nat.le_of_ble_eq_true rfl⟩ ⟨Nat.le_of_ble_eq_true rfl, Nat.le_of_ble_eq_true rfl⟩ hl.1 rfl (Nat.le_of_ble_eq_true rfl) d_M_length_56 ?_
    refine lv_iload_n hx hb d_M_length_59 rfl (lv_at hl 0 rfl) ?_
    refine lv_iadd hx hb d_M_length_60 ?_
    exact W.iret hx hb hr (fun t ht9 hW => ⟨_, rfl, by simp only [lenM, if_neg c_87], ht9⟩) hS.2.2 d_M_length_61
  · refine lv_aload_n hx hb d_M_length_8 rfl (lv_at hl 1 rfl) ?_
    refine lv_aload_n hx hb d_M_length_9 rfl (lv_at hl 1 rfl) ?_
    refine va_get (D := (dC, dI)) (ci := 4) (v := .int ta) (C := R_M) (T := F_M) (N := 18) hx hb ht tu_M hown hK hP 0 rfl rfl 6 (by decide) (ht _ tw_538) (fun _ h9 => h9) rfl d_M_length_10 ?_
    refine lv_iconst (v := 2) hx hb d_M_length_13 (by decide) ?_
    refine lv_iadd hx hb d_M_length_14 ?_
    refine rcV (As := [.int (ta + 2)]) (rest := []) (c_M_isThere l dC dI tb y ma qa ba aa ka th wi hg zs ta de oe re pa ee dq qe ag (ta + 2) ) F tw_635 tw_34 tw_634 tw_19 tw_632 hP [0] rfl hK [] rfl hE hS (q0 := 0) rfl rfl hd_M_isThere rfl rfl ⟨Nat.le_of_ble_eq_true rfl, Nat.le_of_ble_eq_true rfl⟩ ⟨Nat.le_of_ble_eq_true rfl, Nat.le_of_ble_eq_true rfl⟩ hl.1 rfl (Nat.le_of_ble_eq_true rfl) d_M_length_15 ?_
    refine lv_if_eq (tgt := 55) hx hb d_M_length_18 (by decide) (fun c_88 => ?_) (fun c_88 => ?_)
    · refine lv_iload_n hx hb d_M_length_55 rfl (lv_at hl 2 rfl) ?_
      refine rcS (As := [.int k9]) (rest := []) (c_M_count l dC dI tb k9 ) F tw_530 tw_34 tw_529 tw_528 hP [] rfl hK [] rfl hE hS hd_M_count rfl rfl ⟨Nat.le_of_ble_eq_true rfl, Nat.le_of_ble_eq_true rfl⟩ ⟨Nat.le_of_ble_eq_true rfl, Nat.le_of_ble_eq_true rfl⟩ hl.1 rfl (Nat.le_of_ble_eq_true rfl) d_M_length_56 ?_
      refine lv_iload_n hx hb d_M_length_59 rfl (lv_at hl 0 rfl) ?_
      refine lv_iadd hx hb d_M_length_60 ?_
      exact W.iret hx hb hr (fun t ht9 hW => ⟨_, rfl, by simp only [lenM, if_pos c_87, if_pos c_88], ht9⟩) hS.2.2 d_M_length_61
    · refine lv_aload_n hx hb d_M_length_21 rfl (lv_at hl 1 rfl) ?_
      refine lv_aload_n hx hb d_M_length_22 rfl (lv_at hl 1 rfl) ?_
      refine va_get (D := (dC, dI)) (ci := 4) (v := .int ta) (C := R_M) (T := F_M) (N := 18) hx hb ht tu_M hown hK hP 0 rfl rfl 6 (by decide) (ht _ tw_538) (fun _ h9 => h9) rfl d_M_length_23 ?_
      refine lv_iconst (v := 2) hx hb d_M_length_26 (by decide) ?_
      refine lv_iadd hx hb d_M_length_27 ?_
      refine rcV (As := [.int (ta + 2)]) (rest := []) (c_M_read l dC dI tb y ma qa ba aa ka th wi hg zs ta de oe re pa ee dq qe ag mF qF cI (ta + 2) (h2 c_88)) F tw_639 tw_34 tw_638 tw_20 tw_636 hP [0, 1, 2] rfl hK [0] rfl hE hS (q0 := 0) rfl rfl hd_M_read rfl rfl ⟨Nat.le_of_ble_eq_true rfl, Nat.le_of_ble_eq_true rfl⟩ ⟨Nat.le_of_ble_eq_true rfl, Nat.le_of_ble_eq_true rfl⟩ hl.1 rfl (Nat.le_of_ble_eq_true rfl) d_M_length_28 ?_
      refine lv_istore_n (lv' := [(2, .int (mrd de mF qF (ta + 2))), (0, .ref y), (1, .int k9)]) hx hb d_M_length_31 rfl hl (by decide) rfl (fun ls hl => ?_)
      refine lv_iload_n hx hb d_M_length_32 rfl (lv_at hl 0 rfl) ?_
      refine lv_if_ge (tgt := 40) hx hb d_M_length_33 (by decide) (fun c_89 => ?_) (fun c_89 => ?_)
      · refine lv_iload_n hx hb d_M_length_40 rfl (lv_at hl 0 rfl) ?_
        refine lv_sipush (v := 256) hx hb d_M_length_41 (by decide) ?_
        refine lv_icmp_le (tgt := 53) hx hb d_M_length_44 (by decide) (fun c_90 => ?_) (fun c_90 => ?_)
        · refine lv_iload_n hx hb d_M_length_53 rfl (lv_at hl 0 rfl) ?_
          refine lv_istore_n (lv' := [(2, .int (mrd de mF qF (ta + 2))), (0, .ref y), (1, .int k9)]) hx hb d_M_length_54 rfl hl (by decide) rfl (fun ls hl => ?_)
          refine lv_iload_n hx hb d_M_length_55 rfl (lv_at hl 2 rfl) ?_
          refine rcS (As := [.int k9]) (rest := []) (c_M_count l dC dI tb k9 ) F tw_530 tw_34 tw_529 tw_528 hP [] rfl hK [] rfl hE hS hd_M_count rfl rfl ⟨Nat.le_of_ble_eq_true rfl, Nat.le_of_ble_eq_true rfl⟩ ⟨Nat.le_of_ble_eq_true rfl, Nat.le_of_ble_eq_true rfl⟩ hl.1 rfl (Nat.le_of_ble_eq_true rfl) d_M_length_56 ?_
          refine lv_iload_n hx hb d_M_length_59 rfl (lv_at hl 0 rfl) ?_
          refine lv_iadd hx hb d_M_length_60 ?_
          exact W.iret hx hb hr (fun t ht9 hW => ⟨_, rfl, by simp only [lenM, if_pos c_87, if_neg c_88, if_pos c_89, if_pos c_90], ht9⟩) hS.2.2 d_M_length_61
        · refine lv_sipush (v := 256) hx hb d_M_length_47 (by decide) ?_
          refine lv_goto (tgt := 54) hx hb d_M_length_50 (by decide) ?_
          refine lv_istore_n (lv' := [(2, .int 256), (0, .ref y), (1, .int k9)]) hx hb d_M_length_54 rfl hl (by decide) rfl (fun ls hl => ?_)
          refine lv_iload_n hx hb d_M_length_55 rfl (lv_at hl 2 rfl) ?_
          refine rcS (As := [.int k9]) (rest := []) (c_M_count l dC dI tb k9 ) F tw_530 tw_34 tw_529 tw_528 hP [] rfl hK [] rfl hE hS hd_M_count rfl rfl ⟨Nat.le_of_ble_eq_true rfl, Nat.le_of_ble_eq_true rfl⟩ ⟨Nat.le_of_ble_eq_true rfl, Nat.le_of_ble_eq_true rfl⟩ hl.1 rfl (Nat.le_of_ble_eq_true rfl) d_M_length_56 ?_
          refine lv_iload_n hx hb d_M_length_59 rfl (lv_at hl 0 rfl) ?_
          refine lv_iadd hx hb d_M_length_60 ?_
          exact W.iret hx hb hr (fun t ht9 hW => ⟨_, rfl, by simp only [lenM, if_pos c_87, if_neg c_88, if_pos c_89, if_neg c_90], ht9⟩) hS.2.2 d_M_length_61
      · refine lv_iconst (v := 0) hx hb d_M_length_36 (by decide) ?_
        refine lv_goto (tgt := 54) hx hb d_M_length_37 (by decide) ?_
        refine lv_istore_n (lv' := [(2, .int 0), (0, .ref y), (1, .int k9)]) hx hb d_M_length_54 rfl hl (by decide) rfl (fun ls hl => ?_)
        refine lv_iload_n hx hb d_M_length_55 rfl (lv_at hl 2 rfl) ?_
        refine rcS (As := [.int k9]) (rest := []) (c_M_count l dC dI tb k9 ) F tw_530 tw_34 tw_529 tw_528 hP [] rfl hK [] rfl hE hS hd_M_count rfl rfl ⟨Nat.le_of_ble_eq_true rfl, Nat.le_of_ble_eq_true rfl⟩ ⟨Nat.le_of_ble_eq_true rfl, Nat.le_of_ble_eq_true rfl⟩ hl.1 rfl (Nat.le_of_ble_eq_true rfl) d_M_length_56 ?_
        refine lv_iload_n hx hb d_M_length_59 rfl (lv_at hl 0 rfl) ?_
        refine lv_iadd hx hb d_M_length_60 ?_
        exact W.iret hx hb hr (fun t ht9 hW => ⟨_, rfl, by simp only [lenM, if_pos c_87, if_neg c_88, if_neg c_89], ht9⟩) hS.2.2 d_M_length_61
def inMM (f9 n9 : Int64) : Int32 := (if (lg_cmp n9 0) = 0 then 1 else (if 0 < (lg_cmp (f9 + n9) 4096) then 0 else 1))
theorem nar_inMM (f9 n9 : Int64) : narrow .boolean (.int (inMM f9 n9)) = .int (inMM f9 n9) := by
  unfold inMM
  repeat' split
  all_goals rfl
set_option maxHeartbeats 4000000 in
set_option maxRecDepth 100000 in
theorem c_M_isInMemory (l : Launch) (dC : Nat → ClassId) (dI : Nat → Nat → Nat) (tb : tbT) (y ma qa ba aa ka : Nat) (th wi hg zs ta de oe re pa ee dq qe ag : Int32) (f9 n9 : Int64) : RM l y_M_isInMemory (Cond.code y_M_isInMemory b_M_isInMemory 5 (some .boolean) :: TB) ({ frames := 0, cells := 0, slots := 0, locals := 0 }) tb (dC, dI) [.ref y, .long f9, .long n9] [(y, .inr (4, [.int th, .ref ma, .int wi, .int hg, .ref qa, .int zs, .int ta, .int de, .ref ba, .int oe, .int re, .int pa, .int ee, .int dq, .int qe, .int ag, .ref aa, .ref ka]))] [] (inMM f9 n9) := by
  refine Met.ofW (cc := b_M_isInMemory) (maxL := 5) (ret := (some .boolean)) (by decide) rfl ?_
  intro p e s m args below meth c s₁ B hml hv
  obtain ⟨rfl, hP, hK, hE⟩ := hv
  have hx := B.exec
  have hb := B.bytes
  have hr := B.returns
  have ht := fun w (h : w ∈ TB) => atoms_spec (ws := Cond.code y_M_isInMemory b_M_isInMemory 5 (some .boolean) :: TB) B.pre w (List.mem_cons_of_mem _ h)
  have hown : s.vm.findClass R_M = some m.cls := findClass_of_methodNamed B.named
  have hlocks := B.notSynchronized
  have hS : va_S (fun _ => False) s.heap s.heap [] := va_S.rf
  have F : CallFix p m c b_M_isInMemory 5 s _ TB R_M := ⟨hx, hb, hml, hown, ht⟩
  have hl := lv_entry ([.ref y, .long f9, .long n9]) (n := 5) (Nat.le_of_ble_eq_true rfl)
  rw [lg_entry_eq]
  generalize (lg_sl ([.ref y, .long f9, .long n9]) ++ List.replicate (5 - (lg_sl ([.ref y, .long f9, .long n9])).length) Slot.unset).toArray = ls at hl ⊢
  have hl : lv_has ls 5 [(0, .ref y), (1, .long f9), (3, .long n9)] := hl
  refine lv_lload_n hx hb d_M_isInMemory_0 rfl (lv_at hl 2 rfl) ?_
  refine lv_lconst (v := 0) hx hb d_M_isInMemory_1 (by decide) ?_
  refine W.lcmp hx hb d_M_isInMemory_2 ?_
  refine lv_if_eq (tgt := 16) hx hb d_M_isInMemory_3 (by decide) (fun c_91 => ?_) (fun c_91 => ?_)
  · refine lv_iconst (v := 1) hx hb d_M_isInMemory_16 (by decide) ?_
    refine lv_goto (tgt := 21) hx hb d_M_isInMemory_17 (by decide) ?_
    exact W.zret hx hb hr (rfl) (fun t ht9 hW => ⟨_, rfl, by simp only [inMM, if_pos c_91], ht9⟩) hS.2.2 d_M_isInMemory_21
  · refine lv_lload_n hx hb d_M_isInMemory_6 rfl (lv_at hl 1 rfl) ?_
    refine lv_lload_n hx hb d_M_isInMemory_7 rfl (lv_at hl 2 rfl) ?_
    refine lv_ladd hx hb d_M_isInMemory_8 ?_
    refine lv_ldc2 hx hb hown (ht _ tw_675) d_M_isInMemory_9 ?_
    refine W.lcmp hx hb d_M_isInMemory_12 ?_
    refine lv_if_gt (tgt := 20) hx hb d_M_isInMemory_13 (by decide) (fun c_92 => ?_) (fun c_92 => ?_)
    · refine lv_iconst (v := 0) hx hb d_M_isInMemory_20 (by decide) ?_
      exact W.zret hx hb hr (rfl) (fun t ht9 hW => ⟨_, rfl, by simp only [inMM, if_neg c_91, if_pos c_92], ht9⟩) hS.2.2 d_M_isInMemory_21
    · refine lv_iconst (v := 1) hx hb d_M_isInMemory_16 (by decide) ?_
      refine lv_goto (tgt := 21) hx hb d_M_isInMemory_17 (by decide) ?_
      exact W.zret hx hb hr (rfl) (fun t ht9 hW => ⟨_, rfl, by simp only [inMM, if_neg c_91, if_neg c_92], ht9⟩) hS.2.2 d_M_isInMemory_21
def lieM (wi hg : Int32) (aF : IF) (k9 : Int32) : Int32 := (if k9 = 6 then (if 32 < ((aF (0 : Int32).toNatClampNeg) + (aF (1 : Int32).toNatClampNeg)) then 0 else (if (inMM ((aF (2 : Int32).toNatClampNeg).toInt64) (4 * (aF (1 : Int32).toNatClampNeg).toInt64)) = 0 then 0 else 1)) else (if k9 = 7 ∨ k9 = 8 then (inMM ((aF (0 : Int32).toNatClampNeg).toInt64) (3 * (aF (1 : Int32).toNatClampNeg).toInt64)) else (if k9 = 20 then (if wi < ((aF (0 : Int32).toNatClampNeg) + (aF (2 : Int32).toNatClampNeg)) then 0 else (if hg < ((aF (1 : Int32).toNatClampNeg) + (aF (3 : Int32).toNatClampNeg)) then 0 else (if (inMM ((aF (4 : Int32).toNatClampNeg).toInt64) ((aF (2 : Int32).toNatClampNeg).toInt64 * (aF (3 : Int32).toNatClampNeg).toInt64)) = 0 then 0 else 1))) else (if k9 = 21 then (inMM ((aF (0 : Int32).toNatClampNeg).toInt64) ((aF (1 : Int32).toNatClampNeg).toInt64)) else (if k9 = 23 then (if 4096 ≤ (aF (0 : Int32).toNatClampNeg) then 0 else 1) else 1)))))
set_option maxHeartbeats 4000000 in
set_option maxRecDepth 100000 in
theorem c_M_liesRight (l : Launch) (dC : Nat → ClassId) (dI : Nat → Nat → Nat) (tb : tbT) (y ma qa ba aa ka : Nat) (th wi hg zs ta de oe re pa ee dq qe ag : Int32) (aF : IF) (cI : ClassId) (k9 : Int32) : RM l y_M_liesRight (Cond.code y_M_liesRight b_M_liesRight 4 (some .boolean) :: TB) ({ frames := 1, cells := 0, slots := 0, locals := 24 }) tb (dC, dI) [.ref y, .int k9] [(y, .inr (4, [.int th, .ref ma, .int wi, .int hg, .ref qa, .int zs, .int ta, .int de, .ref ba, .int oe, .int re, .int pa, .int ee, .int dq, .int qe, .int ag, .ref aa, .ref ka])), (aa, .inl (cI, 300, .inl aF))] [(cI, .int)] (lieM wi hg aF k9) := by
  refine Met.ofW (cc := b_M_liesRight) (maxL := 4) (ret := (some .boolean)) (by decide) rfl ?_
  intro p e s m args below meth c s₁ B hml hv
  obtain ⟨rfl, hP, hK, hE⟩ := hv
  have hx := B.exec
  have hb := B.bytes
  have hr := B.returns
  have ht := fun w (h : w ∈ TB) => atoms_spec (ws := Cond.code y_M_liesRight b_M_liesRight 4 (some .boolean) :: TB) B.pre w (List.mem_cons_of_mem _ h)
  have hown : s.vm.findClass R_M = some m.cls := findClass_of_methodNamed B.named
  have hlocks := B.notSynchronized
  have hS : va_S (fun _ => False) s.heap s.heap [] := va_S.rf
  have F : CallFix p m c b_M_liesRight 4 s _ TB R_M := ⟨hx, hb, hml, hown, ht⟩
  have hl := lv_entry ([.ref y, .int k9]) (n := 4) (Nat.le_of_ble_eq_true rfl)
  rw [lg_entry_eq]
  generalize (lg_sl ([.ref y, .int k9]) ++ List.replicate (4 - (lg_sl ([.ref y, .int k9])).length) Slot.unset).toArray = ls at hl ⊢
  have hl : lv_has ls 4 [(0, .ref y), (1, .int k9)] := hl
  refine lv_aload_n hx hb d_M_liesRight_0 rfl (lv_at hl 0 rfl) ?_
  refine va_get (D := (dC, dI)) (ci := 4) (v := .ref aa) (C := R_M) (T := F_M) (N := 18) hx hb ht tu_M hown hK hP 0 rfl rfl 16 (by decide) (ht _ tw_548) (fun _ h9 => h9) rfl d_M_liesRight_1 ?_
  refine lv_iconst (v := 0) hx hb d_M_liesRight_4 (by decide) ?_
  refine va_iald hx hb hK hP 1 0 rfl rfl (by unfold vp_in; decide +kernel) d_M_liesRight_5 ?_
  refine lv_istore_n (lv' := [(2, .int (aF (0 : Int32).toNatClampNeg)), (0, .ref y), (1, .int k9)]) hx hb d_M_liesRight_6 rfl hl (by decide) rfl (fun ls hl => ?_)
  refine lv_aload_n hx hb d_M_liesRight_7 rfl (lv_at hl 1 rfl) ?_
  refine va_get (D := (dC, dI)) (ci := 4) (v := .ref aa) (C := R_M) (T := F_M) (N := 18) hx hb ht tu_M hown hK hP 0 rfl rfl 16 (by decide) (ht _ tw_548) (fun _ h9 => h9) rfl d_M_liesRight_8 ?_
  refine lv_iconst (v := 1) hx hb d_M_liesRight_11 (by decide) ?_
  refine va_iald hx hb hK hP 1 0 rfl rfl (by unfold vp_in; decide +kernel) d_M_liesRight_12 ?_
  refine lv_istore_n (lv' := [(3, .int (aF (1 : Int32).toNatClampNeg)), (2, .int (aF (0 : Int32).toNatClampNeg)), (0, .ref y), (1, .int k9)]) hx hb d_M_liesRight_13 rfl hl (by decide) rfl (fun ls hl => ?_)
  refine lv_iload_n hx hb d_M_liesRight_14 rfl (lv_at hl 3 rfl) ?_
  by_cases sv_93 : k9 = 6
  · refine lv_tab (off := 85) (tgt := 100) hx hb d_M_liesRight_15 (by decide) (by rw [sv_93]; decide +kernel) (by decide) ?_
    refine lv_iload_n hx hb d_M_liesRight_100 rfl (lv_at hl 1 rfl) ?_
    refine lv_iload_n hx hb d_M_liesRight_101 rfl (lv_at hl 0 rfl) ?_
    refine lv_iadd hx hb d_M_liesRight_102 ?_
    refine lv_bipush (v := 32) hx hb d_M_liesRight_103 (by decide) ?_
    refine lv_icmp_gt (tgt := 132) hx hb d_M_liesRight_105 (by decide) (fun c_94 => ?_) (fun c_94 => ?_)
    · refine lv_iconst (v := 0) hx hb d_M_liesRight_132 (by decide) ?_
      exact W.zret hx hb hr (rfl) (fun t ht9 hW => ⟨_, rfl, by simp only [lieM, if_pos sv_93, if_pos c_94], ht9⟩) hS.2.2 d_M_liesRight_133
    · refine lv_aload_n hx hb d_M_liesRight_108 rfl (lv_at hl 2 rfl) ?_
      refine lv_aload_n hx hb d_M_liesRight_109 rfl (lv_at hl 2 rfl) ?_
      refine va_get (D := (dC, dI)) (ci := 4) (v := .ref aa) (C := R_M) (T := F_M) (N := 18) hx hb ht tu_M hown hK hP 0 rfl rfl 16 (by decide) (ht _ tw_548) (fun _ h9 => h9) rfl d_M_liesRight_110 ?_
      refine lv_iconst (v := 2) hx hb d_M_liesRight_113 (by decide) ?_
      refine va_iald hx hb hK hP 1 0 rfl rfl (by unfold vp_in; decide +kernel) d_M_liesRight_114 ?_
      refine lv_i2l (v := (aF (2 : Int32).toNatClampNeg).toInt64) hx hb d_M_liesRight_115 rfl ?_
      refine lv_ldc2 hx hb hown (ht _ tw_658) d_M_liesRight_116 ?_
      refine lv_iload_n hx hb d_M_liesRight_119 rfl (lv_at hl 0 rfl) ?_
      refine lv_i2l (v := (aF (1 : Int32).toNatClampNeg).toInt64) hx hb d_M_liesRight_120 rfl ?_
      refine lv_lmul hx hb d_M_liesRight_121 ?_
      refine rcV (As := [.long ((aF (2 : Int32).toNatClampNeg).toInt64), .long (4 * (aF (1 : Int32).toNatClampNeg).toInt64)]) (rest := []) (c_M_isInMemory l dC dI tb y ma qa ba aa ka th wi hg zs ta de oe re pa ee dq qe ag ((aF (2 : Int32).toNatClampNeg).toInt64) (4 * (aF (1 : Int32).toNatClampNeg).toInt64) ) F tw_687 tw_34 tw_686 tw_23 tw_684 hP [0] rfl hK [] rfl hE hS (q0 := 0) rfl rfl hd_M_isInMemory rfl rfl ⟨Nat.le_of_ble_eq_true rfl, Nat.le_of_ble_eq_true rfl⟩ ⟨Nat.le_of_ble_eq_true rfl, Nat.le_of_ble_eq_true rfl⟩ hl.1 rfl (Nat.le_of_ble_eq_true rfl) d_M_liesRight_122 ?_
      refine lv_if_eq (tgt := 132) hx hb d_M_liesRight_125 (by decide) (fun c_95 => ?_) (fun c_95 => ?_)
      · refine lv_iconst (v := 0) hx hb d_M_liesRight_132 (by decide) ?_
        exact W.zret hx hb hr (rfl) (fun t ht9 hW => ⟨_, rfl, by simp only [lieM, if_pos sv_93, if_neg c_94, if_pos c_95], ht9⟩) hS.2.2 d_M_liesRight_133
      · refine lv_iconst (v := 1) hx hb d_M_liesRight_128 (by decide) ?_
        refine lv_goto (tgt := 133) hx hb d_M_liesRight_129 (by decide) ?_
        exact W.zret hx hb hr (rfl) (fun t ht9 hW => ⟨_, rfl, by simp only [lieM, if_pos sv_93, if_neg c_94, if_neg c_95], ht9⟩) hS.2.2 d_M_liesRight_133
  · skip
    by_cases sv_96 : k9 = 7 ∨ k9 = 8
    · refine lv_tab (off := 119) (tgt := 134) hx hb d_M_liesRight_15 (by decide) (by rcases sv_96 with h9 | h9 <;> rw [h9] <;> decide +kernel) (by decide) ?_
      refine lv_aload_n hx hb d_M_liesRight_134 rfl (lv_at hl 2 rfl) ?_
      refine lv_iload_n hx hb d_M_liesRight_135 rfl (lv_at hl 1 rfl) ?_
      refine lv_i2l (v := (aF (0 : Int32).toNatClampNeg).toInt64) hx hb d_M_liesRight_136 rfl ?_
      refine lv_ldc2 hx hb hown (ht _ tw_659) d_M_liesRight_137 ?_
      refine lv_iload_n hx hb d_M_liesRight_140 rfl (lv_at hl 0 rfl) ?_
      refine lv_i2l (v := (aF (1 : Int32).toNatClampNeg).toInt64) hx hb d_M_liesRight_141 rfl ?_
      refine lv_lmul hx hb d_M_liesRight_142 ?_
      refine rcV (As := [.long ((aF (0 : Int32).toNatClampNeg).toInt64), .long (3 * (aF (1 : Int32).toNatClampNeg).toInt64)]) (rest := []) (c_M_isInMemory l dC dI tb y ma qa ba aa ka th wi hg zs ta de oe re pa ee dq qe ag ((aF (0 : Int32).toNatClampNeg).toInt64) (3 * (aF (1 : Int32).toNatClampNeg).toInt64) ) F tw_687 tw_34 tw_686 tw_23 tw_684 hP [0] rfl hK [] rfl hE hS (q0 := 0) rfl rfl hd_M_isInMemory rfl rfl ⟨Nat.le_of_ble_eq_true rfl, Nat.le_of_ble_eq_true rfl⟩ ⟨Nat.le_of_ble_eq_true rfl, Nat.le_of_ble_eq_true rfl⟩ hl.1 rfl (Nat.le_of_ble_eq_true rfl) d_M_liesRight_143 ?_
      exact W.zret hx hb hr (nar_inMM _ _) (fun t ht9 hW => ⟨_, rfl, by simp only [lieM, if_neg sv_93, if_pos sv_96], ht9⟩) hS.2.2 d_M_liesRight_146
    · skip
      by_cases sv_97 : k9 = 20
      · refine lv_tab (off := 132) (tgt := 147) hx hb d_M_liesRight_15 (by decide) (by rw [sv_97]; decide +kernel) (by decide) ?_
        refine lv_iload_n hx hb d_M_liesRight_147 rfl (lv_at hl 1 rfl) ?_
        refine lv_aload_n hx hb d_M_liesRight_148 rfl (lv_at hl 2 rfl) ?_
        refine va_get (D := (dC, dI)) (ci := 4) (v := .ref aa) (C := R_M) (T := F_M) (N := 18) hx hb ht tu_M hown hK hP 0 rfl rfl 16 (by decide) (ht _ tw_548) (fun _ h9 => h9) rfl d_M_liesRight_149 ?_
        refine lv_iconst (v := 2) hx hb d_M_liesRight_152 (by decide) ?_
        refine va_iald hx hb hK hP 1 0 rfl rfl (by unfold vp_in; decide +kernel) d_M_liesRight_153 ?_
        refine lv_iadd hx hb d_M_liesRight_154 ?_
        refine lv_aload_n hx hb d_M_liesRight_155 rfl (lv_at hl 2 rfl) ?_
        refine va_get (D := (dC, dI)) (ci := 4) (v := .int wi) (C := R_M) (T := F_M) (N := 18) hx hb ht tu_M hown hK hP 0 rfl rfl 2 (by decide) (ht _ tw_534) (fun _ h9 => h9) rfl d_M_liesRight_156 ?_
        refine lv_icmp_gt (tgt := 210) hx hb d_M_liesRight_159 (by decide) (fun c_98 => ?_) (fun c_98 => ?_)
        · refine lv_iconst (v := 0) hx hb d_M_liesRight_210 (by decide) ?_
          exact W.zret hx hb hr (rfl) (fun t ht9 hW => ⟨_, rfl, by simp only [lieM, if_neg sv_93, if_neg sv_96, if_pos sv_97, if_pos c_98], ht9⟩) hS.2.2 d_M_liesRight_211
        · refine lv_iload_n hx hb d_M_liesRight_162 rfl (lv_at hl 0 rfl) ?_
          refine lv_aload_n hx hb d_M_liesRight_163 rfl (lv_at hl 2 rfl) ?_
          refine va_get (D := (dC, dI)) (ci := 4) (v := .ref aa) (C := R_M) (T := F_M) (N := 18) hx hb ht tu_M hown hK hP 0 rfl rfl 16 (by decide) (ht _ tw_548) (fun _ h9 => h9) rfl d_M_liesRight_164 ?_
          refine lv_iconst (v := 3) hx hb d_M_liesRight_167 (by decide) ?_
          refine va_iald hx hb hK hP 1 0 rfl rfl (by unfold vp_in; decide +kernel) d_M_liesRight_168 ?_
          refine lv_iadd hx hb d_M_liesRight_169 ?_
          refine lv_aload_n hx hb d_M_liesRight_170 rfl (lv_at hl 2 rfl) ?_
          refine va_get (D := (dC, dI)) (ci := 4) (v := .int hg) (C := R_M) (T := F_M) (N := 18) hx hb ht tu_M hown hK hP 0 rfl rfl 3 (by decide) (ht _ tw_535) (fun _ h9 => h9) rfl d_M_liesRight_171 ?_
          refine lv_icmp_gt (tgt := 210) hx hb d_M_liesRight_174 (by decide) (fun c_99 => ?_) (fun c_99 => ?_)
          · refine lv_iconst (v := 0) hx hb d_M_liesRight_210 (by decide) ?_
            exact W.zret hx hb hr (rfl) (fun t ht9 hW => ⟨_, rfl, by simp only [lieM, if_neg sv_93, if_neg sv_96, if_pos sv_97, if_neg c_98, if_pos c_99], ht9⟩) hS.2.2 d_M_liesRight_211
          · refine lv_aload_n hx hb d_M_liesRight_177 rfl (lv_at hl 2 rfl) ?_
            refine lv_aload_n hx hb d_M_liesRight_178 rfl (lv_at hl 2 rfl) ?_
            refine va_get (D := (dC, dI)) (ci := 4) (v := .ref aa) (C := R_M) (T := F_M) (N := 18) hx hb ht tu_M hown hK hP 0 rfl rfl 16 (by decide) (ht _ tw_548) (fun _ h9 => h9) rfl d_M_liesRight_179 ?_
            refine lv_iconst (v := 4) hx hb d_M_liesRight_182 (by decide) ?_
            refine va_iald hx hb hK hP 1 0 rfl rfl (by unfold vp_in; decide +kernel) d_M_liesRight_183 ?_
            refine lv_i2l (v := (aF (4 : Int32).toNatClampNeg).toInt64) hx hb d_M_liesRight_184 rfl ?_
            refine lv_aload_n hx hb d_M_liesRight_185 rfl (lv_at hl 2 rfl) ?_
            refine va_get (D := (dC, dI)) (ci := 4) (v := .ref aa) (C := R_M) (T := F_M) (N := 18) hx hb ht tu_M hown hK hP 0 rfl rfl 16 (by decide) (ht _ tw_548) (fun _ h9 => h9) rfl d_M_liesRight_186 ?_
            refine lv_iconst (v := 2) hx hb d_M_liesRight_189 (by decide) ?_
            refine va_iald hx hb hK hP 1 0 rfl rfl (by unfold vp_in; decide +kernel) d_M_liesRight_190 ?_
            refine lv_i2l (v := (aF (2 : Int32).toNatClampNeg).toInt64) hx hb d_M_liesRight_191 rfl ?_
            refine lv_aload_n hx hb d_M_liesRight_192 rfl (lv_at hl 2 rfl) ?_
            refine va_get (D := (dC, dI)) (ci := 4) (v := .ref aa) (C := R_M) (T := F_M) (N := 18) hx hb ht tu_M hown hK hP 0 rfl rfl 16 (by decide) (ht _ tw_548) (fun _ h9 => h9) rfl d_M_liesRight_193 ?_
            refine lv_iconst (v := 3) hx hb d_M_liesRight_196 (by decide) ?_
            refine va_iald hx hb hK hP 1 0 rfl rfl (by unfold vp_in; decide +kernel) d_M_liesRight_197 ?_
            refine lv_i2l (v := (aF (3 : Int32).toNatClampNeg).toInt64) hx hb d_M_liesRight_198 rfl ?_
            refine lv_lmul hx hb d_M_liesRight_199 ?_
            refine rcV (As := [.long ((aF (4 : Int32).toNatClampNeg).toInt64), .long ((aF (2 : Int32).toNatClampNeg).toInt64 * (aF (3 : Int32).toNatClampNeg).toInt64)]) (rest := []) (c_M_isInMemory l dC dI tb y ma qa ba aa ka th wi hg zs ta de oe re pa ee dq qe ag ((aF (4 : Int32).toNatClampNeg).toInt64) ((aF (2 : Int32).toNatClampNeg).toInt64 * (aF (3 : Int32).toNatClampNeg).toInt64) ) F tw_687 tw_34 tw_686 tw_23 tw_684 hP [0] rfl hK [] rfl hE hS (q0 := 0) rfl rfl hd_M_isInMemory rfl rfl ⟨Nat.le_of_ble_eq_true rfl, Nat.le_of_ble_eq_true rfl⟩ ⟨Nat.le_of_ble_eq_true rfl, Nat.le_of_ble_eq_true rfl⟩ hl.1 rfl (Nat.le_of_ble_eq_true rfl) d_M_liesRight_200 ?_
            refine lv_if_eq (tgt := 210) hx hb d_M_liesRight_203 (by decide) (fun c_100 => ?_) (fun c_100 => ?_)
            · refine lv_iconst (v := 0) hx hb d_M_liesRight_210 (by decide) ?_
              exact W.zret hx hb hr (rfl) (fun t ht9 hW => ⟨_, rfl, by simp only [lieM, if_neg sv_93, if_neg sv_96, if_pos sv_97, if_neg c_98, if_neg c_99, if_pos c_100], ht9⟩) hS.2.2 d_M_liesRight_211
            · refine lv_iconst (v := 1) hx hb d_M_liesRight_206 (by decide) ?_
              refine lv_goto (tgt := 211) hx hb d_M_liesRight_207 (by decide) ?_
              exact W.zret hx hb hr (rfl) (fun t ht9 hW => ⟨_, rfl, by simp only [lieM, if_neg sv_93, if_neg sv_96, if_pos sv_97, if_neg c_98, if_neg c_99, if_neg c_100], ht9⟩) hS.2.2 d_M_liesRight_211
      · skip
        by_cases sv_101 : k9 = 21
        · refine lv_tab (off := 197) (tgt := 212) hx hb d_M_liesRight_15 (by decide) (by rw [sv_101]; decide +kernel) (by decide) ?_
          refine lv_aload_n hx hb d_M_liesRight_212 rfl (lv_at hl 2 rfl) ?_
          refine lv_iload_n hx hb d_M_liesRight_213 rfl (lv_at hl 1 rfl) ?_
          refine lv_i2l (v := (aF (0 : Int32).toNatClampNeg).toInt64) hx hb d_M_liesRight_214 rfl ?_
          refine lv_iload_n hx hb d_M_liesRight_215 rfl (lv_at hl 0 rfl) ?_
          refine lv_i2l (v := (aF (1 : Int32).toNatClampNeg).toInt64) hx hb d_M_liesRight_216 rfl ?_
          refine rcV (As := [.long ((aF (0 : Int32).toNatClampNeg).toInt64), .long ((aF (1 : Int32).toNatClampNeg).toInt64)]) (rest := []) (c_M_isInMemory l dC dI tb y ma qa ba aa ka th wi hg zs ta de oe re pa ee dq qe ag ((aF (0 : Int32).toNatClampNeg).toInt64) ((aF (1 : Int32).toNatClampNeg).toInt64) ) F tw_687 tw_34 tw_686 tw_23 tw_684 hP [0] rfl hK [] rfl hE hS (q0 := 0) rfl rfl hd_M_isInMemory rfl rfl ⟨Nat.le_of_ble_eq_true rfl, Nat.le_of_ble_eq_true rfl⟩ ⟨Nat.le_of_ble_eq_true rfl, Nat.le_of_ble_eq_true rfl⟩ hl.1 rfl (Nat.le_of_ble_eq_true rfl) d_M_liesRight_217 ?_
          exact W.zret hx hb hr (nar_inMM _ _) (fun t ht9 hW => ⟨_, rfl, by simp only [lieM, if_neg sv_93, if_neg sv_96, if_neg sv_97, if_pos sv_101], ht9⟩) hS.2.2 d_M_liesRight_220
        · skip
          by_cases sv_102 : k9 = 23
          · refine lv_tab (off := 206) (tgt := 221) hx hb d_M_liesRight_15 (by decide) (by rw [sv_102]; decide +kernel) (by decide) ?_
            refine lv_iload_n hx hb d_M_liesRight_221 rfl (lv_at hl 1 rfl) ?_
            refine lv_sipush (v := 4096) hx hb d_M_liesRight_222 (by decide) ?_
            refine lv_icmp_ge (tgt := 232) hx hb d_M_liesRight_225 (by decide) (fun c_103 => ?_) (fun c_103 => ?_)
            · refine lv_iconst (v := 0) hx hb d_M_liesRight_232 (by decide) ?_
              exact W.zret hx hb hr (rfl) (fun t ht9 hW => ⟨_, rfl, by simp only [lieM, if_neg sv_93, if_neg sv_96, if_neg sv_97, if_neg sv_101, if_pos sv_102, if_pos c_103], ht9⟩) hS.2.2 d_M_liesRight_233
            · refine lv_iconst (v := 1) hx hb d_M_liesRight_228 (by decide) ?_
              refine lv_goto (tgt := 233) hx hb d_M_liesRight_229 (by decide) ?_
              exact W.zret hx hb hr (rfl) (fun t ht9 hW => ⟨_, rfl, by simp only [lieM, if_neg sv_93, if_neg sv_96, if_neg sv_97, if_neg sv_101, if_pos sv_102, if_neg c_103], ht9⟩) hS.2.2 d_M_liesRight_233
          · skip
            have hsw : ∀ b ∈ ([6, 7, 8, 20, 21, 23] : List Int32), ¬ k9 = b := by
              intro b9 hb9
              simp only [List.mem_cons, List.not_mem_nil, or_false] at hb9
              rcases hb9 with rfl | rfl | rfl | rfl | rfl | rfl
              · exact sv_93
              · exact fun h9 => sv_96 (Or.inl h9)
              · exact fun h9 => sv_96 (Or.inr (h9))
              · exact sv_97
              · exact sv_101
              · exact sv_102
            refine lv_tab (off := 219) (tgt := 234) hx hb d_M_liesRight_15 (by decide) (sw_def [6, 7, 8, 20, 21, 23] hsw (by decide +kernel) (by decide)) (by decide) ?_
            refine lv_iconst (v := 1) hx hb d_M_liesRight_234 (by decide) ?_
            exact W.zret hx hb hr (rfl) (fun t ht9 hW => ⟨_, rfl, by simp only [lieM, if_neg sv_93, if_neg sv_96, if_neg sv_97, if_neg sv_101, if_neg sv_102], ht9⟩) hS.2.2 d_M_liesRight_235
def fitM (de qe : Int32) (aF kF : IF) (k9 : Int32) : Int32 := (if k9 = 17 ∨ k9 = 18 then (if (kF (rwO 7 0).toNatClampNeg) < 0 then 0 else (if (kF (rwO 8 0).toNatClampNeg) < 0 then 0 else 1)) else (if k9 = 19 then (if (aF (1 : Int32).toNatClampNeg) = 1 then (if qe = (-1) then 1 else 0) else (if qe = (aF (0 : Int32).toNatClampNeg) then 1 else 0)) else (if k9 = 23 then (if 4 ≤ de then 0 else 1) else 1)))
set_option maxHeartbeats 4000000 in
set_option maxRecDepth 100000 in
theorem c_M_fitsState (l : Launch) (dC : Nat → ClassId) (dI : Nat → Nat → Nat) (tb : tbT) (y ma qa ba aa ka : Nat) (th wi hg zs ta de oe re pa ee dq qe ag : Int32) (aF kF : IF) (cI : ClassId) (k9 : Int32) : RM l y_M_fitsState (Cond.code y_M_fitsState b_M_fitsState 2 (some .boolean) :: TB) ({ frames := 2, cells := 0, slots := 0, locals := 41 }) tb (dC, dI) [.ref y, .int k9] [(y, .inr (4, [.int th, .ref ma, .int wi, .int hg, .ref qa, .int zs, .int ta, .int de, .ref ba, .int oe, .int re, .int pa, .int ee, .int dq, .int qe, .int ag, .ref aa, .ref ka])), (aa, .inl (cI, 300, .inl aF)), (ka, .inl (cI, 4160, .inl kF))] [(cI, .int)] (fitM de qe aF kF k9) := by
  refine Met.ofW (cc := b_M_fitsState) (maxL := 2) (ret := (some .boolean)) (by decide) rfl ?_
  intro p e s m args below meth c s₁ B hml hv
  obtain ⟨rfl, hP, hK, hE⟩ := hv
  have hx := B.exec
  have hb := B.bytes
  have hr := B.returns
  have ht := fun w (h : w ∈ TB) => atoms_spec (ws := Cond.code y_M_fitsState b_M_fitsState 2 (some .boolean) :: TB) B.pre w (List.mem_cons_of_mem _ h)
  have hown : s.vm.findClass R_M = some m.cls := findClass_of_methodNamed B.named
  have hlocks := B.notSynchronized
  have hS : va_S (fun _ => False) s.heap s.heap [] := va_S.rf
  have F : CallFix p m c b_M_fitsState 2 s _ TB R_M := ⟨hx, hb, hml, hown, ht⟩
  have hl := lv_entry ([.ref y, .int k9]) (n := 2) (Nat.le_of_ble_eq_true rfl)
  rw [lg_entry_eq]
  generalize (lg_sl ([.ref y, .int k9]) ++ List.replicate (2 - (lg_sl ([.ref y, .int k9])).length) Slot.unset).toArray = ls at hl ⊢
  have hl : lv_has ls 2 [(0, .ref y), (1, .int k9)] := hl
  refine lv_iload_n hx hb d_M_fitsState_0 rfl (lv_at hl 1 rfl) ?_
  by_cases sv_104 : k9 = 17 ∨ k9 = 18
  · refine lv_tab (off := 43) (tgt := 44) hx hb d_M_fitsState_1 (by decide) (by rcases sv_104 with h9 | h9 <;> rw [h9] <;> decide +kernel) (by decide) ?_
    refine lv_aload_n hx hb d_M_fitsState_44 rfl (lv_at hl 0 rfl) ?_
    refine va_get (D := (dC, dI)) (ci := 4) (v := .ref ka) (C := R_M) (T := F_M) (N := 18) hx hb ht tu_M hown hK hP 0 rfl rfl 17 (by decide) (ht _ tw_549) (fun _ h9 => h9) rfl d_M_fitsState_45 ?_
    refine lv_bipush (v := 7) hx hb d_M_fitsState_48 (by decide) ?_
    refine lv_iconst (v := 0) hx hb d_M_fitsState_50 (by decide) ?_
    refine rcS (As := [.int 7, .int 0]) (rest := [.ref ka]) (c_M_rowOf l dC dI tb 7 0 ) F tw_527 tw_34 tw_526 tw_525 hP [] rfl hK [] rfl hE hS hd_M_rowOf rfl rfl ⟨Nat.le_of_ble_eq_true rfl, Nat.le_of_ble_eq_true rfl⟩ ⟨Nat.le_of_ble_eq_true rfl, Nat.le_of_ble_eq_true rfl⟩ hl.1 rfl (Nat.le_of_ble_eq_true rfl) d_M_fitsState_51 ?_
    refine va_iald hx hb hK hP 2 0 rfl rfl (by unfold vp_in; decide +kernel) d_M_fitsState_54 ?_
    refine lv_if_lt (tgt := 76) hx hb d_M_fitsState_55 (by decide) (fun c_105 => ?_) (fun c_105 => ?_)
    · refine lv_iconst (v := 0) hx hb d_M_fitsState_76 (by decide) ?_
      exact W.zret hx hb hr (rfl) (fun t ht9 hW => ⟨_, rfl, by simp only [fitM, if_pos sv_104, if_pos c_105], ht9⟩) hS.2.2 d_M_fitsState_77
    · refine lv_aload_n hx hb d_M_fitsState_58 rfl (lv_at hl 0 rfl) ?_
      refine va_get (D := (dC, dI)) (ci := 4) (v := .ref ka) (C := R_M) (T := F_M) (N := 18) hx hb ht tu_M hown hK hP 0 rfl rfl 17 (by decide) (ht _ tw_549) (fun _ h9 => h9) rfl d_M_fitsState_59 ?_
      refine lv_bipush (v := 8) hx hb d_M_fitsState_62 (by decide) ?_
      refine lv_iconst (v := 0) hx hb d_M_fitsState_64 (by decide) ?_
      refine rcS (As := [.int 8, .int 0]) (rest := [.ref ka]) (c_M_rowOf l dC dI tb 8 0 ) F tw_527 tw_34 tw_526 tw_525 hP [] rfl hK [] rfl hE hS hd_M_rowOf rfl rfl ⟨Nat.le_of_ble_eq_true rfl, Nat.le_of_ble_eq_true rfl⟩ ⟨Nat.le_of_ble_eq_true rfl, Nat.le_of_ble_eq_true rfl⟩ hl.1 rfl (Nat.le_of_ble_eq_true rfl) d_M_fitsState_65 ?_
      refine va_iald hx hb hK hP 2 0 rfl rfl (by unfold vp_in; decide +kernel) d_M_fitsState_68 ?_
      refine lv_if_lt (tgt := 76) hx hb d_M_fitsState_69 (by decide) (fun c_106 => ?_) (fun c_106 => ?_)
      · refine lv_iconst (v := 0) hx hb d_M_fitsState_76 (by decide) ?_
        exact W.zret hx hb hr (rfl) (fun t ht9 hW => ⟨_, rfl, by simp only [fitM, if_pos sv_104, if_neg c_105, if_pos c_106], ht9⟩) hS.2.2 d_M_fitsState_77
      · refine lv_iconst (v := 1) hx hb d_M_fitsState_72 (by decide) ?_
        refine lv_goto (tgt := 77) hx hb d_M_fitsState_73 (by decide) ?_
        exact W.zret hx hb hr (rfl) (fun t ht9 hW => ⟨_, rfl, by simp only [fitM, if_pos sv_104, if_neg c_105, if_neg c_106], ht9⟩) hS.2.2 d_M_fitsState_77
  · skip
    by_cases sv_107 : k9 = 19
    · refine lv_tab (off := 77) (tgt := 78) hx hb d_M_fitsState_1 (by decide) (by rw [sv_107]; decide +kernel) (by decide) ?_
      refine lv_aload_n hx hb d_M_fitsState_78 rfl (lv_at hl 0 rfl) ?_
      refine va_get (D := (dC, dI)) (ci := 4) (v := .ref aa) (C := R_M) (T := F_M) (N := 18) hx hb ht tu_M hown hK hP 0 rfl rfl 16 (by decide) (ht _ tw_548) (fun _ h9 => h9) rfl d_M_fitsState_79 ?_
      refine lv_iconst (v := 1) hx hb d_M_fitsState_82 (by decide) ?_
      refine va_iald hx hb hK hP 1 0 rfl rfl (by unfold vp_in; decide +kernel) d_M_fitsState_83 ?_
      refine lv_iconst (v := 1) hx hb d_M_fitsState_84 (by decide) ?_
      refine lv_icmp_ne (tgt := 104) hx hb d_M_fitsState_85 (by decide) (fun c_108 => ?_) (fun c_108 => ?_)
      · refine lv_aload_n hx hb d_M_fitsState_104 rfl (lv_at hl 0 rfl) ?_
        refine va_get (D := (dC, dI)) (ci := 4) (v := .int qe) (C := R_M) (T := F_M) (N := 18) hx hb ht tu_M hown hK hP 0 rfl rfl 14 (by decide) (ht _ tw_546) (fun _ h9 => h9) rfl d_M_fitsState_105 ?_
        refine lv_aload_n hx hb d_M_fitsState_108 rfl (lv_at hl 0 rfl) ?_
        refine va_get (D := (dC, dI)) (ci := 4) (v := .ref aa) (C := R_M) (T := F_M) (N := 18) hx hb ht tu_M hown hK hP 0 rfl rfl 16 (by decide) (ht _ tw_548) (fun _ h9 => h9) rfl d_M_fitsState_109 ?_
        refine lv_iconst (v := 0) hx hb d_M_fitsState_112 (by decide) ?_
        refine va_iald hx hb hK hP 1 0 rfl rfl (by unfold vp_in; decide +kernel) d_M_fitsState_113 ?_
        refine lv_icmp_ne (tgt := 121) hx hb d_M_fitsState_114 (by decide) (fun c_109 => ?_) (fun c_109 => ?_)
        · refine lv_iconst (v := 0) hx hb d_M_fitsState_121 (by decide) ?_
          exact W.zret hx hb hr (rfl) (fun t ht9 hW => ⟨_, rfl, by simp only [fitM, if_neg sv_104, if_pos sv_107, if_neg c_108, if_neg c_109], ht9⟩) hS.2.2 d_M_fitsState_122
        · refine lv_iconst (v := 1) hx hb d_M_fitsState_117 (by decide) ?_
          refine lv_goto (tgt := 122) hx hb d_M_fitsState_118 (by decide) ?_
          exact W.zret hx hb hr (rfl) (fun t ht9 hW => ⟨_, rfl, by simp only [fitM, if_neg sv_104, if_pos sv_107, if_neg c_108, if_pos c_109], ht9⟩) hS.2.2 d_M_fitsState_122
      · refine lv_aload_n hx hb d_M_fitsState_88 rfl (lv_at hl 0 rfl) ?_
        refine va_get (D := (dC, dI)) (ci := 4) (v := .int qe) (C := R_M) (T := F_M) (N := 18) hx hb ht tu_M hown hK hP 0 rfl rfl 14 (by decide) (ht _ tw_546) (fun _ h9 => h9) rfl d_M_fitsState_89 ?_
        refine lv_iconst (v := (-1)) hx hb d_M_fitsState_92 (by decide) ?_
        refine lv_icmp_ne (tgt := 100) hx hb d_M_fitsState_93 (by decide) (fun c_110 => ?_) (fun c_110 => ?_)
        · refine lv_iconst (v := 0) hx hb d_M_fitsState_100 (by decide) ?_
          refine lv_goto (tgt := 122) hx hb d_M_fitsState_101 (by decide) ?_
          exact W.zret hx hb hr (rfl) (fun t ht9 hW => ⟨_, rfl, by simp only [fitM, if_neg sv_104, if_pos sv_107, if_pos c_108, if_neg c_110], ht9⟩) hS.2.2 d_M_fitsState_122
        · refine lv_iconst (v := 1) hx hb d_M_fitsState_96 (by decide) ?_
          refine lv_goto (tgt := 122) hx hb d_M_fitsState_97 (by decide) ?_
          exact W.zret hx hb hr (rfl) (fun t ht9 hW => ⟨_, rfl, by simp only [fitM, if_neg sv_104, if_pos sv_107, if_pos c_108, if_pos c_110], ht9⟩) hS.2.2 d_M_fitsState_122
    · skip
      by_cases sv_111 : k9 = 23
      · refine lv_tab (off := 122) (tgt := 123) hx hb d_M_fitsState_1 (by decide) (by rw [sv_111]; decide +kernel) (by decide) ?_
        refine lv_aload_n hx hb d_M_fitsState_123 rfl (lv_at hl 0 rfl) ?_
        refine va_get (D := (dC, dI)) (ci := 4) (v := .int de) (C := R_M) (T := F_M) (N := 18) hx hb ht tu_M hown hK hP 0 rfl rfl 7 (by decide) (ht _ tw_539) (fun _ h9 => h9) rfl d_M_fitsState_124 ?_
        refine lv_iconst (v := 4) hx hb d_M_fitsState_127 (by decide) ?_
        refine lv_icmp_ge (tgt := 135) hx hb d_M_fitsState_128 (by decide) (fun c_112 => ?_) (fun c_112 => ?_)
        · refine lv_iconst (v := 0) hx hb d_M_fitsState_135 (by decide) ?_
          exact W.zret hx hb hr (rfl) (fun t ht9 hW => ⟨_, rfl, by simp only [fitM, if_neg sv_104, if_neg sv_107, if_pos sv_111, if_pos c_112], ht9⟩) hS.2.2 d_M_fitsState_136
        · refine lv_iconst (v := 1) hx hb d_M_fitsState_131 (by decide) ?_
          refine lv_goto (tgt := 136) hx hb d_M_fitsState_132 (by decide) ?_
          exact W.zret hx hb hr (rfl) (fun t ht9 hW => ⟨_, rfl, by simp only [fitM, if_neg sv_104, if_neg sv_107, if_pos sv_111, if_neg c_112], ht9⟩) hS.2.2 d_M_fitsState_136
      · skip
        have hsw : ∀ b ∈ ([17, 18, 19, 23] : List Int32), ¬ k9 = b := by
          intro b9 hb9
          simp only [List.mem_cons, List.not_mem_nil, or_false] at hb9
          rcases hb9 with rfl | rfl | rfl | rfl
          · exact fun h9 => sv_104 (Or.inl h9)
          · exact fun h9 => sv_104 (Or.inr (h9))
          · exact sv_107
          · exact sv_111
        refine lv_tab (off := 136) (tgt := 137) hx hb d_M_fitsState_1 (by decide) (sw_def [17, 18, 19, 23] hsw (by decide +kernel) (by decide)) (by decide) ?_
        refine lv_iconst (v := 1) hx hb d_M_fitsState_137 (by decide) ?_
        exact W.zret hx hb hr (rfl) (fun t ht9 hW => ⟨_, rfl, by simp only [fitM, if_neg sv_104, if_neg sv_107, if_neg sv_111], ht9⟩) hS.2.2 d_M_fitsState_138
end
