/-! constructors: what is made is told by u -/
abbrev MN {S : Type} (l : Launch) (y : MethodName) (w : List Cond) (rm : Room) (tb : tbT) (D : va_G) (av : List Value) (ws : va_W) (tc : List (ClassId × FieldType)) (ws' : S → va_W) (tys' : S → List (ClassId × FieldType)) (mc ms sz : Nat) : Prop := Met l y w rm (va_Pc av (mP tb D ws tc sz)) (va_Qv (fun _ : S => True) (fun u t => va_P D clX (ws' u) t.heap ∧ va_K D clX (tys' u) t ∧ va_D (va_A ws sz) (ws' u)) (va_A ws sz)) mc ms (va_A ws sz)
theorem k_same {D : va_G} {tys : List (ClassId × FieldType)} {s : State} (hK : va_K D clX tys s) {i j : Nat} {c1 c2 : ClassId} (h1 : tys[i]? = some (c1, .int)) (h2 : tys[j]? = some (c2, .int)) : c1 = c2 := by
  have a1 : s.vm.findClass ("[" ++ FieldType.int.toString) = some c1 := (hK.2 i _ h1).2
  have a2 : s.vm.findClass ("[" ++ FieldType.int.toString) = some c2 := (hK.2 j _ h2).2
  exact Option.some.inj (a1.symm.trans a2)
section MYN
variable {p : Program} {l : Launch} {e : Env} {R : Room} {s : State} {m : MethodId} {args : Array Value} {below : List Frame} {meth : Method} {c : Code} {H : Heap} {locs : List Loc} {cells slots : Nat} {Q : State → Prop}
variable {cc : ByteArray} {pc nL : Nat} {ls : Array Slot} {rest st0 As : List Value} {D : va_G} {A : Nat → Prop} {tb : tbT} {tys tc : List (ClassId × FieldType)} {ws wc wr : va_W}
variable {y : MethodName} {bytes : ByteArray} {maxL index mc ms b : Nat} {rm : Room} {own : String}
theorem ncI {S : Type} {ws' : S → va_W} {tys' : S → List (ClassId × FieldType)} (hM : ∀ sz, MN l y (Cond.code y bytes maxL none :: TB) rm tb D (.ref b :: As) wc tc ws' tys' mc ms sz) (F : CallFix p m c cc nL s args TB own) (hcode : Cond.code y bytes maxL none ∈ TB) (hini : Cond.initialized y.cls ∈ TB) (hin : Cond.instanceMethod y ∈ TB) (hl : Cond.methodLink own index y ∈ TB) (hy : y.name = "<init>")
    (hP : va_P D clX ws H) (hD : va_D A ws) (isC isR : List Nat) (hC : isC.map (fun i => ws[i]?) = wc.map some) (hRr : isR.map (fun i => ws[i]?) = wr.map some) (hn : va_nd isC = true) (hnR : va_nd isR = true) (hdis : ∀ i ∈ isR, i ∉ isC) (hK : va_K D clX tys s) (ti : List Nat) (hti : ti.filterMap (fun i => tys[i]?) = tc) (hE : ev tb A s s.heap) (hS : va_S A s.heap H locs) (hA : ∀ q, s.heap.size ≤ q → A q)
    (hd : (y.cls ≠ "java/lang/invoke/MethodHandle" ∧ y.cls ≠ "java/lang/invoke/VarHandle" ∧ (parseMethodDescriptor y.desc).map (fun d => d.parameters.length) = some As.length)) (hrc : rm.cells = mc) (hrs : rm.slots = ms) (hR : rm.frames + 1 ≤ R.frames ∧ 8 + (maxL + 11) + rm.locals ≤ R.locals) (hcs : cells + mc ≤ R.cells ∧ slots + ms ≤ R.slots)
    (hsz : ls.size = nL) (hstk : st0 = As.reverse ++ .ref b :: rest) (hrm : (rest.map fun v => v.category).sum ≤ 8) (hdg : decode cc pc = .ok (.invokespecial index, 3))
    (kk : ∀ (u : S) (H1 : Heap) (locs1 : List Loc), va_P D clX (wr ++ ws' u) H1 → va_D A (wr ++ ws' u) → va_K D clX (tys ++ tys' u) s → va_S A s.heap H1 locs1 → W p l e R s m args below meth c H1 locs1 (cells + mc) (slots + ms) Q (F0 m (pc + 3) ls rest)) : W p l e R s m args below meth c H locs cells slots Q (F0 m pc ls st0) := by
  refine va_callv (va_runI (g := F0 m pc ls st0) F (hM H.size) ⟨callB_of As.length F.2.2.2.2 (tb_gI hcode) rfl hrc hrs (F.2.2.2.2 _ hini) (F.2.2.2.2 _ hl) hd hR, hy, F.2.2.2.2 _ hin⟩ ⟨mP_blind, fun U hU hW => ⟨rfl, mP_at hP hD isC hn hC hK ti hti hE hS hA U hU hW⟩⟩ rfl rfl hsz hstk (lv_room hrm) hdg hcs) hS (fun q9 _ h => va_free (wc := wc) hD hS hA isC hC q9 h) (va_free (wc := wc) hD hS hA isC hC) (fun u t H1 locs1 ht hvm hw hB hz1 hk1 hS1 => ?_)
  obtain ⟨hP1, hK1, hD1⟩ := hB
  rw [ht] at hP1
  obtain ⟨h1, h2⟩ := va_join hP hD isC isR hC hRr hnR hdis hk1 (va_free (wc := wc) hD hS hA isC hC) hP1 hD1
  exact kk u H1 locs1 h1 h2 (hK.app (va_K.moved hvm.symm hK1)) hS1
end MYN
def lnT : Nat → Int32
  | 0 => 0
  | n + 1 => lnT n + hld (nI n) * fxd (nI n)
/-- the class's starts, as its constructor lays them -/
def sfC : IF := itN (fun k w => wrA 26 w (nI k) (lnT k)) (26 : Int32).toNatClampNeg (fun _ => 0)
def zF : IF := fun _ => 0
