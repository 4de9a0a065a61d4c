/-! loops and switches -/
def itN {α : Type} (st : Nat → α → α) : Nat → α → α
  | 0, a => a
  | n + 1, a => st n (itN st n a)
theorem lp_toNat (B : Int32) : (B.toNatClampNeg : Int) = if B.toInt < 0 then 0 else B.toInt := by
  have h : B.toNatClampNeg = B.toInt.toNat := rfl
  rw [h]
  split <;> omega
theorem lp_small (B : Int32) : B.toNatClampNeg < 2147483648 := by
  have h := lp_toNat B
  have h2 := B.toInt_lt
  split at h <;> omega
theorem lp_lt {B : Int32} {i : Nat} (h : i < B.toNatClampNeg) : ¬ B ≤ nI i := by
  have h1 := lp_toNat B
  have h2 := lp_small B
  rw [Int32.le_iff_toInt_le, nI_toInt (by omega)]
  split at h1 <;> omega
theorem lp_ge (B : Int32) : B ≤ nI B.toNatClampNeg := by
  have h1 := lp_toNat B
  have h2 := lp_small B
  rw [Int32.le_iff_toInt_le, nI_toInt (by omega)]
  split at h1 <;> omega
def swT (d lo hi : Int) (offs : Array Int) (x : Int) : Int := if x < lo ∨ hi < x then d else (offs[(x - lo).toNat]?).getD d
/-- no special value: the switch goes to its default -/
theorem sw_def {x : Int32} {d lo hi : Int} {offs : Array Int} (bad : List Int32) (hb : ∀ b ∈ bad, ¬ x = b) (hc : (List.range offs.size).all (fun j => decide ((offs[j]?).getD d = d) || bad.any (fun b => decide (b.toInt = lo + j))) = true) (hs : hi - lo + 1 ≤ offs.size) : swT d lo hi offs x.toInt = d := by
  unfold swT
  split
  · rfl
  · rename_i h
    have hj : (x.toInt - lo).toNat < offs.size := by omega
    have h1 := List.all_eq_true.mp hc _ (List.mem_range.mpr hj)
    rcases Bool.or_eq_true_iff.mp h1 with h2 | h2
    · exact of_decide_eq_true h2
    · obtain ⟨b, hbm, h3⟩ := List.any_eq_true.mp h2
      have h4 : b.toInt = lo + (x.toInt - lo).toNat := of_decide_eq_true h3
      exact absurd (Int32.toInt_inj.mp (by omega)) (hb b hbm)
section MYL
variable {p : Program} {l : Launch} {e : Env} {R : Room} {s : State} {m : MethodId} {args : Array Value} {below : List Frame} {meth : Method} {c : Code} {H : Heap} {locs : List Loc} {cells slots : Nat} {Q : State → Prop}
variable {cc : ByteArray} {pc : Nat} {ls : Array Slot} {rest : List Value}
theorem lv_tab (hexec : p.tables.exec = Jvm.exec) (hb : c.code = cc) {d lo hi : Int} {offs : Array Int} {len : Nat} {x : Int32} {off : Int} {tgt : Nat} (hdg : decode cc pc = .ok (.tableswitch d lo hi offs, len)) (hs : hi - lo + 1 ≤ offs.size) (ho : swT d lo hi offs x.toInt = off) (ht : (pc : Int) + off = (tgt : Int)) (k : W p l e R s m args below meth c H locs cells slots Q (F0 m tgt ls rest)) : W p l e R s m args below meth c H locs cells slots Q (F0 m pc ls (.int x :: rest)) := by
  unfold swT at ho
  split at ho
  · rename_i h
    exact lv_tableOut hexec hb hdg h (by rw [ho]; exact ht) k
  · rename_i h
    have hj : (x.toInt - lo).toNat < offs.size := by omega
    have ho2 : offs[(x.toInt - lo).toNat]? = some off := by
      rw [Array.getElem?_eq_getElem hj] at ho ⊢
      exact congrArg some ho
    exact lv_tableIn hexec hb hdg (by omega) (by omega) ho2 ht k
/-- a counted loop whose world moves -/
theorem lp_W {I : Nat → Heap → List Loc → Array Slot → Prop} {N head : Nat} (hs : ∀ (i : Nat) (H : Heap) (locs : List Loc) (ls : Array Slot), i < N → I i H locs ls → (∀ (H' : Heap) (locs' : List Loc) (ls' : Array Slot), I (i + 1) H' locs' ls' → W p l e R s m args below meth c H' locs' cells slots Q (F0 m head ls' [])) → W p l e R s m args below meth c H locs cells slots Q (F0 m head ls []))
    (hx : ∀ (H : Heap) (locs : List Loc) (ls : Array Slot), I N H locs ls → W p l e R s m args below meth c H locs cells slots Q (F0 m head ls [])) : ∀ (i : Nat), i ≤ N → ∀ {H : Heap} {locs : List Loc} {ls : Array Slot}, I i H locs ls → W p l e R s m args below meth c H locs cells slots Q (F0 m head ls []) := by
  have key : ∀ (n i : Nat), n + i = N → ∀ {H : Heap} {locs : List Loc} {ls : Array Slot}, I i H locs ls → W p l e R s m args below meth c H locs cells slots Q (F0 m head ls []) := by
    intro n
    induction n with
    | zero => intro i hi H locs ls h; exact hx H locs ls ((show i = N by omega) ▸ h)
    | succ n ih => intro i hi H locs ls h; exact hs i H locs ls (by omega) h (fun H' locs' ls' h' => ih (i + 1) (by omega) h')
  intro i hi H locs ls h
  exact key (N - i) i (by omega) h
/-- a counted loop that only reads -/
theorem lp_R {I : Nat → Array Slot → Prop} {N head : Nat} (hs : ∀ (i : Nat) (ls : Array Slot), i < N → I i ls → (∀ (ls' : Array Slot), I (i + 1) ls' → W p l e R s m args below meth c H locs cells slots Q (F0 m head ls' [])) → W p l e R s m args below meth c H locs cells slots Q (F0 m head ls []))
    (hx : ∀ (ls : Array Slot), I N ls → W p l e R s m args below meth c H locs cells slots Q (F0 m head ls [])) : ∀ (i : Nat), i ≤ N → ∀ {ls : Array Slot}, I i ls → W p l e R s m args below meth c H locs cells slots Q (F0 m head ls []) := by
  have key : ∀ (n i : Nat), n + i = N → ∀ {ls : Array Slot}, I i ls → W p l e R s m args below meth c H locs cells slots Q (F0 m head ls []) := by
    intro n
    induction n with
    | zero => intro i hi ls h; exact hx ls ((show i = N by omega) ▸ h)
    | succ n ih => intro i hi ls h; exact hs i ls (by omega) h (fun ls' h' => ih (i + 1) (by omega) h')
  intro i hi ls h
  exact key (N - i) i (by omega) h
end MYL
/-! the class's functions of its whole state -/
def srcL (dp sl : Int32) : Int32 := if dp ≤ 0 then sl else 4096
def srcW (dp : Int32) (mf qf : IF) (i : Int32) : Int32 := if dp ≤ 0 then rdA 4096 qf i else rdA 4096 mf i
def clp (v : Int32) : Int32 := if 0 < (if v < 256 then v else 256) then (if v < 256 then v else 256) else 0
def argH (dp pl sl : Int32) (mf qf : IF) (k : Int32) : Int32 := if k = 21 then (if pl + fxd k < srcL dp sl then fxd k + clp (srcW dp mf qf (pl + fxd k)) else fxd k) else fxd k
def inM (f n : Int32) : Int32 := if n = 0 then 1 else if 4096 < f + n then 0 else 1
def plT (kd fw fh : Int32) (cf : IF) : Int32 :=
  if kd = 6 then (if 32 < rdA 258 cf 0 + rdA 258 cf 1 then 0 else if inM (rdA 258 cf 2) (4 * rdA 258 cf 1) = 0 then 0 else 1)
  else if kd = 7 ∨ kd = 8 then inM (rdA 258 cf 0) (3 * rdA 258 cf 1)
  else if kd = 20 then (if fw < rdA 258 cf 0 + rdA 258 cf 2 then 0 else if fh < rdA 258 cf 1 + rdA 258 cf 3 then 0 else if inM (rdA 258 cf 4) (rdA 258 cf 2 * rdA 258 cf 3) = 0 then 0 else 1)
  else if kd = 21 then inM (rdA 258 cf 0) (rdA 258 cf 1)
  else if kd = 23 then inM (rdA 258 cf 0) 1 else 1
def stA (kd dp qu : Int32) (cf sf wf : IF) : Int32 :=
  if kd = 17 ∨ kd = 18 then (if hsP sf wf 7 = 0 then 0 else if hsP sf wf 8 = 0 then 0 else 1)
  else if kd = 19 then (if rdA 258 cf 1 = 1 then (if qu = -1 then 1 else 0) else if qu = rdA 258 cf 0 then 1 else 0)
  else if kd = 23 then (if 4 ≤ dp then 0 else 1) else 1
theorem nar_inM (f n : Int32) : narrow .boolean (.int (inM f n)) = .int (inM f n) := by
  unfold inM
  split
  · rfl
  · split <;> rfl
