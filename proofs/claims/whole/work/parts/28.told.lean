/-! what is told, by triples (kind, holder, argument) -/
def hN (k : Nat) : Nat := (mny (nI k)).toNatClampNeg
def fN (k : Nat) : Nat := (cnt (nI k)).toNatClampNeg
def sN (k : Nat) : Nat := ([0, 0, 0, 6, 10, 50, 210, 210, 212, 214, 238, 240, 256, 262, 263, 264, 265, 267, 267, 267, 267, 267, 267, 267, 267, 283] : List Nat).getD k 0
theorem sN_at : ∀ k, k < 26 → rdA 26 sfC (nI k) = nI (sN k) := by decide +kernel
theorem fN_at : ∀ k, k < 26 → fxd (nI k) = nI (fN k) ∧ cnt (nI k) = nI (fN k) ∧ mny (nI k) = nI (hN k) ∧ hld (nI k) = nI (hN k) ∧ fN k ≤ 8 ∧ hN k ≤ 32 ∧ hN k * fN k ≤ 160 ∧ sN k + hN k * fN k ≤ 303 := by decide +kernel
theorem sN_apart : ∀ k, k < 26 → ∀ k', k' < 26 → k < k' → sN k + hN k * fN k ≤ sN k' := by decide +kernel
theorem lt_mul {n h j f : Nat} (hn : n < h) (hj : j < f) : n * f + j < h * f := by
  have h1 : (n + 1) * f ≤ h * f := Nat.mul_le_mul_right f hn
  rw [Nat.succ_mul] at h1
  omega
theorem same_mul {n n' j j' f : Nat} (hj : j < f) (hj' : j' < f) (h : n * f + j = n' * f + j') : n = n' ∧ j = j' := by
  have a : (n * f + j) / f = n := by rw [Nat.mul_comm, Nat.mul_add_div (by omega), Nat.div_eq_of_lt hj, Nat.add_zero]
  have b : (n' * f + j') / f = n' := by rw [Nat.mul_comm, Nat.mul_add_div (by omega), Nat.div_eq_of_lt hj', Nat.add_zero]
  have e : n = n' := by rw [← a, ← b, h]
  subst e
  exact ⟨rfl, by omega⟩
theorem plc_at {k n j : Nat} (hk : k < 26) : plc sfC (nI k) (nI n) (nI j) = nI (sN k + n * fN k + j) := by
  unfold plc
  rw [sN_at k hk, (fN_at k hk).1, pk_mul, nI_add, nI_add]
theorem rwO_at {k n : Nat} (hk : k < 26) : rwO (nI k) (nI n) = nI (160 * k + n * fN k) := by
  unfold rwO
  rw [(fN_at k hk).2.1, pk_mul, show (160 : Int32) = nI 160 from rfl, pk_mul, nI_add]
theorem row_at {k n j : Nat} (hk : k < 26) : rwO (nI k) (nI n) + nI j = nI (160 * k + n * fN k + j) := by
  rw [rwO_at hk, nI_add]
/-- the told words, by triples -/
def tR (wf kF : IF) : Prop := ∀ k n j : Nat, k < 26 → n < hN k → j < fN k → wf (sN k + n * fN k + j) = kF (160 * k + n * fN k + j)
theorem pos_lt {k n j : Nat} (hk : k < 26) (hn : n < hN k) (hj : j < fN k) : sN k + n * fN k + j < 303 ∧ n * fN k + j < 160 := by
  have h1 := lt_mul hn hj
  have h2 := fN_at k hk
  omega
theorem pos_inj {k n j k' n' j' : Nat} (hk : k < 26) (hn : n < hN k) (hj : j < fN k) (hk' : k' < 26) (hn' : n' < hN k') (hj' : j' < fN k') (h : sN k + n * fN k + j = sN k' + n' * fN k' + j') : k = k' ∧ n = n' ∧ j = j' := by
  have h1 := lt_mul hn hj
  have h2 := lt_mul hn' hj'
  rcases Nat.lt_trichotomy k k' with q | q | q
  · have := sN_apart k hk k' hk' q; omega
  · subst q
    obtain ⟨e1, e2⟩ := same_mul hj hj' (show n * fN k + j = n' * fN k + j' by omega)
    exact ⟨rfl, e1, e2⟩
  · have := sN_apart k' hk' k hk q; omega
theorem row_inj {k n j k' n' j' : Nat} (hk : k < 26) (hn : n < hN k) (hj : j < fN k) (hk' : k' < 26) (hn' : n' < hN k') (hj' : j' < fN k') (h : 160 * k + n * fN k + j = 160 * k' + n' * fN k' + j') : k = k' ∧ n = n' ∧ j = j' := by
  have h1 := (pos_lt hk hn hj).2
  have h2 := (pos_lt hk' hn' hj').2
  have e : k = k' := by omega
  subst e
  obtain ⟨e1, e2⟩ := same_mul hj hj' (show n * fN k + j = n' * fN k + j' by omega)
  exact ⟨rfl, e1, e2⟩
/-- one word is told in both -/
theorem tR_put {wf kF : IF} (h : tR wf kF) {k n j : Nat} (hk : k < 26) (hn : n < hN k) (hj : j < fN k) (v : Int32) : tR (upd wf (sN k + n * fN k + j) v) (upd kF (160 * k + n * fN k + j) v) := by
  intro k' n' j' hk' hn' hj'
  by_cases e : sN k' + n' * fN k' + j' = sN k + n * fN k + j
  · obtain ⟨rfl, rfl, rfl⟩ := pos_inj hk' hn' hj' hk hn hj e
    rw [pk_us, pk_us]
  · have e2 : 160 * k' + n' * fN k' + j' ≠ 160 * k + n * fN k + j := fun q => by
      obtain ⟨rfl, rfl, rfl⟩ := row_inj hk' hn' hj' hk hn hj q
      exact e rfl
    rw [pk_un e, pk_un e2]
    exact h k' n' j' hk' hn' hj'
theorem rowC {k n j : Nat} (hk : k < 26) (hn : n < hN k) (hj : j < fN k) : (rwO (nI k) (nI n) + nI j).toNatClampNeg = 160 * k + n * fN k + j := by
  have h1 := (pos_lt hk hn hj).2
  rw [row_at hk, nI_clamp (by omega)]
theorem toldR_of {wf kF : IF} (h : tR wf kF) (h7 : kF 1120 = -1 ∨ ¬ kF 1120 < 0) (h8 : kF 1280 = -1 ∨ ¬ kF 1280 < 0) : toldR wf kF := by
  refine ⟨fun k n j hk hn hj => ?_, h7, h8⟩
  rw [rowC hk hn hj, plc_at hk, rdA_nI (pos_lt hk hn hj).1 (by decide)]
  exact h k n j hk hn hj
theorem tR_of {wf kF : IF} (h : toldR wf kF) : tR wf kF := fun k n j hk hn hj => by
  have := h.1 k n j hk hn hj
  rw [rowC hk hn hj, plc_at hk, rdA_nI (pos_lt hk hn hj).1 (by decide)] at this
  exact this
/-- the class's words at a told place, written -/
theorem wr_at {wf : IF} {k n j : Nat} {v : Int32} (hk : k < 26) (hn : n < hN k) (hj : j < fN k) : wrA 303 wf (plc sfC (nI k) (nI n) (nI j)) v = upd wf (sN k + n * fN k + j) v := by
  rw [plc_at hk, wrA_nI (pos_lt hk hn hj).1 (by decide)]
theorem wr_at0 {wf : IF} {k n j : Nat} {v : Int32} (hk : k < 26) (hn : n < hN k) (hj : j < fN k) : wrA 303 wf (plc sfC (nI k) (nI n) 0 + nI j) v = upd wf (sN k + n * fN k + j) v := by
  rw [show (0 : Int32) = nI 0 from nI_0.symm, plc_at hk, nI_add, Nat.add_zero, wrA_nI (pos_lt hk hn hj).1 (by decide)]
/-- keep: a command's arguments told in both -/
theorem sim_keepN {wf kF cf aF : IF} (h : tR wf kF) {k n : Nat} (hk : k < 26) (hn : n < hN k) (N : Nat) (hN : N ≤ fN k) (ha : ∀ j, j < N → cf j = aF j) : tR (itN (fun j w => wrA 303 w (plc sfC (nI k) (nI n) 0 + nI j) (rdA 258 cf (nI j))) N wf) (itN (fun j w => upd w (rwO (nI k) (nI n) + nI j).toNatClampNeg (aF (nI j).toNatClampNeg)) N kF) := by
  have h8 := (fN_at k hk).2.2.2.2.1
  induction N with
  | zero => exact h
  | succ m ih =>
    have ihm := ih (by omega) (fun j hj => ha j (by omega))
    show tR (wrA 303 _ (plc sfC (nI k) (nI n) 0 + nI m) (rdA 258 cf (nI m))) (upd _ (rwO (nI k) (nI n) + nI m).toNatClampNeg (aF (nI m).toNatClampNeg))
    rw [wr_at0 hk hn (by omega), rowC hk hn (by omega), rdA_nI (by omega) (by decide), nI_clamp (by omega), ha m (by omega)]
    exact tR_put ihm hk hn (by omega) _
