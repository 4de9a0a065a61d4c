/-! the reference, untold -/
def noG (w9 : IF) : IF := (itN (fun j w => upd w (rwO 11 (nI j) + 1).toNatClampNeg (-1)) ((2 : Int32).toNatClampNeg) (itN (fun j w => upd w (rwO 9 (nI j) + 4).toNatClampNeg 1) ((4 : Int32).toNatClampNeg) (upd (upd (upd (upd (upd (upd (upd (upd (upd (upd (itN (fun k w => ntI k w) ((26 : Int32).toNatClampNeg) w9) ((rwO 2 0) + 2).toNatClampNeg 1) ((rwO 2 0) + 3).toNatClampNeg 1) ((rwO 2 0) + 5).toNatClampNeg 16777215) ((rwO 3 0) + 2).toNatClampNeg (-1)) (rwO 7 0).toNatClampNeg (-1)) (rwO 8 0).toNatClampNeg (-1)) (rwO 10 0).toNatClampNeg (-1)) ((rwO 12 0) + 4).toNatClampNeg (-1)) (rwO 14 0).toNatClampNeg (-1)) (rwO 15 0).toNatClampNeg 15)))
theorem noT_G (kF : IF) : noT kF = noG (itN (fun j w => upd w (nI j).toNatClampNeg 0) (4160 : Int32).toNatClampNeg kF) := rfl
theorem ntI_agr {i : Nat} {w q : IF} (h : agr w q) : agr (ntI i w) (ntI i q) := by
  unfold ntI
  split
  · exact h
  · refine agr_it ?_ _ h
    intro i w q g; exact agr_upd g _ _
theorem noG_agr {w q : IF} (h : agr w q) : agr (noG w) (noG q) := by
  unfold noG
  refine agr_it ?_ _ ?_
  · intro i w q g; exact agr_upd g _ _
  refine agr_it ?_ _ ?_
  · intro i w q g; exact agr_upd g _ _
  refine agr_upd ?_ _ _
  refine agr_upd ?_ _ _
  refine agr_upd ?_ _ _
  refine agr_upd ?_ _ _
  refine agr_upd ?_ _ _
  refine agr_upd ?_ _ _
  refine agr_upd ?_ _ _
  refine agr_upd ?_ _ _
  refine agr_upd ?_ _ _
  refine agr_upd ?_ _ _
  refine agr_it ?_ _ h
  intro i w q g; exact ntI_agr g
theorem noG_at : ∀ k, k < 26 → ∀ n, n < hN k → ∀ j, j < fN k → noG zF (160 * k + n * fN k + j) = unT k n j := by decide +kernel
theorem noT_at (kF : IF) {k n j : Nat} (hk : k < 26) (hn : n < hN k) (hj : j < fN k) : noT kF (160 * k + n * fN k + j) = unT k n j := by
  rw [← noG_at k hk n hn j hj, noT_G]
  have hz : (4160 : Int32).toNatClampNeg = 4160 := by decide
  refine noG_agr (fun r hr => ?_) _ (by have := (pos_lt hk hn hj).2; omega)
  rw [hz]
  exact agr_z kF 4160 r hr (by decide)
theorem sim_untold (w kF : IF) : tR (fgA sfC w) (noT kF) := fun k n j hk hn hj => (fgA_at w hk hn hj).trans (noT_at kF hk hn hj).symm
theorem noT_78 (kF : IF) : noT kF 1120 = -1 ∧ noT kF 1280 = -1 := by
  have h7 : unT 7 0 0 = -1 ∧ unT 8 0 0 = -1 ∧ 0 < hN 7 ∧ 0 < fN 7 ∧ 0 < hN 8 ∧ 0 < fN 8 := by decide +kernel
  have a := noT_at kF (k := 7) (n := 0) (j := 0) (by decide) h7.2.2.1 h7.2.2.2.1
  have b := noT_at kF (k := 8) (n := 0) (j := 0) (by decide) h7.2.2.2.2.1 h7.2.2.2.2.2
  rw [Nat.zero_mul] at a b
  exact ⟨a.trans h7.1, b.trans h7.2.1⟩
