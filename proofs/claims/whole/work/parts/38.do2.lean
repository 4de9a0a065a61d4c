/-! uniforms out of the command; the programs' first words stay -1 or not below 0 -/
theorem sim_kuA {C M mf wf kF : IF} {u m f : Nat} (e0 : C 0 = nI u) (e1 : C 1 = nI m) (e2 : C 2 = nI f) (a0 : M 0 = nI u) (a1 : M 1 = nI m) (a2 : M 2 = nI f) (hu : u + m ≤ 32) (hf : f + 4 * m ≤ 4096 ∨ m = 0) (h : tR wf kF) :
    tR (kuA sfC mf C wf) (itN (fun j w => upd w (rwO 5 ((M (0 : Int32).toNatClampNeg) + nI j / 4) + 1 + (nI j - nI j / 4 * 4)).toNatClampNeg (mf ((M (2 : Int32).toNatClampNeg) + nI j).toNatClampNeg)) ((4 * (M (1 : Int32).toNatClampNeg)).toNatClampNeg) kF) := by
  obtain ⟨r0, r1, r2, -⟩ := rd_k (cf := C)
  obtain ⟨k0, k1, k2, -⟩ := cl0
  unfold kuA
  rw [r0, r1, r2, k0, k1, k2, e0, e1, e2, a0, a1, a2, show (4 : Int32) * nI m = nI (4 * m) from pk_mul 4 m, nI_clamp (show m < 2 ^ 31 by omega), nI_clamp (show 4 * m < 2 ^ 31 by omega)]
  rcases hf with hf | hm
  · exact sim_unif h m hu hf
  · subst hm; exact h
theorem it_row (B : Nat) (g : Nat → Int32) (w : IF) (N : Nat) : ∀ r, itN (fun j w => upd w (B + j) (g j)) N w r = if B ≤ r ∧ r < B + N then g (r - B) else w r := by
  induction N with
  | zero => intro r; rw [if_neg (by omega)]; rfl
  | succ m ih =>
    intro r
    show upd (itN (fun j w => upd w (B + j) (g j)) m w) (B + m) (g m) r = _
    by_cases e : r = B + m
    · subst e; rw [pk_us, if_pos (by omega), show B + m - B = m by omega]
    · rw [pk_un e, ih r]
      by_cases c : B ≤ r ∧ r < B + m
      · rw [if_pos c, if_pos (by omega)]
      · rw [if_neg c, if_neg (by omega)]
theorem keM_at {q N : Nat} {M kF : IF} (hq : q < 26) (hN1 : N = fN q) (h1 : hN q = 1) (r : Nat) : keM (nI N) M kF (nI q) r = if 160 * q ≤ r ∧ r < 160 * q + N then M (r - 160 * q) else kF r := by
  obtain ⟨t1, t2, t3, t4, t5, t6, t7, t8⟩ := fN_at q hq
  unfold keM
  rw [t3, h1, if_neg (show ¬ nI 1 = 0 by decide), if_pos (show nI 1 ≤ 1 by decide), nI_clamp (show N < 2 ^ 31 by omega), ← it_row (160 * q) M kF N r]
  refine congrFun (it_congr N (fun j hj w => ?_) kF) r
  rw [show (0 : Int32) = nI 0 from nI_0.symm, row_at hq, nI_clamp (by omega), nI_clamp (by omega), Nat.zero_mul, Nat.add_zero]
/-- a kind that isn't a program leaves a program's first word -/
theorem keM_off {q N p : Nat} {M kF : IF} (hq : q < 26) (hN1 : N = fN q) (hp : p < 26) (hne : ¬ q = p) (hu : ¬ hN q ≤ 1 → ∃ u : Nat, u < hN q ∧ M 0 = nI u) : keM (nI N) M kF (nI q) (160 * p) = kF (160 * p) := by
  obtain ⟨t1, t2, t3, t4, t5, t6, t7, t8⟩ := fN_at q hq
  obtain ⟨k0, -⟩ := cl0
  have key : ∀ u : Nat, u < hN q → itN (fun j w => upd w (rwO (nI q) (nI u) + nI j).toNatClampNeg (M (nI j).toNatClampNeg)) N kF (160 * p) = kF (160 * p) := by
    intro u hu
    have e : itN (fun j w => upd w (rwO (nI q) (nI u) + nI j).toNatClampNeg (M (nI j).toNatClampNeg)) N kF = itN (fun j w => upd w (160 * q + u * fN q + j) (M j)) N kF := it_congr N (fun j hj w => by rw [rowC hq hu (by omega), nI_clamp (by omega)]) kF
    have hlt : u * fN q + fN q ≤ 160 := by
      have : (u + 1) * fN q ≤ hN q * fN q := Nat.mul_le_mul_right _ hu
      rw [Nat.succ_mul] at this; omega
    rw [e, it_row, if_neg (by omega)]
  unfold keM
  rw [t3, nI_clamp (show N < 2 ^ 31 by omega), k0]
  by_cases c0 : hN q = 0
  · rw [if_pos (by rw [c0]; rfl)]
  · rw [if_neg (nI_ne0 (by omega) (by omega))]
    by_cases c1 : hN q ≤ 1
    · rw [if_pos (show nI (hN q) ≤ 1 from nI_le (b := 1) c1 (by decide))]
      exact key 0 (by omega)
    · obtain ⟨u, hu1, hu2⟩ := hu c1
      rw [if_neg (show ¬ nI (hN q) ≤ 1 from nI_ge (a := 1) (by omega) (by omega)), hu2]
      exact key u hu1
