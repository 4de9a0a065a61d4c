/-! carrying out beside performing -/
/-- STORE: alike -/
theorem sim_store {C M mf : IF} {f m : Nat} (hf : f + m ≤ 4096 ∨ m = 0) (hm : m ≤ 256) (h : ∀ j, j < m → C (2 + j) = M (2 + j)) : ∀ N, N ≤ m → itN (fun j w => wrA 4096 w (nI f + nI j) (rdA 258 C (2 + nI j))) N mf = itN (fun j w => upd w (nI f + nI j).toNatClampNeg (M (2 + nI j).toNatClampNeg)) N mf := by
  intro N hN
  refine it_congr N (fun j hj w => ?_) mf
  rw [nI_add, show (2 : Int32) = nI 2 from rfl, nI_add, wrA_nI (by omega) (by decide), nI_clamp (by omega), rdA_nI (by omega) (by decide), nI_clamp (by omega), h j (by omega)]
theorem stW_at {C M mf : IF} {f m : Nat} (e0 : C 0 = nI f) (e1 : C 1 = nI m) (a0 : M 0 = nI f) (a1 : M 1 = nI m) (hf : f + m ≤ 4096 ∨ m = 0) (hm : m ≤ 256) (h : ∀ j, j < m → C (2 + j) = M (2 + j)) : stW C mf = itN (fun j w => upd w ((M (0 : Int32).toNatClampNeg) + nI j).toNatClampNeg (M (2 + nI j).toNatClampNeg)) ((M (1 : Int32).toNatClampNeg).toNatClampNeg) mf := by
  obtain ⟨r0, r1, -⟩ := rd_k (cf := C)
  obtain ⟨k0, k1, -⟩ := cl0
  unfold stW
  rw [r0, r1, k0, k1, e0, e1, a0, a1, nI_clamp (by omega)]
  exact sim_store hf hm h m (Nat.le_refl m)
/-- keep: alike -/
theorem sim_keep {q N : Nat} {C M wf kF : IF} (hq : q < 26) (hN1 : N = fN q) (h : tR wf kF) (hag : ∀ j, j < fN q → C j = M j) (hv : ∀ j, j < fN q → ¬ myB (nI q) (nI j) (C j) = 0) : tR (kpW sfC (nI q) (nI N) C wf) (keM (nI N) M kF (nI q)) := by
  obtain ⟨t1, t2, t3, t4, t5, t6, t7, t8⟩ := fN_at q hq
  obtain ⟨r0, -⟩ := rd_k (cf := C)
  obtain ⟨k0, -⟩ := cl0
  unfold kpW keM nmH
  rw [t4, t3, r0, k0, nI_clamp (show N < 2 ^ 31 by omega)]
  by_cases c0 : hN q = 0
  · have e : nI (hN q) = 0 := by rw [c0]; rfl
    rw [if_pos e, if_pos e]; exact h
  · have e : ¬ nI (hN q) = 0 := nI_ne0 (by omega) (by omega)
    rw [if_neg e, if_neg e]
    by_cases c1 : hN q ≤ 1
    · have e1 : nI (hN q) ≤ 1 := nI_le (b := 1) c1 (by decide)
      rw [if_pos e1, if_pos e1, if_pos rfl]
      have := sim_keepN (cf := C) (aF := M) h hq (show 0 < hN q by omega) N (by omega) (fun j hj => hag j (by omega))
      exact this
    · have e1 : ¬ nI (hN q) ≤ 1 := nI_ge (a := 1) (by omega) (by omega)
      rw [if_neg e1, if_neg e1, if_neg ne10]
      obtain ⟨s1, s2, s3⟩ := tb_hold q hq (by omega)
      obtain ⟨u, -, hu, eu⟩ := mb_nat (lo := 0) (hi := hN q - 1) s1 s2 (by decide) (nI_toInt (by omega)) (hv 0 s3)
      rw [← hag 0 s3, eu]
      exact sim_keepN (cf := C) (aF := M) h hq (show u < hN q by omega) N (by omega) (fun j hj => hag j (by omega))
