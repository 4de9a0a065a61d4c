/-! one command done in both -/
theorem sim_do {a d q N z : Nat} {fw fh qu : Int32} {C M bf mf wf kF : IF} (hd : d ≤ 4) (hz : z ≤ 4096) (hq : q < 26) (hN1 : N ≤ 258) (hN0 : fN q ≤ N) (hNf : ¬ q = 21 → N = fN q) (hNs : q = 21 → ∀ m : Nat, m ≤ 256 → C 1 = nI m → N = 2 + m) (haN : a + 1 + N ≤ 4096) (h0 : d = 0 → a + 1 + N ≤ z) (hag : ∀ j, j < N → C j = M j) (hv : ∀ j, j < fN q → ¬ myB (nI q) (nI j) (C j) = 0) (hp : ¬ plT (nI q) fw fh C = 0) (hs : ¬ stA (nI q) (nI d) qu C sfC wf = 0) (hb : ∀ j, j < d → ∃ b : Nat, b ≤ 4096 ∧ bf j = nI b ∧ (j = 0 → b ≤ z)) (ht : toldR wf kF) :
    (cry (nI a) (nI d) 0 qu (nI q) (nI N) bf C sfC wf mf).1 = (prM (nI (a + 1 + N)) (nI d) 0 qu (nI N) (nI q) mf bf M kF).1 ∧
    (cry (nI a) (nI d) 0 qu (nI q) (nI N) bf C sfC wf mf).2.1 = (prM (nI (a + 1 + N)) (nI d) 0 qu (nI N) (nI q) mf bf M kF).2.1 ∧
    (cry (nI a) (nI d) 0 qu (nI q) (nI N) bf C sfC wf mf).2.2.1 = (prM (nI (a + 1 + N)) (nI d) 0 qu (nI N) (nI q) mf bf M kF).2.2.1 ∧
    (cry (nI a) (nI d) 0 qu (nI q) (nI N) bf C sfC wf mf).2.2.2.1 = (prM (nI (a + 1 + N)) (nI d) 0 qu (nI N) (nI q) mf bf M kF).2.2.2.1 ∧
    (cry (nI a) (nI d) 0 qu (nI q) (nI N) bf C sfC wf mf).2.2.2.2.1 = (prM (nI (a + 1 + N)) (nI d) 0 qu (nI N) (nI q) mf bf M kF).2.2.2.2.1 ∧
    (cry (nI a) (nI d) 0 qu (nI q) (nI N) bf C sfC wf mf).2.2.2.2.2.2 = (prM (nI (a + 1 + N)) (nI d) 0 qu (nI N) (nI q) mf bf M kF).2.2.2.2.2.2 ∧
    toldR (cry (nI a) (nI d) 0 qu (nI q) (nI N) bf C sfC wf mf).2.2.2.2.2.1 (prM (nI (a + 1 + N)) (nI d) 0 qu (nI N) (nI q) mf bf M kF).2.2.2.2.2.1 := by
  obtain ⟨r0, r1, r2, r3, r4⟩ := rd_k (cf := C)
  obtain ⟨k0, k1, k2, k3, k4⟩ := cl0
  have qq : ∀ n : Nat, n < 26 → (nI q = nI n ↔ q = n) := fun n hn => nI_eq (by omega) (by omega)
  have eP : nI a + (1 + nI N) = nI (a + 1 + N) := by rw [show (1 : Int32) = nI 1 from rfl, nI_add, nI_add, show a + (1 + N) = a + 1 + N by omega]
  have hag' : ∀ j, j < fN q → C j = M j := fun j hj => hag j (by omega)
  unfold cry prM
  rw [eP]
  by_cases c0 : nI q = 0
  · rw [if_pos c0, if_pos c0]
    by_cases e : d = 0
    · have e1 : nI d = 0 := (nI_z hd).2.mpr e
      have e2 : nI d ≤ 0 := (nI_z hd).1.mpr e
      rw [if_pos e1, if_pos e1, if_pos e1, if_pos e1, if_pos e2]
      exact ⟨rfl, rfl, rfl, rfl, rfl, rfl, ht⟩
    · have e1 : ¬ nI d = 0 := fun w => e ((nI_z hd).2.mp w)
      have e2 : ¬ nI d ≤ 0 := fun w => e ((nI_z hd).1.mp w)
      rw [if_neg e1, if_neg e1, if_neg e1, if_neg e1, if_neg e2, show (1 : Int32) = nI 1 from rfl, pk_sub (show 1 ≤ d by omega), rdA_nI (show d - 1 < 4 by omega) (by decide), nI_clamp (show d - 1 < 2 ^ 31 by omega)]
      exact ⟨rfl, rfl, rfl, rfl, rfl, rfl, ht⟩
  · rw [if_neg c0, if_neg c0]
    by_cases c6 : nI q = 6
    · have e : q = 6 := (qq 6 (by decide)).mp c6
      subst e
      rw [if_pos c6, if_pos c6]
      obtain ⟨u, -, hu, eu⟩ := mb_nat (lo := 0) (hi := 31) (by decide +kernel : colm (nI 6) (nI 0) 0 = 0) (by decide +kernel : colm (nI 6) (nI 0) 1 = 31) (by decide) (by decide) (hv 0 (by decide +kernel))
      obtain ⟨m, -, hm, em⟩ := mb_nat (lo := 0) (hi := 32) (by decide +kernel : colm (nI 6) (nI 1) 0 = 0) (by decide +kernel : colm (nI 6) (nI 1) 1 = 32) (by decide) (by decide) (hv 1 (by decide +kernel))
      obtain ⟨f, -, hf, ef⟩ := mb_nat (lo := 0) (hi := 1048576) (by decide +kernel : colm (nI 6) (nI 2) 0 = 0) (by decide +kernel : colm (nI 6) (nI 2) 1 = 1048576) (by decide) (by decide) (hv 2 (by decide +kernel))
      have e2 : plT (nI 6) fw fh C = if 32 < rdA 258 C 0 + rdA 258 C 1 then 0 else if inM (rdA 258 C 2) (4 * rdA 258 C 1) = 0 then 0 else 1 := rfl
      have four : (4 : Int32) = nI 4 := rfl
      rw [e2, r0, r1, r2, eu, em, ef, nI_add, four, pk_mul] at hp
      have h1 : u + m ≤ 32 := by
        refine Classical.byContradiction fun c => hp ?_
        rw [if_pos (show (32 : Int32) < nI (u + m) from nI_lt (a := 32) (by omega) (by omega))]
      have h2 : f + 4 * m ≤ 4096 ∨ m = 0 := by
        refine Classical.byContradiction fun c => hp ?_
        rw [if_neg (show ¬ (32 : Int32) < nI (u + m) from nI_nlt (a := 32) (b := u + m) h1 (by decide)), if_pos ((inM_at hf (by omega)).mpr ⟨by omega, by omega⟩)]
      exact ⟨rfl, rfl, rfl, rfl, rfl, rfl, toldR_unif eu em ef (by rw [← hag' 0 (by decide +kernel)]; exact eu) (by rw [← hag' 1 (by decide +kernel)]; exact em) (by rw [← hag' 2 (by decide +kernel)]; exact ef) h1 h2 ht⟩
    · rw [if_neg c6, if_neg c6]
      by_cases c19 : nI q = 19
      · have e : q = 19 := (qq 19 (by decide)).mp c19
        subst e
        rw [if_pos c19, if_pos c19, r0, r1, k0, k1, ← hag' 0 (by decide +kernel), ← hag' 1 (by decide +kernel)]
        by_cases v : C 1 = 1
        · rw [if_pos v, if_pos v]; exact ⟨rfl, rfl, rfl, rfl, rfl, rfl, ht⟩
        · rw [if_neg v, if_neg v]; exact ⟨rfl, rfl, rfl, rfl, rfl, rfl, ht⟩
      · rw [if_neg c19, if_neg c19]
        by_cases c21 : nI q = 21
        · have e : q = 21 := (qq 21 (by decide)).mp c21
          subst e
          rw [if_pos c21, if_pos c21]
          obtain ⟨f, -, hf, ef⟩ := mb_nat (lo := 0) (hi := 1048576) (by decide +kernel : colm (nI 21) (nI 0) 0 = 0) (by decide +kernel : colm (nI 21) (nI 0) 1 = 1048576) (by decide) (by decide) (hv 0 (by decide +kernel))
          obtain ⟨m, -, hm, em⟩ := mb_nat (lo := 0) (hi := 256) (by decide +kernel : colm (nI 21) (nI 1) 0 = 0) (by decide +kernel : colm (nI 21) (nI 1) 1 = 256) (by decide) (by decide) (hv 1 (by decide +kernel))
          have e2 : plT (nI 21) fw fh C = inM (rdA 258 C 0) (rdA 258 C 1) := rfl
          rw [e2, r0, r1, ef, em, inM_at hf (by omega)] at hp
          have hNm := hNs rfl m hm em
          exact ⟨rfl, rfl, rfl, rfl, rfl, stW_at ef em (by rw [← hag' 0 (by decide +kernel)]; exact ef) (by rw [← hag' 1 (by decide +kernel)]; exact em) (by omega) hm (fun j hj => hag _ (by omega)), ht⟩
        · rw [if_neg c21, if_neg c21]
          by_cases c23 : nI q = 23
          · have e : q = 23 := (qq 23 (by decide)).mp c23
            subst e
            have e2 : stA (nI 23) (nI d) qu C sfC wf = if 4 ≤ nI d then 0 else 1 := rfl
            rw [e2] at hs
            have hd3 : d < 4 := by
              refine Classical.byContradiction fun c => hs ?_
              rw [if_pos (show (4 : Int32) ≤ nI d from nI_le (a := 4) (by omega) (by omega))]
            rw [if_pos c23, if_pos c23, r0, k0, ← hag' 0 (by decide +kernel), wrA_nI hd3 (by decide), nI_clamp (show d < 2 ^ 31 by omega)]
            exact ⟨rfl, rfl, rfl, rfl, rfl, rfl, ht⟩
          · rw [if_neg c23, if_neg c23]
            have hn : ¬ q = 21 := fun w => c21 ((qq 21 (by decide)).mpr w)
            exact ⟨rfl, rfl, rfl, rfl, rfl, rfl, toldR_keep hq (hNf hn) ht hag' hv⟩
