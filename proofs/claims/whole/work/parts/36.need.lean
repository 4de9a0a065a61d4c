/-! what look and perform need, out of the bounds -/
theorem lkH_of {a d z : Nat} {mf qf : IF} (hd : d ≤ 4) (hz : z ≤ 4096) (ha : a ≤ 4096) : lkH (nI z) (nI a) (nI d) mf qf := by
  have hls : lenS d z ≤ 4096 := by unfold lenS; split <;> omega
  refine ⟨fun h => ?_, fun h => ?_, fun h1 h2 i hi => ?_⟩
  · have : ¬ lenS d z ≤ a := fun q => h ((isTh_at hd hz (by omega)).mpr q)
    exact vp_in_nI (by omega) (by decide)
  · rw [show (2 : Int32) = nI 2 from rfl, nI_add] at h ⊢
    have : ¬ lenS d z ≤ a + 2 := fun q => h ((isTh_at hd hz (by omega)).mpr q)
    exact vp_in_nI (by omega) (by decide)
  · rw [mrd_at hd (by omega)] at h1 h2 hi
    rcases in_26 (srcS d mf qf a) with ⟨e1, -, -⟩ | ⟨-, -, q, hq, eq⟩
    · exact absurd e1 h1
    · rw [eq, lenM_at hd hz ha hq] at h2 hi
      have l1 := (lnN_258 (d := d) (z := z) (a := a) (mf := mf) (qf := qf) hq).1
      rw [nI_add] at h2
      rw [nI_clamp (by omega)] at hi
      have : ¬ lenS d z ≤ a + lnN d z a q mf qf := fun w => h2 ((isTh_at hd hz (by omega)).mpr w)
      rw [nI_1, nI_add]
      exact ⟨vp_in_nI (by omega) (by decide), vp_in_nI (by omega) (by decide)⟩
theorem tb_hold : ∀ k, k < 26 → 1 < hN k → colm (nI k) (nI 0) 0 = 0 ∧ colm (nI k) (nI 0) 1 = nI (hN k - 1) ∧ 0 < fN k := by decide +kernel
theorem vp_small {n N : Nat} (h : n < N) (hN : N < 2147483648) : vp_in (nI n) N := vp_in_nI h hN
/-- perform's places, where the command was found right -/
theorem prH_of {d q N : Nat} {fw fh qu : Int32} {C M wf : IF} (hd : d ≤ 4) (hq : q < 26) (hN1 : N ≤ 258) (hNf : ¬ q = 21 → N = fN q) (hag : ∀ j, j < fN q → C j = M j) (hv : ∀ j, j < fN q → ¬ myB (nI q) (nI j) (C j) = 0) (hp : ¬ plT (nI q) fw fh C = 0) (hs : ¬ stA (nI q) (nI d) qu C sfC wf = 0) : prH (nI d) (nI N) (nI q) M := by
  obtain ⟨r0, r1, r2, r3, r4⟩ := rd_k (cf := C)
  obtain ⟨k0, k1, k2, k3, k4⟩ := cl0
  have qq : ∀ n : Nat, n < 26 → (nI q = nI n ↔ q = n) := fun n hn => nI_eq (by omega) (by omega)
  refine ⟨fun _ h => ?_, fun h => ?_, fun h i hi => ?_, fun h i hi => ?_, fun n0 n6 n19 n21 n23 => ?_⟩
  · have hd0 : ¬ d = 0 := fun w => h ((nI_z hd).1.mpr w)
    rw [show (1 : Int32) = nI 1 from rfl, pk_sub (by omega)]
    exact vp_in_nI (by omega) (by decide)
  · have e : q = 23 := (qq 23 (by decide)).mp h
    subst e
    have e2 : stA (nI 23) (nI d) qu C sfC wf = if 4 ≤ nI d then 0 else 1 := rfl
    rw [e2] at hs
    by_cases c : d < 4
    · exact vp_in_nI c (by decide)
    · rw [if_pos (show (4 : Int32) ≤ nI d from nI_le (a := 4) (by omega) (by omega))] at hs
      exact absurd rfl hs
  · have e : q = 21 := (qq 21 (by decide)).mp h
    subst e
    rw [k0]
    rw [k1] at hi
    rw [← hag 1 (by decide +kernel)] at hi
    rw [← hag 0 (by decide +kernel)]
    obtain ⟨f, -, hf, ef⟩ := mb_nat (lo := 0) (hi := 1048576) (by decide +kernel : colm (nI 21) (nI 0) 0 = 0) (by decide +kernel : colm (nI 21) (nI 0) 1 = 1048576) (by decide) (by decide) (hv 0 (by decide +kernel))
    obtain ⟨m, -, hm, em⟩ := mb_nat (lo := 0) (hi := 256) (by decide +kernel : colm (nI 21) (nI 1) 0 = 0) (by decide +kernel : colm (nI 21) (nI 1) 1 = 256) (by decide) (by decide) (hv 1 (by decide +kernel))
    have e2 : plT (nI 21) fw fh C = inM (rdA 258 C 0) (rdA 258 C 1) := rfl
    rw [e2, r0, r1, ef, em, inM_at hf (by omega)] at hp
    rw [em, nI_clamp (by omega)] at hi
    rw [ef, nI_add, show (2 : Int32) = nI 2 from rfl, nI_add]
    exact ⟨vp_in_nI (by omega) (by decide), vp_in_nI (by omega) (by decide)⟩
  · have e : q = 6 := (qq 6 (by decide)).mp h
    subst e
    rw [k0, k2]
    rw [k1] at hi
    rw [← hag 1 (by decide +kernel)] at hi
    rw [← hag 0 (by decide +kernel), ← hag 2 (by decide +kernel)]
    obtain ⟨u, -, hu, eu⟩ := mb_nat (lo := 0) (hi := 31) (by decide +kernel : colm (nI 6) (nI 0) 0 = 0) (by decide +kernel : colm (nI 6) (nI 0) 1 = 31) (by decide) (by decide) (hv 0 (by decide +kernel))
    obtain ⟨m, -, hm, em⟩ := mb_nat (lo := 0) (hi := 32) (by decide +kernel : colm (nI 6) (nI 1) 0 = 0) (by decide +kernel : colm (nI 6) (nI 1) 1 = 32) (by decide) (by decide) (hv 1 (by decide +kernel))
    obtain ⟨f, -, hf, ef⟩ := mb_nat (lo := 0) (hi := 1048576) (by decide +kernel : colm (nI 6) (nI 2) 0 = 0) (by decide +kernel : colm (nI 6) (nI 2) 1 = 1048576) (by decide) (by decide) (hv 2 (by decide +kernel))
    have e2 : plT (nI 6) fw fh C = if 32 < rdA 258 C 0 + rdA 258 C 1 then 0 else if inM (rdA 258 C 2) (4 * rdA 258 C 1) = 0 then 0 else 1 := rfl
    have four : (4 : Int32) = nI 4 := rfl
    rw [e2, r0, r1, r2, eu, em, ef, nI_add, four, pk_mul] at hp
    rw [em, four, pk_mul, nI_clamp (by omega)] at hi
    have h1 : u + m ≤ 32 := by
      refine Classical.byContradiction fun c => hp ?_
      rw [if_pos (show (32 : Int32) < nI (u + m) from nI_lt (a := 32) (by omega) (by omega))]
    have h2 : f + 4 * m ≤ 4096 := by
      refine Classical.byContradiction fun c => hp ?_
      rw [if_neg (show ¬ (32 : Int32) < nI (u + m) from nI_nlt (a := 32) (b := u + m) h1 (by decide)), if_pos ((inM_at hf (by omega)).mpr ⟨by omega, by omega⟩)]
    have hdv : nI i / 4 = nI (i / 4) := by rw [four, pk_div (by omega) (by decide) (by decide)]
    have hrm : nI i - nI i / 4 * 4 = nI (i % 4) := by rw [four, pk_rem (by omega) (by decide) (by decide)]
    rw [hrm, hdv, eu, ef, nI_add, show (5 : Int32) = nI 5 from rfl, rwO_at (by decide), hf5.2, show (1 : Int32) = nI 1 from rfl, nI_add, nI_add, nI_add]
    exact ⟨vp_in_nI (by omega) (by decide), vp_in_nI (by omega) (by decide)⟩
  · have hNq : N = fN q := hNf (fun w => n21 ((qq 21 (by decide)).mpr w))
    obtain ⟨t1, t2, t3, t4, t5, t6, t7, t8⟩ := fN_at q hq
    refine ⟨fun _ _ i hi => ?_, fun h i hi => ?_, fun _ i hi => ?_⟩
    · rw [nI_clamp (by omega)] at hi
      rw [show (0 : Int32) = nI 0 from nI_0.symm, rwO_at hq, Nat.zero_mul, nI_add]
      exact vp_in_nI (by omega) (by decide)
    · rw [nI_clamp (by omega)] at hi
      have h1 : 1 < hN q := by
        refine Classical.byContradiction fun c => h ?_
        rw [t3]
        exact nI_le (b := 1) (by omega) (by decide)
      obtain ⟨s1, s2, s3⟩ := tb_hold q hq h1
      obtain ⟨u, -, hu, eu⟩ := mb_nat (lo := 0) (hi := hN q - 1) s1 s2 (by decide) (nI_toInt (by omega)) (hv 0 s3)
      rw [k0, ← hag 0 s3, eu, rwO_at hq, nI_add]
      have := lt_mul (show u < hN q by omega) (show i < fN q by omega)
      exact vp_in_nI (by omega) (by decide)
    · rw [nI_clamp (by omega)] at hi
      exact vp_in_nI (by omega) (by decide)
