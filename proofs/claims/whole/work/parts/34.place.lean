/-! PLACE and STATE: alike -/
theorem mb_nat {q j v LO HI : Int32} {lo hi : Nat} (e1 : colm q j 0 = LO) (e2 : colm q j 1 = HI) (h1 : LO.toInt = (lo : Int)) (h2 : HI.toInt = (hi : Int)) (h : ¬ myB q j v = 0) : ∃ n : Nat, lo ≤ n ∧ n ≤ hi ∧ v = nI n := by
  unfold myB at h
  rw [e1, e2] at h
  by_cases c1 : v < LO
  · rw [if_pos c1] at h; exact absurd rfl h
  · by_cases c2 : HI < v
    · rw [if_neg c1, if_pos c2] at h; exact absurd rfl h
    · rw [Int32.lt_iff_toInt_lt] at c1 c2
      have b := HI.toInt_lt
      refine ⟨v.toInt.toNat, by omega, by omega, Int32.toInt_inj.mp ?_⟩
      rw [nI_toInt (by omega)]; omega
theorem inM_at {f n : Nat} (hf : f ≤ 1048576) (hn : n ≤ 65536) : inM (nI f) (nI n) = 0 ↔ ¬ n = 0 ∧ 4096 < f + n := by
  unfold inM
  by_cases c : n = 0
  · rw [if_pos (by rw [c]; rfl)]; exact ⟨fun h => absurd h ne10, fun h => absurd c h.1⟩
  · rw [if_neg (nI_ne0 (by omega) (by omega)), nI_add]
    by_cases e : 4096 < f + n
    · rw [if_pos (show (4096 : Int32) < nI (f + n) from nI_lt (a := 4096) e (by omega))]; exact ⟨fun _ => ⟨c, e⟩, fun _ => rfl⟩
    · rw [if_neg (show ¬ (4096 : Int32) < nI (f + n) from nI_nlt (b := f + n) (a := 4096) (by omega) (by decide))]; exact ⟨fun h => absurd h ne10, fun h => absurd h.2 e⟩
theorem cmp_0 (x y : Int64) : lg_cmp x y = 0 ↔ x = y := by
  unfold lg_cmp
  split
  · rename_i h; refine ⟨fun q => absurd q ne10, fun q => ?_⟩
    subst q; exact absurd h Int64.lt_irrefl
  · split
    · rename_i h; exact ⟨fun _ => h, fun _ => rfl⟩
    · rename_i h; exact ⟨fun q => absurd q (by decide), fun q => absurd q h⟩
theorem cmp_p (x y : Int64) : 0 < lg_cmp x y ↔ y < x := by
  unfold lg_cmp
  split
  · rename_i h; exact ⟨fun _ => h, fun _ => by decide⟩
  · rename_i h
    split
    · exact ⟨fun q => absurd q (by decide), fun q => absurd q h⟩
    · exact ⟨fun q => absurd q (by decide), fun q => absurd q h⟩
theorem inMM_at {f n : Nat} (hf : f ≤ 1048576) (hn : n ≤ 65536) : inMM (lN f) (lN n) = 0 ↔ ¬ n = 0 ∧ 4096 < f + n := by
  unfold inMM
  by_cases c : n = 0
  · rw [if_pos ((cmp_0 _ _).mpr (by rw [c]; rfl))]; exact ⟨fun h => absurd h ne10, fun h => absurd c h.1⟩
  · have h9 : ¬ lg_cmp (lN n) 0 = 0 := fun q => c ((lN_eq (a := n) (b := 0) (by omega) (by decide)).mp ((cmp_0 _ _).mp q))
    rw [if_neg h9, lN_add]
    by_cases e : 4096 < f + n
    · have h7 : 0 < lg_cmp (lN (f + n)) 4096 := (cmp_p _ _).mpr ((lN_lt (a := 4096) (b := f + n) (by decide) (by omega)).mpr e)
      rw [if_pos h7]; exact ⟨fun _ => ⟨c, e⟩, fun _ => rfl⟩
    · have h8 : ¬ 0 < lg_cmp (lN (f + n)) 4096 := fun q => e ((lN_lt (a := 4096) (b := f + n) (by decide) (by omega)).mp ((cmp_p _ _).mp q))
      rw [if_neg h8]; exact ⟨fun h => absurd h ne10, fun h => absurd h.2 e⟩
theorem cl0 : (0 : Int32).toNatClampNeg = 0 ∧ (1 : Int32).toNatClampNeg = 1 ∧ (2 : Int32).toNatClampNeg = 2 ∧ (3 : Int32).toNatClampNeg = 3 ∧ (4 : Int32).toNatClampNeg = 4 := by decide
theorem rd_k {cf : IF} : rdA 258 cf 0 = cf 0 ∧ rdA 258 cf 1 = cf 1 ∧ rdA 258 cf 2 = cf 2 ∧ rdA 258 cf 3 = cf 3 ∧ rdA 258 cf 4 = cf 4 :=
  ⟨rdA_nI (j := 0) (by decide) (by decide), rdA_nI (j := 1) (by decide) (by decide), rdA_nI (j := 2) (by decide) (by decide), rdA_nI (j := 3) (by decide) (by decide), rdA_nI (j := 4) (by decide) (by decide)⟩
theorem ite01 {p q : Prop} [Decidable p] [Decidable q] (h : p ↔ q) : ((if p then (0 : Int32) else 1) = 0) ↔ ((if q then (0 : Int32) else 1) = 0) := by
  by_cases c : p
  · rw [if_pos c, if_pos (h.mp c)]
  · rw [if_neg c, if_neg (fun z => c (h.mpr z))]
theorem ite_c {c : Prop} [Decidable c] {x y : Int32} (h : x = 0 ↔ y = 0) : ((if c then (0 : Int32) else x) = 0) ↔ ((if c then (0 : Int32) else y) = 0) := by
  by_cases q : c
  · rw [if_pos q, if_pos q]
  · rw [if_neg q, if_neg q]; exact h
/-- PLACE: alike -/
theorem sim_place {q : Nat} {cf aF : IF} (fw fh : Int32) (hq : q < 26) (hv : ∀ j, j < fN q → ¬ myB (nI q) (nI j) (cf j) = 0) (ha : ∀ j, j < fN q → cf j = aF j) : plT (nI q) fw fh cf = 0 ↔ lieM fw fh aF (nI q) = 0 := by
  obtain ⟨r0, r1, r2, r3, r4⟩ := rd_k (cf := cf)
  obtain ⟨k0, k1, k2, k3, k4⟩ := cl0
  have three : (3 : Int32) = nI 3 := rfl
  have four : (4 : Int32) = nI 4 := rfl
  unfold plT lieM
  rw [r0, r1, r2, r3, r4, k0, k1, k2, k3, k4]
  have qq : ∀ n : Nat, n < 26 → (nI q = nI n ↔ q = n) := fun n hn => nI_eq (by omega) (by omega)
  have q6 : nI q = 6 ↔ q = 6 := qq 6 (by decide)
  have q7 : nI q = 7 ↔ q = 7 := qq 7 (by decide)
  have q8 : nI q = 8 ↔ q = 8 := qq 8 (by decide)
  have q20 : nI q = 20 ↔ q = 20 := qq 20 (by decide)
  have q21' : nI q = 21 ↔ q = 21 := qq 21 (by decide)
  have q23 : nI q = 23 ↔ q = 23 := qq 23 (by decide)
  by_cases c6 : q = 6
  · subst c6
    rw [if_pos (q6.mpr rfl), if_pos (q6.mpr rfl), ← ha 0 (by decide +kernel), ← ha 1 (by decide +kernel), ← ha 2 (by decide +kernel)]
    obtain ⟨m, -, hm, em⟩ := mb_nat (lo := 0) (hi := 32) (by decide +kernel : colm (nI 6) (nI 1) 0 = 0) (by decide +kernel : colm (nI 6) (nI 1) 1 = 32) (by decide) (by decide) (hv 1 (by decide +kernel))
    obtain ⟨f, -, hf, ef⟩ := mb_nat (lo := 0) (hi := 1048576) (by decide +kernel : colm (nI 6) (nI 2) 0 = 0) (by decide +kernel : colm (nI 6) (nI 2) 1 = 1048576) (by decide) (by decide) (hv 2 (by decide +kernel))
    refine ite_c (ite01 ?_)
    rw [em, ef, four, pk_mul, nI_l (by omega), nI_l (by omega), show (4 : Int64) = lN 4 from rfl, lN_mul, inM_at hf (by omega), inMM_at hf (by omega)]
  · rw [if_neg (fun z => c6 (q6.mp z)), if_neg (fun z => c6 (q6.mp z))]
    by_cases c7 : q = 7 ∨ q = 8
    · have c7' : nI q = 7 ∨ nI q = 8 := c7.imp q7.mpr q8.mpr
      rw [if_pos c7', if_pos c7']
      have key : ∀ k, (k = 7 ∨ k = 8) → colm (nI k) (nI 0) 0 = 0 ∧ colm (nI k) (nI 0) 1 = 1048576 ∧ colm (nI k) (nI 1) 0 = 1 ∧ colm (nI k) (nI 1) 1 = 256 ∧ 0 < fN k ∧ 1 < fN k := by
        intro k hk; rcases hk with rfl | rfl <;> decide +kernel
      obtain ⟨t1, t2, t3, t4, t5, t6⟩ := key q c7
      rw [← ha 0 t5, ← ha 1 t6]
      obtain ⟨f, -, hf, ef⟩ := mb_nat (lo := 0) (hi := 1048576) t1 t2 (by decide) (by decide) (hv 0 t5)
      obtain ⟨m, -, hm, em⟩ := mb_nat (lo := 1) (hi := 256) t3 t4 (by decide) (by decide) (hv 1 t6)
      rw [em, ef, three, pk_mul, nI_l (by omega), nI_l (by omega), show (3 : Int64) = lN 3 from rfl, lN_mul, inM_at hf (by omega), inMM_at hf (by omega)]
    · have c7' : ¬ (nI q = 7 ∨ nI q = 8) := fun z => c7 (z.imp q7.mp q8.mp)
      rw [if_neg c7', if_neg c7']
      by_cases c20 : q = 20
      · subst c20
        rw [if_pos (q20.mpr rfl), if_pos (q20.mpr rfl), ← ha 0 (by decide +kernel), ← ha 1 (by decide +kernel), ← ha 2 (by decide +kernel), ← ha 3 (by decide +kernel), ← ha 4 (by decide +kernel)]
        obtain ⟨w, -, hw, ew⟩ := mb_nat (lo := 1) (hi := 128) (by decide +kernel : colm (nI 20) (nI 2) 0 = 1) (by decide +kernel : colm (nI 20) (nI 2) 1 = 128) (by decide) (by decide) (hv 2 (by decide +kernel))
        obtain ⟨h, -, hh, eh⟩ := mb_nat (lo := 1) (hi := 128) (by decide +kernel : colm (nI 20) (nI 3) 0 = 1) (by decide +kernel : colm (nI 20) (nI 3) 1 = 128) (by decide) (by decide) (hv 3 (by decide +kernel))
        obtain ⟨f, -, hf, ef⟩ := mb_nat (lo := 0) (hi := 1048576) (by decide +kernel : colm (nI 20) (nI 4) 0 = 0) (by decide +kernel : colm (nI 20) (nI 4) 1 = 1048576) (by decide) (by decide) (hv 4 (by decide +kernel))
        have hm : w * h ≤ 65536 := Nat.le_trans (Nat.mul_le_mul hw hh) (by decide)
        refine ite_c (ite_c (ite01 ?_))
        rw [ew, eh, ef, pk_mul, nI_l (by omega), nI_l (by omega), nI_l (by omega), lN_mul, inM_at hf hm, inMM_at hf hm]
      · rw [if_neg (fun z => c20 (q20.mp z)), if_neg (fun z => c20 (q20.mp z))]
        by_cases c21 : q = 21
        · subst c21
          rw [if_pos (q21'.mpr rfl), if_pos (q21'.mpr rfl), ← ha 0 (by decide +kernel), ← ha 1 (by decide +kernel)]
          obtain ⟨f, -, hf, ef⟩ := mb_nat (lo := 0) (hi := 1048576) (by decide +kernel : colm (nI 21) (nI 0) 0 = 0) (by decide +kernel : colm (nI 21) (nI 0) 1 = 1048576) (by decide) (by decide) (hv 0 (by decide +kernel))
          obtain ⟨m, -, hm, em⟩ := mb_nat (lo := 0) (hi := 256) (by decide +kernel : colm (nI 21) (nI 1) 0 = 0) (by decide +kernel : colm (nI 21) (nI 1) 1 = 256) (by decide) (by decide) (hv 1 (by decide +kernel))
          rw [em, ef, nI_l (by omega), nI_l (by omega), inM_at hf (by omega), inMM_at hf (by omega)]
        · rw [if_neg (fun z => c21 (q21'.mp z)), if_neg (fun z => c21 (q21'.mp z))]
          by_cases c23 : q = 23
          · subst c23
            rw [if_pos (q23.mpr rfl), if_pos (q23.mpr rfl), ← ha 0 (by decide +kernel)]
            obtain ⟨f, -, hf, ef⟩ := mb_nat (lo := 0) (hi := 1048576) (by decide +kernel : colm (nI 23) (nI 0) 0 = 0) (by decide +kernel : colm (nI 23) (nI 0) 1 = 1048576) (by decide) (by decide) (hv 0 (by decide +kernel))
            rw [ef, show (1 : Int32) = nI 1 from rfl, inM_at hf (by decide)]
            by_cases e : 4096 ≤ f
            · rw [if_pos (show (4096 : Int32) ≤ nI f from nI_le (a := 4096) e (by omega))]; exact ⟨fun _ => rfl, fun _ => ⟨by decide, by omega⟩⟩
            · rw [if_neg (show ¬ (4096 : Int32) ≤ nI f from nI_ge (b := 4096) (by omega) (by decide))]; exact ⟨fun h => absurd h.2 (by omega), fun h => absurd h ne10⟩
          · rw [if_neg (fun z => c23 (q23.mp z)), if_neg (fun z => c23 (q23.mp z))]
/-- STATE: alike -/
theorem sim_state {q d : Nat} {cf aF wf kF : IF} (qu : Int32) (hq : q < 26) (ha : ∀ j, j < fN q → cf j = aF j) (ht : toldR wf kF) : stA (nI q) (nI d) qu cf sfC wf = 0 ↔ fitM (nI d) qu aF kF (nI q) = 0 := by
  obtain ⟨r0, r1, -⟩ := rd_k (cf := cf)
  obtain ⟨k0, k1, -⟩ := cl0
  have qq : ∀ n : Nat, n < 26 → (nI q = nI n ↔ q = n) := fun n hn => nI_eq (by omega) (by omega)
  have q19 : nI q = 19 ↔ q = 19 := qq 19 (by decide)
  have hz : 0 < hN 7 ∧ 0 < fN 7 ∧ 0 < hN 8 ∧ 0 < fN 8 := by decide +kernel
  have p7 : hsP sfC wf 7 = 0 ↔ kF (rwO 7 0).toNatClampNeg < 0 := by
    have e := ht.1 7 0 0 (by decide) hz.1 hz.2.1
    have e2 : rdA 303 wf (plc sfC 7 0 0) = kF (rwO 7 0).toNatClampNeg := e
    unfold hsP; rw [e2]
    rcases ht.2.1 with h | h
    · rw [h, if_pos rfl]; exact ⟨fun _ => by decide, fun _ => rfl⟩
    · by_cases c : kF (rwO 7 0).toNatClampNeg = -1
      · rw [c] at h; exact absurd (by decide) h
      · rw [if_neg c]; exact ⟨fun z => absurd z ne10, fun z => absurd z h⟩
  have p8 : hsP sfC wf 8 = 0 ↔ kF (rwO 8 0).toNatClampNeg < 0 := by
    have e := ht.1 8 0 0 (by decide) hz.2.2.1 hz.2.2.2
    have e2 : rdA 303 wf (plc sfC 8 0 0) = kF (rwO 8 0).toNatClampNeg := e
    unfold hsP; rw [e2]
    rcases ht.2.2 with h | h
    · rw [h, if_pos rfl]; exact ⟨fun _ => by decide, fun _ => rfl⟩
    · by_cases c : kF (rwO 8 0).toNatClampNeg = -1
      · rw [c] at h; exact absurd (by decide) h
      · rw [if_neg c]; exact ⟨fun z => absurd z ne10, fun z => absurd z h⟩
  unfold stA fitM
  rw [r0, r1, k0, k1]
  by_cases c17 : nI q = 17 ∨ nI q = 18
  · rw [if_pos c17, if_pos c17]
    by_cases a7 : hsP sfC wf 7 = 0
    · rw [if_pos a7, if_pos (p7.mp a7)]
    · rw [if_neg a7, if_neg (fun z => a7 (p7.mpr z))]
      exact ite01 p8
  · rw [if_neg c17, if_neg c17]
    by_cases c19 : q = 19
    · subst c19
      rw [if_pos (q19.mpr rfl), if_pos (q19.mpr rfl), ← ha 0 (by decide +kernel), ← ha 1 (by decide +kernel)]
    · rw [if_neg (fun z => c19 (q19.mp z)), if_neg (fun z => c19 (q19.mp z))]
