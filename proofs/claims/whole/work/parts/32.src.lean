/-! where commands come from: alike -/
theorem may_more {j : Nat} (hj : 2 ≤ j) (hj2 : j < 1000) (v : Int32) : mayM (nI 21) (nI j) v = 1 := by
  have e : ∀ k v : Int32, mayM (nI 21) k v = if 1 < k then 1 else (if k = 0 then (if inL v.toInt64 0 1048576 = 0 then 0 else 1) else (if inL v.toInt64 0 256 = 0 then 0 else 1)) := fun _ _ => rfl
  rw [e, if_pos (show (1 : Int32) < nI j from nI_lt (a := 1) (by omega) (by omega))]
def lenS (d z : Nat) : Nat := if d = 0 then z else 4096
def srcS (d : Nat) (mf qf : IF) : IF := if d = 0 then qf else mf
theorem nI_z {d : Nat} (hd : d ≤ 4) : (nI d ≤ 0 ↔ d = 0) ∧ (nI d = 0 ↔ d = 0) := by
  constructor
  · rw [Int32.le_iff_toInt_le, nI_toInt (by omega), Int32.toInt_zero]; omega
  · rw [show (0 : Int32) = nI 0 from nI_0.symm, nI_eq (by omega) (by decide)]
theorem srcL_at {d z : Nat} (hd : d ≤ 4) : srcL (nI d) (nI z) = nI (lenS d z) := by
  unfold srcL lenS
  by_cases h : d = 0
  · rw [if_pos ((nI_z hd).1.mpr h), if_pos h]
  · rw [if_neg (fun q => h ((nI_z hd).1.mp q)), if_neg h]; rfl
theorem isTh_at {d z k : Nat} (hd : d ≤ 4) (hz : z ≤ 4096) (hk : k < 2147483648) : isTh (nI z) (nI d) (nI k) = 0 ↔ lenS d z ≤ k := by
  unfold isTh lenS
  by_cases h : d = 0
  · rw [if_pos ((nI_z hd).2.mpr h), if_pos h]
    by_cases c : z ≤ k
    · rw [if_pos (nI_le c hk)]; exact ⟨fun _ => c, fun _ => rfl⟩
    · rw [if_neg (nI_ge (by omega) (by omega))]; exact ⟨fun q => absurd q ne10, fun q => absurd q c⟩
  · rw [if_neg (fun q => h ((nI_z hd).2.mp q)), if_neg h]
    by_cases c : 4096 ≤ k
    · rw [if_pos (show (4096 : Int32) ≤ nI k from nI_le (a := 4096) c hk)]; exact ⟨fun _ => c, fun _ => rfl⟩
    · rw [if_neg (show ¬ (4096 : Int32) ≤ nI k from nI_ge (b := 4096) (by omega) (by decide))]; exact ⟨fun q => absurd q ne10, fun q => absurd q c⟩
theorem srcW_at {d k : Nat} {mf qf : IF} (hd : d ≤ 4) (hk : k < 4096) : srcW (nI d) mf qf (nI k) = srcS d mf qf k := by
  unfold srcW srcS
  by_cases h : d = 0
  · rw [if_pos ((nI_z hd).1.mpr h), if_pos h, rdA_nI hk (by decide)]
  · rw [if_neg (fun q => h ((nI_z hd).1.mp q)), if_neg h, rdA_nI hk (by decide)]
theorem mrd_at {d k : Nat} {mf qf : IF} (hd : d ≤ 4) (hk : k < 2147483648) : mrd (nI d) mf qf (nI k) = srcS d mf qf k := by
  unfold mrd srcS
  by_cases h : d = 0
  · rw [if_pos ((nI_z hd).2.mpr h), if_pos h, nI_clamp hk]
  · rw [if_neg (fun q => h ((nI_z hd).2.mp q)), if_neg h, nI_clamp hk]
/-- how many extra words STORE has -/
def clN (v : Int32) : Nat := if v.toInt < 0 then 0 else if 256 < v.toInt then 256 else v.toInt.toNat
theorem clN_le (v : Int32) : clN v ≤ 256 := by
  unfold clN
  split
  · omega
  · split <;> omega
theorem clp_at (v : Int32) : clp v = nI (clN v) := by
  have m0 : (0 : Int32).toInt = 0 := by decide
  have m256 : (256 : Int32).toInt = 256 := by decide
  have key : ∀ n : Nat, n ≤ 256 → v.toInt = n → v = nI n := fun n hn h => Int32.toInt_inj.mp (by rw [h, nI_toInt (by omega)])
  unfold clp clN
  by_cases c1 : v < 256
  · rw [if_pos c1]
    rw [Int32.lt_iff_toInt_lt, m256] at c1
    by_cases c2 : 0 < v
    · rw [if_pos c2]
      rw [Int32.lt_iff_toInt_lt, m0] at c2
      rw [if_neg (by omega), if_neg (by omega)]
      exact key _ (by omega) (by omega)
    · rw [if_neg c2]
      rw [Int32.lt_iff_toInt_lt, m0] at c2
      by_cases c3 : v.toInt < 0
      · rw [if_pos c3]; rfl
      · rw [if_neg c3, if_neg (by omega), show v.toInt.toNat = 0 by omega]; rfl
  · rw [if_neg c1, if_pos (by decide)]
    rw [Int32.lt_iff_toInt_lt, m256] at c1
    rw [if_neg (by omega)]
    by_cases c3 : 256 < v.toInt
    · rw [if_pos c3]; rfl
    · rw [if_neg c3, show v.toInt.toNat = 256 by omega]; rfl
def lnN (d z a q : Nat) (mf qf : IF) : Nat := fN q + (if q = 21 then (if lenS d z ≤ a + 2 then 0 else clN (srcS d mf qf (a + 2))) else 0)
theorem lnN_le {d z a q : Nat} {mf qf : IF} (hq : q < 26) : lnN d z a q mf qf ≤ 264 := by
  have h := (fN_at q hq).2.2.2.2.1
  unfold lnN
  split
  · split
    · omega
    · have := clN_le (srcS d mf qf (a + 2)); omega
  · omega
theorem f21 : fN 21 = 2 := by decide +kernel
theorem q21 {q : Nat} (hq : q < 26) : nI q = 21 ↔ q = 21 := by
  rw [show (21 : Int32) = nI 21 from rfl, nI_eq (by omega) (by decide)]
theorem argH_at {d z a q : Nat} {mf qf : IF} (hd : d ≤ 4) (hz : z ≤ 4096) (ha : a ≤ 4096) (hq : q < 26) : argH (nI d) (nI a) (nI z) mf qf (nI q) = nI (lnN d z a q mf qf) := by
  unfold argH lnN
  have hf := (fN_at q hq).1
  have hls : lenS d z ≤ 4096 := by unfold lenS; split <;> omega
  by_cases c : q = 21
  · subst c
    rw [if_pos (show nI 21 = 21 from rfl), if_pos (rfl : (21 : Nat) = 21), hf, f21, nI_add, srcL_at hd]
    by_cases e : lenS d z ≤ a + 2
    · rw [if_neg (nI_nlt e (by omega)), if_pos e]
    · rw [if_pos (nI_lt (by omega) (by omega)), if_neg e, srcW_at hd (by omega), clp_at, nI_add]
  · rw [if_neg (fun z => c ((q21 hq).mp z)), if_neg c, hf, Nat.add_zero]
theorem lenM_at {d z a q : Nat} {mf qf : IF} (hd : d ≤ 4) (hz : z ≤ 4096) (ha : a ≤ 4096) (hq : q < 26) : lenM (nI z) (nI a) (nI d) mf qf (nI q) = nI (lnN d z a q mf qf) := by
  have hc := (fN_at q hq).2.1
  have z0 : (0 : Int32) = nI 0 := nI_0.symm
  unfold lenM lnN
  by_cases c : q = 21
  · subst c
    rw [if_pos (show nI 21 = 21 from rfl), if_pos (rfl : (21 : Nat) = 21), hc, f21, show (2 : Int32) = nI 2 from rfl, nI_add]
    by_cases e : lenS d z ≤ a + 2
    · rw [if_pos ((isTh_at hd hz (by omega)).mpr e), if_pos e, z0, nI_add]
    · rw [if_neg (fun w => e ((isTh_at hd hz (by omega)).mp w)), if_neg e, mrd_at hd (by omega)]
      generalize srcS d mf qf (a + 2) = v
      have m0 : (0 : Int32).toInt = 0 := by decide
      have m256 : (256 : Int32).toInt = 256 := by decide
      have key : ∀ n : Nat, n ≤ 256 → v.toInt = n → v = nI n := fun n hn h => Int32.toInt_inj.mp (by rw [h, nI_toInt (by omega)])
      unfold clN
      by_cases c1 : 0 ≤ v
      · rw [if_pos c1]
        rw [Int32.le_iff_toInt_le, m0] at c1
        by_cases c2 : v ≤ 256
        · rw [if_pos c2]
          rw [Int32.le_iff_toInt_le, m256] at c2
          rw [if_neg (by omega), if_neg (by omega), ← nI_add, ← key v.toInt.toNat (by omega) (by omega)]
        · rw [if_neg c2]
          rw [Int32.le_iff_toInt_le, m256] at c2
          rw [if_neg (by omega), if_pos (by omega), ← nI_add]; rfl
      · rw [if_neg c1]
        rw [Int32.le_iff_toInt_le, m0] at c1
        rw [if_pos (by omega), z0, nI_add]
  · rw [if_neg (fun w => c ((q21 hq).mp w)), if_neg c, hc, z0, nI_add]
