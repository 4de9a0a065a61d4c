/-! the class's state beside the reference's -/
theorem ne10 : ¬ (1 : Int32) = 0 := by decide
theorem tb_hm : ∀ k, k < 26 → hld (nI k) = mny (nI k) ∧ fxd (nI k) = cnt (nI k) := by decide +kernel
theorem in_26 (d : Int32) : (inL d.toInt64 0 25 = 0 ∧ hld d = 0 ∧ isKd d = 0) ∨ (¬ inL d.toInt64 0 25 = 0 ∧ isKd d = 1 ∧ ∃ q : Nat, q < 26 ∧ d = nI q) := by
  have h25 : (25 : Int64).toInt = 25 := by decide
  have h0 : (0 : Int64).toInt = 0 := by decide
  rcases pk_ix d (n := 26) (by decide) with h | h | ⟨q, hq, rfl⟩
  · refine Or.inl ⟨?_, ?_, ?_⟩
    · rw [inL_iff, Int64.le_iff_toInt_le, Int64.le_iff_toInt_le, Int32.toInt_toInt64, h0]
      rw [Int32.lt_iff_toInt_lt, Int32.toInt_zero] at h
      omega
    · unfold hld rdA; rw [if_pos h]
    · unfold isKd; rw [if_pos h]
  · have h2 : ¬ d < 0 := by
      rw [Int32.le_iff_toInt_le, nI_toInt (by decide)] at h
      rw [Int32.lt_iff_toInt_lt, Int32.toInt_zero]; omega
    refine Or.inl ⟨?_, ?_, ?_⟩
    · rw [inL_iff, Int64.le_iff_toInt_le, Int64.le_iff_toInt_le, Int32.toInt_toInt64, h0, h25]
      rw [Int32.le_iff_toInt_le, nI_toInt (by decide)] at h
      omega
    · unfold hld rdA; rw [if_neg h2, if_pos h]
    · unfold isKd; rw [if_neg h2, if_pos (show (26 : Int32) ≤ d from h)]
  · refine Or.inr ⟨?_, ?_, q, hq, rfl⟩
    · rw [inL_iff, Int64.le_iff_toInt_le, Int64.le_iff_toInt_le, Int32.toInt_toInt64, h0, h25, nI_toInt (by omega)]
      omega
    · unfold isKd; rw [if_neg (nI_pos (by omega)), if_neg (show ¬ (26 : Int32) ≤ nI q from nI_ge hq (by decide))]
theorem rdA_nI {n j : Nat} {f : IF} (hj : j < n) (hn : n < 2147483648) : rdA n f (nI j) = f j := by
  unfold rdA
  rw [if_neg (nI_pos (by omega)), if_neg (nI_ge hj hn), nI_clamp (by omega)]
theorem wrA_nI {n j : Nat} {f : IF} {v : Int32} (hj : j < n) (hn : n < 2147483648) : wrA n f (nI j) v = upd f j v := by
  unfold wrA
  rw [if_neg (nI_pos (by omega)), if_neg (nI_ge hj hn), nI_clamp (by omega)]
/-- what is told: the class's 303 words beside the reference's 4160 -/
def toldR (wf kF : IF) : Prop := (∀ k n j : Nat, k < 26 → n < (mny (nI k)).toNatClampNeg → j < (cnt (nI k)).toNatClampNeg → rdA 303 wf (plc sfC (nI k) (nI n) (nI j)) = kF (rwO (nI k) (nI n) + nI j).toNatClampNeg) ∧ (kF (rwO 7 0).toNatClampNeg = -1 ∨ ¬ kF (rwO 7 0).toNatClampNeg < 0) ∧ (kF (rwO 8 0).toNatClampNeg = -1 ∨ ¬ kF (rwO 8 0).toNatClampNeg < 0)
/-- word: alike -/
theorem sim_word (mf : IF) (k v : Int32) : (wdC mf k v).1 = (wdM mf k v).2.1 ∧ ((wdC mf k v).1 = 0 → (wdC mf k v).2.1 = (wdM mf k v).1) ∧ (wdC mf k v).2.2 = (wdM mf k v).2.2 := by
  have h0 : (0 : Int64).toInt = 0 := by decide
  have h95 : (4095 : Int64).toInt = 4095 := by decide
  have h96 : (4096 : Int32).toInt = 4096 := by decide
  unfold wdC wdM
  rcases pk_ix k (n := 4096) (by decide) with h | h | ⟨q, hq, rfl⟩
  · have e : inL k.toInt64 0 4095 = 0 := by
      rw [inL_iff, Int64.le_iff_toInt_le, Int32.toInt_toInt64, h0]
      rw [Int32.lt_iff_toInt_lt, Int32.toInt_zero] at h
      omega
    rw [if_pos h, if_pos e]
    exact ⟨rfl, fun q => absurd q ne10, rfl⟩
  · have e : inL k.toInt64 0 4095 = 0 := by
      rw [inL_iff, Int64.le_iff_toInt_le, Int64.le_iff_toInt_le, Int32.toInt_toInt64, h0, h95]
      rw [Int32.le_iff_toInt_le, nI_toInt (by decide)] at h
      omega
    have h2 : ¬ k < 0 := by
      rw [Int32.le_iff_toInt_le, nI_toInt (by decide)] at h
      rw [Int32.lt_iff_toInt_lt, Int32.toInt_zero]; omega
    have h3 : ¬ k < 4096 := by
      rw [Int32.le_iff_toInt_le, nI_toInt (by decide)] at h
      rw [Int32.lt_iff_toInt_lt, h96]; omega
    rw [if_neg h2, if_neg h3, if_pos e]
    exact ⟨rfl, fun q => absurd q ne10, rfl⟩
  · have e : ¬ inL (nI q).toInt64 0 4095 = 0 := by
      rw [inL_iff, Int64.le_iff_toInt_le, Int64.le_iff_toInt_le, Int32.toInt_toInt64, h0, h95, nI_toInt (by omega)]
      omega
    have h3 : nI q < 4096 := nI_lt (b := 4096) hq (by decide)
    rw [if_neg (nI_pos (by omega)), if_pos h3, if_neg e, rdA_nI hq (by decide), wrA_nI hq (by decide), nI_clamp (by omega)]
    exact ⟨rfl, fun _ => rfl, rfl⟩
/-- frame: alike -/
theorem sim_frame (fw fh k v : Int32) : (frC fw fh k v).1 = (frM fw fh k v).1 ∧ (frC fw fh k v).2 = (frM fw fh k v).2 := by
  have key : ∀ z : Int32, inL z.toInt64 1 128 = 0 ↔ (z < 1 ∨ 128 < z) := by
    intro z
    have h1 : (1 : Int64).toInt = 1 := by decide
    have h2 : (128 : Int64).toInt = 128 := by decide
    have h3 : (1 : Int32).toInt = 1 := by decide
    have h4 : (128 : Int32).toInt = 128 := by decide
    rw [inL_iff, Int64.le_iff_toInt_le, Int64.le_iff_toInt_le, Int32.toInt_toInt64, Int32.lt_iff_toInt_lt, Int32.lt_iff_toInt_lt, h1, h2, h3, h4]
    omega
  have kv : v ≤ 128 ↔ ¬ 128 < v := by rw [Int32.le_iff_toInt_le, Int32.lt_iff_toInt_lt]; omega
  unfold frC frM
  by_cases c1 : k < 1
  · rw [if_pos c1, if_pos ((key k).mpr (Or.inl c1))]; exact ⟨rfl, rfl⟩
  · by_cases c2 : 128 < k
    · rw [if_neg c1, if_pos c2, if_pos ((key k).mpr (Or.inr c2))]; exact ⟨rfl, rfl⟩
    · rw [if_neg c1, if_neg c2, if_neg (fun h => ((key k).mp h).elim c1 c2)]
      by_cases c3 : v < 1
      · rw [if_pos c3, if_pos ((key v).mpr (Or.inl c3))]; exact ⟨rfl, rfl⟩
      · by_cases c4 : 128 < v
        · rw [if_neg c3, if_neg (fun h => kv.mp h c4), if_pos ((key v).mpr (Or.inr c4))]; exact ⟨rfl, rfl⟩
        · rw [if_neg c3, if_pos (kv.mpr c4), if_neg (fun h => ((key v).mp h).elim c3 c4)]; exact ⟨rfl, rfl⟩
/-- put: alike, where the stream's size is at most 4096 -/
theorem sim_put {z : Nat} (hz : z ≤ 4096) (qf : IF) (v : Int32) : (ptC (nI z) qf v).1 = (ptM (nI z) qf v).2.1 ∧ ((ptC (nI z) qf v).1 = 0 → (ptC (nI z) qf v).2.1 = (ptM (nI z) qf v).1) ∧ (ptC (nI z) qf v).2.2 = (ptM (nI z) qf v).2.2 ∧ (∃ z' : Nat, z' ≤ 4096 ∧ (ptC (nI z) qf v).2.2.1 = nI z') ∧ (¬ nI z = 4096 → vp_in (nI z) 4096) := by
  unfold ptC ptM
  by_cases h : z < 4096
  · have h1 : nI z < 4096 := nI_lt (b := 4096) h (by decide)
    have h2 : ¬ nI z = 4096 := fun q => by have := (nI_eq (a := z) (b := 4096) (by omega) (by decide)).mp q; omega
    rw [if_pos h1, if_neg h2, wrA_nI h (by decide), nI_clamp (by omega)]
    exact ⟨rfl, fun _ => rfl, rfl, ⟨z + 1, by omega, nI_1 z⟩, fun _ => vp_in_nI h (by decide)⟩
  · have e : z = 4096 := by omega
    subst e
    rw [if_neg (by decide : ¬ nI 4096 < 4096), if_pos (by decide : nI 4096 = 4096)]
    exact ⟨rfl, fun q => absurd q ne10, rfl, ⟨4096, by omega, rfl⟩, fun q => absurd (by decide : nI 4096 = 4096) q⟩
/-- about: alike -/
theorem sim_about (sl lp ld dn rf qu ov k : Int32) : (abC sl lp ld dn rf qu ov k).1 = (abM ov rf lp ld dn qu sl k).2 ∧ ((abC sl lp ld dn rf qu ov k).1 = 0 → (abC sl lp ld dn rf qu ov k).2 = (abM ov rf lp ld dn qu sl k).1) := by
  have h0 : (0 : Int64).toInt = 0 := by decide
  have h6 : (6 : Int64).toInt = 6 := by decide
  rcases pk_ix k (n := 7) (by decide) with h | h | ⟨q, hq, rfl⟩
  · have e : inL k.toInt64 0 6 = 0 := by
      rw [inL_iff, Int64.le_iff_toInt_le, Int32.toInt_toInt64, h0]
      rw [Int32.lt_iff_toInt_lt, Int32.toInt_zero] at h
      omega
    have ne : ∀ j, j < 7 → ¬ k = nI j := fun j hj q => by rw [q] at h; exact nI_pos (by omega) h
    unfold abC abM
    rw [if_pos e, if_neg (show ¬ k = 0 from ne 0 (by decide)), if_neg (show ¬ k = 1 from ne 1 (by decide)), if_neg (show ¬ k = 2 from ne 2 (by decide)), if_neg (show ¬ k = 3 from ne 3 (by decide)), if_neg (show ¬ k = 4 from ne 4 (by decide)), if_neg (show ¬ k = 5 from ne 5 (by decide)), if_neg (show ¬ k = 6 from ne 6 (by decide))]
    exact ⟨rfl, fun q => absurd q ne10⟩
  · have e : inL k.toInt64 0 6 = 0 := by
      rw [inL_iff, Int64.le_iff_toInt_le, Int64.le_iff_toInt_le, Int32.toInt_toInt64, h0, h6]
      rw [Int32.le_iff_toInt_le, nI_toInt (by decide)] at h
      omega
    have ne : ∀ j, j < 7 → ¬ k = nI j := fun j hj q => by rw [q] at h; exact nI_ge hj (by decide) h
    unfold abC abM
    rw [if_pos e, if_neg (show ¬ k = 0 from ne 0 (by decide)), if_neg (show ¬ k = 1 from ne 1 (by decide)), if_neg (show ¬ k = 2 from ne 2 (by decide)), if_neg (show ¬ k = 3 from ne 3 (by decide)), if_neg (show ¬ k = 4 from ne 4 (by decide)), if_neg (show ¬ k = 5 from ne 5 (by decide)), if_neg (show ¬ k = 6 from ne 6 (by decide))]
    exact ⟨rfl, fun q => absurd q ne10⟩
  · have e : ∀ j, j < 7 → ¬ inL (nI j).toInt64 0 6 = 0 := by decide +kernel
    unfold abC abM
    rw [if_neg (e q hq)]
    rcases (show q = 0 ∨ q = 1 ∨ q = 2 ∨ q = 3 ∨ q = 4 ∨ q = 5 ∨ q = 6 by omega) with rfl | rfl | rfl | rfl | rfl | rfl | rfl
    · rw [if_pos (by decide : nI 0 = 0), if_pos (by decide : nI 0 = 0)]
      by_cases c : ov = 0
      · rw [if_pos c, if_pos c]; exact ⟨rfl, fun _ => rfl⟩
      · rw [if_neg c, if_neg c]; exact ⟨rfl, fun _ => rfl⟩
    all_goals exact ⟨rfl, fun _ => rfl⟩
/-- argument: alike -/
theorem sim_argument {n : Nat} (hn : n ≤ 258) {cf aF : IF} (h : ∀ j, j < n → cf j = aF j) (k : Int32) : (arC (nI n) cf k).1 = (arM (nI n) aF k).2 ∧ ((arC (nI n) cf k).1 = 0 → (arC (nI n) cf k).2 = (arM (nI n) aF k).1) ∧ (¬ inL k.toInt64 0 (nI n - 1).toInt64 = 0 → vp_in k 300) := by
  have h0 : (0 : Int64).toInt = 0 := by decide
  have hm : (nI n - 1).toInt = (n : Int) - 1 := pk_sub_toInt (b := 1) (by omega) (by decide)
  have key : inL k.toInt64 0 (nI n - 1).toInt64 = 0 ↔ ¬ (0 ≤ k.toInt ∧ k.toInt ≤ (n : Int) - 1) := by
    rw [inL_iff, Int64.le_iff_toInt_le, Int64.le_iff_toInt_le, Int32.toInt_toInt64, Int32.toInt_toInt64, h0, hm]
  unfold arC arM
  rcases pk_ix k (n := n) (by omega) with g | g | ⟨q, hq, rfl⟩
  · have g2 := g
    rw [Int32.lt_iff_toInt_lt, Int32.toInt_zero] at g2
    have e : inL k.toInt64 0 (nI n - 1).toInt64 = 0 := key.mpr (by omega)
    rw [if_pos g, if_pos e]
    exact ⟨rfl, fun q => absurd q ne10, fun q => absurd e q⟩
  · have g2 := g
    rw [Int32.le_iff_toInt_le, nI_toInt (by omega)] at g2
    have e : inL k.toInt64 0 (nI n - 1).toInt64 = 0 := key.mpr (by omega)
    have g3 : ¬ k < 0 := by rw [Int32.lt_iff_toInt_lt, Int32.toInt_zero]; omega
    have g4 : ¬ k < nI n := by rw [Int32.lt_iff_toInt_lt, nI_toInt (by omega)]; omega
    rw [if_neg g3, if_neg g4, if_pos e]
    exact ⟨rfl, fun q => absurd q ne10, fun q => absurd e q⟩
  · have e : ¬ inL (nI q).toInt64 0 (nI n - 1).toInt64 = 0 := fun z => key.mp z (by rw [nI_toInt (by omega)]; omega)
    rw [if_neg (nI_pos (by omega)), if_pos (nI_lt hq (by omega)), if_neg e, rdA_nI (by omega) (by decide), nI_clamp (by omega), h q hq]
    exact ⟨rfl, fun _ => rfl, fun _ => vp_in_nI (by omega) (by decide)⟩
theorem kept_in : ∀ k, k < 26 → ∀ n, n < (mny (nI k)).toNatClampNeg → ∀ j, j < (cnt (nI k)).toNatClampNeg → ¬ (rwO (nI k) (nI n) + nI j < 0 ∨ 4160 ≤ (rwO (nI k) (nI n) + nI j).toNatClampNeg) := by decide +kernel
theorem small_tb : ∀ k, k < 26 → (mny (nI k)).toNatClampNeg ≤ 32 ∧ (cnt (nI k)).toNatClampNeg ≤ 8 ∧ mny (nI k) = nI (mny (nI k)).toNatClampNeg ∧ cnt (nI k) = nI (cnt (nI k)).toNatClampNeg := by decide +kernel
/-- kept: alike -/
theorem sim_kept {wf kF : IF} (h : toldR wf kF) (d n k : Int32) : (kpC sfC wf d n k).1 = (kpM kF d n k).2 ∧ ((kpC sfC wf d n k).1 = 0 → (kpC sfC wf d n k).2 = (kpM kF d n k).1) ∧ (¬ inL d.toInt64 0 25 = 0 → ¬ n < 0 → ¬ mny d ≤ n → ¬ k < 0 → ¬ cnt d ≤ k → vp_in (rwO d n + k) 4160) := by
  unfold kpC kpM
  rcases in_26 d with ⟨e1, e2, -⟩ | ⟨e1, -, q, hq, rfl⟩
  · rw [if_pos e1, e2]
    refine ⟨?_, ?_, fun z => absurd e1 z⟩
    · by_cases c1 : n < 0
      · rw [if_pos c1]
      · have c2 : (0 : Int32) ≤ n := by rw [Int32.le_iff_toInt_le, Int32.toInt_zero]; rw [Int32.lt_iff_toInt_lt, Int32.toInt_zero] at c1; omega
        rw [if_neg c1, if_pos c2]
    · by_cases c1 : n < 0
      · rw [if_pos c1]; exact fun q => absurd q ne10
      · have c2 : (0 : Int32) ≤ n := by rw [Int32.le_iff_toInt_le, Int32.toInt_zero]; rw [Int32.lt_iff_toInt_lt, Int32.toInt_zero] at c1; omega
        rw [if_neg c1, if_pos c2]; exact fun q => absurd q ne10
  · obtain ⟨t1, t2⟩ := tb_hm q hq
    obtain ⟨s1, s2, s3, s4⟩ := small_tb q hq
    rw [if_neg e1, t1, t2]
    by_cases c1 : n < 0
    · rw [if_pos c1, if_pos c1]; exact ⟨rfl, fun q => absurd q ne10, fun _ z => absurd c1 z⟩
    · rw [if_neg c1, if_neg c1]
      by_cases c2 : mny (nI q) ≤ n
      · rw [if_pos c2, if_pos c2]; exact ⟨rfl, fun q => absurd q ne10, fun _ _ z => absurd c2 z⟩
      · rw [if_neg c2, if_neg c2]
        by_cases c3 : k < 0
        · rw [if_pos c3, if_pos c3]; exact ⟨rfl, fun q => absurd q ne10, fun _ _ _ z => absurd c3 z⟩
        · rw [if_neg c3, if_neg c3]
          by_cases c4 : cnt (nI q) ≤ k
          · have c5 : ¬ k < cnt (nI q) := by rw [Int32.lt_iff_toInt_lt]; rw [Int32.le_iff_toInt_le] at c4; omega
            rw [if_pos c4, if_neg c5]; exact ⟨rfl, fun q => absurd q ne10, fun _ _ _ _ z => absurd c4 z⟩
          · have c5 : k < cnt (nI q) := by rw [Int32.lt_iff_toInt_lt]; rw [Int32.le_iff_toInt_le] at c4; omega
            rw [if_neg c4, if_pos c5]
            obtain ⟨n', hn', rfl⟩ : ∃ n' : Nat, n' < (mny (nI q)).toNatClampNeg ∧ n = nI n' := by
              rw [s3] at c2
              exact vp_in_of (in_of c1 c2 (by omega)) (by omega)
            obtain ⟨k', hk', rfl⟩ : ∃ k' : Nat, k' < (cnt (nI q)).toNatClampNeg ∧ k = nI k' := by
              rw [s4] at c4
              exact vp_in_of (in_of c3 c4 (by omega)) (by omega)
            exact ⟨rfl, fun _ => h.1 q n' k' hq hn' hk', fun _ _ _ _ _ => kept_in q hq n' hn' k' hk'⟩
