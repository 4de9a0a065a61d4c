/-! uniforms, forgetting -/
theorem hf5 : hN 5 = 32 ∧ fN 5 = 5 := by decide +kernel
theorem sim_u1 {w q mf : IF} (h : tR w q) {u f m j : Nat} (hu : u + m < 32) (hj : j < 4) (hf : f + 4 * m + j < 4096) :
    tR (wrA 303 w (plc sfC 5 (nI u + nI m) (nI j + 1)) (rdA 4096 mf (nI f + 4 * nI m + nI j))) (upd q (rwO 5 (nI u + nI (4 * m + j) / 4) + 1 + (nI (4 * m + j) - nI (4 * m + j) / 4 * 4)).toNatClampNeg (mf (nI f + nI (4 * m + j)).toNatClampNeg)) := by
  have h5 : (5 : Int32) = nI 5 := rfl
  have h4 : (4 : Int32) = nI 4 := rfl
  have h1 : (1 : Int32) = nI 1 := rfl
  have hd : nI (4 * m + j) / 4 = nI m := by rw [h4, pk_div (by omega) (by decide) (by decide), show (4 * m + j) / 4 = m by omega]
  have hr : nI (4 * m + j) - nI (4 * m + j) / 4 * 4 = nI j := by rw [h4, pk_rem (by omega) (by decide) (by decide), show (4 * m + j) % 4 = j by omega]
  have hb : u + m < hN 5 := by rw [hf5.1]; exact hu
  have hc : j + 1 < fN 5 := by rw [hf5.2]; omega
  have e1 : rwO (nI 5) (nI (u + m)) + nI 1 + nI j = rwO (nI 5) (nI (u + m)) + nI (j + 1) := by rw [Int32.add_assoc, nI_add 1 j, show 1 + j = j + 1 by omega]
  have e2 : nI f + nI 4 * nI m + nI j = nI (f + 4 * m + j) := by rw [pk_mul, nI_add, nI_add]
  rw [hr, hd, nI_add u m, nI_1 j, h5, wr_at (k := 5) (by decide) hb hc, h1, e1, rowC (by decide) hb hc, h4, e2, rdA_nI hf (by decide), nI_add, nI_clamp (by omega), show f + (4 * m + j) = f + 4 * m + j by omega]
  exact tR_put h (by decide) hb hc _
theorem kuI4 (sf mf : IF) (n fr : Int32) (w : IF) : kuI sf mf n fr w = (fun j w => wrA 303 w (plc sf 5 n (nI j + 1)) (rdA 4096 mf (fr + nI j))) 3 ((fun j w => wrA 303 w (plc sf 5 n (nI j + 1)) (rdA 4096 mf (fr + nI j))) 2 ((fun j w => wrA 303 w (plc sf 5 n (nI j + 1)) (rdA 4096 mf (fr + nI j))) 1 ((fun j w => wrA 303 w (plc sf 5 n (nI j + 1)) (rdA 4096 mf (fr + nI j))) 0 w))) := by
  unfold kuI
  rw [show (4 : Int32).toNatClampNeg = 4 from by decide]
  rfl
theorem it4 {st : Nat → IF → IF} (m : Nat) (w : IF) : itN st (4 * (m + 1)) w = st (4 * m + 3) (st (4 * m + 2) (st (4 * m + 1) (st (4 * m) (itN st (4 * m) w)))) := by
  rw [show 4 * (m + 1) = 4 * m + 4 by omega]
  rfl
theorem sim_unif {wf kF mf : IF} (h : tR wf kF) {u f : Nat} (N : Nat) (hu : u + N ≤ 32) (hf : f + 4 * N ≤ 4096) :
    tR (itN (fun i w => kuI sfC mf (nI u + nI i) (nI f + 4 * nI i) w) N wf) (itN (fun j w => upd w (rwO 5 (nI u + nI j / 4) + 1 + (nI j - nI j / 4 * 4)).toNatClampNeg (mf (nI f + nI j).toNatClampNeg)) (4 * N) kF) := by
  induction N with
  | zero => exact h
  | succ m ih =>
    have ihm := ih (by omega) (by omega)
    have a0 := sim_u1 (mf := mf) ihm (u := u) (f := f) (m := m) (j := 0) (by omega) (by decide) (by omega)
    have a1 := sim_u1 (mf := mf) a0 (u := u) (f := f) (m := m) (j := 1) (by omega) (by decide) (by omega)
    have a2 := sim_u1 (mf := mf) a1 (u := u) (f := f) (m := m) (j := 2) (by omega) (by decide) (by omega)
    have a3 := sim_u1 (mf := mf) a2 (u := u) (f := f) (m := m) (j := 3) (by omega) (by decide) (by omega)
    rw [it4]
    show tR (kuI sfC mf (nI u + nI m) (nI f + 4 * nI m) _) _
    rw [kuI4]
    exact a3
/-- untold -/
def unT (k n j : Nat) : Int32 := if j = 0 ∧ ¬ nmH (nI k) = 0 then nI n else colm (nI k) (nI j) 2
theorem fg_in {k n : Nat} (hk : k < 26) (hn : n < hN k) (g : Nat → Int32) (w : IF) (N : Nat) (hN : N ≤ fN k) :
    (∀ j, j < N → itN (fun j w => wrA 303 w (plc sfC (nI k) (nI n) 0 + nI j) (g j)) N w (sN k + n * fN k + j) = g j) ∧
    (∀ p, (p < sN k + n * fN k ∨ sN k + n * fN k + N ≤ p) → itN (fun j w => wrA 303 w (plc sfC (nI k) (nI n) 0 + nI j) (g j)) N w p = w p) := by
  induction N with
  | zero => exact ⟨fun j hj => absurd hj (Nat.not_lt_zero j), fun _ _ => rfl⟩
  | succ m ih =>
    obtain ⟨i1, i2⟩ := ih (by omega)
    have e : itN (fun j w => wrA 303 w (plc sfC (nI k) (nI n) 0 + nI j) (g j)) (m + 1) w = upd (itN (fun j w => wrA 303 w (plc sfC (nI k) (nI n) 0 + nI j) (g j)) m w) (sN k + n * fN k + m) (g m) := wr_at0 hk hn (by omega)
    rw [e]
    refine ⟨fun j hj => ?_, fun p hp => ?_⟩
    · by_cases q : j = m
      · subst q; exact pk_us
      · rw [pk_un (by omega)]; exact i1 j (by omega)
    · rw [pk_un (by omega)]; exact i2 p (by omega)
theorem fN_pos0 : ∀ k, k < 26 → 0 < hN k → 0 < fN k := by decide +kernel
theorem fN_pos {k n : Nat} (hk : k < 26) (hn : n < hN k) : 0 < fN k := fN_pos0 k hk (by omega)
theorem fgO_at {k n : Nat} (hk : k < 26) (hn : n < hN k) (w : IF) :
    (∀ j, j < fN k → fgO sfC (nI k) (nI n) w (sN k + n * fN k + j) = unT k n j) ∧ (∀ p, (p < sN k + n * fN k ∨ sN k + n * fN k + fN k ≤ p) → fgO sfC (nI k) (nI n) w p = w p) := by
  obtain ⟨a1, a2⟩ := fg_in hk hn (fun j => colm (nI k) (nI j) 2) w (fN k) (Nat.le_refl _)
  have hx := (fN_at k hk).1
  have hx2 : (fxd (nI k)).toNatClampNeg = fN k := by rw [hx, nI_clamp (by have := (fN_at k hk).2.2.2.2.1; omega)]
  unfold fgO
  rw [hx2]
  by_cases c : nmH (nI k) = 0
  · rw [if_pos c]
    refine ⟨fun j hj => ?_, a2⟩
    rw [a1 j hj]; unfold unT; rw [if_neg (fun z => z.2 c)]
  · rw [if_neg c]
    refine ⟨fun j hj => ?_, fun p hp => ?_⟩
    · have e : wrA 303 (itN (fun j w => wrA 303 w (plc sfC (nI k) (nI n) 0 + nI j) (colm (nI k) (nI j) 2)) (fN k) w) (plc sfC (nI k) (nI n) 0) (nI n) = upd (itN (fun j w => wrA 303 w (plc sfC (nI k) (nI n) 0 + nI j) (colm (nI k) (nI j) 2)) (fN k) w) (sN k + n * fN k + 0) (nI n) := wr_at (j := 0) hk hn (by omega)
      rw [e]
      unfold unT
      by_cases q : j = 0
      · subst q; rw [if_pos ⟨rfl, c⟩]; exact pk_us
      · rw [if_neg (fun z => q z.1), pk_un (by omega)]; exact a1 j hj
    · by_cases z : 0 < fN k
      · have e : wrA 303 (itN (fun j w => wrA 303 w (plc sfC (nI k) (nI n) 0 + nI j) (colm (nI k) (nI j) 2)) (fN k) w) (plc sfC (nI k) (nI n) 0) (nI n) = upd (itN (fun j w => wrA 303 w (plc sfC (nI k) (nI n) 0 + nI j) (colm (nI k) (nI j) 2)) (fN k) w) (sN k + n * fN k + 0) (nI n) := wr_at (j := 0) hk hn z
        rw [e, pk_un (by omega)]; exact a2 p hp
      · exact absurd (fN_pos hk hn) z
theorem fg_n {k : Nat} (hk : k < 26) (w : IF) (N : Nat) (hN' : N ≤ hN k) :
    (∀ n j, n < N → j < fN k → itN (fun n w => fgO sfC (nI k) (nI n) w) N w (sN k + n * fN k + j) = unT k n j) ∧ (∀ p, (p < sN k ∨ sN k + N * fN k ≤ p) → itN (fun n w => fgO sfC (nI k) (nI n) w) N w p = w p) := by
  induction N with
  | zero => exact ⟨fun n j hn => absurd hn (Nat.not_lt_zero n), fun _ _ => rfl⟩
  | succ m ih =>
    obtain ⟨i1, i2⟩ := ih (by omega)
    obtain ⟨a1, a2⟩ := fgO_at hk (show m < hN k by omega) (itN (fun n w => fgO sfC (nI k) (nI n) w) m w)
    refine ⟨fun n j hn hj => ?_, fun p hp => ?_⟩
    · by_cases q : n = m
      · subst q; exact a1 j hj
      · have h1 := lt_mul (show n < m by omega) hj
        exact (a2 _ (Or.inl (by omega))).trans (i1 n j (by omega) hj)
    · have h1 : (m + 1) * fN k = m * fN k + fN k := Nat.succ_mul m (fN k)
      exact (a2 p (by omega)).trans (i2 p (by omega))
theorem fg_k (w : IF) (K : Nat) (hK : K ≤ 26) : ∀ k n j, k < K → n < hN k → j < fN k → itN (fun k w => itN (fun n w => fgO sfC (nI k) (nI n) w) (hld (nI k)).toNatClampNeg w) K w (sN k + n * fN k + j) = unT k n j := by
  induction K with
  | zero => exact fun k n j hk => absurd hk (Nat.not_lt_zero k)
  | succ m ih =>
    intro k n j hk hn hj
    have hh : (hld (nI m)).toNatClampNeg = hN m := by
      have := fN_at m (by omega)
      rw [this.2.2.2.1, nI_clamp (by omega)]
    obtain ⟨a1, a2⟩ := fg_n (show m < 26 by omega) (itN (fun k w => itN (fun n w => fgO sfC (nI k) (nI n) w) (hld (nI k)).toNatClampNeg w) m w) (hN m) (Nat.le_refl _)
    show itN (fun n w => fgO sfC (nI m) (nI n) w) (hld (nI m)).toNatClampNeg (itN (fun k w => itN (fun n w => fgO sfC (nI k) (nI n) w) (hld (nI k)).toNatClampNeg w) m w) _ = _
    rw [hh]
    by_cases q : k = m
    · subst q; exact a1 n j hn hj
    · have h1 := lt_mul hn hj
      have h2 := sN_apart k (by omega) m (by omega) (by omega)
      rw [a2 _ (Or.inl (by omega))]
      exact ih (by omega) k n j (by omega) hn hj
theorem fgA_at (w : IF) {k n j : Nat} (hk : k < 26) (hn : n < hN k) (hj : j < fN k) : fgA sfC w (sN k + n * fN k + j) = unT k n j := fg_k w 26 (Nat.le_refl _) k n j hk hn hj
/-- the reference's words untold -/
def agr (w q : IF) : Prop := ∀ r, r < 4160 → w r = q r
theorem agr_upd {w q : IF} (h : agr w q) (i : Nat) (v : Int32) : agr (upd w i v) (upd q i v) := fun r hr => by
  by_cases e : r = i
  · subst e; rw [pk_us, pk_us]
  · rw [pk_un e, pk_un e]; exact h r hr
theorem agr_it {st : Nat → IF → IF} (hs : ∀ i w q, agr w q → agr (st i w) (st i q)) (N : Nat) {w q : IF} (h : agr w q) : agr (itN st N w) (itN st N q) := by
  induction N with
  | zero => exact h
  | succ m ih => exact hs m _ _ ih
theorem agr_z (w : IF) (N : Nat) : ∀ r, r < N → N < 2147483648 → itN (fun j w => upd w (nI j).toNatClampNeg 0) N w r = 0 := by
  induction N with
  | zero => exact fun r h => absurd h (Nat.not_lt_zero r)
  | succ m ih =>
    intro r hr hm
    show upd (itN (fun j w => upd w (nI j).toNatClampNeg 0) m w) (nI m).toNatClampNeg 0 r = 0
    rw [nI_clamp (by omega)]
    by_cases e : r = m
    · subst e; exact pk_us
    · rw [pk_un e]; exact ih r (by omega) (by omega)
