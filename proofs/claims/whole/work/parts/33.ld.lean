/-! a command's arguments, loaded: alike -/
theorem it_upd (g : Nat → Int32) (w : IF) (N : Nat) : ∀ p, itN (fun j w => upd w j (g j)) N w p = if p < N then g p else w p := by
  induction N with
  | zero => intro p; rw [if_neg (Nat.not_lt_zero p)]; rfl
  | succ m ih =>
    intro p
    show upd (itN (fun j w => upd w j (g j)) m w) m (g m) p = _
    by_cases e : p = m
    · subst e; rw [pk_us, if_pos (Nat.lt_succ_self p)]
    · rw [pk_un e, ih p]
      by_cases c : p < m
      · rw [if_pos c, if_pos (by omega)]
      · rw [if_neg c, if_neg (by omega)]
theorem it_congr {α : Type} {s1 s2 : Nat → α → α} (N : Nat) (h : ∀ j, j < N → ∀ w, s1 j w = s2 j w) (w : α) : itN s1 N w = itN s2 N w := by
  induction N with
  | zero => rfl
  | succ m ih =>
    show s1 m (itN s1 m w) = s2 m (itN s2 m w)
    rw [ih (fun j hj => h j (by omega)), h m (by omega)]
theorem lnN_258 {d z a q : Nat} {mf qf : IF} (hq : q < 26) : lnN d z a q mf qf ≤ 258 ∧ fN q ≤ lnN d z a q mf qf := by
  have h := (fN_at q hq).2.2.2.2.1
  unfold lnN
  split
  · rename_i c; subst c
    rw [f21]
    split
    · omega
    · have := clN_le (srcS d mf qf (a + 2)); omega
  · omega
theorem ldC_at {d a N : Nat} {mf qf cf : IF} (hd : d ≤ 4) (hN : N ≤ 258) (ha : a + N < 4096) : ∀ p, ldC (nI d) (nI a) mf qf (nI N) cf p = if p < N then srcS d mf qf (a + 1 + p) else cf p := by
  intro p
  unfold ldC
  rw [nI_clamp (by omega), ← it_upd (fun j => srcS d mf qf (a + 1 + j)) cf N p]
  refine congrFun (it_congr N (fun j hj w => ?_) cf) p
  rw [wrA_nI (by omega) (by decide), nI_1, nI_add, srcW_at hd (by omega)]
theorem ldM_at {d a N : Nat} {mf qf aF : IF} (hd : d ≤ 4) (hN : N ≤ 258) (ha : a + N < 4096) : ∀ p, itN (fun j a' => upd a' (nI j).toNatClampNeg (mrd (nI d) mf qf (nI a + 1 + nI j))) N aF p = if p < N then srcS d mf qf (a + 1 + p) else aF p := by
  intro p
  rw [← it_upd (fun j => srcS d mf qf (a + 1 + j)) aF N p]
  refine congrFun (it_congr N (fun j hj w => ?_) aF) p
  rw [nI_clamp (by omega), nI_1, nI_add, mrd_at hd (by omega)]
theorem gdM_at {d a q : Nat} {mf qf : IF} (hd : d ≤ 4) (N : Nat) (hN : N ≤ 1000) (ha : a ≤ 4096) : gdM (nI d) (nI a) mf qf (nI q) N = 0 ↔ ∃ j, j < N ∧ mayM (nI q) (nI j) (srcS d mf qf (a + 1 + j)) = 0 := by
  induction N with
  | zero => exact ⟨fun h => absurd h ne10, fun ⟨j, hj, _⟩ => absurd hj (Nat.not_lt_zero j)⟩
  | succ m ih =>
    have ihm := ih (by omega)
    have e : gdM (nI d) (nI a) mf qf (nI q) (m + 1) = if gdM (nI d) (nI a) mf qf (nI q) m = 0 then 0 else if mayM (nI q) (nI m) (mrd (nI d) mf qf (nI a + 1 + nI m)) = 0 then 0 else 1 := rfl
    rw [e, nI_1, nI_add, mrd_at hd (by omega)]
    by_cases c1 : gdM (nI d) (nI a) mf qf (nI q) m = 0
    · rw [if_pos c1]
      obtain ⟨j, hj, h⟩ := ihm.mp c1
      exact ⟨fun _ => ⟨j, by omega, h⟩, fun _ => rfl⟩
    · rw [if_neg c1]
      by_cases c2 : mayM (nI q) (nI m) (srcS d mf qf (a + 1 + m)) = 0
      · rw [if_pos c2]; exact ⟨fun _ => ⟨m, by omega, c2⟩, fun _ => rfl⟩
      · rw [if_neg c2]
        refine ⟨fun h => absurd h ne10, fun ⟨j, hj, h⟩ => ?_⟩
        by_cases e2 : j = m
        · subst e2; exact absurd h c2
        · exact absurd (ihm.mpr ⟨j, by omega, h⟩) c1
theorem vmB_at {q : Nat} {cf : IF} (hq : q < 26) : vmB (nI q) cf = 0 ↔ ∃ j, j < fN q ∧ myB (nI q) (nI j) (cf j) = 0 := by
  have hx := (fN_at q hq).1
  have h8 := (fN_at q hq).2.2.2.2.1
  have hx2 : (fxd (nI q)).toNatClampNeg = fN q := by rw [hx, nI_clamp (by omega)]
  unfold vmB
  rw [hx2]
  by_cases c : ∀ j, j < fN q → ¬ myB (nI q) (nI j) (rdA 258 cf (nI j)) = 0
  · rw [if_pos c]
    refine ⟨fun h => absurd h ne10, fun ⟨j, hj, h⟩ => ?_⟩
    have := c j hj
    rw [rdA_nI (by omega) (by decide)] at this
    exact absurd h this
  · rw [if_neg c]
    refine ⟨fun _ => ?_, fun _ => rfl⟩
    refine Classical.byContradiction fun hn => c fun j hj h => hn ⟨j, hj, ?_⟩
    rw [rdA_nI (by omega) (by decide)] at h
    exact h
/-- VALUE: alike -/
theorem sim_value {d z a q : Nat} {mf qf cf : IF} (hd : d ≤ 4) (hq : q < 26) (ha : a + lnN d z a q mf qf < 4096) : vmB (nI q) (ldC (nI d) (nI a) mf qf (nI (lnN d z a q mf qf)) cf) = 0 ↔ gdM (nI d) (nI a) mf qf (nI q) (lnN d z a q mf qf) = 0 := by
  obtain ⟨h1, h2⟩ := lnN_258 (d := d) (z := z) (a := a) (mf := mf) (qf := qf) hq
  have h8 := (fN_at q hq).2.2.2.2.1
  rw [vmB_at hq, gdM_at hd _ (by omega) (by omega)]
  constructor
  · rintro ⟨j, hj, h⟩
    rw [ldC_at hd h1 ha, if_pos (by omega)] at h
    exact ⟨j, by omega, (mb_all hq hj _).mp h⟩
  · rintro ⟨j, hj, h⟩
    by_cases c : j < fN q
    · exact ⟨j, c, by rw [ldC_at hd h1 ha, if_pos hj]; exact (mb_all hq c _).mpr h⟩
    · exfalso
      have q2 : q = 21 := by
        refine Classical.byContradiction fun hc => c ?_
        have e : lnN d z a q mf qf = fN q := by unfold lnN; rw [if_neg hc]; rfl
        omega
      subst q2
      rw [f21] at c
      rw [may_more (by omega) (by omega)] at h
      exact ne10 h
