/-! the told words stay alike -/
theorem it_off {st : Nat → IF → IF} {r : Nat} (N : Nat) (h : ∀ j, j < N → ∀ w, st j w r = w r) (w : IF) : itN st N w r = w r := by
  induction N with
  | zero => rfl
  | succ m ih => exact (h m (by omega) _).trans (ih (fun j hj => h j (by omega)))
theorem unif_off {kF mf M : IF} {u m f r : Nat} (a0 : M 0 = nI u) (a1 : M 1 = nI m) (hu : u + m ≤ 32) (hr : 960 ≤ r) :
    itN (fun j w => upd w (rwO 5 ((M (0 : Int32).toNatClampNeg) + nI j / 4) + 1 + (nI j - nI j / 4 * 4)).toNatClampNeg (mf ((M (2 : Int32).toNatClampNeg) + nI j).toNatClampNeg)) ((4 * (M (1 : Int32).toNatClampNeg)).toNatClampNeg) kF r = kF r := by
  obtain ⟨k0, k1, k2, -⟩ := cl0
  rw [k0, k1, k2, a0, a1, show (4 : Int32) * nI m = nI (4 * m) from pk_mul 4 m, nI_clamp (show 4 * m < 2 ^ 31 by omega)]
  refine it_off _ (fun j hj w => ?_) kF
  have four : (4 : Int32) = nI 4 := rfl
  have hdv : nI j / 4 = nI (j / 4) := by rw [four, pk_div (by omega) (by decide) (by decide)]
  have hrm : nI j - nI j / 4 * 4 = nI (j % 4) := by rw [four, pk_rem (by omega) (by decide) (by decide)]
  rw [hrm, hdv, nI_add, show (5 : Int32) = nI 5 from rfl, rwO_at (by decide), hf5.2, show (1 : Int32) = nI 1 from rfl, nI_add, nI_add, nI_clamp (by omega)]
  exact pk_un (by omega)
theorem h78 : rwO 7 0 = nI 1120 ∧ rwO 8 0 = nI 1280 ∧ hN 7 = 1 ∧ hN 8 = 1 ∧ fN 7 = 2 ∧ fN 8 = 2 := by decide +kernel
theorem told78 {wf kF : IF} (h : toldR wf kF) : (kF 1120 = -1 ∨ ¬ kF 1120 < 0) ∧ (kF 1280 = -1 ∨ ¬ kF 1280 < 0) := by
  have a := h.2
  rw [h78.1, h78.2.1, nI_clamp (by decide), nI_clamp (by decide)] at a
  exact a
/-- .. behind UNIFORMS -/
theorem toldR_unif {C M mf wf kF : IF} {u m f : Nat} (e0 : C 0 = nI u) (e1 : C 1 = nI m) (e2 : C 2 = nI f) (a0 : M 0 = nI u) (a1 : M 1 = nI m) (a2 : M 2 = nI f) (hu : u + m ≤ 32) (hf : f + 4 * m ≤ 4096 ∨ m = 0) (h : toldR wf kF) :
    toldR (kuA sfC mf C wf) (itN (fun j w => upd w (rwO 5 ((M (0 : Int32).toNatClampNeg) + nI j / 4) + 1 + (nI j - nI j / 4 * 4)).toNatClampNeg (mf ((M (2 : Int32).toNatClampNeg) + nI j).toNatClampNeg)) ((4 * (M (1 : Int32).toNatClampNeg)).toNatClampNeg) kF) := by
  obtain ⟨p7, p8⟩ := told78 h
  refine toldR_of (sim_kuA e0 e1 e2 a0 a1 a2 hu hf (tR_of h)) ?_ ?_
  · rw [unif_off (f := f) a0 a1 hu (by decide)]; exact p7
  · rw [unif_off (f := f) a0 a1 hu (by decide)]; exact p8
/-- .. behind a command that is kept -/
theorem toldR_keep {q N : Nat} {C M wf kF : IF} (hq : q < 26) (hN1 : N = fN q) (h : toldR wf kF) (hag : ∀ j, j < fN q → C j = M j) (hv : ∀ j, j < fN q → ¬ myB (nI q) (nI j) (C j) = 0) : toldR (kpW sfC (nI q) (nI N) C wf) (keM (nI N) M kF (nI q)) := by
  obtain ⟨p7, p8⟩ := told78 h
  obtain ⟨-, -, g7, g8, f7, f8⟩ := h78
  have hu : ¬ hN q ≤ 1 → ∃ u : Nat, u < hN q ∧ M 0 = nI u := by
    intro c
    obtain ⟨s1, s2, s3⟩ := tb_hold q hq (by omega)
    have t6 := (fN_at q hq).2.2.2.2.2.1
    obtain ⟨u, -, hu, eu⟩ := mb_nat (lo := 0) (hi := hN q - 1) s1 s2 (by decide) (nI_toInt (by omega)) (hv 0 s3)
    exact ⟨u, by omega, by rw [← hag 0 s3]; exact eu⟩
  have pos : ∀ p, p = 7 ∨ p = 8 → q = p → ¬ M 0 < 0 := by
    intro p hp e
    subst e
    have key : ∀ k, (k = 7 ∨ k = 8) → colm (nI k) (nI 0) 0 = 0 ∧ colm (nI k) (nI 0) 1 = 1048576 ∧ 0 < fN k := by
      intro k hk; rcases hk with rfl | rfl <;> decide +kernel
    obtain ⟨t1, t2, t5⟩ := key q hp
    obtain ⟨f, -, hf, ef⟩ := mb_nat (lo := 0) (hi := 1048576) t1 t2 (by decide) (by decide) (hv 0 t5)
    rw [← hag 0 t5, ef]; exact nI_pos (by omega)
  refine toldR_of (sim_keep hq hN1 (tR_of h) hag hv) ?_ ?_
  · by_cases c : q = 7
    · have m := pos 7 (Or.inl rfl) c
      subst c
      right
      rw [keM_at (by decide) hN1 g7, if_pos (by omega)]; exact m
    · have := keM_off (kF := kF) hq hN1 (show 7 < 26 by decide) c hu
      rw [show 160 * 7 = 1120 from rfl] at this
      rw [this]; exact p7
  · by_cases c : q = 8
    · have m := pos 8 (Or.inr rfl) c
      subst c
      right
      rw [keM_at (by decide) hN1 g8, if_pos (by omega)]; exact m
    · have := keM_off (kF := kF) hq hN1 (show 8 < 26 by decide) c hu
      rw [show 160 * 8 = 1280 from rfl] at this
      rw [this]; exact p8
theorem toldR_untold (w kF : IF) : toldR (fgA sfC w) (noT kF) := toldR_of (sim_untold w kF) (Or.inl (noT_78 kF).1) (Or.inl (noT_78 kF).2)
