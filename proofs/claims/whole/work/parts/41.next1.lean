/-! bounds behind a command; next's two forms -/
theorem cry_at {a d q N z : Nat} {fw fh qu : Int32} {C bf mf wf : IF} (hd : d ≤ 4) (hz : z ≤ 4096) (hq : q < 26) (haN : a + 1 + N ≤ 4096) (h0 : d = 0 → a + 1 + N ≤ z) (hv : ∀ j, j < fN q → ¬ myB (nI q) (nI j) (C j) = 0) (hp : ¬ plT (nI q) fw fh C = 0) (hs : ¬ stA (nI q) (nI d) qu C sfC wf = 0) (hb : ∀ j, j < d → ∃ b : Nat, b ≤ 4096 ∧ bf j = nI b ∧ (j = 0 → b ≤ z)) :
    ((cry (nI a) (nI d) 0 qu (nI q) (nI N) bf C sfC wf mf).2.2.1 = 0 ∨ (cry (nI a) (nI d) 0 qu (nI q) (nI N) bf C sfC wf mf).2.2.1 = 1) ∧
    ∃ d' a' : Nat, d' ≤ 4 ∧ (cry (nI a) (nI d) 0 qu (nI q) (nI N) bf C sfC wf mf).2.1 = nI d' ∧ a' ≤ 4096 ∧ (cry (nI a) (nI d) 0 qu (nI q) (nI N) bf C sfC wf mf).1 = nI a' ∧ (d' = 0 → a' ≤ z) ∧
      (∀ j, j < d' → ∃ b : Nat, b ≤ 4096 ∧ (cry (nI a) (nI d) 0 qu (nI q) (nI N) bf C sfC wf mf).2.2.2.2.1 j = nI b ∧ (j = 0 → b ≤ z)) := by
  obtain ⟨r0, r1, r2, r3, r4⟩ := rd_k (cf := C)
  have qq : ∀ n : Nat, n < 26 → (nI q = nI n ↔ q = n) := fun n hn => nI_eq (by omega) (by omega)
  have eP : nI a + (1 + nI N) = nI (a + 1 + N) := by rw [show (1 : Int32) = nI 1 from rfl, nI_add, nI_add, show a + (1 + N) = a + 1 + N by omega]
  unfold cry
  rw [eP]
  by_cases c0 : nI q = 0
  · rw [if_pos c0]
    by_cases e : d = 0
    · have e1 : nI d = 0 := (nI_z hd).2.mpr e
      rw [if_pos e1, if_pos e1, if_pos e1]
      exact ⟨Or.inr rfl, d, a + 1 + N, hd, rfl, haN, rfl, h0, hb⟩
    · have e1 : ¬ nI d = 0 := fun w => e ((nI_z hd).2.mp w)
      rw [if_neg e1, if_neg e1, if_neg e1, show (1 : Int32) = nI 1 from rfl, pk_sub (show 1 ≤ d by omega), rdA_nI (show d - 1 < 4 by omega) (by decide)]
      obtain ⟨b, hb1, hb2, hb3⟩ := hb (d - 1) (by omega)
      exact ⟨Or.inl rfl, d - 1, b, by omega, rfl, hb1, hb2, hb3, fun j hj => hb j (by omega)⟩
  · rw [if_neg c0]
    by_cases c6 : nI q = 6
    · rw [if_pos c6]; exact ⟨Or.inl rfl, d, a + 1 + N, hd, rfl, haN, rfl, h0, hb⟩
    · rw [if_neg c6]
      by_cases c19 : nI q = 19
      · rw [if_pos c19]
        by_cases v : rdA 258 C 1 = 1
        · rw [if_pos v]; exact ⟨Or.inl rfl, d, a + 1 + N, hd, rfl, haN, rfl, h0, hb⟩
        · rw [if_neg v]; exact ⟨Or.inl rfl, d, a + 1 + N, hd, rfl, haN, rfl, h0, hb⟩
      · rw [if_neg c19]
        by_cases c21 : nI q = 21
        · rw [if_pos c21]; exact ⟨Or.inl rfl, d, a + 1 + N, hd, rfl, haN, rfl, h0, hb⟩
        · rw [if_neg c21]
          by_cases c23 : nI q = 23
          · have e : q = 23 := (qq 23 (by decide)).mp c23
            subst e
            have e2 : stA (nI 23) (nI d) qu C sfC wf = if 4 ≤ nI d then 0 else 1 := rfl
            rw [e2] at hs
            have hd3 : d < 4 := by
              refine Classical.byContradiction fun c => hs ?_
              rw [if_pos (show (4 : Int32) ≤ nI d from nI_le (a := 4) (by omega) (by omega))]
            obtain ⟨f, -, hf, ef⟩ := mb_nat (lo := 0) (hi := 1048576) (by decide +kernel : colm (nI 23) (nI 0) 0 = 0) (by decide +kernel : colm (nI 23) (nI 0) 1 = 1048576) (by decide) (by decide) (hv 0 (by decide +kernel))
            have e3 : plT (nI 23) fw fh C = inM (rdA 258 C 0) 1 := rfl
            rw [e3, r0, ef, show (1 : Int32) = nI 1 from rfl, inM_at hf (by decide)] at hp
            rw [if_pos c23, r0, ef, wrA_nI hd3 (by decide)]
            refine ⟨Or.inl rfl, d + 1, f, by omega, nI_1 d, by omega, rfl, fun w => absurd w (by omega), fun j hj => ?_⟩
            show ∃ b : Nat, b ≤ 4096 ∧ upd bf d (nI (a + 1 + N)) j = nI b ∧ (j = 0 → b ≤ z)
            by_cases c : j = d
            · subst c; rw [pk_us]; exact ⟨a + 1 + N, haN, rfl, h0⟩
            · rw [pk_un c]; exact hb j (by omega)
          · rw [if_neg c23]; exact ⟨Or.inl rfl, d, a + 1 + N, hd, rfl, haN, rfl, h0, hb⟩
theorem lokM_le {wi hg zs ta de dq qe ag : Int32} {mF qF aF kF : IF} (h : (lokM wi hg zs ta de dq qe ag mF qF aF kF).1 ≤ 0) : (lokM wi hg zs ta de dq qe ag mF qF aF kF).1 = 0 := by
  revert h
  rw [lokM_eq]
  unfold lokB
  repeat' split
  all_goals (dsimp only; intro h; first | rfl | exact absurd h (by decide))
theorem nxC_over {sl fw fh pl dp lp ld dn rf qu ov kd mn : Int32} {bf cf mf qf sf wf : IF} (h : ¬ ov = 0) : nxC sl fw fh pl dp lp ld dn rf qu ov kd mn bf cf mf qf sf wf = (1, 0, kd, mn, pl, dp, lp, ld, dn, rf, qu, ov, bf, cf, wf, mf) := by
  unfold nxC; rw [if_neg h]
theorem nxC_no {sl fw fh pl dp lp ld dn rf qu kd mn : Int32} {bf cf mf qf sf wf : IF} (h : ¬ rfH dn dp pl sl fw fh qu mf qf sf wf kd mn cf = 0) : nxC sl fw fh pl dp lp ld dn rf qu 0 kd mn bf cf mf qf sf wf = (0, (-1), 0, 0, pl, dp, pl, dp, dn, (rfH dn dp pl sl fw fh qu mf qf sf wf kd mn cf), qu, 1, bf, (rfC dn dp pl sl mf qf kd mn cf).2.2, wf, mf) := by
  unfold nxC; rw [if_pos rfl, if_neg h]
theorem nxC_go {sl fw fh pl dp lp ld dn rf qu kd mn k n : Int32} {bf cf mf qf sf wf C : IF} (h : rfH dn dp pl sl fw fh qu mf qf sf wf kd mn cf = 0) (e : rfC dn dp pl sl mf qf kd mn cf = (k, n, C)) : nxC sl fw fh pl dp lp ld dn rf qu 0 kd mn bf cf mf qf sf wf = (0, k, k, n, (cry pl dp 0 qu k n bf C sf wf mf).1, (cry pl dp 0 qu k n bf C sf wf mf).2.1, pl, dp, (dn + 1), rf, (cry pl dp 0 qu k n bf C sf wf mf).2.2.2.1, (cry pl dp 0 qu k n bf C sf wf mf).2.2.1, (cry pl dp 0 qu k n bf C sf wf mf).2.2.2.2.1, C, (cry pl dp 0 qu k n bf C sf wf mf).2.2.2.2.2.1, (cry pl dp 0 qu k n bf C sf wf mf).2.2.2.2.2.2) := by
  unfold nxC; rw [if_pos rfl, if_pos h, e]
theorem nxM_over {wi hg zs ta de oe re pa ee dq qe ag : Int32} {mF qF bF aF kF : IF} (h : ¬ oe = 0) : nxM wi hg zs ta de oe re pa ee dq qe ag mF qF bF aF kF = (0, 1, ta, de, oe, re, pa, ee, dq, qe, ag, mF, bF, aF, kF) := by
  unfold nxM; rw [if_neg h, if_neg h]
theorem nxM_no {wi hg zs ta de re pa ee dq qe ag : Int32} {mF qF bF aF kF : IF} (h : ¬ (lokM wi hg zs ta de dq qe ag mF qF aF kF).1 ≤ 0) : nxM wi hg zs ta de 0 re pa ee dq qe ag mF qF bF aF kF = ((-1), 0, ta, de, 1, ((lokM wi hg zs ta de dq qe ag mF qF aF kF).1), ta, de, dq, qe, 0, mF, bF, (lokM wi hg zs ta de dq qe ag mF qF aF kF).2.2, kF) := by
  unfold nxM; rw [if_pos rfl, if_neg h, if_pos rfl]
theorem nxM_end {wi hg zs ta de re pa ee dq qe ag n : Int32} {mF qF bF aF kF A : IF} (e : lokM wi hg zs ta de dq qe ag mF qF aF kF = (0, n, A)) (h1 : de = 0) (h2 : ta = zs) : nxM wi hg zs ta de 0 re pa ee dq qe ag mF qF bF aF kF = (0, 0, (prM ta de 0 qe n 0 mF bF A kF).1, (prM ta de 0 qe n 0 mF bF A kF).2.1, (prM ta de 0 qe n 0 mF bF A kF).2.2.1, re, ta, de, (dq + 1), (prM ta de 0 qe n 0 mF bF A kF).2.2.2.1, n, (prM ta de 0 qe n 0 mF bF A kF).2.2.2.2.2.2, (prM ta de 0 qe n 0 mF bF A kF).2.2.2.2.1, A, (prM ta de 0 qe n 0 mF bF A kF).2.2.2.2.2.1) := by
  unfold nxM; rw [e, if_pos rfl, if_pos (show (0 : Int32) ≤ 0 by decide), if_pos h1, if_pos h2, if_pos rfl]
theorem nxM_go {wi hg zs ta de re pa ee dq qe ag n : Int32} {mF qF bF aF kF A : IF} (e : lokM wi hg zs ta de dq qe ag mF qF aF kF = (0, n, A)) (h : ¬ (de = 0 ∧ ta = zs)) : nxM wi hg zs ta de 0 re pa ee dq qe ag mF qF bF aF kF = (mrd de mF qF ta, 0, (prM (ta + 1 + n) de 0 qe n (mrd de mF qF ta) mF bF A kF).1, (prM (ta + 1 + n) de 0 qe n (mrd de mF qF ta) mF bF A kF).2.1, (prM (ta + 1 + n) de 0 qe n (mrd de mF qF ta) mF bF A kF).2.2.1, re, ta, de, (dq + 1), (prM (ta + 1 + n) de 0 qe n (mrd de mF qF ta) mF bF A kF).2.2.2.1, n, (prM (ta + 1 + n) de 0 qe n (mrd de mF qF ta) mF bF A kF).2.2.2.2.2.2, (prM (ta + 1 + n) de 0 qe n (mrd de mF qF ta) mF bF A kF).2.2.2.2.1, A, (prM (ta + 1 + n) de 0 qe n (mrd de mF qF ta) mF bF A kF).2.2.2.2.2.1) := by
  unfold nxM
  rw [e, if_pos rfl, if_pos (show (0 : Int32) ≤ 0 by decide)]
  by_cases h1 : de = 0
  · rw [if_pos h1, if_neg (fun w => h ⟨h1, w⟩), if_pos rfl]
  · rw [if_neg h1, if_pos rfl]
