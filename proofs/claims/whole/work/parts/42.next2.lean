/-! the class's state beside the reference's, and next -/
def R0 (sl pl dp dn ov mn ta : Int32) (bf cf aF wf kF : IF) : Prop := ∃ z d c n a : Nat, z ≤ 4096 ∧ sl = nI z ∧ d ≤ 4 ∧ dp = nI d ∧ c ≤ 2000 ∧ dn = nI c ∧ n ≤ 258 ∧ mn = nI n ∧ (∀ j, j < n → cf j = aF j) ∧ (ov = 0 ∨ ov = 1) ∧ a ≤ 4096 ∧ ta = nI a ∧ (d = 0 → a ≤ z) ∧ (ov = 0 → pl = ta) ∧ (∀ j, j < d → ∃ b : Nat, b ≤ 4096 ∧ bf j = nI b ∧ (j = 0 → b ≤ z)) ∧ toldR wf kF
def Rl (sl fw fh pl dp lp ld dn rf qu ov mn : Int32) (mf qf bf cf wf : IF) (wi hg zs ta de oe re pa ee dq qe ag : Int32) (mF qF bF aF kF : IF) : Prop := wi = fw ∧ hg = fh ∧ zs = sl ∧ de = dp ∧ oe = ov ∧ re = rf ∧ pa = lp ∧ ee = ld ∧ dq = dn ∧ qe = qu ∧ ag = mn ∧ mF = mf ∧ qF = qf ∧ bF = bf ∧ R0 sl pl dp dn ov mn ta bf cf aF wf kF
theorem lnN_off {d z a q : Nat} {mf qf : IF} (h : ¬ q = 21) : lnN d z a q mf qf = fN q := by unfold lnN; rw [if_neg h]; rfl
theorem lnN_21 {d z a m : Nat} {mf qf : IF} (hl : a + lnN d z a 21 mf qf < lenS d z) (hm : m ≤ 256) (e : srcS d mf qf (a + 1 + 1) = nI m) : lnN d z a 21 mf qf = 2 + m := by
  have h2 : ¬ lenS d z ≤ a + 2 := fun w => by
    unfold lnN at hl
    rw [if_pos rfl, if_pos w, f21] at hl
    omega
  unfold lnN
  rw [if_pos rfl, if_neg h2, f21, e]
  unfold clN
  rw [nI_toInt (by omega), if_neg (by omega), if_neg (by omega)]
  omega
/-- next: alike, and the states stay alike -/
theorem sim_next {sl fw fh pl dp lp ld dn rf qu ov kd mn : Int32} {mf qf bf cf wf : IF} {wi hg zs ta de oe re pa ee dq qe ag : Int32} {mF qF bF aF kF : IF} (h : Rl sl fw fh pl dp lp ld dn rf qu ov mn mf qf bf cf wf wi hg zs ta de oe re pa ee dq qe ag mF qF bF aF kF) {C : Int32 × Int32 × Int32 × Int32 × Int32 × Int32 × Int32 × Int32 × Int32 × Int32 × Int32 × Int32 × IF × IF × IF × IF} {M : Int32 × Int32 × Int32 × Int32 × Int32 × Int32 × Int32 × Int32 × Int32 × Int32 × Int32 × IF × IF × IF × IF} (hC : nxC sl fw fh pl dp lp ld dn rf qu ov kd mn bf cf mf qf sfC wf = C) (hM : nxM wi hg zs ta de oe re pa ee dq qe ag mF qF bF aF kF = M) :
    C.1 = M.2.1 ∧ (C.1 = 0 → C.2.1 = M.1) ∧ Rl sl fw fh C.2.2.2.2.1 C.2.2.2.2.2.1 C.2.2.2.2.2.2.1 C.2.2.2.2.2.2.2.1 C.2.2.2.2.2.2.2.2.1 C.2.2.2.2.2.2.2.2.2.1 C.2.2.2.2.2.2.2.2.2.2.1 C.2.2.2.2.2.2.2.2.2.2.2.1 C.2.2.2.1 C.2.2.2.2.2.2.2.2.2.2.2.2.2.2.2 qf C.2.2.2.2.2.2.2.2.2.2.2.2.1 C.2.2.2.2.2.2.2.2.2.2.2.2.2.1 C.2.2.2.2.2.2.2.2.2.2.2.2.2.2.1
      wi hg zs M.2.2.1 M.2.2.2.1 M.2.2.2.2.1 M.2.2.2.2.2.1 M.2.2.2.2.2.2.1 M.2.2.2.2.2.2.2.1 M.2.2.2.2.2.2.2.2.1 M.2.2.2.2.2.2.2.2.2.1 M.2.2.2.2.2.2.2.2.2.2.1 M.2.2.2.2.2.2.2.2.2.2.2.1 qF M.2.2.2.2.2.2.2.2.2.2.2.2.1 M.2.2.2.2.2.2.2.2.2.2.2.2.2.1 M.2.2.2.2.2.2.2.2.2.2.2.2.2.2 := by
  subst hC hM
  obtain ⟨rfl, rfl, rfl, rfl, rfl, rfl, rfl, rfl, rfl, rfl, rfl, rfl, rfl, rfl, z, d, c, n, a, hz, rfl, hd, rfl, hc, rfl, hn, rfl, hag, hov, ha, rfl, h0, hpl, hb, ht⟩ := h
  rcases hov with rfl | rfl
  · have hpl := hpl rfl
    subst hpl
    obtain ⟨s1, s2⟩ := sim_look (fw := wi) (fh := hg) (qu := qe) (kd := kd) (mn := nI n) (ag := nI n) (mf := mF) (qf := qF) (cf := cf) (aF := aF) hd hz ha hc h0 ht
    by_cases e : (lokM wi hg (nI z) (nI a) (nI d) (nI c) qe (nI n) mF qF aF kF).1 = 0
    · obtain ⟨hc2, s3⟩ := s2 e
      have e1 : rfH (nI c) (nI d) (nI a) (nI z) wi hg qe mF qF sfC wf kd (nI n) cf = 0 := s1.trans e
      have ec : nI c + 1 = nI (c + 1) := nI_1 c
      rcases s3 with ⟨d0, az, f1, f2⟩ | ⟨q, hq, hne, hw, hln, f1, f2, hv, hp, hs⟩
      · subst d0 az
        have e2 : lokM wi hg (nI a) (nI a) (nI 0) (nI c) qe (nI n) mF qF aF kF = (0, 0, aF) := by rw [← f2, ← e]
        rw [nxC_go e1 f1, nxM_end e2 (show nI 0 = 0 from nI_0) rfl]
        have g1 : cry (nI a) (nI 0) 0 qe 0 0 bF cf sfC wf mF = (nI a + (1 + 0), nI 0, 1, qe, bF, wf, mF) := by
          unfold cry; rw [if_pos rfl, if_pos (show nI 0 = 0 from nI_0), if_pos (show nI 0 = 0 from nI_0), if_pos (show nI 0 = 0 from nI_0)]
        have g2 : prM (nI a) (nI 0) 0 qe 0 0 mF bF aF kF = (nI a, nI 0, 1, qe, bF, kF, mF) := by
          unfold prM; rw [if_pos rfl, if_pos (show nI 0 = 0 from nI_0), if_pos (show nI 0 ≤ 0 by decide)]
        rw [g1, g2]
        exact ⟨rfl, fun _ => rfl, rfl, rfl, rfl, rfl, rfl, rfl, rfl, rfl, rfl, rfl, rfl, rfl, rfl, rfl, a, 0, c + 1, 0, a, hz, rfl, hd, rfl, by omega, ec, by omega, rfl, fun j hj => absurd hj (Nat.not_lt_zero j), Or.inr rfl, ha, rfl, fun _ => Nat.le_refl a, fun w => absurd w ne10, hb, ht⟩
      · obtain ⟨l1, l2⟩ := lnN_258 (d := d) (z := z) (a := a) (mf := mF) (qf := qF) hq
        have hls : lenS d z ≤ 4096 := by unfold lenS; split <;> omega
        have e2 : lokM wi hg (nI z) (nI a) (nI d) (nI c) qe (nI n) mF qF aF kF = (0, nI (lnN d z a q mF qF), itN (fun j a' => upd a' (nI j).toNatClampNeg (mrd (nI d) mF qF (nI a + 1 + nI j))) (lnN d z a q mF qF) aF) := by rw [← f2, ← e]
        have hne2 : ¬ (nI d = 0 ∧ nI a = nI z) := fun w => hne ⟨(nI_z hd).2.mp w.1, (nI_eq (by omega) (by omega)).mp w.2⟩
        have hN21 : ∀ m : Nat, m ≤ 256 → q = 21 → srcS d mF qF (a + 1 + 1) = nI m → lnN d z a q mF qF = 2 + m := fun m hm e21 em => by subst e21; exact lnN_21 hln hm em
        have hNf : ¬ q = 21 → lnN d z a q mF qF = fN q := lnN_off
        have hCp := ldC_at (mf := mF) (qf := qF) (cf := cf) (d := d) (a := a) hd l1 (show a + lnN d z a q mF qF < 4096 by omega)
        have hMp := ldM_at (mf := mF) (qf := qF) (aF := aF) (d := d) (a := a) hd l1 (show a + lnN d z a q mF qF < 4096 by omega)
        rw [nxC_go e1 f1, nxM_go e2 hne2, mrd_at hd (by omega), hw]
        generalize lnN d z a q mF qF = N at *
        generalize ldC (nI d) (nI a) mF qF (nI N) cf = C at *
        generalize itN (fun j a' => upd a' (nI j).toNatClampNeg (mrd (nI d) mF qF (nI a + 1 + nI j))) N aF = M at *
        rw [nI_1 a, nI_add]
        have hCM : ∀ j, j < N → C j = M j := fun j hj => by rw [hCp, hMp, if_pos hj, if_pos hj]
        have hv2 : ∀ j, j < fN q → ¬ myB (nI q) (nI j) (C j) = 0 := fun j hj => by rw [hCp, if_pos (by omega)]; exact hv j hj
        have hNs : q = 21 → ∀ m : Nat, m ≤ 256 → C 1 = nI m → N = 2 + m := fun e21 m hm em => by
          have t2 : 2 ≤ N := by subst e21; have := f21; omega
          rw [hCp, if_pos (by omega)] at em
          exact hN21 m hm e21 em
        have h0N : d = 0 → a + 1 + N ≤ z := fun w => by unfold lenS at hln; rw [if_pos w] at hln; omega
        obtain ⟨t1, t2, t3, t4, t5, t6, t7⟩ := sim_do (M := M) (kF := kF) (mf := mF) hd hz hq l1 l2 hNf hNs (show a + 1 + N ≤ 4096 by omega) h0N hCM hv2 hp hs hb ht
        obtain ⟨u1, d', a', u2, u3, u4, u5, u6, u7⟩ := cry_at (mf := mF) (N := N) hd hz hq (show a + 1 + N ≤ 4096 by omega) h0N hv2 hp hs hb
        exact ⟨rfl, fun _ => rfl, rfl, rfl, rfl, t2.symm, t3.symm, rfl, rfl, rfl, rfl, t4.symm, rfl, t6.symm, rfl, t5.symm, z, d', c + 1, N, a', hz, rfl, u2, u3, by omega, ec, l1, rfl, hCM, u1, u4, t1.symm.trans u5, u6, fun _ => t1, u7, t7⟩
    · have e1 : ¬ rfH (nI c) (nI d) (nI a) (nI z) wi hg qe mF qF sfC wf kd (nI n) cf = 0 := fun w => e (s1.symm.trans w)
      rw [nxC_no e1, nxM_no (fun w => e (lokM_le w))]
      exact ⟨rfl, fun _ => rfl, rfl, rfl, rfl, rfl, rfl, s1.symm, rfl, rfl, rfl, rfl, rfl, rfl, rfl, rfl, z, d, c, 0, a, hz, rfl, hd, rfl, hc, rfl, by omega, rfl, fun j hj => absurd hj (Nat.not_lt_zero j), Or.inr rfl, ha, rfl, h0, fun w => absurd w ne10, hb, ht⟩
  · rw [nxC_over ne10, nxM_over ne10]
    exact ⟨rfl, fun w => absurd w ne10, rfl, rfl, rfl, rfl, rfl, rfl, rfl, rfl, rfl, rfl, rfl, rfl, rfl, rfl, z, d, c, n, a, hz, rfl, hd, rfl, hc, rfl, hn, rfl, hag, Or.inr rfl, ha, rfl, h0, fun w => absurd w ne10, hb, ht⟩
/-- what the reference's next needs -/
theorem next_need {sl fw fh pl dp lp ld dn rf qu ov mn : Int32} {mf qf bf cf wf : IF} {wi hg zs ta de oe re pa ee dq qe ag : Int32} {mF qF bF aF kF : IF} (h : Rl sl fw fh pl dp lp ld dn rf qu ov mn mf qf bf cf wf wi hg zs ta de oe re pa ee dq qe ag mF qF bF aF kF) :
    narrow .boolean (.int oe) = .int oe ∧ lkH zs ta de mF qF ∧
    ((lokM wi hg zs ta de dq qe ag mF qF aF kF).1 ≤ 0 → ¬ de = 0 → vp_in ta 4096) ∧ ((lokM wi hg zs ta de dq qe ag mF qF aF kF).1 ≤ 0 → ¬ ta = zs → vp_in ta 4096) ∧
    ((lokM wi hg zs ta de dq qe ag mF qF aF kF).1 ≤ 0 → de = 0 → ta = zs → prH de (lokM wi hg zs ta de dq qe ag mF qF aF kF).2.1 0 (lokM wi hg zs ta de dq qe ag mF qF aF kF).2.2) ∧
    ((lokM wi hg zs ta de dq qe ag mF qF aF kF).1 ≤ 0 → ¬ de = 0 → prH de (lokM wi hg zs ta de dq qe ag mF qF aF kF).2.1 (mrd de mF qF ta) (lokM wi hg zs ta de dq qe ag mF qF aF kF).2.2) ∧
    ((lokM wi hg zs ta de dq qe ag mF qF aF kF).1 ≤ 0 → ¬ ta = zs → prH de (lokM wi hg zs ta de dq qe ag mF qF aF kF).2.1 (mrd de mF qF ta) (lokM wi hg zs ta de dq qe ag mF qF aF kF).2.2) := by
  obtain ⟨rfl, rfl, rfl, rfl, rfl, rfl, rfl, rfl, rfl, rfl, rfl, rfl, rfl, rfl, z, d, c, n, a, hz, rfl, hd, rfl, hc, rfl, hn, rfl, hag, hov, ha, rfl, h0, hpl, hb, ht⟩ := h
  obtain ⟨-, s2⟩ := sim_look (fw := wi) (fh := hg) (qu := qe) (kd := 0) (mn := nI n) (ag := nI n) (mf := mF) (qf := qF) (cf := cf) (aF := aF) hd hz ha hc h0 ht
  have hls : lenS d z ≤ 4096 := by unfold lenS; split <;> omega
  have key : (lokM wi hg (nI z) (nI a) (nI d) (nI c) qe (nI n) mF qF aF kF).1 ≤ 0 → ¬ (d = 0 ∧ a = z) → a < 4096 ∧ prH (nI d) (lokM wi hg (nI z) (nI a) (nI d) (nI c) qe (nI n) mF qF aF kF).2.1 (mrd (nI d) mF qF (nI a)) (lokM wi hg (nI z) (nI a) (nI d) (nI c) qe (nI n) mF qF aF kF).2.2 := by
    intro w hne
    obtain ⟨-, s3⟩ := s2 (lokM_le w)
    rcases s3 with ⟨d0, az, -⟩ | ⟨q, hq, -, hw, hln, f1, f2, hv, hp, hs⟩
    · exact absurd ⟨d0, az⟩ hne
    · obtain ⟨l1, l2⟩ := lnN_258 (d := d) (z := z) (a := a) (mf := mF) (qf := qF) hq
      have hCp := ldC_at (mf := mF) (qf := qF) (cf := cf) (d := d) (a := a) hd l1 (show a + lnN d z a q mF qF < 4096 by omega)
      have hMp := ldM_at (mf := mF) (qf := qF) (aF := aF) (d := d) (a := a) hd l1 (show a + lnN d z a q mF qF < 4096 by omega)
      refine ⟨by omega, ?_⟩
      rw [f2, mrd_at hd (by omega), hw]
      refine prH_of (C := ldC (nI d) (nI a) mF qF (nI (lnN d z a q mF qF)) cf) hd hq l1 lnN_off (fun j hj => ?_) (fun j hj => ?_) hp hs
      · show _ = itN (fun j a' => upd a' (nI j).toNatClampNeg (mrd (nI d) mF qF (nI a + 1 + nI j))) (lnN d z a q mF qF) aF j
        rw [hCp, hMp, if_pos (by omega), if_pos (by omega)]
      · rw [hCp, if_pos (by omega)]; exact hv j hj
  have k1 : ¬ nI d = 0 → ¬ (d = 0 ∧ a = z) := fun w q => w ((nI_z hd).2.mpr q.1)
  have k2 : ¬ nI a = nI z → ¬ (d = 0 ∧ a = z) := fun w q => w (by rw [q.2])
  refine ⟨?_, lkH_of hd hz ha, fun w v => vp_in_nI (key w (k1 v)).1 (by decide), fun w v => vp_in_nI (key w (k2 v)).1 (by decide), fun w v1 v2 => ?_, fun w v => (key w (k1 v)).2, fun w v => (key w (k2 v)).2⟩
  · rcases hov with rfl | rfl <;> rfl
  · have d0 := (nI_z hd).2.mp v1
    subst d0
    refine ⟨fun _ u => absurd (by decide : nI 0 ≤ 0) u, fun u => absurd u (by decide), fun u => absurd u (by decide), fun u => absurd u (by decide), fun u => absurd rfl u⟩
