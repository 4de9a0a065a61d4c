/-! look beside refusalHere -/
def lokB (wi hg zs ta de qe ag : Int32) (mF qF aF kF : IF) : Int32 × Int32 × IF := (if (isTh zs de ta) = 0 then (1, ag, aF) else (if (inL ((mrd de mF qF ta).toInt64) 0 25) = 0 then (2, ag, aF) else (if (isTh zs de (ta + (lenM zs ta de mF qF (mrd de mF qF ta)))) = 0 then (1, ag, aF) else (if (gdM de ta mF qF (mrd de mF qF ta) ((lenM zs ta de mF qF (mrd de mF qF ta)).toNatClampNeg)) = 0 then (3, (lenM zs ta de mF qF (mrd de mF qF ta)), (itN (fun j a => upd a (nI j).toNatClampNeg (mrd de mF qF (ta + 1 + nI j))) ((lenM zs ta de mF qF (mrd de mF qF ta)).toNatClampNeg) aF)) else (if (lieM wi hg (itN (fun j a => upd a (nI j).toNatClampNeg (mrd de mF qF (ta + 1 + nI j))) ((lenM zs ta de mF qF (mrd de mF qF ta)).toNatClampNeg) aF) (mrd de mF qF ta)) = 0 then (5, (lenM zs ta de mF qF (mrd de mF qF ta)), (itN (fun j a => upd a (nI j).toNatClampNeg (mrd de mF qF (ta + 1 + nI j))) ((lenM zs ta de mF qF (mrd de mF qF ta)).toNatClampNeg) aF)) else (if (fitM de qe (itN (fun j a => upd a (nI j).toNatClampNeg (mrd de mF qF (ta + 1 + nI j))) ((lenM zs ta de mF qF (mrd de mF qF ta)).toNatClampNeg) aF) kF (mrd de mF qF ta)) = 0 then (6, (lenM zs ta de mF qF (mrd de mF qF ta)), (itN (fun j a => upd a (nI j).toNatClampNeg (mrd de mF qF (ta + 1 + nI j))) ((lenM zs ta de mF qF (mrd de mF qF ta)).toNatClampNeg) aF)) else (0, (lenM zs ta de mF qF (mrd de mF qF ta)), (itN (fun j a => upd a (nI j).toNatClampNeg (mrd de mF qF (ta + 1 + nI j))) ((lenM zs ta de mF qF (mrd de mF qF ta)).toNatClampNeg) aF))))))))
theorem lokM_eq (wi hg zs ta de dq qe ag : Int32) (mF qF aF kF : IF) : lokM wi hg zs ta de dq qe ag mF qF aF kF = if dq = 2000 then (7, ag, aF) else if de = 0 ∧ ta = zs then (0, 0, aF) else lokB wi hg zs ta de qe ag mF qF aF kF := by
  unfold lokM lokB
  by_cases c1 : dq = 2000
  · by_cases c2 : de = 0
    · by_cases c3 : ta = zs
      · rw [if_pos c2, if_pos c3, if_pos c1, if_pos c1]
      · rw [if_pos c2, if_neg c3, if_pos c1, if_pos c1]
    · rw [if_neg c2, if_pos c1, if_pos c1]
  · by_cases c2 : de = 0
    · by_cases c3 : ta = zs
      · rw [if_pos c2, if_pos c3, if_neg c1, if_neg c1, if_pos ⟨c2, c3⟩]
      · rw [if_pos c2, if_neg c3, if_neg c1, if_neg c1, if_neg (show ¬ (de = 0 ∧ ta = zs) from fun z => c3 z.2)]
    · rw [if_neg c2, if_neg c1, if_neg c1, if_neg (show ¬ (de = 0 ∧ ta = zs) from fun z => c2 z.1)]
theorem rdC_0 {d a z : Nat} {mf qf cf : IF} {kd mn : Int32} (hd : d ≤ 4) (h : lenS d z ≤ a) (ha : a ≤ 4096) : rdC (nI d) (nI a) (nI z) mf qf kd mn cf = ((if nI d ≤ 0 then 0 else 1), (if nI d ≤ 0 then 0 else kd), (if nI d ≤ 0 then 0 else mn), cf) := by
  unfold rdC
  rw [srcL_at hd, if_neg (nI_nlt h (by omega))]
theorem vmB_00 (cf : IF) : vmB 0 cf = 1 := by
  refine (vmB_1 (fun j hj => ?_)).symm
  have : (fxd 0).toNatClampNeg = 0 := by decide +kernel
  omega
theorem plT_00 (fw fh : Int32) (cf : IF) : plT 0 fw fh cf = 1 := rfl
theorem stA_00 (dp qu : Int32) (cf sf wf : IF) : stA 0 dp qu cf sf wf = 1 := rfl
/-- why a command is refused: alike; and what is read where it isn't -/
theorem sim_look {a d z c : Nat} {mf qf cf aF wf kF : IF} {fw fh qu kd mn ag : Int32} (hd : d ≤ 4) (hz : z ≤ 4096) (ha : a ≤ 4096) (hc : c ≤ 2000) (h0 : d = 0 → a ≤ z) (ht : toldR wf kF) :
    rfH (nI c) (nI d) (nI a) (nI z) fw fh qu mf qf sfC wf kd mn cf = (lokM fw fh (nI z) (nI a) (nI d) (nI c) qu ag mf qf aF kF).1 ∧
    ((lokM fw fh (nI z) (nI a) (nI d) (nI c) qu ag mf qf aF kF).1 = 0 → c < 2000 ∧ ((d = 0 ∧ a = z ∧ rfC (nI c) (nI d) (nI a) (nI z) mf qf kd mn cf = (0, 0, cf) ∧ (lokM fw fh (nI z) (nI a) (nI d) (nI c) qu ag mf qf aF kF).2 = (0, aF)) ∨
      ∃ q : Nat, q < 26 ∧ ¬ (d = 0 ∧ a = z) ∧ srcS d mf qf a = nI q ∧ a + lnN d z a q mf qf < lenS d z ∧ rfC (nI c) (nI d) (nI a) (nI z) mf qf kd mn cf = (nI q, nI (lnN d z a q mf qf), ldC (nI d) (nI a) mf qf (nI (lnN d z a q mf qf)) cf) ∧
        (lokM fw fh (nI z) (nI a) (nI d) (nI c) qu ag mf qf aF kF).2 = (nI (lnN d z a q mf qf), itN (fun j a' => upd a' (nI j).toNatClampNeg (mrd (nI d) mf qf (nI a + 1 + nI j))) (lnN d z a q mf qf) aF) ∧
        (∀ j, j < fN q → ¬ myB (nI q) (nI j) (srcS d mf qf (a + 1 + j)) = 0) ∧ ¬ plT (nI q) fw fh (ldC (nI d) (nI a) mf qf (nI (lnN d z a q mf qf)) cf) = 0 ∧ ¬ stA (nI q) (nI d) qu (ldC (nI d) (nI a) mf qf (nI (lnN d z a q mf qf)) cf) sfC wf = 0)) := by
  have hls : lenS d z ≤ 4096 := by unfold lenS; split <;> omega
  rw [lokM_eq]
  unfold rfH rfC
  by_cases hc2 : c = 2000
  · subst hc2
    rw [if_pos (show nI 2000 = 2000 from rfl), if_neg (by decide : ¬ nI 2000 < 2000)]
    exact ⟨rfl, fun h => absurd h (show ¬ (7 : Int32) = 0 by decide)⟩
  · have hcl : nI c < 2000 := nI_lt (b := 2000) (by omega) (by decide)
    have hcn : ¬ nI c = 2000 := fun h => hc2 ((nI_eq (a := c) (b := 2000) (by omega) (by decide)).mp h)
    rw [if_neg hcn, if_pos hcl, if_pos hcl]
    by_cases he : d = 0 ∧ a = z
    · have he2 : nI d = 0 ∧ nI a = nI z := ⟨(nI_z hd).2.mpr he.1, by rw [he.2]⟩
      rw [if_pos he2]
      have hl : lenS d z ≤ a := by unfold lenS; rw [if_pos he.1]; omega
      have hdz : nI d ≤ 0 := (nI_z hd).1.mpr he.1
      rw [rdC_0 hd hl ha, if_pos hdz, if_pos hdz, if_pos hdz]
      refine ⟨?_, fun _ => ⟨by omega, Or.inl ⟨he.1, he.2, rfl, rfl⟩⟩⟩
      show (if (0 : Int32) = 0 then (if vmB 0 cf = 0 then (3 : Int32) else if plT 0 fw fh cf = 0 then 5 else if stA 0 (nI d) qu cf sfC wf = 0 then 6 else 0) else 0) = 0
      rw [if_pos rfl, vmB_00, plT_00, stA_00, if_neg ne10, if_neg ne10, if_neg ne10]
    · have he2 : ¬ (nI d = 0 ∧ nI a = nI z) := fun h => he ⟨(nI_z hd).2.mp h.1, (nI_eq (by omega) (by omega)).mp h.2⟩
      rw [if_neg he2]
      unfold lokB
      by_cases hl : lenS d z ≤ a
      · rw [if_pos ((isTh_at hd hz (by omega)).mpr hl), rdC_0 hd hl ha]
        have hd0 : ¬ d = 0 := fun q => he ⟨q, by unfold lenS at hl; rw [if_pos q] at hl; have := h0 q; omega⟩
        have hdz : ¬ nI d ≤ 0 := fun q => hd0 ((nI_z hd).1.mp q)
        rw [if_neg hdz, if_neg hdz, if_neg hdz]
        refine ⟨?_, fun h => absurd h ne10⟩
        show (if (1 : Int32) = 0 then _ else (1 : Int32)) = 1
        rw [if_neg ne10]
      · rw [if_neg (fun q => hl ((isTh_at hd hz (by omega)).mp q)), mrd_at hd (by omega)]
        have hrd : rdC (nI d) (nI a) (nI z) mf qf kd mn cf = (if isKd (srcS d mf qf a) = 0 then (2, kd, mn, cf) else if nI a + argH (nI d) (nI a) (nI z) mf qf (srcS d mf qf a) < srcL (nI d) (nI z) then (0, srcS d mf qf a, argH (nI d) (nI a) (nI z) mf qf (srcS d mf qf a), ldC (nI d) (nI a) mf qf (argH (nI d) (nI a) (nI z) mf qf (srcS d mf qf a)) cf) else (1, kd, mn, cf)) := by
          unfold rdC
          rw [srcW_at hd (by omega), srcL_at hd, if_pos (nI_lt (by omega) (by omega))]
        rw [hrd]
        rcases in_26 (srcS d mf qf a) with ⟨e1, -, e2⟩ | ⟨e1, e2, q, hq, eq⟩
        · rw [if_pos e1, if_pos e2]
          refine ⟨?_, fun h => absurd h (show ¬ (2 : Int32) = 0 by decide)⟩
          show (if (2 : Int32) = 0 then _ else (2 : Int32)) = 2
          rw [if_neg (by decide)]
        · rw [if_neg e1, e2, if_neg ne10, eq, lenM_at hd hz ha hq, argH_at hd hz ha hq, nI_add, srcL_at hd]
          obtain ⟨l1, l2⟩ := lnN_258 (d := d) (z := z) (a := a) (mf := mf) (qf := qf) hq
          by_cases hn : lenS d z ≤ a + lnN d z a q mf qf
          · rw [if_pos ((isTh_at hd hz (by omega)).mpr hn), if_neg (nI_nlt hn (by omega))]
            refine ⟨?_, fun h => absurd h ne10⟩
            show (if (1 : Int32) = 0 then _ else (1 : Int32)) = 1
            rw [if_neg ne10]
          · rw [if_neg (fun w => hn ((isTh_at hd hz (by omega)).mp w)), if_pos (nI_lt (by omega) (by omega)), nI_clamp (by omega)]
            have hsum : a + lnN d z a q mf qf < 4096 := by omega
            have sv := sim_value (cf := cf) (z := z) hd hq hsum
            have hC := ldC_at (mf := mf) (qf := qf) (cf := cf) hd l1 hsum
            have hM := ldM_at (mf := mf) (qf := qf) (aF := aF) hd l1 hsum
            generalize hcd : ldC (nI d) (nI a) mf qf (nI (lnN d z a q mf qf)) cf = C at sv hC ⊢
            generalize hmd : itN (fun j a' => upd a' (nI j).toNatClampNeg (mrd (nI d) mf qf (nI a + 1 + nI j))) (lnN d z a q mf qf) aF = M at hM ⊢
            have hag : ∀ j, j < fN q → C j = M j := fun j hj => by rw [hC, hM, if_pos (by omega), if_pos (by omega)]
            show (if (0 : Int32) = 0 then (if vmB (nI q) C = 0 then (3 : Int32) else if plT (nI q) fw fh C = 0 then 5 else if stA (nI q) (nI d) qu C sfC wf = 0 then 6 else 0) else 0) = _ ∧ _
            rw [if_pos rfl]
            by_cases v1 : vmB (nI q) C = 0
            · rw [if_pos v1, if_pos (sv.mp v1)]
              exact ⟨rfl, fun h => absurd h (show ¬ (3 : Int32) = 0 by decide)⟩
            · rw [if_neg v1, if_neg (fun w => v1 (sv.mpr w))]
              have hv : ∀ j, j < fN q → ¬ myB (nI q) (nI j) (C j) = 0 := fun j hj h => v1 ((vmB_at hq).mpr ⟨j, hj, h⟩)
              have sp := sim_place fw fh hq hv hag
              have ss := sim_state (d := d) qu hq hag ht
              by_cases v2 : plT (nI q) fw fh C = 0
              · rw [if_pos v2, if_pos (sp.mp v2)]
                exact ⟨rfl, fun h => absurd h (show ¬ (5 : Int32) = 0 by decide)⟩
              · rw [if_neg v2, if_neg (fun w => v2 (sp.mpr w))]
                by_cases v3 : stA (nI q) (nI d) qu C sfC wf = 0
                · rw [if_pos v3, if_pos (ss.mp v3)]
                  exact ⟨rfl, fun h => absurd h (show ¬ (6 : Int32) = 0 by decide)⟩
                · rw [if_neg v3, if_neg (fun w => v3 (ss.mpr w))]
                  refine ⟨rfl, fun _ => ⟨by omega, Or.inr ⟨q, hq, he, rfl, by omega, ?_, ?_, fun j hj => ?_, ?_, ?_⟩⟩⟩
                  · rw [hcd]
                  · rw [hmd]
                  · have := hv j hj
                    rw [hC, if_pos (by omega)] at this
                    exact this
                  · rw [hcd]; exact v2
                  · rw [hcd]; exact v3
