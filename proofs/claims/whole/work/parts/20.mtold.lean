def ntI (i : Nat) (w : IF) : IF := if mny (nI i) ≤ 1 then w else itN (fun j w => upd w (rwO (nI i) (nI j)).toNatClampNeg (nI j)) (mny (nI i)).toNatClampNeg w
theorem nt_a : ∀ i, i < 26 → ∀ j, j < (mny (nI i)).toNatClampNeg → ¬ (rwO (nI i) (nI j) < 0 ∨ 4160 ≤ (rwO (nI i) (nI j)).toNatClampNeg) := by decide +kernel
theorem nt_b : ∀ i, i < 4 → ¬ (rwO 9 (nI i) + 4 < 0 ∨ 4160 ≤ (rwO 9 (nI i) + 4).toNatClampNeg) := by decide +kernel
theorem nt_c : ∀ i, i < 2 → ¬ (rwO 11 (nI i) + 1 < 0 ∨ 4160 ≤ (rwO 11 (nI i) + 1).toNatClampNeg) := by decide +kernel
def noT (kF : IF) : IF := (itN (fun j w => upd w (rwO 11 (nI j) + 1).toNatClampNeg (-1)) ((2 : Int32).toNatClampNeg) (itN (fun j w => upd w (rwO 9 (nI j) + 4).toNatClampNeg 1) ((4 : Int32).toNatClampNeg) (upd (upd (upd (upd (upd (upd (upd (upd (upd (upd (itN (fun k w => ntI k w) ((26 : Int32).toNatClampNeg) (itN (fun j w => upd w (nI j).toNatClampNeg 0) (4160 : Int32).toNatClampNeg kF)) ((rwO 2 0) + 2).toNatClampNeg 1) ((rwO 2 0) + 3).toNatClampNeg 1) ((rwO 2 0) + 5).toNatClampNeg 16777215) ((rwO 3 0) + 2).toNatClampNeg (-1)) (rwO 7 0).toNatClampNeg (-1)) (rwO 8 0).toNatClampNeg (-1)) (rwO 10 0).toNatClampNeg (-1)) ((rwO 12 0) + 4).toNatClampNeg (-1)) (rwO 14 0).toNatClampNeg (-1)) (rwO 15 0).toNatClampNeg 15)))
set_option maxHeartbeats 4000000 in
set_option maxRecDepth 100000 in
theorem c_M_nothingTold (l : Launch) (dC : Nat → ClassId) (dI : Nat → Nat → Nat) (tb : tbT) (y ma qa ba aa ka : Nat) (th wi hg zs ta de oe re pa ee dq qe ag : Int32) (kF : IF) (cI : ClassId) (sz : Nat) : MV l y_M_nothingTold (Cond.code y_M_nothingTold b_M_nothingTold 3 none :: TB) ({ frames := 2, cells := 0, slots := 0, locals := 41 }) tb (dC, dI) [.ref y] [(y, .inr (4, [.int th, .ref ma, .int wi, .int hg, .ref qa, .int zs, .int ta, .int de, .ref ba, .int oe, .int re, .int pa, .int ee, .int dq, .int qe, .int ag, .ref aa, .ref ka])), (ka, .inl (cI, 4160, .inl kF))] [(y, .inr (4, [.int th, .ref ma, .int wi, .int hg, .ref qa, .int zs, .int ta, .int de, .ref ba, .int oe, .int re, .int pa, .int ee, .int dq, .int qe, .int ag, .ref aa, .ref ka])), (ka, .inl (cI, 4160, .inl (noT kF)))] [(cI, .int)] sz := by
  refine Met.ofW (cc := b_M_nothingTold) (maxL := 3) (ret := none) (by decide) rfl ?_
  intro p e s m args below meth c s₁ B hml hv
  obtain ⟨rfl, hsz, hP, hK, hD0, hE⟩ := hv
  have hx := B.exec
  have hb := B.bytes
  have hr := B.returns
  have ht := fun w (h : w ∈ TB) => atoms_spec (ws := Cond.code y_M_nothingTold b_M_nothingTold 3 none :: TB) B.pre w (List.mem_cons_of_mem _ h)
  have hown : s.vm.findClass R_M = some m.cls := findClass_of_methodNamed B.named
  have hlocks := B.notSynchronized
  subst hsz
  have hD := hD0.self (sz := s.heap.size)
  generalize hAe : va_A [(y, .inr (4, [.int th, .ref ma, .int wi, .int hg, .ref qa, .int zs, .int ta, .int de, .ref ba, .int oe, .int re, .int pa, .int ee, .int dq, .int qe, .int ag, .ref aa, .ref ka])), (ka, .inl (cI, 4160, .inl kF))] s.heap.size = A at hD hE ⊢
  have hA : ∀ q : Nat, s.heap.size ≤ q → A q := fun q h => by rw [← hAe]; exact Or.inr h
  have hS : va_S A s.heap s.heap [] := va_S.rf
  have F : CallFix p m c b_M_nothingTold 3 s _ TB R_M := ⟨hx, hb, hml, hown, ht⟩
  have hl := lv_entry ([.ref y]) (n := 3) (Nat.le_of_ble_eq_true rfl)
  rw [lg_entry_eq]
  generalize (lg_sl ([.ref y]) ++ List.replicate (3 - (lg_sl ([.ref y])).length) Slot.unset).toArray = ls at hl ⊢
  have hl : lv_has ls 3 [(0, .ref y)] := hl
  refine lv_iconst (v := 0) hx hb d_M_nothingTold_0 (by decide) ?_
  refine lv_istore_n (lv' := [(1, .int 0), (0, .ref y)]) hx hb d_M_nothingTold_1 rfl hl (by decide) rfl (fun ls hl => ?_)
  refine lp_W (N := (4160 : Int32).toNatClampNeg) (head := 2) (I := fun i H locs ls => va_P (dC, dI) clX [(y, .inr (4, [.int th, .ref ma, .int wi, .int hg, .ref qa, .int zs, .int ta, .int de, .ref ba, .int oe, .int re, .int pa, .int ee, .int dq, .int qe, .int ag, .ref aa, .ref ka])), (ka, .inl (cI, 4160, .inl (itN (fun j w => upd w (nI j).toNatClampNeg 0) i kF)))] H ∧ va_D A [(y, .inr (4, [.int th, .ref ma, .int wi, .int hg, .ref qa, .int zs, .int ta, .int de, .ref ba, .int oe, .int re, .int pa, .int ee, .int dq, .int qe, .int ag, .ref aa, .ref ka])), (ka, .inl (cI, 4160, .inl (itN (fun j w => upd w (nI j).toNatClampNeg 0) i kF)))] ∧ va_S A s.heap H locs ∧ lv_has ls 3 [(1, .int (nI i)), (0, .ref y)]) ?_ ?_ 0 (Nat.zero_le _) ⟨hP, hD, hS, lv_sub hl [0, 1] rfl⟩
  · intro i H locs ls hi_i hI0 kk_i
    obtain ⟨hP, hD, hS, hl⟩ := hI0
    refine lv_iload_n hx hb d_M_nothingTold_2 rfl (lv_at hl 0 rfl) ?_
    refine lv_sipush (v := 4160) hx hb d_M_nothingTold_3 (by decide) ?_
    refine lv_icmp_ge (tgt := 22) hx hb d_M_nothingTold_6 (by decide) (fun c_214 => ?_) (fun c_214 => ?_)
    · exact absurd c_214 (lp_lt hi_i)
    · refine lv_aload_n hx hb d_M_nothingTold_9 rfl (lv_at hl 1 rfl) ?_
      refine va_get (D := (dC, dI)) (ci := 4) (v := .ref ka) (C := R_M) (T := F_M) (N := 18) hx hb ht tu_M hown hK hP 0 rfl rfl 17 (by decide) (ht _ tw_549) (fun _ h9 => h9) rfl d_M_nothingTold_10 ?_
      refine lv_iload_n hx hb d_M_nothingTold_13 rfl (lv_at hl 0 rfl) ?_
      refine lv_iconst (v := 0) hx hb d_M_nothingTold_14 (by decide) ?_
      refine va_iast hx hb hK hP hD hS 1 0 rfl rfl (vp_in_nI hi_i (by decide)) d_M_nothingTold_15 (fun H locs hP hD hS => ?_)
      have hP : va_P (dC, dI) clX [(y, .inr (4, [.int th, .ref ma, .int wi, .int hg, .ref qa, .int zs, .int ta, .int de, .ref ba, .int oe, .int re, .int pa, .int ee, .int dq, .int qe, .int ag, .ref aa, .ref ka])), (ka, .inl (cI, 4160, .inl (upd (itN (fun j w => upd w (nI j).toNatClampNeg 0) i kF) (nI i).toNatClampNeg 0)))] H := hP
      have hD : va_D A [(y, .inr (4, [.int th, .ref ma, .int wi, .int hg, .ref qa, .int zs, .int ta, .int de, .ref ba, .int oe, .int re, .int pa, .int ee, .int dq, .int qe, .int ag, .ref aa, .ref ka])), (ka, .inl (cI, 4160, .inl (upd (itN (fun j w => upd w (nI j).toNatClampNeg 0) i kF) (nI i).toNatClampNeg 0)))] := hD
      refine lv_iinc (v := ((nI i) + 1)) (lv' := [(1, .int ((nI i) + 1)), (0, .ref y)]) hx hb d_M_nothingTold_16 hl (k := 0) rfl rfl (by decide) rfl (fun ls hl => ?_)
      refine lv_goto (tgt := 2) hx hb d_M_nothingTold_19 (by decide) ?_
      rw [nI_1] at hl
      exact kk_i _ _ _ ⟨hP.sub [0, 1] rfl, hD.sub [0, 1] (by decide) rfl, hS, lv_sub hl [0, 1] rfl⟩
  · intro H locs ls hI0
    obtain ⟨hP, hD, hS, hl⟩ := hI0
    refine lv_iload_n hx hb d_M_nothingTold_2 rfl (lv_at hl 0 rfl) ?_
    refine lv_sipush (v := 4160) hx hb d_M_nothingTold_3 (by decide) ?_
    refine lv_icmp_ge (tgt := 22) hx hb d_M_nothingTold_6 (by decide) (fun c_215 => ?_) (fun c_215 => ?_)
    · refine lv_iconst (v := 0) hx hb d_M_nothingTold_22 (by decide) ?_
      refine lv_istore_n (lv' := [(1, .int 0), (0, .ref y)]) hx hb d_M_nothingTold_23 rfl hl (by decide) rfl (fun ls hl => ?_)
      refine lp_W (N := (26 : Int32).toNatClampNeg) (head := 24) (I := fun i H locs ls => va_P (dC, dI) clX [(y, .inr (4, [.int th, .ref ma, .int wi, .int hg, .ref qa, .int zs, .int ta, .int de, .ref ba, .int oe, .int re, .int pa, .int ee, .int dq, .int qe, .int ag, .ref aa, .ref ka])), (ka, .inl (cI, 4160, .inl (itN (fun k w => ntI k w) i (itN (fun j w => upd w (nI j).toNatClampNeg 0) (4160 : Int32).toNatClampNeg kF))))] H ∧ va_D A [(y, .inr (4, [.int th, .ref ma, .int wi, .int hg, .ref qa, .int zs, .int ta, .int de, .ref ba, .int oe, .int re, .int pa, .int ee, .int dq, .int qe, .int ag, .ref aa, .ref ka])), (ka, .inl (cI, 4160, .inl (itN (fun k w => ntI k w) i (itN (fun j w => upd w (nI j).toNatClampNeg 0) (4160 : Int32).toNatClampNeg kF))))] ∧ va_S A s.heap H locs ∧ lv_has ls 3 [(1, .int (nI i)), (0, .ref y)]) ?_ ?_ 0 (Nat.zero_le _) ⟨hP, hD, hS, lv_sub hl [0, 1] rfl⟩
      · intro i H locs ls hi_i hI0 kk_i
        obtain ⟨hP, hD, hS, hl⟩ := hI0
        refine lv_iload_n hx hb d_M_nothingTold_24 rfl (lv_at hl 0 rfl) ?_
        refine lv_bipush (v := 26) hx hb d_M_nothingTold_25 (by decide) ?_
        refine lv_icmp_ge (tgt := 71) hx hb d_M_nothingTold_27 (by decide) (fun c_216 => ?_) (fun c_216 => ?_)
        · exact absurd c_216 (lp_lt hi_i)
        · refine lv_iconst (v := 0) hx hb d_M_nothingTold_30 (by decide) ?_
          refine lv_istore_n (lv' := [(2, .int 0), (1, .int (nI i)), (0, .ref y)]) hx hb d_M_nothingTold_31 rfl hl (by decide) rfl (fun ls hl => ?_)
          by_cases sp_217 : (mny (nI i)) ≤ 1
          · refine lv_iload_n hx hb d_M_nothingTold_32 rfl (lv_at hl 0 rfl) ?_
            refine lv_iload_n hx hb d_M_nothingTold_33 rfl (lv_at hl 1 rfl) ?_
            refine rcS (As := [.int (nI i)]) (rest := [.int 0]) (c_M_many l dC dI tb (nI i) ) F tw_524 tw_34 tw_523 tw_522 hP [] rfl hK [] rfl hE hS hd_M_many rfl rfl ⟨Nat.le_of_ble_eq_true rfl, Nat.le_of_ble_eq_true rfl⟩ ⟨Nat.le_of_ble_eq_true rfl, Nat.le_of_ble_eq_true rfl⟩ hl.1 rfl (Nat.le_of_ble_eq_true rfl) d_M_nothingTold_34 ?_
            refine lv_icmp_ge (tgt := 65) hx hb d_M_nothingTold_37 (by decide) (fun c_218 => ?_) (fun c_218 => ?_)
            · refine lv_iinc (v := ((nI i) + 1)) (lv' := [(1, .int ((nI i) + 1)), (2, .int 0), (0, .ref y)]) hx hb d_M_nothingTold_65 hl (k := 1) rfl rfl (by decide) rfl (fun ls hl => ?_)
              refine lv_goto (tgt := 24) hx hb d_M_nothingTold_68 (by decide) ?_
              rw [nI_1] at hl
              exact kk_i _ _ _ ⟨by rw [show itN (fun k w => ntI k w) (i + 1) (itN (fun j w => upd w (nI j).toNatClampNeg 0) (4160 : Int32).toNatClampNeg kF) = (itN (fun k w => ntI k w) i (itN (fun j w => upd w (nI j).toNatClampNeg 0) (4160 : Int32).toNatClampNeg kF)) from if_pos sp_217]; exact hP.sub [0, 1] rfl, by rw [show itN (fun k w => ntI k w) (i + 1) (itN (fun j w => upd w (nI j).toNatClampNeg 0) (4160 : Int32).toNatClampNeg kF) = (itN (fun k w => ntI k w) i (itN (fun j w => upd w (nI j).toNatClampNeg 0) (4160 : Int32).toNatClampNeg kF)) from if_pos sp_217]; exact hD.sub [0, 1] (by decide) rfl, hS, lv_sub hl [0, 2] rfl⟩
            · refine lv_iload_n hx hb d_M_nothingTold_40 rfl (lv_at hl 1 rfl) ?_
              refine rcS (As := [.int (nI i)]) (rest := []) (c_M_many l dC dI tb (nI i) ) F tw_524 tw_34 tw_523 tw_522 hP [] rfl hK [] rfl hE hS hd_M_many rfl rfl ⟨Nat.le_of_ble_eq_true rfl, Nat.le_of_ble_eq_true rfl⟩ ⟨Nat.le_of_ble_eq_true rfl, Nat.le_of_ble_eq_true rfl⟩ hl.1 rfl (Nat.le_of_ble_eq_true rfl) d_M_nothingTold_41 ?_
              refine lv_iconst (v := 1) hx hb d_M_nothingTold_44 (by decide) ?_
              refine lv_icmp_le (tgt := 65) hx hb d_M_nothingTold_45 (by decide) (fun c_219 => ?_) (fun c_219 => ?_)
              · refine lv_iinc (v := ((nI i) + 1)) (lv' := [(1, .int ((nI i) + 1)), (2, .int 0), (0, .ref y)]) hx hb d_M_nothingTold_65 hl (k := 1) rfl rfl (by decide) rfl (fun ls hl => ?_)
                refine lv_goto (tgt := 24) hx hb d_M_nothingTold_68 (by decide) ?_
                rw [nI_1] at hl
                exact kk_i _ _ _ ⟨by rw [show itN (fun k w => ntI k w) (i + 1) (itN (fun j w => upd w (nI j).toNatClampNeg 0) (4160 : Int32).toNatClampNeg kF) = (itN (fun k w => ntI k w) i (itN (fun j w => upd w (nI j).toNatClampNeg 0) (4160 : Int32).toNatClampNeg kF)) from if_pos sp_217]; exact hP.sub [0, 1] rfl, by rw [show itN (fun k w => ntI k w) (i + 1) (itN (fun j w => upd w (nI j).toNatClampNeg 0) (4160 : Int32).toNatClampNeg kF) = (itN (fun k w => ntI k w) i (itN (fun j w => upd w (nI j).toNatClampNeg 0) (4160 : Int32).toNatClampNeg kF)) from if_pos sp_217]; exact hD.sub [0, 1] (by decide) rfl, hS, lv_sub hl [0, 2] rfl⟩
              · exact absurd sp_217 c_219
          · refine lp_W (N := (mny (nI i)).toNatClampNeg) (head := 32) (I := fun j H locs ls => va_P (dC, dI) clX [(y, .inr (4, [.int th, .ref ma, .int wi, .int hg, .ref qa, .int zs, .int ta, .int de, .ref ba, .int oe, .int re, .int pa, .int ee, .int dq, .int qe, .int ag, .ref aa, .ref ka])), (ka, .inl (cI, 4160, .inl (itN (fun j w => upd w (rwO (nI i) (nI j)).toNatClampNeg (nI j)) j (itN (fun k w => ntI k w) i (itN (fun j w => upd w (nI j).toNatClampNeg 0) (4160 : Int32).toNatClampNeg kF)))))] H ∧ va_D A [(y, .inr (4, [.int th, .ref ma, .int wi, .int hg, .ref qa, .int zs, .int ta, .int de, .ref ba, .int oe, .int re, .int pa, .int ee, .int dq, .int qe, .int ag, .ref aa, .ref ka])), (ka, .inl (cI, 4160, .inl (itN (fun j w => upd w (rwO (nI i) (nI j)).toNatClampNeg (nI j)) j (itN (fun k w => ntI k w) i (itN (fun j w => upd w (nI j).toNatClampNeg 0) (4160 : Int32).toNatClampNeg kF)))))] ∧ va_S A s.heap H locs ∧ lv_has ls 3 [(2, .int (nI j)), (1, .int (nI i)), (0, .ref y)]) ?_ ?_ 0 (Nat.zero_le _) ⟨hP, hD, hS, lv_sub hl [0, 1, 2] rfl⟩
            · intro j H locs ls hi_j hI0 kk_j
              obtain ⟨hP, hD, hS, hl⟩ := hI0
              refine lv_iload_n hx hb d_M_nothingTold_32 rfl (lv_at hl 0 rfl) ?_
              refine lv_iload_n hx hb d_M_nothingTold_33 rfl (lv_at hl 1 rfl) ?_
              refine rcS (As := [.int (nI i)]) (rest := [.int (nI j)]) (c_M_many l dC dI tb (nI i) ) F tw_524 tw_34 tw_523 tw_522 hP [] rfl hK [] rfl hE hS hd_M_many rfl rfl ⟨Nat.le_of_ble_eq_true rfl, Nat.le_of_ble_eq_true rfl⟩ ⟨Nat.le_of_ble_eq_true rfl, Nat.le_of_ble_eq_true rfl⟩ hl.1 rfl (Nat.le_of_ble_eq_true rfl) d_M_nothingTold_34 ?_
              refine lv_icmp_ge (tgt := 65) hx hb d_M_nothingTold_37 (by decide) (fun c_220 => ?_) (fun c_220 => ?_)
              · exact absurd c_220 (lp_lt hi_j)
              · refine lv_iload_n hx hb d_M_nothingTold_40 rfl (lv_at hl 1 rfl) ?_
                refine rcS (As := [.int (nI i)]) (rest := []) (c_M_many l dC dI tb (nI i) ) F tw_524 tw_34 tw_523 tw_522 hP [] rfl hK [] rfl hE hS hd_M_many rfl rfl ⟨Nat.le_of_ble_eq_true rfl, Nat.le_of_ble_eq_true rfl⟩ ⟨Nat.le_of_ble_eq_true rfl, Nat.le_of_ble_eq_true rfl⟩ hl.1 rfl (Nat.le_of_ble_eq_true rfl) d_M_nothingTold_41 ?_
                refine lv_iconst (v := 1) hx hb d_M_nothingTold_44 (by decide) ?_
                refine lv_icmp_le (tgt := 65) hx hb d_M_nothingTold_45 (by decide) (fun c_221 => ?_) (fun c_221 => ?_)
                · exact absurd c_221 sp_217
                · refine lv_aload_n hx hb d_M_nothingTold_48 rfl (lv_at hl 2 rfl) ?_
                  refine va_get (D := (dC, dI)) (ci := 4) (v := .ref ka) (C := R_M) (T := F_M) (N := 18) hx hb ht tu_M hown hK hP 0 rfl rfl 17 (by decide) (ht _ tw_549) (fun _ h9 => h9) rfl d_M_nothingTold_49 ?_
                  refine lv_iload_n hx hb d_M_nothingTold_52 rfl (lv_at hl 1 rfl) ?_
                  refine lv_iload_n hx hb d_M_nothingTold_53 rfl (lv_at hl 0 rfl) ?_
                  refine rcS (As := [.int (nI i), .int (nI j)]) (rest := [.ref ka]) (c_M_rowOf l dC dI tb (nI i) (nI j) ) F tw_527 tw_34 tw_526 tw_525 hP [] rfl hK [] rfl hE hS hd_M_rowOf rfl rfl ⟨Nat.le_of_ble_eq_true rfl, Nat.le_of_ble_eq_true rfl⟩ ⟨Nat.le_of_ble_eq_true rfl, Nat.le_of_ble_eq_true rfl⟩ hl.1 rfl (Nat.le_of_ble_eq_true rfl) d_M_nothingTold_54 ?_
                  refine lv_iload_n hx hb d_M_nothingTold_57 rfl (lv_at hl 0 rfl) ?_
                  refine va_iast hx hb hK hP hD hS 1 0 rfl rfl (nt_a i hi_i j hi_j) d_M_nothingTold_58 (fun H locs hP hD hS => ?_)
                  have hP : va_P (dC, dI) clX [(y, .inr (4, [.int th, .ref ma, .int wi, .int hg, .ref qa, .int zs, .int ta, .int de, .ref ba, .int oe, .int re, .int pa, .int ee, .int dq, .int qe, .int ag, .ref aa, .ref ka])), (ka, .inl (cI, 4160, .inl (upd (itN (fun j w => upd w (rwO (nI i) (nI j)).toNatClampNeg (nI j)) j (itN (fun k w => ntI k w) i (itN (fun j w => upd w (nI j).toNatClampNeg 0) (4160 : Int32).toNatClampNeg kF))) (rwO (nI i) (nI j)).toNatClampNeg (nI j))))] H := hP
                  have hD : va_D A [(y, .inr (4, [.int th, .ref ma, .int wi, .int hg, .ref qa, .int zs, .int ta, .int de, .ref ba, .int oe, .int re, .int pa, .int ee, .int dq, .int qe, .int ag, .ref aa, .ref ka])), (ka, .inl (cI, 4160, .inl (upd (itN (fun j w => upd w (rwO (nI i) (nI j)).toNatClampNeg (nI j)) j (itN (fun k w => ntI k w) i (itN (fun j w => upd w (nI j).toNatClampNeg 0) (4160 : Int32).toNatClampNeg kF))) (rwO (nI i) (nI j)).toNatClampNeg (nI j))))] := hD
                  refine lv_iinc (v := ((nI j) + 1)) (lv' := [(2, .int ((nI j) + 1)), (1, .int (nI i)), (0, .ref y)]) hx hb d_M_nothingTold_59 hl (k := 0) rfl rfl (by decide) rfl (fun ls hl => ?_)
                  refine lv_goto (tgt := 32) hx hb d_M_nothingTold_62 (by decide) ?_
                  rw [nI_1] at hl
                  exact kk_j _ _ _ ⟨hP.sub [0, 1] rfl, hD.sub [0, 1] (by decide) rfl, hS, lv_sub hl [0, 1, 2] rfl⟩
            · intro H locs ls hI0
              obtain ⟨hP, hD, hS, hl⟩ := hI0
              refine lv_iload_n hx hb d_M_nothingTold_32 rfl (lv_at hl 0 rfl) ?_
              refine lv_iload_n hx hb d_M_nothingTold_33 rfl (lv_at hl 1 rfl) ?_
              refine rcS (As := [.int (nI i)]) (rest := [.int (nI ((mny (nI i)).toNatClampNeg))]) (c_M_many l dC dI tb (nI i) ) F tw_524 tw_34 tw_523 tw_522 hP [] rfl hK [] rfl hE hS hd_M_many rfl rfl ⟨Nat.le_of_ble_eq_true rfl, Nat.le_of_ble_eq_true rfl⟩ ⟨Nat.le_of_ble_eq_true rfl, Nat.le_of_ble_eq_true rfl⟩ hl.1 rfl (Nat.le_of_ble_eq_true rfl) d_M_nothingTold_34 ?_
              refine lv_icmp_ge (tgt := 65) hx hb d_M_nothingTold_37 (by decide) (fun c_222 => ?_) (fun c_222 => ?_)
              · refine lv_iinc (v := ((nI i) + 1)) (lv' := [(1, .int ((nI i) + 1)), (2, .int (nI ((mny (nI i)).toNatClampNeg))), (0, .ref y)]) hx hb d_M_nothingTold_65 hl (k := 1) rfl rfl (by decide) rfl (fun ls hl => ?_)
                refine lv_goto (tgt := 24) hx hb d_M_nothingTold_68 (by decide) ?_
                rw [nI_1] at hl
                exact kk_i _ _ _ ⟨by rw [show itN (fun k w => ntI k w) (i + 1) (itN (fun j w => upd w (nI j).toNatClampNeg 0) (4160 : Int32).toNatClampNeg kF) = (itN (fun j w => upd w (rwO (nI i) (nI j)).toNatClampNeg (nI j)) ((mny (nI i)).toNatClampNeg) (itN (fun k w => ntI k w) i (itN (fun j w => upd w (nI j).toNatClampNeg 0) (4160 : Int32).toNatClampNeg kF))) from if_neg sp_217]; exact hP.sub [0, 1] rfl, by rw [show itN (fun k w => ntI k w) (i + 1) (itN (fun j w => upd w (nI j).toNatClampNeg 0) (4160 : Int32).toNatClampNeg kF) = (itN (fun j w => upd w (rwO (nI i) (nI j)).toNatClampNeg (nI j)) ((mny (nI i)).toNatClampNeg) (itN (fun k w => ntI k w) i (itN (fun j w => upd w (nI j).toNatClampNeg 0) (4160 : Int32).toNatClampNeg kF))) from if_neg sp_217]; exact hD.sub [0, 1] (by decide) rfl, hS, lv_sub hl [0, 2] rfl⟩
              · exact absurd (lp_ge (mny (nI i))) c_222
      · intro H locs ls hI0
        obtain ⟨hP, hD, hS, hl⟩ := hI0
        refine lv_iload_n hx hb d_M_nothingTold_24 rfl (lv_at hl 0 rfl) ?_
        refine lv_bipush (v := 26) hx hb d_M_nothingTold_25 (by decide) ?_
        refine lv_icmp_ge (tgt := 71) hx hb d_M_nothingTold_27 (by decide) (fun c_223 => ?_) (fun c_223 => ?_)
        · refine lv_aload_n hx hb d_M_nothingTold_71 rfl (lv_at hl 1 rfl) ?_
          refine va_get (D := (dC, dI)) (ci := 4) (v := .ref ka) (C := R_M) (T := F_M) (N := 18) hx hb ht tu_M hown hK hP 0 rfl rfl 17 (by decide) (ht _ tw_549) (fun _ h9 => h9) rfl d_M_nothingTold_72 ?_
          refine lv_iconst (v := 2) hx hb d_M_nothingTold_75 (by decide) ?_
          refine lv_iconst (v := 0) hx hb d_M_nothingTold_76 (by decide) ?_
          refine rcS (As := [.int 2, .int 0]) (rest := [.ref ka]) (c_M_rowOf l dC dI tb 2 0 ) F tw_527 tw_34 tw_526 tw_525 hP [] rfl hK [] rfl hE hS hd_M_rowOf rfl rfl ⟨Nat.le_of_ble_eq_true rfl, Nat.le_of_ble_eq_true rfl⟩ ⟨Nat.le_of_ble_eq_true rfl, Nat.le_of_ble_eq_true rfl⟩ hl.1 rfl (Nat.le_of_ble_eq_true rfl) d_M_nothingTold_77 ?_
          refine lv_iconst (v := 2) hx hb d_M_nothingTold_80 (by decide) ?_
          refine lv_iadd hx hb d_M_nothingTold_81 ?_
          refine lv_iconst (v := 1) hx hb d_M_nothingTold_82 (by decide) ?_
          refine va_iast hx hb hK hP hD hS 1 0 rfl rfl (by unfold vp_in; decide +kernel) d_M_nothingTold_83 (fun H locs hP hD hS => ?_)
          have hP : va_P (dC, dI) clX [(y, .inr (4, [.int th, .ref ma, .int wi, .int hg, .ref qa, .int zs, .int ta, .int de, .ref ba, .int oe, .int re, .int pa, .int ee, .int dq, .int qe, .int ag, .ref aa, .ref ka])), (ka, .inl (cI, 4160, .inl (upd (itN (fun k w => ntI k w) ((26 : Int32).toNatClampNeg) (itN (fun j w => upd w (nI j).toNatClampNeg 0) (4160 : Int32).toNatClampNeg kF)) ((rwO 2 0) + 2).toNatClampNeg 1)))] H := hP
          have hD : va_D A [(y, .inr (4, [.int th, .ref ma, .int wi, .int hg, .ref qa, .int zs, .int ta, .int de, .ref ba, .int oe, .int re, .int pa, .int ee, .int dq, .int qe, .int ag, .ref aa, .ref ka])), (ka, .inl (cI, 4160, .inl (upd (itN (fun k w => ntI k w) ((26 : Int32).toNatClampNeg) (itN (fun j w => upd w (nI j).toNatClampNeg 0) (4160 : Int32).toNatClampNeg kF)) ((rwO 2 0) + 2).toNatClampNeg 1)))] := hD
          refine lv_aload_n hx hb d_M_nothingTold_84 rfl (lv_at hl 1 rfl) ?_
          refine va_get (D := (dC, dI)) (ci := 4) (v := .ref ka) (C := R_M) (T := F_M) (N := 18) hx hb ht tu_M hown hK hP 0 rfl rfl 17 (by decide) (ht _ tw_549) (fun _ h9 => h9) rfl d_M_nothingTold_85 ?_
          refine lv_iconst (v := 2) hx hb d_M_nothingTold_88 (by decide) ?_
          refine lv_iconst (v := 0) hx hb d_M_nothingTold_89 (by decide) ?_
          refine rcS (As := [.int 2, .int 0]) (rest := [.ref ka]) (c_M_rowOf l dC dI tb 2 0 ) F tw_527 tw_34 tw_526 tw_525 hP [] rfl hK [] rfl hE hS hd_M_rowOf rfl rfl ⟨Nat.le_of_ble_eq_true rfl, Nat.le_of_ble_eq_true rfl⟩ ⟨Nat.le_of_ble_eq_true rfl, Nat.le_of_ble_eq_true rfl⟩ hl.1 rfl (Nat.le_of_ble_eq_true rfl) d_M_nothingTold_90 ?_
          refine lv_iconst (v := 3) hx hb d_M_nothingTold_93 (by decide) ?_
          refine lv_iadd hx hb d_M_nothingTold_94 ?_
          refine lv_iconst (v := 1) hx hb d_M_nothingTold_95 (by decide) ?_
          refine va_iast hx hb hK hP hD hS 1 0 rfl rfl (by unfold vp_in; decide +kernel) d_M_nothingTold_96 (fun H locs hP hD hS => ?_)
          have hP : va_P (dC, dI) clX [(y, .inr (4, [.int th, .ref ma, .int wi, .int hg, .ref qa, .int zs, .int ta, .int de, .ref ba, .int oe, .int re, .int pa, .int ee, .int dq, .int qe, .int ag, .ref aa, .ref ka])), (ka, .inl (cI, 4160, .inl (upd (upd (itN (fun k w => ntI k w) ((26 : Int32).toNatClampNeg) (itN (fun j w => upd w (nI j).toNatClampNeg 0) (4160 : Int32).toNatClampNeg kF)) ((rwO 2 0) + 2).toNatClampNeg 1) ((rwO 2 0) + 3).toNatClampNeg 1)))] H := hP
          have hD : va_D A [(y, .inr (4, [.int th, .ref ma, .int wi, .int hg, .ref qa, .int zs, .int ta, .int de, .ref ba, .int oe, .int re, .int pa, .int ee, .int dq, .int qe, .int ag, .ref aa, .ref ka])), (ka, .inl (cI, 4160, .inl (upd (upd (itN (fun k w => ntI k w) ((26 : Int32).toNatClampNeg) (itN (fun j w => upd w (nI j).toNatClampNeg 0) (4160 : Int32).toNatClampNeg kF)) ((rwO 2 0) + 2).toNatClampNeg 1) ((rwO 2 0) + 3).toNatClampNeg 1)))] := hD
          refine lv_aload_n hx hb d_M_nothingTold_97 rfl (lv_at hl 1 rfl) ?_
          refine va_get (D := (dC, dI)) (ci := 4) (v := .ref ka) (C := R_M) (T := F_M) (N := 18) hx hb ht tu_M hown hK hP 0 rfl rfl 17 (by decide) (ht _ tw_549) (fun _ h9 => h9) rfl d_M_nothingTold_98 ?_
          refine lv_iconst (v := 2) hx hb d_M_nothingTold_101 (by decide) ?_
          refine lv_iconst (v := 0) hx hb d_M_nothingTold_102 (by decide) ?_
          refine rcS (As := [.int 2, .int 0]) (rest := [.ref ka]) (c_M_rowOf l dC dI tb 2 0 ) F tw_527 tw_34 tw_526 tw_525 hP [] rfl hK [] rfl hE hS hd_M_rowOf rfl rfl ⟨Nat.le_of_ble_eq_true rfl, Nat.le_of_ble_eq_true rfl⟩ ⟨Nat.le_of_ble_eq_true rfl, Nat.le_of_ble_eq_true rfl⟩ hl.1 rfl (Nat.le_of_ble_eq_true rfl) d_M_nothingTold_103 ?_
          refine lv_iconst (v := 5) hx hb d_M_nothingTold_106 (by decide) ?_
          refine lv_iadd hx hb d_M_nothingTold_107 ?_
          refine lv_ldc hx hb hown (ht _ tw_531) d_M_nothingTold_108 ?_
          refine va_iast hx hb hK hP hD hS 1 0 rfl rfl (by unfold vp_in; decide +kernel) d_M_nothingTold_110 (fun H locs hP hD hS => ?_)
          have hP : va_P (dC, dI) clX [(y, .inr (4, [.int th, .ref ma, .int wi, .int hg, .ref qa, .int zs, .int ta, .int de, .ref ba, .int oe, .int re, .int pa, .int ee, .int dq, .int qe, .int ag, .ref aa, .ref ka])), (ka, .inl (cI, 4160, .inl (upd (upd (upd (itN (fun k w => ntI k w) ((26 : Int32).toNatClampNeg) (itN (fun j w => upd w (nI j).toNatClampNeg 0) (4160 : Int32).toNatClampNeg kF)) ((rwO 2 0) + 2).toNatClampNeg 1) ((rwO 2 0) + 3).toNatClampNeg 1) ((rwO 2 0) + 5).toNatClampNeg 16777215)))] H := hP
          have hD : va_D A [(y, .inr (4, [.int th, .ref ma, .int wi, .int hg, .ref qa, .int zs, .int ta, .int de, .ref ba, .int oe, .int re, .int pa, .int ee, .int dq, .int qe, .int ag, .ref aa, .ref ka])), (ka, .inl (cI, 4160, .inl (upd (upd (upd (itN (fun k w => ntI k w) ((26 : Int32).toNatClampNeg) (itN (fun j w => upd w (nI j).toNatClampNeg 0) (4160 : Int32).toNatClampNeg kF)) ((rwO 2 0) + 2).toNatClampNeg 1) ((rwO 2 0) + 3).toNatClampNeg 1) ((rwO 2 0) + 5).toNatClampNeg 16777215)))] := hD
          refine lv_aload_n hx hb d_M_nothingTold_111 rfl (lv_at hl 1 rfl) ?_
          refine va_get (D := (dC, dI)) (ci := 4) (v := .ref ka) (C := R_M) (T := F_M) (N := 18) hx hb ht tu_M hown hK hP 0 rfl rfl 17 (by decide) (ht _ tw_549) (fun _ h9 => h9) rfl d_M_nothingTold_112 ?_
          refine lv_iconst (v := 3) hx hb d_M_nothingTold_115 (by decide) ?_
          refine lv_iconst (v := 0) hx hb d_M_nothingTold_116 (by decide) ?_
          refine rcS (As := [.int 3, .int 0]) (rest := [.ref ka]) (c_M_rowOf l dC dI tb 3 0 ) F tw_527 tw_34 tw_526 tw_525 hP [] rfl hK [] rfl hE hS hd_M_rowOf rfl rfl ⟨Nat.le_of_ble_eq_true rfl, Nat.le_of_ble_eq_true rfl⟩ ⟨Nat.le_of_ble_eq_true rfl, Nat.le_of_ble_eq_true rfl⟩ hl.1 rfl (Nat.le_of_ble_eq_true rfl) d_M_nothingTold_117 ?_
          refine lv_iconst (v := 2) hx hb d_M_nothingTold_120 (by decide) ?_
          refine lv_iadd hx hb d_M_nothingTold_121 ?_
          refine lv_iconst (v := (-1)) hx hb d_M_nothingTold_122 (by decide) ?_
          refine va_iast hx hb hK hP hD hS 1 0 rfl rfl (by unfold vp_in; decide +kernel) d_M_nothingTold_123 (fun H locs hP hD hS => ?_)
          have hP : va_P (dC, dI) clX [(y, .inr (4, [.int th, .ref ma, .int wi, .int hg, .ref qa, .int zs, .int ta, .int de, .ref ba, .int oe, .int re, .int pa, .int ee, .int dq, .int qe, .int ag, .ref aa, .ref ka])), (ka, .inl (cI, 4160, .inl (upd (upd (upd (upd (itN (fun k w => ntI k w) ((26 : Int32).toNatClampNeg) (itN (fun j w => upd w (nI j).toNatClampNeg 0) (4160 : Int32).toNatClampNeg kF)) ((rwO 2 0) + 2).toNatClampNeg 1) ((rwO 2 0) + 3).toNatClampNeg 1) ((rwO 2 0) + 5).toNatClampNeg 16777215) ((rwO 3 0) + 2).toNatClampNeg (-1))))] H := hP
          have hD : va_D A [(y, .inr (4, [.int th, .ref ma, .int wi, .int hg, .ref qa, .int zs, .int ta, .int de, .ref ba, .int oe, .int re, .int pa, .int ee, .int dq, .int qe, .int ag, .ref aa, .ref ka])), (ka, .inl (cI, 4160, .inl (upd (upd (upd (upd (itN (fun k w => ntI k w) ((26 : Int32).toNatClampNeg) (itN (fun j w => upd w (nI j).toNatClampNeg 0) (4160 : Int32).toNatClampNeg kF)) ((rwO 2 0) + 2).toNatClampNeg 1) ((rwO 2 0) + 3).toNatClampNeg 1) ((rwO 2 0) + 5).toNatClampNeg 16777215) ((rwO 3 0) + 2).toNatClampNeg (-1))))] := hD
          refine lv_aload_n hx hb d_M_nothingTold_124 rfl (lv_at hl 1 rfl) ?_
          refine va_get (D := (dC, dI)) (ci := 4) (v := .ref ka) (C := R_M) (T := F_M) (N := 18) hx hb ht tu_M hown hK hP 0 rfl rfl 17 (by decide) (ht _ tw_549) (fun _ h9 => h9) rfl d_M_nothingTold_125 ?_
          refine lv_bipush (v := 7) hx hb d_M_nothingTold_128 (by decide) ?_
          refine lv_iconst (v := 0) hx hb d_M_nothingTold_130 (by decide) ?_
          refine rcS (As := [.int 7, .int 0]) (rest := [.ref ka]) (c_M_rowOf l dC dI tb 7 0 ) F tw_527 tw_34 tw_526 tw_525 hP [] rfl hK [] rfl hE hS hd_M_rowOf rfl rfl ⟨Nat.le_of_ble_eq_true rfl, Nat.le_of_ble_eq_true rfl⟩ ⟨Nat.le_of_ble_eq_true rfl, Nat.le_of_ble_eq_true rfl⟩ hl.1 rfl (Nat.le_of_ble_eq_true rfl) d_M_nothingTold_131 ?_
          refine lv_iconst (v := (-1)) hx hb d_M_nothingTold_134 (by decide) ?_
          refine va_iast hx hb hK hP hD hS 1 0 rfl rfl (by unfold vp_in; decide +kernel) d_M_nothingTold_135 (fun H locs hP hD hS => ?_)
          have hP : va_P (dC, dI) clX [(y, .inr (4, [.int th, .ref ma, .int wi, .int hg, .ref qa, .int zs, .int ta, .int de, .ref ba, .int oe, .int re, .int pa, .int ee, .int dq, .int qe, .int ag, .ref aa, .ref ka])), (ka, .inl (cI, 4160, .inl (upd (upd (upd (upd (upd (itN (fun k w => ntI k w) ((26 : Int32).toNatClampNeg) (itN (fun j w => upd w (nI j).toNatClampNeg 0) (4160 : Int32).toNatClampNeg kF)) ((rwO 2 0) + 2).toNatClampNeg 1) ((rwO 2 0) + 3).toNatClampNeg 1) ((rwO 2 0) + 5).toNatClampNeg 16777215) ((rwO 3 0) + 2).toNatClampNeg (-1)) (rwO 7 0).toNatClampNeg (-1))))] H := hP
          have hD : va_D A [(y, .inr (4, [.int th, .ref ma, .int wi, .int hg, .ref qa, .int zs, .int ta, .int de, .ref ba, .int oe, .int re, .int pa, .int ee, .int dq, .int qe, .int ag, .ref aa, .ref ka])), (ka, .inl (cI, 4160, .inl (upd (upd (upd (upd (upd (itN (fun k w => ntI k w) ((26 : Int32).toNatClampNeg) (itN (fun j w => upd w (nI j).toNatClampNeg 0) (4160 : Int32).toNatClampNeg kF)) ((rwO 2 0) + 2).toNatClampNeg 1) ((rwO 2 0) + 3).toNatClampNeg 1) ((rwO 2 0) + 5).toNatClampNeg 16777215) ((rwO 3 0) + 2).toNatClampNeg (-1)) (rwO 7 0).toNatClampNeg (-1))))] := hD
          refine lv_aload_n hx hb d_M_nothingTold_136 rfl (lv_at hl 1 rfl) ?_
          refine va_get (D := (dC, dI)) (ci := 4) (v := .ref ka) (C := R_M) (T := F_M) (N := 18) hx hb ht tu_M hown hK hP 0 rfl rfl 17 (by decide) (ht _ tw_549) (fun _ h9 => h9) rfl d_M_nothingTold_137 ?_
          refine lv_bipush (v := 8) hx hb d_M_nothingTold_140 (by decide) ?_
          refine lv_iconst (v := 0) hx hb d_M_nothingTold_142 (by decide) ?_
          refine rcS (As := [.int 8, .int 0]) (rest := [.ref ka]) (c_M_rowOf l dC dI tb 8 0 ) F tw_527 tw_34 tw_526 tw_525 hP [] rfl hK [] rfl hE hS hd_M_rowOf rfl rfl ⟨Nat.le_of_ble_eq_true rfl, Nat.le_of_ble_eq_true rfl⟩ ⟨Nat.le_of_ble_eq_true rfl, Nat.le_of_ble_eq_true rfl⟩ hl.1 rfl (Nat.le_of_ble_eq_true rfl) d_M_nothingTold_143 ?_
          refine lv_iconst (v := (-1)) hx hb d_M_nothingTold_146 (by decide) ?_
          refine va_iast hx hb hK hP hD hS 1 0 rfl rfl (by unfold vp_in; decide +kernel) d_M_nothingTold_147 (fun H locs hP hD hS => ?_)
          have hP : va_P (dC, dI) clX [(y, .inr (4, [.int th, .ref ma, .int wi, .int hg, .ref qa, .int zs, .int ta, .int de, .ref ba, .int oe, .int re, .int pa, .int ee, .int dq, .int qe, .int ag, .ref aa, .ref ka])), (ka, .inl (cI, 4160, .inl (upd (upd (upd (upd (upd (upd (itN (fun k w => ntI k w) ((26 : Int32).toNatClampNeg) (itN (fun j w => upd w (nI j).toNatClampNeg 0) (4160 : Int32).toNatClampNeg kF)) ((rwO 2 0) + 2).toNatClampNeg 1) ((rwO 2 0) + 3).toNatClampNeg 1) ((rwO 2 0) + 5).toNatClampNeg 16777215) ((rwO 3 0) + 2).toNatClampNeg (-1)) (rwO 7 0).toNatClampNeg (-1)) (rwO 8 0).toNatClampNeg (-1))))] H := hP
          have hD : va_D A [(y, .inr (4, [.int th, .ref ma, .int wi, .int hg, .ref qa, .int zs, .int ta, .int de, .ref ba, .int oe, .int re, .int pa, .int ee, .int dq, .int qe, .int ag, .ref aa, .ref ka])), (ka, .inl (cI, 4160, .inl (upd (upd (upd (upd (upd (upd (itN (fun k w => ntI k w) ((26 : Int32).toNatClampNeg) (itN (fun j w => upd w (nI j).toNatClampNeg 0) (4160 : Int32).toNatClampNeg kF)) ((rwO 2 0) + 2).toNatClampNeg 1) ((rwO 2 0) + 3).toNatClampNeg 1) ((rwO 2 0) + 5).toNatClampNeg 16777215) ((rwO 3 0) + 2).toNatClampNeg (-1)) (rwO 7 0).toNatClampNeg (-1)) (rwO 8 0).toNatClampNeg (-1))))] := hD
          refine lv_aload_n hx hb d_M_nothingTold_148 rfl (lv_at hl 1 rfl) ?_
          refine va_get (D := (dC, dI)) (ci := 4) (v := .ref ka) (C := R_M) (T := F_M) (N := 18) hx hb ht tu_M hown hK hP 0 rfl rfl 17 (by decide) (ht _ tw_549) (fun _ h9 => h9) rfl d_M_nothingTold_149 ?_
          refine lv_bipush (v := 10) hx hb d_M_nothingTold_152 (by decide) ?_
          refine lv_iconst (v := 0) hx hb d_M_nothingTold_154 (by decide) ?_
          refine rcS (As := [.int 10, .int 0]) (rest := [.ref ka]) (c_M_rowOf l dC dI tb 10 0 ) F tw_527 tw_34 tw_526 tw_525 hP [] rfl hK [] rfl hE hS hd_M_rowOf rfl rfl ⟨Nat.le_of_ble_eq_true rfl, Nat.le_of_ble_eq_true rfl⟩ ⟨Nat.le_of_ble_eq_true rfl, Nat.le_of_ble_eq_true rfl⟩ hl.1 rfl (Nat.le_of_ble_eq_true rfl) d_M_nothingTold_155 ?_
          refine lv_iconst (v := (-1)) hx hb d_M_nothingTold_158 (by decide) ?_
          refine va_iast hx hb hK hP hD hS 1 0 rfl rfl (by unfold vp_in; decide +kernel) d_M_nothingTold_159 (fun H locs hP hD hS => ?_)
          have hP : va_P (dC, dI) clX [(y, .inr (4, [.int th, .ref ma, .int wi, .int hg, .ref qa, .int zs, .int ta, .int de, .ref ba, .int oe, .int re, .int pa, .int ee, .int dq, .int qe, .int ag, .ref aa, .ref ka])), (ka, .inl (cI, 4160, .inl (upd (upd (upd (upd (upd (upd (upd (itN (fun k w => ntI k w) ((26 : Int32).toNatClampNeg) (itN (fun j w => upd w (nI j).toNatClampNeg 0) (4160 : Int32).toNatClampNeg kF)) ((rwO 2 0) + 2).toNatClampNeg 1) ((rwO 2 0) + 3).toNatClampNeg 1) ((rwO 2 0) + 5).toNatClampNeg 16777215) ((rwO 3 0) + 2).toNatClampNeg (-1)) (rwO 7 0).toNatClampNeg (-1)) (rwO 8 0).toNatClampNeg (-1)) (rwO 10 0).toNatClampNeg (-1))))] H := hP
          have hD : va_D A [(y, .inr (4, [.int th, .ref ma, .int wi, .int hg, .ref qa, .int zs, .int ta, .int de, .ref ba, .int oe, .int re, .int pa, .int ee, .int dq, .int qe, .int ag, .ref aa, .ref ka])), (ka, .inl (cI, 4160, .inl (upd (upd (upd (upd (upd (upd (upd (itN (fun k w => ntI k w) ((26 : Int32).toNatClampNeg) (itN (fun j w => upd w (nI j).toNatClampNeg 0) (4160 : Int32).toNatClampNeg kF)) ((rwO 2 0) + 2).toNatClampNeg 1) ((rwO 2 0) + 3).toNatClampNeg 1) ((rwO 2 0) + 5).toNatClampNeg 16777215) ((rwO 3 0) + 2).toNatClampNeg (-1)) (rwO 7 0).toNatClampNeg (-1)) (rwO 8 0).toNatClampNeg (-1)) (rwO 10 0).toNatClampNeg (-1))))] := hD
          refine lv_aload_n hx hb d_M_nothingTold_160 rfl (lv_at hl 1 rfl) ?_
          refine va_get (D := (dC, dI)) (ci := 4) (v := .ref ka) (C := R_M) (T := F_M) (N := 18) hx hb ht tu_M hown hK hP 0 rfl rfl 17 (by decide) (ht _ tw_549) (fun _ h9 => h9) rfl d_M_nothingTold_161 ?_
          refine lv_bipush (v := 12) hx hb d_M_nothingTold_164 (by decide) ?_
          refine lv_iconst (v := 0) hx hb d_M_nothingTold_166 (by decide) ?_
          refine rcS (As := [.int 12, .int 0]) (rest := [.ref ka]) (c_M_rowOf l dC dI tb 12 0 ) F tw_527 tw_34 tw_526 tw_525 hP [] rfl hK [] rfl hE hS hd_M_rowOf rfl rfl ⟨Nat.le_of_ble_eq_true rfl, Nat.le_of_ble_eq_true rfl⟩ ⟨Nat.le_of_ble_eq_true rfl, Nat.le_of_ble_eq_true rfl⟩ hl.1 rfl (Nat.le_of_ble_eq_true rfl) d_M_nothingTold_167 ?_
          refine lv_iconst (v := 4) hx hb d_M_nothingTold_170 (by decide) ?_
          refine lv_iadd hx hb d_M_nothingTold_171 ?_
          refine lv_iconst (v := (-1)) hx hb d_M_nothingTold_172 (by decide) ?_
          refine va_iast hx hb hK hP hD hS 1 0 rfl rfl (by unfold vp_in; decide +kernel) d_M_nothingTold_173 (fun H locs hP hD hS => ?_)
          have hP : va_P (dC, dI) clX [(y, .inr (4, [.int th, .ref ma, .int wi, .int hg, .ref qa, .int zs, .int ta, .int de, .ref ba, .int oe, .int re, .int pa, .int ee, .int dq, .int qe, .int ag, .ref aa, .ref ka])), (ka, .inl (cI, 4160, .inl (upd (upd (upd (upd (upd (upd (upd (upd (itN (fun k w => ntI k w) ((26 : Int32).toNatClampNeg) (itN (fun j w => upd w (nI j).toNatClampNeg 0) (4160 : Int32).toNatClampNeg kF)) ((rwO 2 0) + 2).toNatClampNeg 1) ((rwO 2 0) + 3).toNatClampNeg 1) ((rwO 2 0) + 5).toNatClampNeg 16777215) ((rwO 3 0) + 2).toNatClampNeg (-1)) (rwO 7 0).toNatClampNeg (-1)) (rwO 8 0).toNatClampNeg (-1)) (rwO 10 0).toNatClampNeg (-1)) ((rwO 12 0) + 4).toNatClampNeg (-1))))] H := hP
          have hD : va_D A [(y, .inr (4, [.int th, .ref ma, .int wi, .int hg, .ref qa, .int zs, .int ta, .int de, .ref ba, .int oe, .int re, .int pa, .int ee, .int dq, .int qe, .int ag, .ref aa, .ref ka])), (ka, .inl (cI, 4160, .inl (upd (upd (upd (upd (upd (upd (upd (upd (itN (fun k w => ntI k w) ((26 : Int32).toNatClampNeg) (itN (fun j w => upd w (nI j).toNatClampNeg 0) (4160 : Int32).toNatClampNeg kF)) ((rwO 2 0) + 2).toNatClampNeg 1) ((rwO 2 0) + 3).toNatClampNeg 1) ((rwO 2 0) + 5).toNatClampNeg 16777215) ((rwO 3 0) + 2).toNatClampNeg (-1)) (rwO 7 0).toNatClampNeg (-1)) (rwO 8 0).toNatClampNeg (-1)) (rwO 10 0).toNatClampNeg (-1)) ((rwO 12 0) + 4).toNatClampNeg (-1))))] := hD
          refine lv_aload_n hx hb d_M_nothingTold_174 rfl (lv_at hl 1 rfl) ?_
          refine va_get (D := (dC, dI)) (ci := 4) (v := .ref ka) (C := R_M) (T := F_M) (N := 18) hx hb ht tu_M hown hK hP 0 rfl rfl 17 (by decide) (ht _ tw_549) (fun _ h9 => h9) rfl d_M_nothingTold_175 ?_
          refine lv_bipush (v := 14) hx hb d_M_nothingTold_178 (by decide) ?_
          refine lv_iconst (v := 0) hx hb d_M_nothingTold_180 (by decide) ?_
          refine rcS (As := [.int 14, .int 0]) (rest := [.ref ka]) (c_M_rowOf l dC dI tb 14 0 ) F tw_527 tw_34 tw_526 tw_525 hP [] rfl hK [] rfl hE hS hd_M_rowOf rfl rfl ⟨Nat.le_of_ble_eq_true rfl, Nat.le_of_ble_eq_true rfl⟩ ⟨Nat.le_of_ble_eq_true rfl, Nat.le_of_ble_eq_true rfl⟩ hl.1 rfl (Nat.le_of_ble_eq_true rfl) d_M_nothingTold_181 ?_
          refine lv_iconst (v := (-1)) hx hb d_M_nothingTold_184 (by decide) ?_
          refine va_iast hx hb hK hP hD hS 1 0 rfl rfl (by unfold vp_in; decide +kernel) d_M_nothingTold_185 (fun H locs hP hD hS => ?_)
          have hP : va_P (dC, dI) clX [(y, .inr (4, [.int th, .ref ma, .int wi, .int hg, .ref qa, .int zs, .int ta, .int de, .ref ba, .int oe, .int re, .int pa, .int ee, .int dq, .int qe, .int ag, .ref aa, .ref ka])), (ka, .inl (cI, 4160, .inl (upd (upd (upd (upd (upd (upd (upd (upd (upd (itN (fun k w => ntI k w) ((26 : Int32).toNatClampNeg) (itN (fun j w => upd w (nI j).toNatClampNeg 0) (4160 : Int32).toNatClampNeg kF)) ((rwO 2 0) + 2).toNatClampNeg 1) ((rwO 2 0) + 3).toNatClampNeg 1) ((rwO 2 0) + 5).toNatClampNeg 16777215) ((rwO 3 0) + 2).toNatClampNeg (-1)) (rwO 7 0).toNatClampNeg (-1)) (rwO 8 0).toNatClampNeg (-1)) (rwO 10 0).toNatClampNeg (-1)) ((rwO 12 0) + 4).toNatClampNeg (-1)) (rwO 14 0).toNatClampNeg (-1))))] H := hP
          have hD : va_D A [(y, .inr (4, [.int th, .ref ma, .int wi, .int hg, .ref qa, .int zs, .int ta, .int de, .ref ba, .int oe, .int re, .int pa, .int ee, .int dq, .int qe, .int ag, .ref aa, .ref ka])), (ka, .inl (cI, 4160, .inl (upd (upd (upd (upd (upd (upd (upd (upd (upd (itN (fun k w => ntI k w) ((26 : Int32).toNatClampNeg) (itN (fun j w => upd w (nI j).toNatClampNeg 0) (4160 : Int32).toNatClampNeg kF)) ((rwO 2 0) + 2).toNatClampNeg 1) ((rwO 2 0) + 3).toNatClampNeg 1) ((rwO 2 0) + 5).toNatClampNeg 16777215) ((rwO 3 0) + 2).toNatClampNeg (-1)) (rwO 7 0).toNatClampNeg (-1)) (rwO 8 0).toNatClampNeg (-1)) (rwO 10 0).toNatClampNeg (-1)) ((rwO 12 0) + 4).toNatClampNeg (-1)) (rwO 14 0).toNatClampNeg (-1))))] := hD
          refine lv_aload_n hx hb d_M_nothingTold_186 rfl (lv_at hl 1 rfl) ?_
          refine va_get (D := (dC, dI)) (ci := 4) (v := .ref ka) (C := R_M) (T := F_M) (N := 18) hx hb ht tu_M hown hK hP 0 rfl rfl 17 (by decide) (ht _ tw_549) (fun _ h9 => h9) rfl d_M_nothingTold_187 ?_
          refine lv_bipush (v := 15) hx hb d_M_nothingTold_190 (by decide) ?_
          refine lv_iconst (v := 0) hx hb d_M_nothingTold_192 (by decide) ?_
          refine rcS (As := [.int 15, .int 0]) (rest := [.ref ka]) (c_M_rowOf l dC dI tb 15 0 ) F tw_527 tw_34 tw_526 tw_525 hP [] rfl hK [] rfl hE hS hd_M_rowOf rfl rfl ⟨Nat.le_of_ble_eq_true rfl, Nat.le_of_ble_eq_true rfl⟩ ⟨Nat.le_of_ble_eq_true rfl, Nat.le_of_ble_eq_true rfl⟩ hl.1 rfl (Nat.le_of_ble_eq_true rfl) d_M_nothingTold_193 ?_
          refine lv_bipush (v := 15) hx hb d_M_nothingTold_196 (by decide) ?_
          refine va_iast hx hb hK hP hD hS 1 0 rfl rfl (by unfold vp_in; decide +kernel) d_M_nothingTold_198 (fun H locs hP hD hS => ?_)
          have hP : va_P (dC, dI) clX [(y, .inr (4, [.int th, .ref ma, .int wi, .int hg, .ref qa, .int zs, .int ta, .int de, .ref ba, .int oe, .int re, .int pa, .int ee, .int dq, .int qe, .int ag, .ref aa, .ref ka])), (ka, .inl (cI, 4160, .inl (upd (upd (upd (upd (upd (upd (upd (upd (upd (upd (itN (fun k w => ntI k w) ((26 : Int32).toNatClampNeg) (itN (fun j w => upd w (nI j).toNatClampNeg 0) (4160 : Int32).toNatClampNeg kF)) ((rwO 2 0) + 2).toNatClampNeg 1) ((rwO 2 0) + 3).toNatClampNeg 1) ((rwO 2 0) + 5).toNatClampNeg 16777215) ((rwO 3 0) + 2).toNatClampNeg (-1)) (rwO 7 0).toNatClampNeg (-1)) (rwO 8 0).toNatClampNeg (-1)) (rwO 10 0).toNatClampNeg (-1)) ((rwO 12 0) + 4).toNatClampNeg (-1)) (rwO 14 0).toNatClampNeg (-1)) (rwO 15 0).toNatClampNeg 15)))] H := hP
          have hD : va_D A [(y, .inr (4, [.int th, .ref ma, .int wi, .int hg, .ref qa, .int zs, .int ta, .int de, .ref ba, .int oe, .int re, .int pa, .int ee, .int dq, .int qe, .int ag, .ref aa, .ref ka])), (ka, .inl (cI, 4160, .inl (upd (upd (upd (upd (upd (upd (upd (upd (upd (upd (itN (fun k w => ntI k w) ((26 : Int32).toNatClampNeg) (itN (fun j w => upd w (nI j).toNatClampNeg 0) (4160 : Int32).toNatClampNeg kF)) ((rwO 2 0) + 2).toNatClampNeg 1) ((rwO 2 0) + 3).toNatClampNeg 1) ((rwO 2 0) + 5).toNatClampNeg 16777215) ((rwO 3 0) + 2).toNatClampNeg (-1)) (rwO 7 0).toNatClampNeg (-1)) (rwO 8 0).toNatClampNeg (-1)) (rwO 10 0).toNatClampNeg (-1)) ((rwO 12 0) + 4).toNatClampNeg (-1)) (rwO 14 0).toNatClampNeg (-1)) (rwO 15 0).toNatClampNeg 15)))] := hD
          refine lv_iconst (v := 0) hx hb d_M_nothingTold_199 (by decide) ?_
          refine lv_istore_n (lv' := [(1, .int 0), (0, .ref y)]) hx hb d_M_nothingTold_200 rfl hl (by decide) rfl (fun ls hl => ?_)
          refine lp_W (N := (4 : Int32).toNatClampNeg) (head := 201) (I := fun i H locs ls => va_P (dC, dI) clX [(y, .inr (4, [.int th, .ref ma, .int wi, .int hg, .ref qa, .int zs, .int ta, .int de, .ref ba, .int oe, .int re, .int pa, .int ee, .int dq, .int qe, .int ag, .ref aa, .ref ka])), (ka, .inl (cI, 4160, .inl (itN (fun j w => upd w (rwO 9 (nI j) + 4).toNatClampNeg 1) i (upd (upd (upd (upd (upd (upd (upd (upd (upd (upd (itN (fun k w => ntI k w) ((26 : Int32).toNatClampNeg) (itN (fun j w => upd w (nI j).toNatClampNeg 0) (4160 : Int32).toNatClampNeg kF)) ((rwO 2 0) + 2).toNatClampNeg 1) ((rwO 2 0) + 3).toNatClampNeg 1) ((rwO 2 0) + 5).toNatClampNeg 16777215) ((rwO 3 0) + 2).toNatClampNeg (-1)) (rwO 7 0).toNatClampNeg (-1)) (rwO 8 0).toNatClampNeg (-1)) (rwO 10 0).toNatClampNeg (-1)) ((rwO 12 0) + 4).toNatClampNeg (-1)) (rwO 14 0).toNatClampNeg (-1)) (rwO 15 0).toNatClampNeg 15))))] H ∧ va_D A [(y, .inr (4, [.int th, .ref ma, .int wi, .int hg, .ref qa, .int zs, .int ta, .int de, .ref ba, .int oe, .int re, .int pa, .int ee, .int dq, .int qe, .int ag, .ref aa, .ref ka])), (ka, .inl (cI, 4160, .inl (itN (fun j w => upd w (rwO 9 (nI j) + 4).toNatClampNeg 1) i (upd (upd (upd (upd (upd (upd (upd (upd (upd (upd (itN (fun k w => ntI k w) ((26 : Int32).toNatClampNeg) (itN (fun j w => upd w (nI j).toNatClampNeg 0) (4160 : Int32).toNatClampNeg kF)) ((rwO 2 0) + 2).toNatClampNeg 1) ((rwO 2 0) + 3).toNatClampNeg 1) ((rwO 2 0) + 5).toNatClampNeg 16777215) ((rwO 3 0) + 2).toNatClampNeg (-1)) (rwO 7 0).toNatClampNeg (-1)) (rwO 8 0).toNatClampNeg (-1)) (rwO 10 0).toNatClampNeg (-1)) ((rwO 12 0) + 4).toNatClampNeg (-1)) (rwO 14 0).toNatClampNeg (-1)) (rwO 15 0).toNatClampNeg 15))))] ∧ va_S A s.heap H locs ∧ lv_has ls 3 [(1, .int (nI i)), (0, .ref y)]) ?_ ?_ 0 (Nat.zero_le _) ⟨hP, hD, hS, lv_sub hl [0, 1] rfl⟩
          · intro i H locs ls hi_i hI0 kk_i
            obtain ⟨hP, hD, hS, hl⟩ := hI0
            refine lv_iload_n hx hb d_M_nothingTold_201 rfl (lv_at hl 0 rfl) ?_
            refine lv_iconst (v := 4) hx hb d_M_nothingTold_202 (by decide) ?_
            refine lv_icmp_ge (tgt := 226) hx hb d_M_nothingTold_203 (by decide) (fun c_224 => ?_) (fun c_224 => ?_)
            · exact absurd c_224 (lp_lt hi_i)
            · refine lv_aload_n hx hb d_M_nothingTold_206 rfl (lv_at hl 1 rfl) ?_
              refine va_get (D := (dC, dI)) (ci := 4) (v := .ref ka) (C := R_M) (T := F_M) (N := 18) hx hb ht tu_M hown hK hP 0 rfl rfl 17 (by decide) (ht _ tw_549) (fun _ h9 => h9) rfl d_M_nothingTold_207 ?_
              refine lv_bipush (v := 9) hx hb d_M_nothingTold_210 (by decide) ?_
              refine lv_iload_n hx hb d_M_nothingTold_212 rfl (lv_at hl 0 rfl) ?_
              refine rcS (As := [.int 9, .int (nI i)]) (rest := [.ref ka]) (c_M_rowOf l dC dI tb 9 (nI i) ) F tw_527 tw_34 tw_526 tw_525 hP [] rfl hK [] rfl hE hS hd_M_rowOf rfl rfl ⟨Nat.le_of_ble_eq_true rfl, Nat.le_of_ble_eq_true rfl⟩ ⟨Nat.le_of_ble_eq_true rfl, Nat.le_of_ble_eq_true rfl⟩ hl.1 rfl (Nat.le_of_ble_eq_true rfl) d_M_nothingTold_213 ?_
              refine lv_iconst (v := 4) hx hb d_M_nothingTold_216 (by decide) ?_
              refine lv_iadd hx hb d_M_nothingTold_217 ?_
              refine lv_iconst (v := 1) hx hb d_M_nothingTold_218 (by decide) ?_
              refine va_iast hx hb hK hP hD hS 1 0 rfl rfl (nt_b i hi_i) d_M_nothingTold_219 (fun H locs hP hD hS => ?_)
              have hP : va_P (dC, dI) clX [(y, .inr (4, [.int th, .ref ma, .int wi, .int hg, .ref qa, .int zs, .int ta, .int de, .ref ba, .int oe, .int re, .int pa, .int ee, .int dq, .int qe, .int ag, .ref aa, .ref ka])), (ka, .inl (cI, 4160, .inl (upd (itN (fun j w => upd w (rwO 9 (nI j) + 4).toNatClampNeg 1) i (upd (upd (upd (upd (upd (upd (upd (upd (upd (upd (itN (fun k w => ntI k w) ((26 : Int32).toNatClampNeg) (itN (fun j w => upd w (nI j).toNatClampNeg 0) (4160 : Int32).toNatClampNeg kF)) ((rwO 2 0) + 2).toNatClampNeg 1) ((rwO 2 0) + 3).toNatClampNeg 1) ((rwO 2 0) + 5).toNatClampNeg 16777215) ((rwO 3 0) + 2).toNatClampNeg (-1)) (rwO 7 0).toNatClampNeg (-1)) (rwO 8 0).toNatClampNeg (-1)) (rwO 10 0).toNatClampNeg (-1)) ((rwO 12 0) + 4).toNatClampNeg (-1)) (rwO 14 0).toNatClampNeg (-1)) (rwO 15 0).toNatClampNeg 15)) ((rwO 9 (nI i)) + 4).toNatClampNeg 1)))] H := hP
              have hD : va_D A [(y, .inr (4, [.int th, .ref ma, .int wi, .int hg, .ref qa, .int zs, .int ta, .int de, .ref ba, .int oe, .int re, .int pa, .int ee, .int dq, .int qe, .int ag, .ref aa, .ref ka])), (ka, .inl (cI, 4160, .inl (upd (itN (fun j w => upd w (rwO 9 (nI j) + 4).toNatClampNeg 1) i (upd (upd (upd (upd (upd (upd (upd (upd (upd (upd (itN (fun k w => ntI k w) ((26 : Int32).toNatClampNeg) (itN (fun j w => upd w (nI j).toNatClampNeg 0) (4160 : Int32).toNatClampNeg kF)) ((rwO 2 0) + 2).toNatClampNeg 1) ((rwO 2 0) + 3).toNatClampNeg 1) ((rwO 2 0) + 5).toNatClampNeg 16777215) ((rwO 3 0) + 2).toNatClampNeg (-1)) (rwO 7 0).toNatClampNeg (-1)) (rwO 8 0).toNatClampNeg (-1)) (rwO 10 0).toNatClampNeg (-1)) ((rwO 12 0) + 4).toNatClampNeg (-1)) (rwO 14 0).toNatClampNeg (-1)) (rwO 15 0).toNatClampNeg 15)) ((rwO 9 (nI i)) + 4).toNatClampNeg 1)))] := hD
              refine lv_iinc (v := ((nI i) + 1)) (lv' := [(1, .int ((nI i) + 1)), (0, .ref y)]) hx hb d_M_nothingTold_220 hl (k := 0) rfl rfl (by decide) rfl (fun ls hl => ?_)
              refine lv_goto (tgt := 201) hx hb d_M_nothingTold_223 (by decide) ?_
              rw [nI_1] at hl
              exact kk_i _ _ _ ⟨hP.sub [0, 1] rfl, hD.sub [0, 1] (by decide) rfl, hS, lv_sub hl [0, 1] rfl⟩
          · intro H locs ls hI0
            obtain ⟨hP, hD, hS, hl⟩ := hI0
            refine lv_iload_n hx hb d_M_nothingTold_201 rfl (lv_at hl 0 rfl) ?_
            refine lv_iconst (v := 4) hx hb d_M_nothingTold_202 (by decide) ?_
            refine lv_icmp_ge (tgt := 226) hx hb d_M_nothingTold_203 (by decide) (fun c_225 => ?_) (fun c_225 => ?_)
            · refine lv_iconst (v := 0) hx hb d_M_nothingTold_226 (by decide) ?_
              refine lv_istore_n (lv' := [(1, .int 0), (0, .ref y)]) hx hb d_M_nothingTold_227 rfl hl (by decide) rfl (fun ls hl => ?_)
              refine lp_W (N := (2 : Int32).toNatClampNeg) (head := 228) (I := fun i H locs ls => va_P (dC, dI) clX [(y, .inr (4, [.int th, .ref ma, .int wi, .int hg, .ref qa, .int zs, .int ta, .int de, .ref ba, .int oe, .int re, .int pa, .int ee, .int dq, .int qe, .int ag, .ref aa, .ref ka])), (ka, .inl (cI, 4160, .inl (itN (fun j w => upd w (rwO 11 (nI j) + 1).toNatClampNeg (-1)) i (itN (fun j w => upd w (rwO 9 (nI j) + 4).toNatClampNeg 1) ((4 : Int32).toNatClampNeg) (upd (upd (upd (upd (upd (upd (upd (upd (upd (upd (itN (fun k w => ntI k w) ((26 : Int32).toNatClampNeg) (itN (fun j w => upd w (nI j).toNatClampNeg 0) (4160 : Int32).toNatClampNeg kF)) ((rwO 2 0) + 2).toNatClampNeg 1) ((rwO 2 0) + 3).toNatClampNeg 1) ((rwO 2 0) + 5).toNatClampNeg 16777215) ((rwO 3 0) + 2).toNatClampNeg (-1)) (rwO 7 0).toNatClampNeg (-1)) (rwO 8 0).toNatClampNeg (-1)) (rwO 10 0).toNatClampNeg (-1)) ((rwO 12 0) + 4).toNatClampNeg (-1)) (rwO 14 0).toNatClampNeg (-1)) (rwO 15 0).toNatClampNeg 15)))))] H ∧ va_D A [(y, .inr (4, [.int th, .ref ma, .int wi, .int hg, .ref qa, .int zs, .int ta, .int de, .ref ba, .int oe, .int re, .int pa, .int ee, .int dq, .int qe, .int ag, .ref aa, .ref ka])), (ka, .inl (cI, 4160, .inl (itN (fun j w => upd w (rwO 11 (nI j) + 1).toNatClampNeg (-1)) i (itN (fun j w => upd w (rwO 9 (nI j) + 4).toNatClampNeg 1) ((4 : Int32).toNatClampNeg) (upd (upd (upd (upd (upd (upd (upd (upd (upd (upd (itN (fun k w => ntI k w) ((26 : Int32).toNatClampNeg) (itN (fun j w => upd w (nI j).toNatClampNeg 0) (4160 : Int32).toNatClampNeg kF)) ((rwO 2 0) + 2).toNatClampNeg 1) ((rwO 2 0) + 3).toNatClampNeg 1) ((rwO 2 0) + 5).toNatClampNeg 16777215) ((rwO 3 0) + 2).toNatClampNeg (-1)) (rwO 7 0).toNatClampNeg (-1)) (rwO 8 0).toNatClampNeg (-1)) (rwO 10 0).toNatClampNeg (-1)) ((rwO 12 0) + 4).toNatClampNeg (-1)) (rwO 14 0).toNatClampNeg (-1)) (rwO 15 0).toNatClampNeg 15)))))] ∧ va_S A s.heap H locs ∧ lv_has ls 3 [(1, .int (nI i)), (0, .ref y)]) ?_ ?_ 0 (Nat.zero_le _) ⟨hP, hD, hS, lv_sub hl [0, 1] rfl⟩
              · intro i H locs ls hi_i hI0 kk_i
                obtain ⟨hP, hD, hS, hl⟩ := hI0
                refine lv_iload_n hx hb d_M_nothingTold_228 rfl (lv_at hl 0 rfl) ?_
                refine lv_iconst (v := 2) hx hb d_M_nothingTold_229 (by decide) ?_
                refine lv_icmp_ge (tgt := 253) hx hb d_M_nothingTold_230 (by decide) (fun c_226 => ?_) (fun c_226 => ?_)
                · exact absurd c_226 (lp_lt hi_i)
                · refine lv_aload_n hx hb d_M_nothingTold_233 rfl (lv_at hl 1 rfl) ?_
                  refine va_get (D := (dC, dI)) (ci := 4) (v := .ref ka) (C := R_M) (T := F_M) (N := 18) hx hb ht tu_M hown hK hP 0 rfl rfl 17 (by decide) (ht _ tw_549) (fun _ h9 => h9) rfl d_M_nothingTold_234 ?_
                  refine lv_bipush (v := 11) hx hb d_M_nothingTold_237 (by decide) ?_
                  refine lv_iload_n hx hb d_M_nothingTold_239 rfl (lv_at hl 0 rfl) ?_
                  refine rcS (As := [.int 11, .int (nI i)]) (rest := [.ref ka]) (c_M_rowOf l dC dI tb 11 (nI i) ) F tw_527 tw_34 tw_526 tw_525 hP [] rfl hK [] rfl hE hS hd_M_rowOf rfl rfl ⟨Nat.le_of_ble_eq_true rfl, Nat.le_of_ble_eq_true rfl⟩ ⟨Nat.le_of_ble_eq_true rfl, Nat.le_of_ble_eq_true rfl⟩ hl.1 rfl (Nat.le_of_ble_eq_true rfl) d_M_nothingTold_240 ?_
                  refine lv_iconst (v := 1) hx hb d_M_nothingTold_243 (by decide) ?_
                  refine lv_iadd hx hb d_M_nothingTold_244 ?_
                  refine lv_iconst (v := (-1)) hx hb d_M_nothingTold_245 (by decide) ?_
                  refine va_iast hx hb hK hP hD hS 1 0 rfl rfl (nt_c i hi_i) d_M_nothingTold_246 (fun H locs hP hD hS => ?_)
                  have hP : va_P (dC, dI) clX [(y, .inr (4, [.int th, .ref ma, .int wi, .int hg, .ref qa, .int zs, .int ta, .int de, .ref ba, .int oe, .int re, .int pa, .int ee, .int dq, .int qe, .int ag, .ref aa, .ref ka])), (ka, .inl (cI, 4160, .inl (upd (itN (fun j w => upd w (rwO 11 (nI j) + 1).toNatClampNeg (-1)) i (itN (fun j w => upd w (rwO 9 (nI j) + 4).toNatClampNeg 1) ((4 : Int32).toNatClampNeg) (upd (upd (upd (upd (upd (upd (upd (upd (upd (upd (itN (fun k w => ntI k w) ((26 : Int32).toNatClampNeg) (itN (fun j w => upd w (nI j).toNatClampNeg 0) (4160 : Int32).toNatClampNeg kF)) ((rwO 2 0) + 2).toNatClampNeg 1) ((rwO 2 0) + 3).toNatClampNeg 1) ((rwO 2 0) + 5).toNatClampNeg 16777215) ((rwO 3 0) + 2).toNatClampNeg (-1)) (rwO 7 0).toNatClampNeg (-1)) (rwO 8 0).toNatClampNeg (-1)) (rwO 10 0).toNatClampNeg (-1)) ((rwO 12 0) + 4).toNatClampNeg (-1)) (rwO 14 0).toNatClampNeg (-1)) (rwO 15 0).toNatClampNeg 15))) ((rwO 11 (nI i)) + 1).toNatClampNeg (-1))))] H := hP
                  have hD : va_D A [(y, .inr (4, [.int th, .ref ma, .int wi, .int hg, .ref qa, .int zs, .int ta, .int de, .ref ba, .int oe, .int re, .int pa, .int ee, .int dq, .int qe, .int ag, .ref aa, .ref ka])), (ka, .inl (cI, 4160, .inl (upd (itN (fun j w => upd w (rwO 11 (nI j) + 1).toNatClampNeg (-1)) i (itN (fun j w => upd w (rwO 9 (nI j) + 4).toNatClampNeg 1) ((4 : Int32).toNatClampNeg) (upd (upd (upd (upd (upd (upd (upd (upd (upd (upd (itN (fun k w => ntI k w) ((26 : Int32).toNatClampNeg) (itN (fun j w => upd w (nI j).toNatClampNeg 0) (4160 : Int32).toNatClampNeg kF)) ((rwO 2 0) + 2).toNatClampNeg 1) ((rwO 2 0) + 3).toNatClampNeg 1) ((rwO 2 0) + 5).toNatClampNeg 16777215) ((rwO 3 0) + 2).toNatClampNeg (-1)) (rwO 7 0).toNatClampNeg (-1)) (rwO 8 0).toNatClampNeg (-1)) (rwO 10 0).toNatClampNeg (-1)) ((rwO 12 0) + 4).toNatClampNeg (-1)) (rwO 14 0).toNatClampNeg (-1)) (rwO 15 0).toNatClampNeg 15))) ((rwO 11 (nI i)) + 1).toNatClampNeg (-1))))] := hD
                  refine lv_iinc (v := ((nI i) + 1)) (lv' := [(1, .int ((nI i) + 1)), (0, .ref y)]) hx hb d_M_nothingTold_247 hl (k := 0) rfl rfl (by decide) rfl (fun ls hl => ?_)
                  refine lv_goto (tgt := 228) hx hb d_M_nothingTold_250 (by decide) ?_
                  rw [nI_1] at hl
                  exact kk_i _ _ _ ⟨hP.sub [0, 1] rfl, hD.sub [0, 1] (by decide) rfl, hS, lv_sub hl [0, 1] rfl⟩
              · intro H locs ls hI0
                obtain ⟨hP, hD, hS, hl⟩ := hI0
                refine lv_iload_n hx hb d_M_nothingTold_228 rfl (lv_at hl 0 rfl) ?_
                refine lv_iconst (v := 2) hx hb d_M_nothingTold_229 (by decide) ?_
                refine lv_icmp_ge (tgt := 253) hx hb d_M_nothingTold_230 (by decide) (fun c_227 => ?_) (fun c_227 => ?_)
                · have hP9 := hP.sub (ws' := [(y, .inr (4, [.int th, .ref ma, .int wi, .int hg, .ref qa, .int zs, .int ta, .int de, .ref ba, .int oe, .int re, .int pa, .int ee, .int dq, .int qe, .int ag, .ref aa, .ref ka])), (ka, .inl (cI, 4160, .inl (itN (fun j w => upd w (rwO 11 (nI j) + 1).toNatClampNeg (-1)) ((2 : Int32).toNatClampNeg) (itN (fun j w => upd w (rwO 9 (nI j) + 4).toNatClampNeg 1) ((4 : Int32).toNatClampNeg) (upd (upd (upd (upd (upd (upd (upd (upd (upd (upd (itN (fun k w => ntI k w) ((26 : Int32).toNatClampNeg) (itN (fun j w => upd w (nI j).toNatClampNeg 0) (4160 : Int32).toNatClampNeg kF)) ((rwO 2 0) + 2).toNatClampNeg 1) ((rwO 2 0) + 3).toNatClampNeg 1) ((rwO 2 0) + 5).toNatClampNeg 16777215) ((rwO 3 0) + 2).toNatClampNeg (-1)) (rwO 7 0).toNatClampNeg (-1)) (rwO 8 0).toNatClampNeg (-1)) (rwO 10 0).toNatClampNeg (-1)) ((rwO 12 0) + 4).toNatClampNeg (-1)) (rwO 14 0).toNatClampNeg (-1)) (rwO 15 0).toNatClampNeg 15)))))]) [0, 1] rfl
                  have hD9 := hD.sub (ws' := [(y, .inr (4, [.int th, .ref ma, .int wi, .int hg, .ref qa, .int zs, .int ta, .int de, .ref ba, .int oe, .int re, .int pa, .int ee, .int dq, .int qe, .int ag, .ref aa, .ref ka])), (ka, .inl (cI, 4160, .inl (itN (fun j w => upd w (rwO 11 (nI j) + 1).toNatClampNeg (-1)) ((2 : Int32).toNatClampNeg) (itN (fun j w => upd w (rwO 9 (nI j) + 4).toNatClampNeg 1) ((4 : Int32).toNatClampNeg) (upd (upd (upd (upd (upd (upd (upd (upd (upd (upd (itN (fun k w => ntI k w) ((26 : Int32).toNatClampNeg) (itN (fun j w => upd w (nI j).toNatClampNeg 0) (4160 : Int32).toNatClampNeg kF)) ((rwO 2 0) + 2).toNatClampNeg 1) ((rwO 2 0) + 3).toNatClampNeg 1) ((rwO 2 0) + 5).toNatClampNeg 16777215) ((rwO 3 0) + 2).toNatClampNeg (-1)) (rwO 7 0).toNatClampNeg (-1)) (rwO 8 0).toNatClampNeg (-1)) (rwO 10 0).toNatClampNeg (-1)) ((rwO 12 0) + 4).toNatClampNeg (-1)) (rwO 14 0).toNatClampNeg (-1)) (rwO 15 0).toNatClampNeg 15)))))]) [0, 1] (by decide) rfl
                  exact W.vret hx hb hr (fun t ht9 hW => ⟨⟨(), rfl, trivial, by rw [ht9]; rw [show noT kF = (itN (fun j w => upd w (rwO 11 (nI j) + 1).toNatClampNeg (-1)) ((2 : Int32).toNatClampNeg) (itN (fun j w => upd w (rwO 9 (nI j) + 4).toNatClampNeg 1) ((4 : Int32).toNatClampNeg) (upd (upd (upd (upd (upd (upd (upd (upd (upd (upd (itN (fun k w => ntI k w) ((26 : Int32).toNatClampNeg) (itN (fun j w => upd w (nI j).toNatClampNeg 0) (4160 : Int32).toNatClampNeg kF)) ((rwO 2 0) + 2).toNatClampNeg 1) ((rwO 2 0) + 3).toNatClampNeg 1) ((rwO 2 0) + 5).toNatClampNeg 16777215) ((rwO 3 0) + 2).toNatClampNeg (-1)) (rwO 7 0).toNatClampNeg (-1)) (rwO 8 0).toNatClampNeg (-1)) (rwO 10 0).toNatClampNeg (-1)) ((rwO 12 0) + 4).toNatClampNeg (-1)) (rwO 14 0).toNatClampNeg (-1)) (rwO 15 0).toNatClampNeg 15))) from by simp only [noT, if_pos c_215, if_pos c_223, if_pos c_225, if_pos c_227]]; exact hP9, va_K.moved hW.alike hK, by rw [hAe]; rw [show noT kF = (itN (fun j w => upd w (rwO 11 (nI j) + 1).toNatClampNeg (-1)) ((2 : Int32).toNatClampNeg) (itN (fun j w => upd w (rwO 9 (nI j) + 4).toNatClampNeg 1) ((4 : Int32).toNatClampNeg) (upd (upd (upd (upd (upd (upd (upd (upd (upd (upd (itN (fun k w => ntI k w) ((26 : Int32).toNatClampNeg) (itN (fun j w => upd w (nI j).toNatClampNeg 0) (4160 : Int32).toNatClampNeg kF)) ((rwO 2 0) + 2).toNatClampNeg 1) ((rwO 2 0) + 3).toNatClampNeg 1) ((rwO 2 0) + 5).toNatClampNeg 16777215) ((rwO 3 0) + 2).toNatClampNeg (-1)) (rwO 7 0).toNatClampNeg (-1)) (rwO 8 0).toNatClampNeg (-1)) (rwO 10 0).toNatClampNeg (-1)) ((rwO 12 0) + 4).toNatClampNeg (-1)) (rwO 14 0).toNatClampNeg (-1)) (rwO 15 0).toNatClampNeg 15))) from by simp only [noT, if_pos c_215, if_pos c_223, if_pos c_225, if_pos c_227]]; exact hD9⟩, hS.F ht9⟩) hS.2.2 d_M_nothingTold_253
                · exact absurd (lp_ge (2 : Int32)) c_227
            · exact absurd (lp_ge (4 : Int32)) c_225
        · exact absurd (lp_ge (26 : Int32)) c_223
    · exact absurd (lp_ge (4160 : Int32)) c_215
set_option maxHeartbeats 4000000 in
set_option maxRecDepth 100000 in
theorem c_M_begin (l : Launch) (dC : Nat → ClassId) (dI : Nat → Nat → Nat) (tb : tbT) (y ma qa ba aa ka : Nat) (th wi hg zs ta de oe re pa ee dq qe ag : Int32) (kF : IF) (cI : ClassId) (k9 : Int32) (sz : Nat) : MV l y_M_begin (Cond.code y_M_begin b_M_begin 2 none :: TB) ({ frames := 3, cells := 0, slots := 0, locals := 63 }) tb (dC, dI) [.ref y, .int k9] [(y, .inr (4, [.int th, .ref ma, .int wi, .int hg, .ref qa, .int zs, .int ta, .int de, .ref ba, .int oe, .int re, .int pa, .int ee, .int dq, .int qe, .int ag, .ref aa, .ref ka])), (ka, .inl (cI, 4160, .inl kF))] [(y, .inr (4, [.int 0, .ref ma, .int wi, .int hg, .ref qa, .int zs, .int 0, .int 0, .ref ba, .int 0, .int 0, .int (-1), .int (-1), .int 0, .int (-1), .int 0, .ref aa, .ref ka])), (ka, .inl (cI, 4160, .inl (if k9 = 0 then noT kF else kF)))] [(cI, .int)] sz := by
  refine Met.ofW (cc := b_M_begin) (maxL := 2) (ret := none) (by decide) rfl ?_
  intro p e s m args below meth c s₁ B hml hv
  obtain ⟨rfl, hsz, hP, hK, hD0, hE⟩ := hv
  have hx := B.exec
  have hb := B.bytes
  have hr := B.returns
  have ht := fun w (h : w ∈ TB) => atoms_spec (ws := Cond.code y_M_begin b_M_begin 2 none :: TB) B.pre w (List.mem_cons_of_mem _ h)
  have hown : s.vm.findClass R_M = some m.cls := findClass_of_methodNamed B.named
  have hlocks := B.notSynchronized
  subst hsz
  have hD := hD0.self (sz := s.heap.size)
  generalize hAe : va_A [(y, .inr (4, [.int th, .ref ma, .int wi, .int hg, .ref qa, .int zs, .int ta, .int de, .ref ba, .int oe, .int re, .int pa, .int ee, .int dq, .int qe, .int ag, .ref aa, .ref ka])), (ka, .inl (cI, 4160, .inl kF))] s.heap.size = A at hD hE ⊢
  have hA : ∀ q : Nat, s.heap.size ≤ q → A q := fun q h => by rw [← hAe]; exact Or.inr h
  have hS : va_S A s.heap s.heap [] := va_S.rf
  have F : CallFix p m c b_M_begin 2 s _ TB R_M := ⟨hx, hb, hml, hown, ht⟩
  have hl := lv_entry ([.ref y, .int k9]) (n := 2) (Nat.le_of_ble_eq_true rfl)
  rw [lg_entry_eq]
  generalize (lg_sl ([.ref y, .int k9]) ++ List.replicate (2 - (lg_sl ([.ref y, .int k9])).length) Slot.unset).toArray = ls at hl ⊢
  have hl : lv_has ls 2 [(0, .ref y), (1, .int k9)] := hl
  refine lv_aload_n hx hb d_M_begin_0 rfl (lv_at hl 0 rfl) ?_
  refine lv_iconst (v := 0) hx hb d_M_begin_1 (by decide) ?_
  refine va_put (D := (dC, dI)) (ci := 4) (v := .int 0) (ty := .int) (C := R_M) (T := F_M) (N := 18) hx hb ht tu_M ft_M ft_M_ok n_M hown hK hP hD hS 0 rfl rfl 0 (by decide) (ht _ tw_532) (fun _ h9 => h9) rfl (by decide +kernel) rfl rfl (Nat.le_of_ble_eq_true rfl) d_M_begin_2 (fun H locs hP hD hS => ?_)
  have hP : va_P (dC, dI) clX [(y, .inr (4, [.int 0, .ref ma, .int wi, .int hg, .ref qa, .int zs, .int ta, .int de, .ref ba, .int oe, .int re, .int pa, .int ee, .int dq, .int qe, .int ag, .ref aa, .ref ka])), (ka, .inl (cI, 4160, .inl kF))] H := hP
  have hD : va_D A [(y, .inr (4, [.int 0, .ref ma, .int wi, .int hg, .ref qa, .int zs, .int ta, .int de, .ref ba, .int oe, .int re, .int pa, .int ee, .int dq, .int qe, .int ag, .ref aa, .ref ka])), (ka, .inl (cI, 4160, .inl kF))] := hD
  refine lv_aload_n hx hb d_M_begin_5 rfl (lv_at hl 0 rfl) ?_
  refine mcVv (As := []) (rest := []) (wr := [(ka, .inl (cI, 4160, .inl kF))]) (c_M_anew l dC dI tb y ma qa ba aa ka 0 wi hg zs ta de oe re pa ee dq qe ag ) F tw_619 tw_34 tw_618 tw_17 tw_616 hP hD [0] [1] rfl rfl (by decide) (by decide) (by decide) hK [] rfl hE hS hA (q0 := 0) rfl rfl hd_M_anew rfl rfl ⟨Nat.le_of_ble_eq_true rfl, Nat.le_of_ble_eq_true rfl⟩ ⟨Nat.le_of_ble_eq_true rfl, Nat.le_of_ble_eq_true rfl⟩ hl.1 rfl (Nat.le_of_ble_eq_true rfl) d_M_begin_6 (fun H locs hP hD hS => ?_)
  have hP : va_P (dC, dI) clX [(ka, .inl (cI, 4160, .inl kF)), (y, .inr (4, [.int 0, .ref ma, .int wi, .int hg, .ref qa, .int zs, .int 0, .int 0, .ref ba, .int 0, .int 0, .int (-1), .int (-1), .int 0, .int (-1), .int 0, .ref aa, .ref ka]))] H := hP
  have hD : va_D A [(ka, .inl (cI, 4160, .inl kF)), (y, .inr (4, [.int 0, .ref ma, .int wi, .int hg, .ref qa, .int zs, .int 0, .int 0, .ref ba, .int 0, .int 0, .int (-1), .int (-1), .int 0, .int (-1), .int 0, .ref aa, .ref ka]))] := hD
  refine lv_iload_n hx hb d_M_begin_9 rfl (lv_at hl 1 rfl) ?_
  refine lv_if_ne (tgt := 17) hx hb d_M_begin_10 (by decide) (fun c_228 => ?_) (fun c_228 => ?_)
  · have hP9 := hP.sub (ws' := [(y, .inr (4, [.int 0, .ref ma, .int wi, .int hg, .ref qa, .int zs, .int 0, .int 0, .ref ba, .int 0, .int 0, .int (-1), .int (-1), .int 0, .int (-1), .int 0, .ref aa, .ref ka])), (ka, .inl (cI, 4160, .inl kF))]) [1, 0] rfl
    have hD9 := hD.sub (ws' := [(y, .inr (4, [.int 0, .ref ma, .int wi, .int hg, .ref qa, .int zs, .int 0, .int 0, .ref ba, .int 0, .int 0, .int (-1), .int (-1), .int 0, .int (-1), .int 0, .ref aa, .ref ka])), (ka, .inl (cI, 4160, .inl kF))]) [1, 0] (by decide) rfl
    exact W.vret hx hb hr (fun t ht9 hW => ⟨⟨(), rfl, trivial, by rw [ht9]; simp only [if_neg c_228]; exact hP9, va_K.moved hW.alike hK, by rw [hAe]; simp only [if_neg c_228]; exact hD9⟩, hS.F ht9⟩) hS.2.2 d_M_begin_17
  · refine lv_aload_n hx hb d_M_begin_13 rfl (lv_at hl 0 rfl) ?_
    refine mcVv (As := []) (rest := []) (wr := []) (c_M_nothingTold l dC dI tb y ma qa ba aa ka 0 wi hg zs 0 0 0 0 (-1) (-1) 0 (-1) 0 kF cI ) F tw_521 tw_34 tw_520 tw_15 tw_518 hP hD [1, 0] [] rfl rfl (by decide) (by decide) (by decide) hK [0] rfl hE hS hA (q0 := 1) rfl rfl hd_M_nothingTold rfl rfl ⟨Nat.le_of_ble_eq_true rfl, Nat.le_of_ble_eq_true rfl⟩ ⟨Nat.le_of_ble_eq_true rfl, Nat.le_of_ble_eq_true rfl⟩ hl.1 rfl (Nat.le_of_ble_eq_true rfl) d_M_begin_14 (fun H locs hP hD hS => ?_)
    have hP : va_P (dC, dI) clX [(y, .inr (4, [.int 0, .ref ma, .int wi, .int hg, .ref qa, .int zs, .int 0, .int 0, .ref ba, .int 0, .int 0, .int (-1), .int (-1), .int 0, .int (-1), .int 0, .ref aa, .ref ka])), (ka, .inl (cI, 4160, .inl (noT kF)))] H := hP
    have hD : va_D A [(y, .inr (4, [.int 0, .ref ma, .int wi, .int hg, .ref qa, .int zs, .int 0, .int 0, .ref ba, .int 0, .int 0, .int (-1), .int (-1), .int 0, .int (-1), .int 0, .ref aa, .ref ka])), (ka, .inl (cI, 4160, .inl (noT kF)))] := hD
    have hP9 := hP.sub (ws' := [(y, .inr (4, [.int 0, .ref ma, .int wi, .int hg, .ref qa, .int zs, .int 0, .int 0, .ref ba, .int 0, .int 0, .int (-1), .int (-1), .int 0, .int (-1), .int 0, .ref aa, .ref ka])), (ka, .inl (cI, 4160, .inl (noT kF)))]) [0, 1] rfl
    have hD9 := hD.sub (ws' := [(y, .inr (4, [.int 0, .ref ma, .int wi, .int hg, .ref qa, .int zs, .int 0, .int 0, .ref ba, .int 0, .int 0, .int (-1), .int (-1), .int 0, .int (-1), .int 0, .ref aa, .ref ka])), (ka, .inl (cI, 4160, .inl (noT kF)))]) [0, 1] (by decide) rfl
    exact W.vret hx hb hr (fun t ht9 hW => ⟨⟨(), rfl, trivial, by rw [ht9]; simp only [if_pos c_228]; exact hP9, va_K.moved hW.alike hK, by rw [hAe]; simp only [if_pos c_228]; exact hD9⟩, hS.F ht9⟩) hS.2.2 d_M_begin_17
