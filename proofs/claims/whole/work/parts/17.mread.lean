set_option maxHeartbeats 4000000 in
set_option maxRecDepth 100000 in
theorem c_M_thrown (l : Launch) (dC : Nat → ClassId) (dI : Nat → Nat → Nat) (tb : tbT) (y ma qa ba aa ka : Nat) (th wi hg zs ta de oe re pa ee dq qe ag : Int32) : RM l y_M_thrown (Cond.code y_M_thrown b_M_thrown 1 (some .int) :: TB) ({ frames := 0, cells := 0, slots := 0, locals := 0 }) tb (dC, dI) [.ref y] [(y, .inr (4, [.int th, .ref ma, .int wi, .int hg, .ref qa, .int zs, .int ta, .int de, .ref ba, .int oe, .int re, .int pa, .int ee, .int dq, .int qe, .int ag, .ref aa, .ref ka]))] [] th := by
  refine Met.ofW (cc := b_M_thrown) (maxL := 1) (ret := (some .int)) (by decide) rfl ?_
  intro p e s m args below meth c s₁ B hml hv
  obtain ⟨rfl, hP, hK, hE⟩ := hv
  have hx := B.exec
  have hb := B.bytes
  have hr := B.returns
  have ht := fun w (h : w ∈ TB) => atoms_spec (ws := Cond.code y_M_thrown b_M_thrown 1 (some .int) :: TB) B.pre w (List.mem_cons_of_mem _ h)
  have hown : s.vm.findClass R_M = some m.cls := findClass_of_methodNamed B.named
  have hlocks := B.notSynchronized
  have hS : va_S (fun _ => False) s.heap s.heap [] := va_S.rf
  have F : CallFix p m c b_M_thrown 1 s _ TB R_M := ⟨hx, hb, hml, hown, ht⟩
  have hl := lv_entry ([.ref y]) (n := 1) (Nat.le_of_ble_eq_true rfl)
  rw [lg_entry_eq]
  generalize (lg_sl ([.ref y]) ++ List.replicate (1 - (lg_sl ([.ref y])).length) Slot.unset).toArray = ls at hl ⊢
  have hl : lv_has ls 1 [(0, .ref y)] := hl
  refine lv_aload_n hx hb d_M_thrown_0 rfl (lv_at hl 0 rfl) ?_
  refine va_get (D := (dC, dI)) (ci := 4) (v := .int th) (C := R_M) (T := F_M) (N := 18) hx hb ht tu_M hown hK hP 0 rfl rfl 0 (by decide) (ht _ tw_532) (fun _ h9 => h9) rfl d_M_thrown_1 ?_
  exact W.iret hx hb hr (fun t ht9 hW => ⟨_, rfl, rfl, ht9⟩) hS.2.2 d_M_thrown_4
def isTh (zs de k9 : Int32) : Int32 := (if de = 0 then (if zs ≤ k9 then 0 else 1) else (if 4096 ≤ k9 then 0 else 1))
set_option maxHeartbeats 4000000 in
set_option maxRecDepth 100000 in
theorem c_M_isThere (l : Launch) (dC : Nat → ClassId) (dI : Nat → Nat → Nat) (tb : tbT) (y ma qa ba aa ka : Nat) (th wi hg zs ta de oe re pa ee dq qe ag : Int32) (k9 : Int32) : RM l y_M_isThere (Cond.code y_M_isThere b_M_isThere 2 (some .boolean) :: TB) ({ frames := 0, cells := 0, slots := 0, locals := 0 }) tb (dC, dI) [.ref y, .int k9] [(y, .inr (4, [.int th, .ref ma, .int wi, .int hg, .ref qa, .int zs, .int ta, .int de, .ref ba, .int oe, .int re, .int pa, .int ee, .int dq, .int qe, .int ag, .ref aa, .ref ka]))] [] (isTh zs de k9) := by
  refine Met.ofW (cc := b_M_isThere) (maxL := 2) (ret := (some .boolean)) (by decide) rfl ?_
  intro p e s m args below meth c s₁ B hml hv
  obtain ⟨rfl, hP, hK, hE⟩ := hv
  have hx := B.exec
  have hb := B.bytes
  have hr := B.returns
  have ht := fun w (h : w ∈ TB) => atoms_spec (ws := Cond.code y_M_isThere b_M_isThere 2 (some .boolean) :: TB) B.pre w (List.mem_cons_of_mem _ h)
  have hown : s.vm.findClass R_M = some m.cls := findClass_of_methodNamed B.named
  have hlocks := B.notSynchronized
  have hS : va_S (fun _ => False) s.heap s.heap [] := va_S.rf
  have F : CallFix p m c b_M_isThere 2 s _ TB R_M := ⟨hx, hb, hml, hown, ht⟩
  have hl := lv_entry ([.ref y, .int k9]) (n := 2) (Nat.le_of_ble_eq_true rfl)
  rw [lg_entry_eq]
  generalize (lg_sl ([.ref y, .int k9]) ++ List.replicate (2 - (lg_sl ([.ref y, .int k9])).length) Slot.unset).toArray = ls at hl ⊢
  have hl : lv_has ls 2 [(0, .ref y), (1, .int k9)] := hl
  refine lv_iload_n hx hb d_M_isThere_0 rfl (lv_at hl 1 rfl) ?_
  refine lv_aload_n hx hb d_M_isThere_1 rfl (lv_at hl 0 rfl) ?_
  refine va_get (D := (dC, dI)) (ci := 4) (v := .int de) (C := R_M) (T := F_M) (N := 18) hx hb ht tu_M hown hK hP 0 rfl rfl 7 (by decide) (ht _ tw_539) (fun _ h9 => h9) rfl d_M_isThere_2 ?_
  refine lv_if_ne (tgt := 15) hx hb d_M_isThere_5 (by decide) (fun c_83 => ?_) (fun c_83 => ?_)
  · refine lv_sipush (v := 4096) hx hb d_M_isThere_15 (by decide) ?_
    refine lv_icmp_ge (tgt := 25) hx hb d_M_isThere_18 (by decide) (fun c_84 => ?_) (fun c_84 => ?_)
    · refine lv_iconst (v := 0) hx hb d_M_isThere_25 (by decide) ?_
      exact W.zret hx hb hr (rfl) (fun t ht9 hW => ⟨_, rfl, by simp only [isTh, if_neg c_83, if_pos c_84], ht9⟩) hS.2.2 d_M_isThere_26
    · refine lv_iconst (v := 1) hx hb d_M_isThere_21 (by decide) ?_
      refine lv_goto (tgt := 26) hx hb d_M_isThere_22 (by decide) ?_
      exact W.zret hx hb hr (rfl) (fun t ht9 hW => ⟨_, rfl, by simp only [isTh, if_neg c_83, if_neg c_84], ht9⟩) hS.2.2 d_M_isThere_26
  · refine lv_aload_n hx hb d_M_isThere_8 rfl (lv_at hl 0 rfl) ?_
    refine va_get (D := (dC, dI)) (ci := 4) (v := .int zs) (C := R_M) (T := F_M) (N := 18) hx hb ht tu_M hown hK hP 0 rfl rfl 5 (by decide) (ht _ tw_537) (fun _ h9 => h9) rfl d_M_isThere_9 ?_
    refine lv_goto (tgt := 18) hx hb d_M_isThere_12 (by decide) ?_
    refine lv_icmp_ge (tgt := 25) hx hb d_M_isThere_18 (by decide) (fun c_85 => ?_) (fun c_85 => ?_)
    · refine lv_iconst (v := 0) hx hb d_M_isThere_25 (by decide) ?_
      exact W.zret hx hb hr (rfl) (fun t ht9 hW => ⟨_, rfl, by simp only [isTh, if_pos c_83, if_pos c_85], ht9⟩) hS.2.2 d_M_isThere_26
    · refine lv_iconst (v := 1) hx hb d_M_isThere_21 (by decide) ?_
      refine lv_goto (tgt := 26) hx hb d_M_isThere_22 (by decide) ?_
      exact W.zret hx hb hr (rfl) (fun t ht9 hW => ⟨_, rfl, by simp only [isTh, if_pos c_83, if_neg c_85], ht9⟩) hS.2.2 d_M_isThere_26
def mrd (de : Int32) (mF qF : IF) (k9 : Int32) : Int32 := (if de = 0 then (qF k9.toNatClampNeg) else (mF k9.toNatClampNeg))
set_option maxHeartbeats 4000000 in
set_option maxRecDepth 100000 in
theorem c_M_read (l : Launch) (dC : Nat → ClassId) (dI : Nat → Nat → Nat) (tb : tbT) (y ma qa ba aa ka : Nat) (th wi hg zs ta de oe re pa ee dq qe ag : Int32) (mF qF : IF) (cI : ClassId) (k9 : Int32) (hk : vp_in k9 4096) : RM l y_M_read (Cond.code y_M_read b_M_read 2 (some .int) :: TB) ({ frames := 0, cells := 0, slots := 0, locals := 0 }) tb (dC, dI) [.ref y, .int k9] [(y, .inr (4, [.int th, .ref ma, .int wi, .int hg, .ref qa, .int zs, .int ta, .int de, .ref ba, .int oe, .int re, .int pa, .int ee, .int dq, .int qe, .int ag, .ref aa, .ref ka])), (ma, .inl (cI, 4096, .inl mF)), (qa, .inl (cI, 4096, .inl qF))] [(cI, .int)] (mrd de mF qF k9) := by
  refine Met.ofW (cc := b_M_read) (maxL := 2) (ret := (some .int)) (by decide) rfl ?_
  intro p e s m args below meth c s₁ B hml hv
  obtain ⟨rfl, hP, hK, hE⟩ := hv
  have hx := B.exec
  have hb := B.bytes
  have hr := B.returns
  have ht := fun w (h : w ∈ TB) => atoms_spec (ws := Cond.code y_M_read b_M_read 2 (some .int) :: TB) B.pre w (List.mem_cons_of_mem _ h)
  have hown : s.vm.findClass R_M = some m.cls := findClass_of_methodNamed B.named
  have hlocks := B.notSynchronized
  have hS : va_S (fun _ => False) s.heap s.heap [] := va_S.rf
  have F : CallFix p m c b_M_read 2 s _ TB R_M := ⟨hx, hb, hml, hown, ht⟩
  have hl := lv_entry ([.ref y, .int k9]) (n := 2) (Nat.le_of_ble_eq_true rfl)
  rw [lg_entry_eq]
  generalize (lg_sl ([.ref y, .int k9]) ++ List.replicate (2 - (lg_sl ([.ref y, .int k9])).length) Slot.unset).toArray = ls at hl ⊢
  have hl : lv_has ls 2 [(0, .ref y), (1, .int k9)] := hl
  refine lv_aload_n hx hb d_M_read_0 rfl (lv_at hl 0 rfl) ?_
  refine va_get (D := (dC, dI)) (ci := 4) (v := .int de) (C := R_M) (T := F_M) (N := 18) hx hb ht tu_M hown hK hP 0 rfl rfl 7 (by decide) (ht _ tw_539) (fun _ h9 => h9) rfl d_M_read_1 ?_
  refine lv_if_ne (tgt := 16) hx hb d_M_read_4 (by decide) (fun c_86 => ?_) (fun c_86 => ?_)
  · refine lv_aload_n hx hb d_M_read_16 rfl (lv_at hl 0 rfl) ?_
    refine va_get (D := (dC, dI)) (ci := 4) (v := .ref ma) (C := R_M) (T := F_M) (N := 18) hx hb ht tu_M hown hK hP 0 rfl rfl 1 (by decide) (ht _ tw_533) (fun _ h9 => h9) rfl d_M_read_17 ?_
    refine lv_iload_n hx hb d_M_read_20 rfl (lv_at hl 1 rfl) ?_
    refine va_iald hx hb hK hP 1 0 rfl rfl (hk) d_M_read_21 ?_
    exact W.iret hx hb hr (fun t ht9 hW => ⟨_, rfl, by simp only [mrd, if_neg c_86], ht9⟩) hS.2.2 d_M_read_22
  · refine lv_aload_n hx hb d_M_read_7 rfl (lv_at hl 0 rfl) ?_
    refine va_get (D := (dC, dI)) (ci := 4) (v := .ref qa) (C := R_M) (T := F_M) (N := 18) hx hb ht tu_M hown hK hP 0 rfl rfl 4 (by decide) (ht _ tw_536) (fun _ h9 => h9) rfl d_M_read_8 ?_
    refine lv_iload_n hx hb d_M_read_11 rfl (lv_at hl 1 rfl) ?_
    refine va_iald hx hb hK hP 2 0 rfl rfl (hk) d_M_read_12 ?_
    refine lv_goto (tgt := 22) hx hb d_M_read_13 (by decide) ?_
    exact W.iret hx hb hr (fun t ht9 hW => ⟨_, rfl, by simp only [mrd, if_pos c_86], ht9⟩) hS.2.2 d_M_read_22
def lenM (zs ta de : Int32) (mF qF : IF) (k9 : Int32) : Int32 := (if k9 = 21 then (if (isTh zs de (ta + 2)) = 0 then ((cnt k9) + 0) else (if 0 ≤ (mrd de mF qF (ta + 2)) then (if (mrd de mF qF (ta + 2)) ≤ 256 then ((cnt k9) + (mrd de mF qF (ta + 2))) else ((cnt k9) + 256)) else ((cnt k9) + 0))) else ((cnt k9) + 0))
set_option maxHeartbeats 4000000 in
set_option maxRecDepth 100000 in
theorem c_M_length (l : Launch) (dC : Nat → ClassId) (dI : Nat → Nat → Nat) (tb : tbT) (y ma qa ba aa ka : Nat) (th wi hg zs ta de oe re pa ee dq qe ag : Int32) (mF qF : IF) (cI : ClassId) (k9 : Int32) (h2 : ¬ isTh zs de (ta + 2) = 0 → vp_in (ta + 2) 4096) : RM l y_M_length (Cond.code y_M_length b_M_length 3 (some .int) :: TB) ({ frames := 1, cells := 0, slots := 0, locals := 21 }) tb (dC, dI) [.ref y, .int k9] [(y, .inr (4, [.int th, .ref ma, .int wi, .int hg, .ref qa, .int zs, .int ta, .int de, .ref ba, .int oe, .int re, .int pa, .int ee, .int dq, .int qe, .int ag, .ref aa, .ref ka])), (ma, .inl (cI, 4096, .inl mF)), (qa, .inl (cI, 4096, .inl qF))] [(cI, .int)] (lenM zs ta de mF qF k9) := by
  refine Met.ofW (cc := b_M_length) (maxL := 3) (ret := (some .int)) (by decide) rfl ?_
  intro p e s m args below meth c s₁ B hml hv
  obtain ⟨rfl, hP, hK, hE⟩ := hv
  have hx := B.exec
  have hb := B.bytes
  have hr := B.returns
  have ht := fun w (h : w ∈ TB) => atoms_spec (ws := Cond.code y_M_length b_M_length 3 (some .int) :: TB) B.pre w (List.mem_cons_of_mem _ h)
  have hown : s.vm.findClass R_M = some m.cls := findClass_of_methodNamed B.named
  have hlocks := B.notSynchronized
  have hS : va_S (fun _ => False) s.heap s.heap [] := va_S.rf
  have F : CallFix p m c b_M_length 3 s _ TB R_M := ⟨hx, hb, hml, hown, ht⟩
  have hl := lv_entry ([.ref y, .int k9]) (n := 3) (Nat.le_of_ble_eq_true rfl)
  rw [lg_entry_eq]
  generalize (lg_sl ([.ref y, .int k9]) ++ List.replicate (3 - (lg_sl ([.ref y, .int k9])).length) Slot.unset).toArray = ls at hl ⊢
  have hl : lv_has ls 3 [(0, .ref y), (1, .int k9)] := hl
  refine lv_iconst (v := 0) hx hb d_M_length_0 (by decide) ?_
  refine lv_istore_n (lv' := [(2, .int 0), (0, .ref y), (1, .int k9)]) hx hb d_M_length_1 rfl hl (by decide) rfl (fun ls hl => ?_)
  refine lv_iload_n hx hb d_M_length_2 rfl (lv_at hl 2 rfl) ?_
  refine lv_bipush (v := 21) hx hb d_M_length_3 (by decide) ?_
  refine lv_icmp_ne (tgt := 55) hx hb d_M_length_5 (by decide) (fun c_87 => ?_) (fun c_87 => ?_)
  · refine lv_iload_n hx hb d_M_length_55 rfl (lv_at hl 2 rfl) ?_
    refine rcS (As := [.int k9]) (rest := []) (c_M_count l dC dI tb k9 ) F tw_530 tw_34 tw_529 tw_528 hP [] rfl hK [] rfl hE hS hd_M_count rfl rfl ⟨Nat.le_of_ble_eq_true rfl, Nat.le_of_ble_eq_true rfl⟩ ⟨Nat.le_of_ble_eq_true rfl, Nat.le_of_ble_eq_true rfl⟩ hl.1 rfl (Nat.le_of_ble_eq_true rfl) d_M_length_56 ?_
    refine lv_iload_n hx hb d_M_length_59 rfl (lv_at hl 0 rfl) ?_
    refine lv_iadd hx hb d_M_length_60 ?_
    exact W.iret hx hb hr (fun t ht9 hW => ⟨_, rfl, by simp only [lenM, if_neg c_87], ht9⟩) hS.2.2 d_M_length_61
  · refine lv_aload_n hx hb d_M_length_8 rfl (lv_at hl 1 rfl) ?_
    refine lv_aload_n hx hb d_M_length_9 rfl (lv_at hl 1 rfl) ?_
    refine va_get (D := (dC, dI)) (ci := 4) (v := .int ta) (C := R_M) (T := F_M) (N := 18) hx hb ht tu_M hown hK hP 0 rfl rfl 6 (by decide) (ht _ tw_538) (fun _ h9 => h9) rfl d_M_length_10 ?_
    refine lv_iconst (v := 2) hx hb d_M_length_13 (by decide) ?_
    refine lv_iadd hx hb d_M_length_14 ?_
    refine rcV (As := [.int (ta + 2)]) (rest := []) (c_M_isThere l dC dI tb y ma qa ba aa ka th wi hg zs ta de oe re pa ee dq qe ag (ta + 2) ) F tw_635 tw_34 tw_634 tw_19 tw_632 hP [0] rfl hK [] rfl hE hS (q0 := 0) rfl rfl hd_M_isThere rfl rfl ⟨Nat.le_of_ble_eq_true rfl, Nat.le_of_ble_eq_true rfl⟩ ⟨Nat.le_of_ble_eq_true rfl, Nat.le_of_ble_eq_true rfl⟩ hl.1 rfl (Nat.le_of_ble_eq_true rfl) d_M_length_15 ?_
    refine lv_if_eq (tgt := 55) hx hb d_M_length_18 (by decide) (fun c_88 => ?_) (fun c_88 => ?_)
    · refine lv_iload_n hx hb d_M_length_55 rfl (lv_at hl 2 rfl) ?_
      refine rcS (As := [.int k9]) (rest := []) (c_M_count l dC dI tb k9 ) F tw_530 tw_34 tw_529 tw_528 hP [] rfl hK [] rfl hE hS hd_M_count rfl rfl ⟨Nat.le_of_ble_eq_true rfl, Nat.le_of_ble_eq_true rfl⟩ ⟨Nat.le_of_ble_eq_true rfl, Nat.le_of_ble_eq_true rfl⟩ hl.1 rfl (Nat.le_of_ble_eq_true rfl) d_M_length_56 ?_
      refine lv_iload_n hx hb d_M_length_59 rfl (lv_at hl 0 rfl) ?_
      refine lv_iadd hx hb d_M_length_60 ?_
      exact W.iret hx hb hr (fun t ht9 hW => ⟨_, rfl, by simp only [lenM, if_pos c_87, if_pos c_88], ht9⟩) hS.2.2 d_M_length_61
    · refine lv_aload_n hx hb d_M_length_21 rfl (lv_at hl 1 rfl) ?_
      refine lv_aload_n hx hb d_M_length_22 rfl (lv_at hl 1 rfl) ?_
      refine va_get (D := (dC, dI)) (ci := 4) (v := .int ta) (C := R_M) (T := F_M) (N := 18) hx hb ht tu_M hown hK hP 0 rfl rfl 6 (by decide) (ht _ tw_538) (fun _ h9 => h9) rfl d_M_length_23 ?_
      refine lv_iconst (v := 2) hx hb d_M_length_26 (by decide) ?_
      refine lv_iadd hx hb d_M_length_27 ?_
      refine rcV (As := [.int (ta + 2)]) (rest := []) (c_M_read l dC dI tb y ma qa ba aa ka th wi hg zs ta de oe re pa ee dq qe ag mF qF cI (ta + 2) (h2 c_88)) F tw_639 tw_34 tw_638 tw_20 tw_636 hP [0, 1, 2] rfl hK [0] rfl hE hS (q0 := 0) rfl rfl hd_M_read rfl rfl ⟨Nat.le_of_ble_eq_true rfl, Nat.le_of_ble_eq_true rfl⟩ ⟨Nat.le_of_ble_eq_true rfl, Nat.le_of_ble_eq_true rfl⟩ hl.1 rfl (Nat.le_of_ble_eq_true rfl) d_M_length_28 ?_
      refine lv_istore_n (lv' := [(2, .int (mrd de mF qF (ta + 2))), (0, .ref y), (1, .int k9)]) hx hb d_M_length_31 rfl hl (by decide) rfl (fun ls hl => ?_)
      refine lv_iload_n hx hb d_M_length_32 rfl (lv_at hl 0 rfl) ?_
      refine lv_if_ge (tgt := 40) hx hb d_M_length_33 (by decide) (fun c_89 => ?_) (fun c_89 => ?_)
      · refine lv_iload_n hx hb d_M_length_40 rfl (lv_at hl 0 rfl) ?_
        refine lv_sipush (v := 256) hx hb d_M_length_41 (by decide) ?_
        refine lv_icmp_le (tgt := 53) hx hb d_M_length_44 (by decide) (fun c_90 => ?_) (fun c_90 => ?_)
        · refine lv_iload_n hx hb d_M_length_53 rfl (lv_at hl 0 rfl) ?_
          refine lv_istore_n (lv' := [(2, .int (mrd de mF qF (ta + 2))), (0, .ref y), (1, .int k9)]) hx hb d_M_length_54 rfl hl (by decide) rfl (fun ls hl => ?_)
          refine lv_iload_n hx hb d_M_length_55 rfl (lv_at hl 2 rfl) ?_
          refine rcS (As := [.int k9]) (rest := []) (c_M_count l dC dI tb k9 ) F tw_530 tw_34 tw_529 tw_528 hP [] rfl hK [] rfl hE hS hd_M_count rfl rfl ⟨Nat.le_of_ble_eq_true rfl, Nat.le_of_ble_eq_true rfl⟩ ⟨Nat.le_of_ble_eq_true rfl, Nat.le_of_ble_eq_true rfl⟩ hl.1 rfl (Nat.le_of_ble_eq_true rfl) d_M_length_56 ?_
          refine lv_iload_n hx hb d_M_length_59 rfl (lv_at hl 0 rfl) ?_
          refine lv_iadd hx hb d_M_length_60 ?_
          exact W.iret hx hb hr (fun t ht9 hW => ⟨_, rfl, by simp only [lenM, if_pos c_87, if_neg c_88, if_pos c_89, if_pos c_90], ht9⟩) hS.2.2 d_M_length_61
        · refine lv_sipush (v := 256) hx hb d_M_length_47 (by decide) ?_
          refine lv_goto (tgt := 54) hx hb d_M_length_50 (by decide) ?_
          refine lv_istore_n (lv' := [(2, .int 256), (0, .ref y), (1, .int k9)]) hx hb d_M_length_54 rfl hl (by decide) rfl (fun ls hl => ?_)
          refine lv_iload_n hx hb d_M_length_55 rfl (lv_at hl 2 rfl) ?_
          refine rcS (As := [.int k9]) (rest := []) (c_M_count l dC dI tb k9 ) F tw_530 tw_34 tw_529 tw_528 hP [] rfl hK [] rfl hE hS hd_M_count rfl rfl ⟨Nat.le_of_ble_eq_true rfl, Nat.le_of_ble_eq_true rfl⟩ ⟨Nat.le_of_ble_eq_true rfl, Nat.le_of_ble_eq_true rfl⟩ hl.1 rfl (Nat.le_of_ble_eq_true rfl) d_M_length_56 ?_
          refine lv_iload_n hx hb d_M_length_59 rfl (lv_at hl 0 rfl) ?_
          refine lv_iadd hx hb d_M_length_60 ?_
          exact W.iret hx hb hr (fun t ht9 hW => ⟨_, rfl, by simp only [lenM, if_pos c_87, if_neg c_88, if_pos c_89, if_neg c_90], ht9⟩) hS.2.2 d_M_length_61
      · refine lv_iconst (v := 0) hx hb d_M_length_36 (by decide) ?_
        refine lv_goto (tgt := 54) hx hb d_M_length_37 (by decide) ?_
        refine lv_istore_n (lv' := [(2, .int 0), (0, .ref y), (1, .int k9)]) hx hb d_M_length_54 rfl hl (by decide) rfl (fun ls hl => ?_)
        refine lv_iload_n hx hb d_M_length_55 rfl (lv_at hl 2 rfl) ?_
        refine rcS (As := [.int k9]) (rest := []) (c_M_count l dC dI tb k9 ) F tw_530 tw_34 tw_529 tw_528 hP [] rfl hK [] rfl hE hS hd_M_count rfl rfl ⟨Nat.le_of_ble_eq_true rfl, Nat.le_of_ble_eq_true rfl⟩ ⟨Nat.le_of_ble_eq_true rfl, Nat.le_of_ble_eq_true rfl⟩ hl.1 rfl (Nat.le_of_ble_eq_true rfl) d_M_length_56 ?_
        refine lv_iload_n hx hb d_M_length_59 rfl (lv_at hl 0 rfl) ?_
        refine lv_iadd hx hb d_M_length_60 ?_
        exact W.iret hx hb hr (fun t ht9 hW => ⟨_, rfl, by simp only [lenM, if_pos c_87, if_neg c_88, if_neg c_89], ht9⟩) hS.2.2 d_M_length_61
def inMM (f9 n9 : Int64) : Int32 := (if (lg_cmp n9 0) = 0 then 1 else (if 0 < (lg_cmp (f9 + n9) 4096) then 0 else 1))
theorem nar_inMM (f9 n9 : Int64) : narrow .boolean (.int (inMM f9 n9)) = .int (inMM f9 n9) := by
  unfold inMM
  repeat' split
  all_goals rfl
set_option maxHeartbeats 4000000 in
set_option maxRecDepth 100000 in
theorem c_M_isInMemory (l : Launch) (dC : Nat → ClassId) (dI : Nat → Nat → Nat) (tb : tbT) (y ma qa ba aa ka : Nat) (th wi hg zs ta de oe re pa ee dq qe ag : Int32) (f9 n9 : Int64) : RM l y_M_isInMemory (Cond.code y_M_isInMemory b_M_isInMemory 5 (some .boolean) :: TB) ({ frames := 0, cells := 0, slots := 0, locals := 0 }) tb (dC, dI) [.ref y, .long f9, .long n9] [(y, .inr (4, [.int th, .ref ma, .int wi, .int hg, .ref qa, .int zs, .int ta, .int de, .ref ba, .int oe, .int re, .int pa, .int ee, .int dq, .int qe, .int ag, .ref aa, .ref ka]))] [] (inMM f9 n9) := by
  refine Met.ofW (cc := b_M_isInMemory) (maxL := 5) (ret := (some .boolean)) (by decide) rfl ?_
  intro p e s m args below meth c s₁ B hml hv
  obtain ⟨rfl, hP, hK, hE⟩ := hv
  have hx := B.exec
  have hb := B.bytes
  have hr := B.returns
  have ht := fun w (h : w ∈ TB) => atoms_spec (ws := Cond.code y_M_isInMemory b_M_isInMemory 5 (some .boolean) :: TB) B.pre w (List.mem_cons_of_mem _ h)
  have hown : s.vm.findClass R_M = some m.cls := findClass_of_methodNamed B.named
  have hlocks := B.notSynchronized
  have hS : va_S (fun _ => False) s.heap s.heap [] := va_S.rf
  have F : CallFix p m c b_M_isInMemory 5 s _ TB R_M := ⟨hx, hb, hml, hown, ht⟩
  have hl := lv_entry ([.ref y, .long f9, .long n9]) (n := 5) (Nat.le_of_ble_eq_true rfl)
  rw [lg_entry_eq]
  generalize (lg_sl ([.ref y, .long f9, .long n9]) ++ List.replicate (5 - (lg_sl ([.ref y, .long f9, .long n9])).length) Slot.unset).toArray = ls at hl ⊢
  have hl : lv_has ls 5 [(0, .ref y), (1, .long f9), (3, .long n9)] := hl
  refine lv_lload_n hx hb d_M_isInMemory_0 rfl (lv_at hl 2 rfl) ?_
  refine lv_lconst (v := 0) hx hb d_M_isInMemory_1 (by decide) ?_
  refine W.lcmp hx hb d_M_isInMemory_2 ?_
  refine lv_if_eq (tgt := 16) hx hb d_M_isInMemory_3 (by decide) (fun c_91 => ?_) (fun c_91 => ?_)
  · refine lv_iconst (v := 1) hx hb d_M_isInMemory_16 (by decide) ?_
    refine lv_goto (tgt := 21) hx hb d_M_isInMemory_17 (by decide) ?_
    exact W.zret hx hb hr (rfl) (fun t ht9 hW => ⟨_, rfl, by simp only [inMM, if_pos c_91], ht9⟩) hS.2.2 d_M_isInMemory_21
  · refine lv_lload_n hx hb d_M_isInMemory_6 rfl (lv_at hl 1 rfl) ?_
    refine lv_lload_n hx hb d_M_isInMemory_7 rfl (lv_at hl 2 rfl) ?_
    refine lv_ladd hx hb d_M_isInMemory_8 ?_
    refine lv_ldc2 hx hb hown (ht _ tw_675) d_M_isInMemory_9 ?_
    refine W.lcmp hx hb d_M_isInMemory_12 ?_
    refine lv_if_gt (tgt := 20) hx hb d_M_isInMemory_13 (by decide) (fun c_92 => ?_) (fun c_92 => ?_)
    · refine lv_iconst (v := 0) hx hb d_M_isInMemory_20 (by decide) ?_
      exact W.zret hx hb hr (rfl) (fun t ht9 hW => ⟨_, rfl, by simp only [inMM, if_neg c_91, if_pos c_92], ht9⟩) hS.2.2 d_M_isInMemory_21
    · refine lv_iconst (v := 1) hx hb d_M_isInMemory_16 (by decide) ?_
      refine lv_goto (tgt := 21) hx hb d_M_isInMemory_17 (by decide) ?_
      exact W.zret hx hb hr (rfl) (fun t ht9 hW => ⟨_, rfl, by simp only [inMM, if_neg c_91, if_neg c_92], ht9⟩) hS.2.2 d_M_isInMemory_21
def lieM (wi hg : Int32) (aF : IF) (k9 : Int32) : Int32 := (if k9 = 6 then (if 32 < ((aF (0 : Int32).toNatClampNeg) + (aF (1 : Int32).toNatClampNeg)) then 0 else (if (inMM ((aF (2 : Int32).toNatClampNeg).toInt64) (4 * (aF (1 : Int32).toNatClampNeg).toInt64)) = 0 then 0 else 1)) else (if k9 = 7 ∨ k9 = 8 then (inMM ((aF (0 : Int32).toNatClampNeg).toInt64) (3 * (aF (1 : Int32).toNatClampNeg).toInt64)) else (if k9 = 20 then (if wi < ((aF (0 : Int32).toNatClampNeg) + (aF (2 : Int32).toNatClampNeg)) then 0 else (if hg < ((aF (1 : Int32).toNatClampNeg) + (aF (3 : Int32).toNatClampNeg)) then 0 else (if (inMM ((aF (4 : Int32).toNatClampNeg).toInt64) ((aF (2 : Int32).toNatClampNeg).toInt64 * (aF (3 : Int32).toNatClampNeg).toInt64)) = 0 then 0 else 1))) else (if k9 = 21 then (inMM ((aF (0 : Int32).toNatClampNeg).toInt64) ((aF (1 : Int32).toNatClampNeg).toInt64)) else (if k9 = 23 then (if 4096 ≤ (aF (0 : Int32).toNatClampNeg) then 0 else 1) else 1)))))
set_option maxHeartbeats 4000000 in
set_option maxRecDepth 100000 in
theorem c_M_liesRight (l : Launch) (dC : Nat → ClassId) (dI : Nat → Nat → Nat) (tb : tbT) (y ma qa ba aa ka : Nat) (th wi hg zs ta de oe re pa ee dq qe ag : Int32) (aF : IF) (cI : ClassId) (k9 : Int32) : RM l y_M_liesRight (Cond.code y_M_liesRight b_M_liesRight 4 (some .boolean) :: TB) ({ frames := 1, cells := 0, slots := 0, locals := 24 }) tb (dC, dI) [.ref y, .int k9] [(y, .inr (4, [.int th, .ref ma, .int wi, .int hg, .ref qa, .int zs, .int ta, .int de, .ref ba, .int oe, .int re, .int pa, .int ee, .int dq, .int qe, .int ag, .ref aa, .ref ka])), (aa, .inl (cI, 300, .inl aF))] [(cI, .int)] (lieM wi hg aF k9) := by
  refine Met.ofW (cc := b_M_liesRight) (maxL := 4) (ret := (some .boolean)) (by decide) rfl ?_
  intro p e s m args below meth c s₁ B hml hv
  obtain ⟨rfl, hP, hK, hE⟩ := hv
  have hx := B.exec
  have hb := B.bytes
  have hr := B.returns
  have ht := fun w (h : w ∈ TB) => atoms_spec (ws := Cond.code y_M_liesRight b_M_liesRight 4 (some .boolean) :: TB) B.pre w (List.mem_cons_of_mem _ h)
  have hown : s.vm.findClass R_M = some m.cls := findClass_of_methodNamed B.named
  have hlocks := B.notSynchronized
  have hS : va_S (fun _ => False) s.heap s.heap [] := va_S.rf
  have F : CallFix p m c b_M_liesRight 4 s _ TB R_M := ⟨hx, hb, hml, hown, ht⟩
  have hl := lv_entry ([.ref y, .int k9]) (n := 4) (Nat.le_of_ble_eq_true rfl)
  rw [lg_entry_eq]
  generalize (lg_sl ([.ref y, .int k9]) ++ List.replicate (4 - (lg_sl ([.ref y, .int k9])).length) Slot.unset).toArray = ls at hl ⊢
  have hl : lv_has ls 4 [(0, .ref y), (1, .int k9)] := hl
  refine lv_aload_n hx hb d_M_liesRight_0 rfl (lv_at hl 0 rfl) ?_
  refine va_get (D := (dC, dI)) (ci := 4) (v := .ref aa) (C := R_M) (T := F_M) (N := 18) hx hb ht tu_M hown hK hP 0 rfl rfl 16 (by decide) (ht _ tw_548) (fun _ h9 => h9) rfl d_M_liesRight_1 ?_
  refine lv_iconst (v := 0) hx hb d_M_liesRight_4 (by decide) ?_
  refine va_iald hx hb hK hP 1 0 rfl rfl (by unfold vp_in; decide +kernel) d_M_liesRight_5 ?_
  refine lv_istore_n (lv' := [(2, .int (aF (0 : Int32).toNatClampNeg)), (0, .ref y), (1, .int k9)]) hx hb d_M_liesRight_6 rfl hl (by decide) rfl (fun ls hl => ?_)
  refine lv_aload_n hx hb d_M_liesRight_7 rfl (lv_at hl 1 rfl) ?_
  refine va_get (D := (dC, dI)) (ci := 4) (v := .ref aa) (C := R_M) (T := F_M) (N := 18) hx hb ht tu_M hown hK hP 0 rfl rfl 16 (by decide) (ht _ tw_548) (fun _ h9 => h9) rfl d_M_liesRight_8 ?_
  refine lv_iconst (v := 1) hx hb d_M_liesRight_11 (by decide) ?_
  refine va_iald hx hb hK hP 1 0 rfl rfl (by unfold vp_in; decide +kernel) d_M_liesRight_12 ?_
  refine lv_istore_n (lv' := [(3, .int (aF (1 : Int32).toNatClampNeg)), (2, .int (aF (0 : Int32).toNatClampNeg)), (0, .ref y), (1, .int k9)]) hx hb d_M_liesRight_13 rfl hl (by decide) rfl (fun ls hl => ?_)
  refine lv_iload_n hx hb d_M_liesRight_14 rfl (lv_at hl 3 rfl) ?_
  by_cases sv_93 : k9 = 6
  · refine lv_tab (off := 85) (tgt := 100) hx hb d_M_liesRight_15 (by decide) (by rw [sv_93]; decide +kernel) (by decide) ?_
    refine lv_iload_n hx hb d_M_liesRight_100 rfl (lv_at hl 1 rfl) ?_
    refine lv_iload_n hx hb d_M_liesRight_101 rfl (lv_at hl 0 rfl) ?_
    refine lv_iadd hx hb d_M_liesRight_102 ?_
    refine lv_bipush (v := 32) hx hb d_M_liesRight_103 (by decide) ?_
    refine lv_icmp_gt (tgt := 132) hx hb d_M_liesRight_105 (by decide) (fun c_94 => ?_) (fun c_94 => ?_)
    · refine lv_iconst (v := 0) hx hb d_M_liesRight_132 (by decide) ?_
      exact W.zret hx hb hr (rfl) (fun t ht9 hW => ⟨_, rfl, by simp only [lieM, if_pos sv_93, if_pos c_94], ht9⟩) hS.2.2 d_M_liesRight_133
    · refine lv_aload_n hx hb d_M_liesRight_108 rfl (lv_at hl 2 rfl) ?_
      refine lv_aload_n hx hb d_M_liesRight_109 rfl (lv_at hl 2 rfl) ?_
      refine va_get (D := (dC, dI)) (ci := 4) (v := .ref aa) (C := R_M) (T := F_M) (N := 18) hx hb ht tu_M hown hK hP 0 rfl rfl 16 (by decide) (ht _ tw_548) (fun _ h9 => h9) rfl d_M_liesRight_110 ?_
      refine lv_iconst (v := 2) hx hb d_M_liesRight_113 (by decide) ?_
      refine va_iald hx hb hK hP 1 0 rfl rfl (by unfold vp_in; decide +kernel) d_M_liesRight_114 ?_
      refine lv_i2l (v := (aF (2 : Int32).toNatClampNeg).toInt64) hx hb d_M_liesRight_115 rfl ?_
      refine lv_ldc2 hx hb hown (ht _ tw_658) d_M_liesRight_116 ?_
      refine lv_iload_n hx hb d_M_liesRight_119 rfl (lv_at hl 0 rfl) ?_
      refine lv_i2l (v := (aF (1 : Int32).toNatClampNeg).toInt64) hx hb d_M_liesRight_120 rfl ?_
      refine lv_lmul hx hb d_M_liesRight_121 ?_
      refine rcV (As := [.long ((aF (2 : Int32).toNatClampNeg).toInt64), .long (4 * (aF (1 : Int32).toNatClampNeg).toInt64)]) (rest := []) (c_M_isInMemory l dC dI tb y ma qa ba aa ka th wi hg zs ta de oe re pa ee dq qe ag ((aF (2 : Int32).toNatClampNeg).toInt64) (4 * (aF (1 : Int32).toNatClampNeg).toInt64) ) F tw_687 tw_34 tw_686 tw_23 tw_684 hP [0] rfl hK [] rfl hE hS (q0 := 0) rfl rfl hd_M_isInMemory rfl rfl ⟨Nat.le_of_ble_eq_true rfl, Nat.le_of_ble_eq_true rfl⟩ ⟨Nat.le_of_ble_eq_true rfl, Nat.le_of_ble_eq_true rfl⟩ hl.1 rfl (Nat.le_of_ble_eq_true rfl) d_M_liesRight_122 ?_
      refine lv_if_eq (tgt := 132) hx hb d_M_liesRight_125 (by decide) (fun c_95 => ?_) (fun c_95 => ?_)
      · refine lv_iconst (v := 0) hx hb d_M_liesRight_132 (by decide) ?_
        exact W.zret hx hb hr (rfl) (fun t ht9 hW => ⟨_, rfl, by simp only [lieM, if_pos sv_93, if_neg c_94, if_pos c_95], ht9⟩) hS.2.2 d_M_liesRight_133
      · refine lv_iconst (v := 1) hx hb d_M_liesRight_128 (by decide) ?_
        refine lv_goto (tgt := 133) hx hb d_M_liesRight_129 (by decide) ?_
        exact W.zret hx hb hr (rfl) (fun t ht9 hW => ⟨_, rfl, by simp only [lieM, if_pos sv_93, if_neg c_94, if_neg c_95], ht9⟩) hS.2.2 d_M_liesRight_133
  · skip
    by_cases sv_96 : k9 = 7 ∨ k9 = 8
    · refine lv_tab (off := 119) (tgt := 134) hx hb d_M_liesRight_15 (by decide) (by rcases sv_96 with h9 | h9 <;> rw [h9] <;> decide +kernel) (by decide) ?_
      refine lv_aload_n hx hb d_M_liesRight_134 rfl (lv_at hl 2 rfl) ?_
      refine lv_iload_n hx hb d_M_liesRight_135 rfl (lv_at hl 1 rfl) ?_
      refine lv_i2l (v := (aF (0 : Int32).toNatClampNeg).toInt64) hx hb d_M_liesRight_136 rfl ?_
      refine lv_ldc2 hx hb hown (ht _ tw_659) d_M_liesRight_137 ?_
      refine lv_iload_n hx hb d_M_liesRight_140 rfl (lv_at hl 0 rfl) ?_
      refine lv_i2l (v := (aF (1 : Int32).toNatClampNeg).toInt64) hx hb d_M_liesRight_141 rfl ?_
      refine lv_lmul hx hb d_M_liesRight_142 ?_
      refine rcV (As := [.long ((aF (0 : Int32).toNatClampNeg).toInt64), .long (3 * (aF (1 : Int32).toNatClampNeg).toInt64)]) (rest := []) (c_M_isInMemory l dC dI tb y ma qa ba aa ka th wi hg zs ta de oe re pa ee dq qe ag ((aF (0 : Int32).toNatClampNeg).toInt64) (3 * (aF (1 : Int32).toNatClampNeg).toInt64) ) F tw_687 tw_34 tw_686 tw_23 tw_684 hP [0] rfl hK [] rfl hE hS (q0 := 0) rfl rfl hd_M_isInMemory rfl rfl ⟨Nat.le_of_ble_eq_true rfl, Nat.le_of_ble_eq_true rfl⟩ ⟨Nat.le_of_ble_eq_true rfl, Nat.le_of_ble_eq_true rfl⟩ hl.1 rfl (Nat.le_of_ble_eq_true rfl) d_M_liesRight_143 ?_
      exact W.zret hx hb hr (nar_inMM _ _) (fun t ht9 hW => ⟨_, rfl, by simp only [lieM, if_neg sv_93, if_pos sv_96], ht9⟩) hS.2.2 d_M_liesRight_146
    · skip
      by_cases sv_97 : k9 = 20
      · refine lv_tab (off := 132) (tgt := 147) hx hb d_M_liesRight_15 (by decide) (by rw [sv_97]; decide +kernel) (by decide) ?_
        refine lv_iload_n hx hb d_M_liesRight_147 rfl (lv_at hl 1 rfl) ?_
        refine lv_aload_n hx hb d_M_liesRight_148 rfl (lv_at hl 2 rfl) ?_
        refine va_get (D := (dC, dI)) (ci := 4) (v := .ref aa) (C := R_M) (T := F_M) (N := 18) hx hb ht tu_M hown hK hP 0 rfl rfl 16 (by decide) (ht _ tw_548) (fun _ h9 => h9) rfl d_M_liesRight_149 ?_
        refine lv_iconst (v := 2) hx hb d_M_liesRight_152 (by decide) ?_
        refine va_iald hx hb hK hP 1 0 rfl rfl (by unfold vp_in; decide +kernel) d_M_liesRight_153 ?_
        refine lv_iadd hx hb d_M_liesRight_154 ?_
        refine lv_aload_n hx hb d_M_liesRight_155 rfl (lv_at hl 2 rfl) ?_
        refine va_get (D := (dC, dI)) (ci := 4) (v := .int wi) (C := R_M) (T := F_M) (N := 18) hx hb ht tu_M hown hK hP 0 rfl rfl 2 (by decide) (ht _ tw_534) (fun _ h9 => h9) rfl d_M_liesRight_156 ?_
        refine lv_icmp_gt (tgt := 210) hx hb d_M_liesRight_159 (by decide) (fun c_98 => ?_) (fun c_98 => ?_)
        · refine lv_iconst (v := 0) hx hb d_M_liesRight_210 (by decide) ?_
          exact W.zret hx hb hr (rfl) (fun t ht9 hW => ⟨_, rfl, by simp only [lieM, if_neg sv_93, if_neg sv_96, if_pos sv_97, if_pos c_98], ht9⟩) hS.2.2 d_M_liesRight_211
        · refine lv_iload_n hx hb d_M_liesRight_162 rfl (lv_at hl 0 rfl) ?_
          refine lv_aload_n hx hb d_M_liesRight_163 rfl (lv_at hl 2 rfl) ?_
          refine va_get (D := (dC, dI)) (ci := 4) (v := .ref aa) (C := R_M) (T := F_M) (N := 18) hx hb ht tu_M hown hK hP 0 rfl rfl 16 (by decide) (ht _ tw_548) (fun _ h9 => h9) rfl d_M_liesRight_164 ?_
          refine lv_iconst (v := 3) hx hb d_M_liesRight_167 (by decide) ?_
          refine va_iald hx hb hK hP 1 0 rfl rfl (by unfold vp_in; decide +kernel) d_M_liesRight_168 ?_
          refine lv_iadd hx hb d_M_liesRight_169 ?_
          refine lv_aload_n hx hb d_M_liesRight_170 rfl (lv_at hl 2 rfl) ?_
          refine va_get (D := (dC, dI)) (ci := 4) (v := .int hg) (C := R_M) (T := F_M) (N := 18) hx hb ht tu_M hown hK hP 0 rfl rfl 3 (by decide) (ht _ tw_535) (fun _ h9 => h9) rfl d_M_liesRight_171 ?_
          refine lv_icmp_gt (tgt := 210) hx hb d_M_liesRight_174 (by decide) (fun c_99 => ?_) (fun c_99 => ?_)
          · refine lv_iconst (v := 0) hx hb d_M_liesRight_210 (by decide) ?_
            exact W.zret hx hb hr (rfl) (fun t ht9 hW => ⟨_, rfl, by simp only [lieM, if_neg sv_93, if_neg sv_96, if_pos sv_97, if_neg c_98, if_pos c_99], ht9⟩) hS.2.2 d_M_liesRight_211
          · refine lv_aload_n hx hb d_M_liesRight_177 rfl (lv_at hl 2 rfl) ?_
            refine lv_aload_n hx hb d_M_liesRight_178 rfl (lv_at hl 2 rfl) ?_
            refine va_get (D := (dC, dI)) (ci := 4) (v := .ref aa) (C := R_M) (T := F_M) (N := 18) hx hb ht tu_M hown hK hP 0 rfl rfl 16 (by decide) (ht _ tw_548) (fun _ h9 => h9) rfl d_M_liesRight_179 ?_
            refine lv_iconst (v := 4) hx hb d_M_liesRight_182 (by decide) ?_
            refine va_iald hx hb hK hP 1 0 rfl rfl (by unfold vp_in; decide +kernel) d_M_liesRight_183 ?_
            refine lv_i2l (v := (aF (4 : Int32).toNatClampNeg).toInt64) hx hb d_M_liesRight_184 rfl ?_
            refine lv_aload_n hx hb d_M_liesRight_185 rfl (lv_at hl 2 rfl) ?_
            refine va_get (D := (dC, dI)) (ci := 4) (v := .ref aa) (C := R_M) (T := F_M) (N := 18) hx hb ht tu_M hown hK hP 0 rfl rfl 16 (by decide) (ht _ tw_548) (fun _ h9 => h9) rfl d_M_liesRight_186 ?_
            refine lv_iconst (v := 2) hx hb d_M_liesRight_189 (by decide) ?_
            refine va_iald hx hb hK hP 1 0 rfl rfl (by unfold vp_in; decide +kernel) d_M_liesRight_190 ?_
            refine lv_i2l (v := (aF (2 : Int32).toNatClampNeg).toInt64) hx hb d_M_liesRight_191 rfl ?_
            refine lv_aload_n hx hb d_M_liesRight_192 rfl (lv_at hl 2 rfl) ?_
            refine va_get (D := (dC, dI)) (ci := 4) (v := .ref aa) (C := R_M) (T := F_M) (N := 18) hx hb ht tu_M hown hK hP 0 rfl rfl 16 (by decide) (ht _ tw_548) (fun _ h9 => h9) rfl d_M_liesRight_193 ?_
            refine lv_iconst (v := 3) hx hb d_M_liesRight_196 (by decide) ?_
            refine va_iald hx hb hK hP 1 0 rfl rfl (by unfold vp_in; decide +kernel) d_M_liesRight_197 ?_
            refine lv_i2l (v := (aF (3 : Int32).toNatClampNeg).toInt64) hx hb d_M_liesRight_198 rfl ?_
            refine lv_lmul hx hb d_M_liesRight_199 ?_
            refine rcV (As := [.long ((aF (4 : Int32).toNatClampNeg).toInt64), .long ((aF (2 : Int32).toNatClampNeg).toInt64 * (aF (3 : Int32).toNatClampNeg).toInt64)]) (rest := []) (c_M_isInMemory l dC dI tb y ma qa ba aa ka th wi hg zs ta de oe re pa ee dq qe ag ((aF (4 : Int32).toNatClampNeg).toInt64) ((aF (2 : Int32).toNatClampNeg).toInt64 * (aF (3 : Int32).toNatClampNeg).toInt64) ) F tw_687 tw_34 tw_686 tw_23 tw_684 hP [0] rfl hK [] rfl hE hS (q0 := 0) rfl rfl hd_M_isInMemory rfl rfl ⟨Nat.le_of_ble_eq_true rfl, Nat.le_of_ble_eq_true rfl⟩ ⟨Nat.le_of_ble_eq_true rfl, Nat.le_of_ble_eq_true rfl⟩ hl.1 rfl (Nat.le_of_ble_eq_true rfl) d_M_liesRight_200 ?_
            refine lv_if_eq (tgt := 210) hx hb d_M_liesRight_203 (by decide) (fun c_100 => ?_) (fun c_100 => ?_)
            · refine lv_iconst (v := 0) hx hb d_M_liesRight_210 (by decide) ?_
              exact W.zret hx hb hr (rfl) (fun t ht9 hW => ⟨_, rfl, by simp only [lieM, if_neg sv_93, if_neg sv_96, if_pos sv_97, if_neg c_98, if_neg c_99, if_pos c_100], ht9⟩) hS.2.2 d_M_liesRight_211
            · refine lv_iconst (v := 1) hx hb d_M_liesRight_206 (by decide) ?_
              refine lv_goto (tgt := 211) hx hb d_M_liesRight_207 (by decide) ?_
              exact W.zret hx hb hr (rfl) (fun t ht9 hW => ⟨_, rfl, by simp only [lieM, if_neg sv_93, if_neg sv_96, if_pos sv_97, if_neg c_98, if_neg c_99, if_neg c_100], ht9⟩) hS.2.2 d_M_liesRight_211
      · skip
        by_cases sv_101 : k9 = 21
        · refine lv_tab (off := 197) (tgt := 212) hx hb d_M_liesRight_15 (by decide) (by rw [sv_101]; decide +kernel) (by decide) ?_
          refine lv_aload_n hx hb d_M_liesRight_212 rfl (lv_at hl 2 rfl) ?_
          refine lv_iload_n hx hb d_M_liesRight_213 rfl (lv_at hl 1 rfl) ?_
          refine lv_i2l (v := (aF (0 : Int32).toNatClampNeg).toInt64) hx hb d_M_liesRight_214 rfl ?_
          refine lv_iload_n hx hb d_M_liesRight_215 rfl (lv_at hl 0 rfl) ?_
          refine lv_i2l (v := (aF (1 : Int32).toNatClampNeg).toInt64) hx hb d_M_liesRight_216 rfl ?_
          refine rcV (As := [.long ((aF (0 : Int32).toNatClampNeg).toInt64), .long ((aF (1 : Int32).toNatClampNeg).toInt64)]) (rest := []) (c_M_isInMemory l dC dI tb y ma qa ba aa ka th wi hg zs ta de oe re pa ee dq qe ag ((aF (0 : Int32).toNatClampNeg).toInt64) ((aF (1 : Int32).toNatClampNeg).toInt64) ) F tw_687 tw_34 tw_686 tw_23 tw_684 hP [0] rfl hK [] rfl hE hS (q0 := 0) rfl rfl hd_M_isInMemory rfl rfl ⟨Nat.le_of_ble_eq_true rfl, Nat.le_of_ble_eq_true rfl⟩ ⟨Nat.le_of_ble_eq_true rfl, Nat.le_of_ble_eq_true rfl⟩ hl.1 rfl (Nat.le_of_ble_eq_true rfl) d_M_liesRight_217 ?_
          exact W.zret hx hb hr (nar_inMM _ _) (fun t ht9 hW => ⟨_, rfl, by simp only [lieM, if_neg sv_93, if_neg sv_96, if_neg sv_97, if_pos sv_101], ht9⟩) hS.2.2 d_M_liesRight_220
        · skip
          by_cases sv_102 : k9 = 23
          · refine lv_tab (off := 206) (tgt := 221) hx hb d_M_liesRight_15 (by decide) (by rw [sv_102]; decide +kernel) (by decide) ?_
            refine lv_iload_n hx hb d_M_liesRight_221 rfl (lv_at hl 1 rfl) ?_
            refine lv_sipush (v := 4096) hx hb d_M_liesRight_222 (by decide) ?_
            refine lv_icmp_ge (tgt := 232) hx hb d_M_liesRight_225 (by decide) (fun c_103 => ?_) (fun c_103 => ?_)
            · refine lv_iconst (v := 0) hx hb d_M_liesRight_232 (by decide) ?_
              exact W.zret hx hb hr (rfl) (fun t ht9 hW => ⟨_, rfl, by simp only [lieM, if_neg sv_93, if_neg sv_96, if_neg sv_97, if_neg sv_101, if_pos sv_102, if_pos c_103], ht9⟩) hS.2.2 d_M_liesRight_233
            · refine lv_iconst (v := 1) hx hb d_M_liesRight_228 (by decide) ?_
              refine lv_goto (tgt := 233) hx hb d_M_liesRight_229 (by decide) ?_
              exact W.zret hx hb hr (rfl) (fun t ht9 hW => ⟨_, rfl, by simp only [lieM, if_neg sv_93, if_neg sv_96, if_neg sv_97, if_neg sv_101, if_pos sv_102, if_neg c_103], ht9⟩) hS.2.2 d_M_liesRight_233
          · skip
            have hsw : ∀ b ∈ ([6, 7, 8, 20, 21, 23] : List Int32), ¬ k9 = b := by
              intro b9 hb9
              simp only [List.mem_cons, List.not_mem_nil, or_false] at hb9
              rcases hb9 with rfl | rfl | rfl | rfl | rfl | rfl
              · exact sv_93
              · exact fun h9 => sv_96 (Or.inl h9)
              · exact fun h9 => sv_96 (Or.inr (h9))
              · exact sv_97
              · exact sv_101
              · exact sv_102
            refine lv_tab (off := 219) (tgt := 234) hx hb d_M_liesRight_15 (by decide) (sw_def [6, 7, 8, 20, 21, 23] hsw (by decide +kernel) (by decide)) (by decide) ?_
            refine lv_iconst (v := 1) hx hb d_M_liesRight_234 (by decide) ?_
            exact W.zret hx hb hr (rfl) (fun t ht9 hW => ⟨_, rfl, by simp only [lieM, if_neg sv_93, if_neg sv_96, if_neg sv_97, if_neg sv_101, if_neg sv_102], ht9⟩) hS.2.2 d_M_liesRight_235
def fitM (de qe : Int32) (aF kF : IF) (k9 : Int32) : Int32 := (if k9 = 17 ∨ k9 = 18 then (if (kF (rwO 7 0).toNatClampNeg) < 0 then 0 else (if (kF (rwO 8 0).toNatClampNeg) < 0 then 0 else 1)) else (if k9 = 19 then (if (aF (1 : Int32).toNatClampNeg) = 1 then (if qe = (-1) then 1 else 0) else (if qe = (aF (0 : Int32).toNatClampNeg) then 1 else 0)) else (if k9 = 23 then (if 4 ≤ de then 0 else 1) else 1)))
set_option maxHeartbeats 4000000 in
set_option maxRecDepth 100000 in
theorem c_M_fitsState (l : Launch) (dC : Nat → ClassId) (dI : Nat → Nat → Nat) (tb : tbT) (y ma qa ba aa ka : Nat) (th wi hg zs ta de oe re pa ee dq qe ag : Int32) (aF kF : IF) (cI : ClassId) (k9 : Int32) : RM l y_M_fitsState (Cond.code y_M_fitsState b_M_fitsState 2 (some .boolean) :: TB) ({ frames := 2, cells := 0, slots := 0, locals := 41 }) tb (dC, dI) [.ref y, .int k9] [(y, .inr (4, [.int th, .ref ma, .int wi, .int hg, .ref qa, .int zs, .int ta, .int de, .ref ba, .int oe, .int re, .int pa, .int ee, .int dq, .int qe, .int ag, .ref aa, .ref ka])), (aa, .inl (cI, 300, .inl aF)), (ka, .inl (cI, 4160, .inl kF))] [(cI, .int)] (fitM de qe aF kF k9) := by
  refine Met.ofW (cc := b_M_fitsState) (maxL := 2) (ret := (some .boolean)) (by decide) rfl ?_
  intro p e s m args below meth c s₁ B hml hv
  obtain ⟨rfl, hP, hK, hE⟩ := hv
  have hx := B.exec
  have hb := B.bytes
  have hr := B.returns
  have ht := fun w (h : w ∈ TB) => atoms_spec (ws := Cond.code y_M_fitsState b_M_fitsState 2 (some .boolean) :: TB) B.pre w (List.mem_cons_of_mem _ h)
  have hown : s.vm.findClass R_M = some m.cls := findClass_of_methodNamed B.named
  have hlocks := B.notSynchronized
  have hS : va_S (fun _ => False) s.heap s.heap [] := va_S.rf
  have F : CallFix p m c b_M_fitsState 2 s _ TB R_M := ⟨hx, hb, hml, hown, ht⟩
  have hl := lv_entry ([.ref y, .int k9]) (n := 2) (Nat.le_of_ble_eq_true rfl)
  rw [lg_entry_eq]
  generalize (lg_sl ([.ref y, .int k9]) ++ List.replicate (2 - (lg_sl ([.ref y, .int k9])).length) Slot.unset).toArray = ls at hl ⊢
  have hl : lv_has ls 2 [(0, .ref y), (1, .int k9)] := hl
  refine lv_iload_n hx hb d_M_fitsState_0 rfl (lv_at hl 1 rfl) ?_
  by_cases sv_104 : k9 = 17 ∨ k9 = 18
  · refine lv_tab (off := 43) (tgt := 44) hx hb d_M_fitsState_1 (by decide) (by rcases sv_104 with h9 | h9 <;> rw [h9] <;> decide +kernel) (by decide) ?_
    refine lv_aload_n hx hb d_M_fitsState_44 rfl (lv_at hl 0 rfl) ?_
    refine va_get (D := (dC, dI)) (ci := 4) (v := .ref ka) (C := R_M) (T := F_M) (N := 18) hx hb ht tu_M hown hK hP 0 rfl rfl 17 (by decide) (ht _ tw_549) (fun _ h9 => h9) rfl d_M_fitsState_45 ?_
    refine lv_bipush (v := 7) hx hb d_M_fitsState_48 (by decide) ?_
    refine lv_iconst (v := 0) hx hb d_M_fitsState_50 (by decide) ?_
    refine rcS (As := [.int 7, .int 0]) (rest := [.ref ka]) (c_M_rowOf l dC dI tb 7 0 ) F tw_527 tw_34 tw_526 tw_525 hP [] rfl hK [] rfl hE hS hd_M_rowOf rfl rfl ⟨Nat.le_of_ble_eq_true rfl, Nat.le_of_ble_eq_true rfl⟩ ⟨Nat.le_of_ble_eq_true rfl, Nat.le_of_ble_eq_true rfl⟩ hl.1 rfl (Nat.le_of_ble_eq_true rfl) d_M_fitsState_51 ?_
    refine va_iald hx hb hK hP 2 0 rfl rfl (by unfold vp_in; decide +kernel) d_M_fitsState_54 ?_
    refine lv_if_lt (tgt := 76) hx hb d_M_fitsState_55 (by decide) (fun c_105 => ?_) (fun c_105 => ?_)
    · refine lv_iconst (v := 0) hx hb d_M_fitsState_76 (by decide) ?_
      exact W.zret hx hb hr (rfl) (fun t ht9 hW => ⟨_, rfl, by simp only [fitM, if_pos sv_104, if_pos c_105], ht9⟩) hS.2.2 d_M_fitsState_77
    · refine lv_aload_n hx hb d_M_fitsState_58 rfl (lv_at hl 0 rfl) ?_
      refine va_get (D := (dC, dI)) (ci := 4) (v := .ref ka) (C := R_M) (T := F_M) (N := 18) hx hb ht tu_M hown hK hP 0 rfl rfl 17 (by decide) (ht _ tw_549) (fun _ h9 => h9) rfl d_M_fitsState_59 ?_
      refine lv_bipush (v := 8) hx hb d_M_fitsState_62 (by decide) ?_
      refine lv_iconst (v := 0) hx hb d_M_fitsState_64 (by decide) ?_
      refine rcS (As := [.int 8, .int 0]) (rest := [.ref ka]) (c_M_rowOf l dC dI tb 8 0 ) F tw_527 tw_34 tw_526 tw_525 hP [] rfl hK [] rfl hE hS hd_M_rowOf rfl rfl ⟨Nat.le_of_ble_eq_true rfl, Nat.le_of_ble_eq_true rfl⟩ ⟨Nat.le_of_ble_eq_true rfl, Nat.le_of_ble_eq_true rfl⟩ hl.1 rfl (Nat.le_of_ble_eq_true rfl) d_M_fitsState_65 ?_
      refine va_iald hx hb hK hP 2 0 rfl rfl (by unfold vp_in; decide +kernel) d_M_fitsState_68 ?_
      refine lv_if_lt (tgt := 76) hx hb d_M_fitsState_69 (by decide) (fun c_106 => ?_) (fun c_106 => ?_)
      · refine lv_iconst (v := 0) hx hb d_M_fitsState_76 (by decide) ?_
        exact W.zret hx hb hr (rfl) (fun t ht9 hW => ⟨_, rfl, by simp only [fitM, if_pos sv_104, if_neg c_105, if_pos c_106], ht9⟩) hS.2.2 d_M_fitsState_77
      · refine lv_iconst (v := 1) hx hb d_M_fitsState_72 (by decide) ?_
        refine lv_goto (tgt := 77) hx hb d_M_fitsState_73 (by decide) ?_
        exact W.zret hx hb hr (rfl) (fun t ht9 hW => ⟨_, rfl, by simp only [fitM, if_pos sv_104, if_neg c_105, if_neg c_106], ht9⟩) hS.2.2 d_M_fitsState_77
  · skip
    by_cases sv_107 : k9 = 19
    · refine lv_tab (off := 77) (tgt := 78) hx hb d_M_fitsState_1 (by decide) (by rw [sv_107]; decide +kernel) (by decide) ?_
      refine lv_aload_n hx hb d_M_fitsState_78 rfl (lv_at hl 0 rfl) ?_
      refine va_get (D := (dC, dI)) (ci := 4) (v := .ref aa) (C := R_M) (T := F_M) (N := 18) hx hb ht tu_M hown hK hP 0 rfl rfl 16 (by decide) (ht _ tw_548) (fun _ h9 => h9) rfl d_M_fitsState_79 ?_
      refine lv_iconst (v := 1) hx hb d_M_fitsState_82 (by decide) ?_
      refine va_iald hx hb hK hP 1 0 rfl rfl (by unfold vp_in; decide +kernel) d_M_fitsState_83 ?_
      refine lv_iconst (v := 1) hx hb d_M_fitsState_84 (by decide) ?_
      refine lv_icmp_ne (tgt := 104) hx hb d_M_fitsState_85 (by decide) (fun c_108 => ?_) (fun c_108 => ?_)
      · refine lv_aload_n hx hb d_M_fitsState_104 rfl (lv_at hl 0 rfl) ?_
        refine va_get (D := (dC, dI)) (ci := 4) (v := .int qe) (C := R_M) (T := F_M) (N := 18) hx hb ht tu_M hown hK hP 0 rfl rfl 14 (by decide) (ht _ tw_546) (fun _ h9 => h9) rfl d_M_fitsState_105 ?_
        refine lv_aload_n hx hb d_M_fitsState_108 rfl (lv_at hl 0 rfl) ?_
        refine va_get (D := (dC, dI)) (ci := 4) (v := .ref aa) (C := R_M) (T := F_M) (N := 18) hx hb ht tu_M hown hK hP 0 rfl rfl 16 (by decide) (ht _ tw_548) (fun _ h9 => h9) rfl d_M_fitsState_109 ?_
        refine lv_iconst (v := 0) hx hb d_M_fitsState_112 (by decide) ?_
        refine va_iald hx hb hK hP 1 0 rfl rfl (by unfold vp_in; decide +kernel) d_M_fitsState_113 ?_
        refine lv_icmp_ne (tgt := 121) hx hb d_M_fitsState_114 (by decide) (fun c_109 => ?_) (fun c_109 => ?_)
        · refine lv_iconst (v := 0) hx hb d_M_fitsState_121 (by decide) ?_
          exact W.zret hx hb hr (rfl) (fun t ht9 hW => ⟨_, rfl, by simp only [fitM, if_neg sv_104, if_pos sv_107, if_neg c_108, if_neg c_109], ht9⟩) hS.2.2 d_M_fitsState_122
        · refine lv_iconst (v := 1) hx hb d_M_fitsState_117 (by decide) ?_
          refine lv_goto (tgt := 122) hx hb d_M_fitsState_118 (by decide) ?_
          exact W.zret hx hb hr (rfl) (fun t ht9 hW => ⟨_, rfl, by simp only [fitM, if_neg sv_104, if_pos sv_107, if_neg c_108, if_pos c_109], ht9⟩) hS.2.2 d_M_fitsState_122
      · refine lv_aload_n hx hb d_M_fitsState_88 rfl (lv_at hl 0 rfl) ?_
        refine va_get (D := (dC, dI)) (ci := 4) (v := .int qe) (C := R_M) (T := F_M) (N := 18) hx hb ht tu_M hown hK hP 0 rfl rfl 14 (by decide) (ht _ tw_546) (fun _ h9 => h9) rfl d_M_fitsState_89 ?_
        refine lv_iconst (v := (-1)) hx hb d_M_fitsState_92 (by decide) ?_
        refine lv_icmp_ne (tgt := 100) hx hb d_M_fitsState_93 (by decide) (fun c_110 => ?_) (fun c_110 => ?_)
        · refine lv_iconst (v := 0) hx hb d_M_fitsState_100 (by decide) ?_
          refine lv_goto (tgt := 122) hx hb d_M_fitsState_101 (by decide) ?_
          exact W.zret hx hb hr (rfl) (fun t ht9 hW => ⟨_, rfl, by simp only [fitM, if_neg sv_104, if_pos sv_107, if_pos c_108, if_neg c_110], ht9⟩) hS.2.2 d_M_fitsState_122
        · refine lv_iconst (v := 1) hx hb d_M_fitsState_96 (by decide) ?_
          refine lv_goto (tgt := 122) hx hb d_M_fitsState_97 (by decide) ?_
          exact W.zret hx hb hr (rfl) (fun t ht9 hW => ⟨_, rfl, by simp only [fitM, if_neg sv_104, if_pos sv_107, if_pos c_108, if_pos c_110], ht9⟩) hS.2.2 d_M_fitsState_122
    · skip
      by_cases sv_111 : k9 = 23
      · refine lv_tab (off := 122) (tgt := 123) hx hb d_M_fitsState_1 (by decide) (by rw [sv_111]; decide +kernel) (by decide) ?_
        refine lv_aload_n hx hb d_M_fitsState_123 rfl (lv_at hl 0 rfl) ?_
        refine va_get (D := (dC, dI)) (ci := 4) (v := .int de) (C := R_M) (T := F_M) (N := 18) hx hb ht tu_M hown hK hP 0 rfl rfl 7 (by decide) (ht _ tw_539) (fun _ h9 => h9) rfl d_M_fitsState_124 ?_
        refine lv_iconst (v := 4) hx hb d_M_fitsState_127 (by decide) ?_
        refine lv_icmp_ge (tgt := 135) hx hb d_M_fitsState_128 (by decide) (fun c_112 => ?_) (fun c_112 => ?_)
        · refine lv_iconst (v := 0) hx hb d_M_fitsState_135 (by decide) ?_
          exact W.zret hx hb hr (rfl) (fun t ht9 hW => ⟨_, rfl, by simp only [fitM, if_neg sv_104, if_neg sv_107, if_pos sv_111, if_pos c_112], ht9⟩) hS.2.2 d_M_fitsState_136
        · refine lv_iconst (v := 1) hx hb d_M_fitsState_131 (by decide) ?_
          refine lv_goto (tgt := 136) hx hb d_M_fitsState_132 (by decide) ?_
          exact W.zret hx hb hr (rfl) (fun t ht9 hW => ⟨_, rfl, by simp only [fitM, if_neg sv_104, if_neg sv_107, if_pos sv_111, if_neg c_112], ht9⟩) hS.2.2 d_M_fitsState_136
      · skip
        have hsw : ∀ b ∈ ([17, 18, 19, 23] : List Int32), ¬ k9 = b := by
          intro b9 hb9
          simp only [List.mem_cons, List.not_mem_nil, or_false] at hb9
          rcases hb9 with rfl | rfl | rfl | rfl
          · exact fun h9 => sv_104 (Or.inl h9)
          · exact fun h9 => sv_104 (Or.inr (h9))
          · exact sv_107
          · exact sv_111
        refine lv_tab (off := 136) (tgt := 137) hx hb d_M_fitsState_1 (by decide) (sw_def [17, 18, 19, 23] hsw (by decide +kernel) (by decide)) (by decide) ?_
        refine lv_iconst (v := 1) hx hb d_M_fitsState_137 (by decide) ?_
        exact W.zret hx hb hr (rfl) (fun t ht9 hW => ⟨_, rfl, by simp only [fitM, if_neg sv_104, if_neg sv_107, if_neg sv_111], ht9⟩) hS.2.2 d_M_fitsState_138
