/-- all values may be -/
def vmB (kd : Int32) (cf : IF) : Int32 := if ∀ j, j < (fxd kd).toNatClampNeg → ¬ myB kd (nI j) (rdA 258 cf (nI j)) = 0 then 1 else 0
theorem vmB_1 {kd : Int32} {cf : IF} (h : ∀ j, j < (fxd kd).toNatClampNeg → ¬ myB kd (nI j) (rdA 258 cf (nI j)) = 0) : 1 = vmB kd cf := by unfold vmB; rw [if_pos h]
theorem vmB_0 {kd : Int32} {cf : IF} {i : Nat} (hi : i < (fxd kd).toNatClampNeg) (h : myB kd (nI i) (rdA 258 cf (nI i)) = 0) : 0 = vmB kd cf := by unfold vmB; rw [if_neg (fun q => q i hi h)]
set_option maxHeartbeats 4000000 in
set_option maxRecDepth 100000 in
theorem c_D_inMemory (l : Launch) (dC : Nat → ClassId) (dI : Nat → Nat → Nat) (tb : tbT) (f9 n9 : Int32) : RM l y_D_inMemory (Cond.code y_D_inMemory b_D_inMemory 2 (some .boolean) :: TB) ({ frames := 0, cells := 0, slots := 0, locals := 0 }) tb (dC, dI) [.int f9, .int n9] [] [] (inM f9 n9) := by
  refine Met.ofW (cc := b_D_inMemory) (maxL := 2) (ret := (some .boolean)) (by decide) rfl ?_
  intro p e s m args below meth c s₁ B hml hv
  obtain ⟨rfl, hP, hK, hE⟩ := hv
  have hx := B.exec
  have hb := B.bytes
  have hr := B.returns
  have ht := fun w (h : w ∈ TB) => atoms_spec (ws := Cond.code y_D_inMemory b_D_inMemory 2 (some .boolean) :: TB) B.pre w (List.mem_cons_of_mem _ h)
  have hown : s.vm.findClass R_D = some m.cls := findClass_of_methodNamed B.named
  have hlocks := B.notSynchronized
  have hS : va_S (fun _ => False) s.heap s.heap [] := va_S.rf
  have F : CallFix p m c b_D_inMemory 2 s _ TB R_D := ⟨hx, hb, hml, hown, ht⟩
  have hl := lv_entry ([.int f9, .int n9]) (n := 2) (Nat.le_of_ble_eq_true rfl)
  rw [lg_entry_eq]
  generalize (lg_sl ([.int f9, .int n9]) ++ List.replicate (2 - (lg_sl ([.int f9, .int n9])).length) Slot.unset).toArray = ls at hl ⊢
  have hl : lv_has ls 2 [(0, .int f9), (1, .int n9)] := hl
  refine lv_iload_n hx hb d_D_inMemory_0 rfl (lv_at hl 1 rfl) ?_
  refine lv_if_eq (tgt := 13) hx hb d_D_inMemory_1 (by decide) (fun c_19 => ?_) (fun c_19 => ?_)
  · refine lv_iconst (v := 1) hx hb d_D_inMemory_13 (by decide) ?_
    refine lv_goto (tgt := 18) hx hb d_D_inMemory_14 (by decide) ?_
    exact W.zret hx hb hr (rfl) (fun t ht9 hW => ⟨_, rfl, by simp only [inM, if_pos c_19], ht9⟩) hS.2.2 d_D_inMemory_18
  · refine lv_iload_n hx hb d_D_inMemory_4 rfl (lv_at hl 0 rfl) ?_
    refine lv_iload_n hx hb d_D_inMemory_5 rfl (lv_at hl 1 rfl) ?_
    refine lv_iadd hx hb d_D_inMemory_6 ?_
    refine lv_sipush (v := 4096) hx hb d_D_inMemory_7 (by decide) ?_
    refine lv_icmp_gt (tgt := 17) hx hb d_D_inMemory_10 (by decide) (fun c_20 => ?_) (fun c_20 => ?_)
    · refine lv_iconst (v := 0) hx hb d_D_inMemory_17 (by decide) ?_
      exact W.zret hx hb hr (rfl) (fun t ht9 hW => ⟨_, rfl, by simp only [inM, if_neg c_19, if_pos c_20], ht9⟩) hS.2.2 d_D_inMemory_18
    · refine lv_iconst (v := 1) hx hb d_D_inMemory_13 (by decide) ?_
      refine lv_goto (tgt := 18) hx hb d_D_inMemory_14 (by decide) ?_
      exact W.zret hx hb hr (rfl) (fun t ht9 hW => ⟨_, rfl, by simp only [inM, if_neg c_19, if_neg c_20], ht9⟩) hS.2.2 d_D_inMemory_18
set_option maxHeartbeats 4000000 in
set_option maxRecDepth 100000 in
theorem c_D_sourceLength (l : Launch) (dC : Nat → ClassId) (dI : Nat → Nat → Nat) (tb : tbT) (x me sm to co ru : Nat) (sl fw fh : Int32) (bk : Nat) (pl dp lp ld dn rf qu ov : Int32) : RM l y_D_sourceLength (Cond.code y_D_sourceLength b_D_sourceLength 1 (some .int) :: TB) ({ frames := 0, cells := 0, slots := 0, locals := 0 }) tb (dC, dI) [.ref x] [(x, .inr (3, [.ref me, .ref sm, .ref to, .ref co, .ref ru, .int sl, .int fw, .int fh])), (ru, .inr (1, [.ref bk, .int pl, .int dp, .int lp, .int ld, .int dn, .int rf, .int qu, .int ov]))] [] (srcL dp sl) := by
  refine Met.ofW (cc := b_D_sourceLength) (maxL := 1) (ret := (some .int)) (by decide) rfl ?_
  intro p e s m args below meth c s₁ B hml hv
  obtain ⟨rfl, hP, hK, hE⟩ := hv
  have hx := B.exec
  have hb := B.bytes
  have hr := B.returns
  have ht := fun w (h : w ∈ TB) => atoms_spec (ws := Cond.code y_D_sourceLength b_D_sourceLength 1 (some .int) :: TB) B.pre w (List.mem_cons_of_mem _ h)
  have hown : s.vm.findClass R_D = some m.cls := findClass_of_methodNamed B.named
  have hlocks := B.notSynchronized
  have hS : va_S (fun _ => False) s.heap s.heap [] := va_S.rf
  have F : CallFix p m c b_D_sourceLength 1 s _ TB R_D := ⟨hx, hb, hml, hown, ht⟩
  have hl := lv_entry ([.ref x]) (n := 1) (Nat.le_of_ble_eq_true rfl)
  rw [lg_entry_eq]
  generalize (lg_sl ([.ref x]) ++ List.replicate (1 - (lg_sl ([.ref x])).length) Slot.unset).toArray = ls at hl ⊢
  have hl : lv_has ls 1 [(0, .ref x)] := hl
  refine lv_aload_n hx hb d_D_sourceLength_0 rfl (lv_at hl 0 rfl) ?_
  refine va_get (D := (dC, dI)) (ci := 3) (v := .ref ru) (C := R_D) (T := F_D) (N := 8) hx hb ht tu_D hown hK hP 0 rfl rfl 4 (by decide) (ht _ tw_180) (fun _ h9 => h9) rfl d_D_sourceLength_1 ?_
  refine va_getN (D := (dC, dI)) (ci := 1) (v := .int dp) (C := R_R) (T := F_R) (N := 9) hx hb ht tu_R hown hK hP 1 rfl rfl 2 (by decide) (va_Nw.use rfl (hE.1 _ nw_8)) (fun _ h9 => h9) rfl d_D_sourceLength_4 ?_
  refine lv_if_le (tgt := 16) hx hb d_D_sourceLength_7 (by decide) (fun c_21 => ?_) (fun c_21 => ?_)
  · refine lv_aload_n hx hb d_D_sourceLength_16 rfl (lv_at hl 0 rfl) ?_
    refine va_get (D := (dC, dI)) (ci := 3) (v := .int sl) (C := R_D) (T := F_D) (N := 8) hx hb ht tu_D hown hK hP 0 rfl rfl 5 (by decide) (ht _ tw_181) (fun _ h9 => h9) rfl d_D_sourceLength_17 ?_
    exact W.iret hx hb hr (fun t ht9 hW => ⟨_, rfl, by simp only [srcL, if_pos c_21], ht9⟩) hS.2.2 d_D_sourceLength_20
  · refine lv_sipush (v := 4096) hx hb d_D_sourceLength_10 (by decide) ?_
    refine lv_goto (tgt := 20) hx hb d_D_sourceLength_13 (by decide) ?_
    exact W.iret hx hb hr (fun t ht9 hW => ⟨_, rfl, by simp only [srcL, if_neg c_21], ht9⟩) hS.2.2 d_D_sourceLength_20
set_option maxHeartbeats 4000000 in
set_option maxRecDepth 100000 in
theorem c_D_sourceWord (l : Launch) (dC : Nat → ClassId) (dI : Nat → Nat → Nat) (tb : tbT) (x me sm to co ru : Nat) (sl fw fh : Int32) (bk : Nat) (pl dp lp ld dn rf qu ov : Int32) (mf qf : IF) (cI : ClassId) (i9 : Int32) : RM l y_D_sourceWord (Cond.code y_D_sourceWord b_D_sourceWord 2 (some .int) :: TB) ({ frames := 1, cells := 0, slots := 0, locals := 21 }) tb (dC, dI) [.ref x, .int i9] [(x, .inr (3, [.ref me, .ref sm, .ref to, .ref co, .ref ru, .int sl, .int fw, .int fh])), (ru, .inr (1, [.ref bk, .int pl, .int dp, .int lp, .int ld, .int dn, .int rf, .int qu, .int ov])), (me, .inl (cI, 4096, .inl mf)), (sm, .inl (cI, 4096, .inl qf))] [(cI, .int)] (srcW dp mf qf i9) := by
  refine Met.ofW (cc := b_D_sourceWord) (maxL := 2) (ret := (some .int)) (by decide) rfl ?_
  intro p e s m args below meth c s₁ B hml hv
  obtain ⟨rfl, hP, hK, hE⟩ := hv
  have hx := B.exec
  have hb := B.bytes
  have hr := B.returns
  have ht := fun w (h : w ∈ TB) => atoms_spec (ws := Cond.code y_D_sourceWord b_D_sourceWord 2 (some .int) :: TB) B.pre w (List.mem_cons_of_mem _ h)
  have hown : s.vm.findClass R_D = some m.cls := findClass_of_methodNamed B.named
  have hlocks := B.notSynchronized
  have hS : va_S (fun _ => False) s.heap s.heap [] := va_S.rf
  have F : CallFix p m c b_D_sourceWord 2 s _ TB R_D := ⟨hx, hb, hml, hown, ht⟩
  have hl := lv_entry ([.ref x, .int i9]) (n := 2) (Nat.le_of_ble_eq_true rfl)
  rw [lg_entry_eq]
  generalize (lg_sl ([.ref x, .int i9]) ++ List.replicate (2 - (lg_sl ([.ref x, .int i9])).length) Slot.unset).toArray = ls at hl ⊢
  have hl : lv_has ls 2 [(0, .ref x), (1, .int i9)] := hl
  refine lv_aload_n hx hb d_D_sourceWord_0 rfl (lv_at hl 0 rfl) ?_
  refine va_get (D := (dC, dI)) (ci := 3) (v := .ref ru) (C := R_D) (T := F_D) (N := 8) hx hb ht tu_D hown hK hP 0 rfl rfl 4 (by decide) (ht _ tw_180) (fun _ h9 => h9) rfl d_D_sourceWord_1 ?_
  refine va_getN (D := (dC, dI)) (ci := 1) (v := .int dp) (C := R_R) (T := F_R) (N := 9) hx hb ht tu_R hown hK hP 1 rfl rfl 2 (by decide) (va_Nw.use rfl (hE.1 _ nw_8)) (fun _ h9 => h9) rfl d_D_sourceWord_4 ?_
  refine lv_if_le (tgt := 17) hx hb d_D_sourceWord_7 (by decide) (fun c_22 => ?_) (fun c_22 => ?_)
  · refine lv_aload_n hx hb d_D_sourceWord_17 rfl (lv_at hl 0 rfl) ?_
    refine va_get (D := (dC, dI)) (ci := 3) (v := .ref sm) (C := R_D) (T := F_D) (N := 8) hx hb ht tu_D hown hK hP 0 rfl rfl 1 (by decide) (ht _ tw_177) (fun _ h9 => h9) rfl d_D_sourceWord_18 ?_
    refine lv_iload_n hx hb d_D_sourceWord_21 rfl (lv_at hl 1 rfl) ?_
    refine rcS (As := [.ref sm, .int i9]) (rest := []) (c_D_read l dC dI tb sm 4096 qf cI i9 (by decide)) F tw_66 tw_28 tw_65 tw_300 hP [3] rfl hK [0] rfl hE hS hd_D_read rfl rfl ⟨Nat.le_of_ble_eq_true rfl, Nat.le_of_ble_eq_true rfl⟩ ⟨Nat.le_of_ble_eq_true rfl, Nat.le_of_ble_eq_true rfl⟩ hl.1 rfl (Nat.le_of_ble_eq_true rfl) d_D_sourceWord_22 ?_
    exact W.iret hx hb hr (fun t ht9 hW => ⟨_, rfl, by simp only [srcW, if_pos c_22], ht9⟩) hS.2.2 d_D_sourceWord_25
  · refine lv_aload_n hx hb d_D_sourceWord_10 rfl (lv_at hl 0 rfl) ?_
    refine va_get (D := (dC, dI)) (ci := 3) (v := .ref me) (C := R_D) (T := F_D) (N := 8) hx hb ht tu_D hown hK hP 0 rfl rfl 0 (by decide) (ht _ tw_176) (fun _ h9 => h9) rfl d_D_sourceWord_11 ?_
    refine lv_goto (tgt := 21) hx hb d_D_sourceWord_14 (by decide) ?_
    refine lv_iload_n hx hb d_D_sourceWord_21 rfl (lv_at hl 1 rfl) ?_
    refine rcS (As := [.ref me, .int i9]) (rest := []) (c_D_read l dC dI tb me 4096 mf cI i9 (by decide)) F tw_66 tw_28 tw_65 tw_300 hP [2] rfl hK [0] rfl hE hS hd_D_read rfl rfl ⟨Nat.le_of_ble_eq_true rfl, Nat.le_of_ble_eq_true rfl⟩ ⟨Nat.le_of_ble_eq_true rfl, Nat.le_of_ble_eq_true rfl⟩ hl.1 rfl (Nat.le_of_ble_eq_true rfl) d_D_sourceWord_22 ?_
    exact W.iret hx hb hr (fun t ht9 hW => ⟨_, rfl, by simp only [srcW, if_neg c_22], ht9⟩) hS.2.2 d_D_sourceWord_25
set_option maxHeartbeats 4000000 in
set_option maxRecDepth 100000 in
theorem c_D_argumentsHere (l : Launch) (dC : Nat → ClassId) (dI : Nat → Nat → Nat) (tb : tbT) (x me sm to co ru : Nat) (sl fw fh : Int32) (bk : Nat) (pl dp lp ld dn rf qu ov : Int32) (mf qf : IF) (cI : ClassId) (k9 : Int32) : RM l y_D_argumentsHere (Cond.code y_D_argumentsHere b_D_argumentsHere 4 (some .int) :: TB) ({ frames := 2, cells := 0, slots := 0, locals := 42 }) tb (dC, dI) [.ref x, .int k9] [(x, .inr (3, [.ref me, .ref sm, .ref to, .ref co, .ref ru, .int sl, .int fw, .int fh])), (ru, .inr (1, [.ref bk, .int pl, .int dp, .int lp, .int ld, .int dn, .int rf, .int qu, .int ov])), (me, .inl (cI, 4096, .inl mf)), (sm, .inl (cI, 4096, .inl qf))] [(cI, .int)] (argH dp pl sl mf qf k9) := by
  refine Met.ofW (cc := b_D_argumentsHere) (maxL := 4) (ret := (some .int)) (by decide) rfl ?_
  intro p e s m args below meth c s₁ B hml hv
  obtain ⟨rfl, hP, hK, hE⟩ := hv
  have hx := B.exec
  have hb := B.bytes
  have hr := B.returns
  have ht := fun w (h : w ∈ TB) => atoms_spec (ws := Cond.code y_D_argumentsHere b_D_argumentsHere 4 (some .int) :: TB) B.pre w (List.mem_cons_of_mem _ h)
  have hown : s.vm.findClass R_D = some m.cls := findClass_of_methodNamed B.named
  have hlocks := B.notSynchronized
  have hS : va_S (fun _ => False) s.heap s.heap [] := va_S.rf
  have F : CallFix p m c b_D_argumentsHere 4 s _ TB R_D := ⟨hx, hb, hml, hown, ht⟩
  have hl := lv_entry ([.ref x, .int k9]) (n := 4) (Nat.le_of_ble_eq_true rfl)
  rw [lg_entry_eq]
  generalize (lg_sl ([.ref x, .int k9]) ++ List.replicate (4 - (lg_sl ([.ref x, .int k9])).length) Slot.unset).toArray = ls at hl ⊢
  have hl : lv_has ls 4 [(0, .ref x), (1, .int k9)] := hl
  refine lv_iload_n hx hb d_D_argumentsHere_0 rfl (lv_at hl 1 rfl) ?_
  refine rcS (As := [.int k9]) (rest := []) (c_S_fixed l dC dI tb k9 ) F tw_69 tw_30 tw_68 tw_404 hP [] rfl hK [] rfl hE hS hd_S_fixed rfl rfl ⟨Nat.le_of_ble_eq_true rfl, Nat.le_of_ble_eq_true rfl⟩ ⟨Nat.le_of_ble_eq_true rfl, Nat.le_of_ble_eq_true rfl⟩ hl.1 rfl (Nat.le_of_ble_eq_true rfl) d_D_argumentsHere_1 ?_
  refine lv_istore_n (lv' := [(2, .int (fxd k9)), (0, .ref x), (1, .int k9)]) hx hb d_D_argumentsHere_4 rfl hl (by decide) rfl (fun ls hl => ?_)
  refine lv_iload_n hx hb d_D_argumentsHere_5 rfl (lv_at hl 2 rfl) ?_
  refine lv_bipush (v := 21) hx hb d_D_argumentsHere_6 (by decide) ?_
  refine lv_icmp_ne (tgt := 27) hx hb d_D_argumentsHere_8 (by decide) (fun c_23 => ?_) (fun c_23 => ?_)
  · refine lv_iload_n hx hb d_D_argumentsHere_27 rfl (lv_at hl 0 rfl) ?_
    exact W.iret hx hb hr (fun t ht9 hW => ⟨_, rfl, by simp only [argH, clp, if_neg c_23], ht9⟩) hS.2.2 d_D_argumentsHere_28
  · refine lv_aload_n hx hb d_D_argumentsHere_11 rfl (lv_at hl 1 rfl) ?_
    refine va_get (D := (dC, dI)) (ci := 3) (v := .ref ru) (C := R_D) (T := F_D) (N := 8) hx hb ht tu_D hown hK hP 0 rfl rfl 4 (by decide) (ht _ tw_180) (fun _ h9 => h9) rfl d_D_argumentsHere_12 ?_
    refine va_getN (D := (dC, dI)) (ci := 1) (v := .int pl) (C := R_R) (T := F_R) (N := 9) hx hb ht tu_R hown hK hP 1 rfl rfl 1 (by decide) (va_Nw.use rfl (hE.1 _ nw_7)) (fun _ h9 => h9) rfl d_D_argumentsHere_15 ?_
    refine lv_iload_n hx hb d_D_argumentsHere_18 rfl (lv_at hl 0 rfl) ?_
    refine lv_iadd hx hb d_D_argumentsHere_19 ?_
    refine lv_aload_n hx hb d_D_argumentsHere_20 rfl (lv_at hl 1 rfl) ?_
    refine rcV (As := []) (rest := [.int (pl + (fxd k9))]) (c_D_sourceLength l dC dI tb x me sm to co ru sl fw fh bk pl dp lp ld dn rf qu ov ) F tw_389 tw_28 tw_388 tw_6 tw_386 hP [0, 1] rfl hK [] rfl hE hS (q0 := 0) rfl rfl hd_D_sourceLength rfl rfl ⟨Nat.le_of_ble_eq_true rfl, Nat.le_of_ble_eq_true rfl⟩ ⟨Nat.le_of_ble_eq_true rfl, Nat.le_of_ble_eq_true rfl⟩ hl.1 rfl (Nat.le_of_ble_eq_true rfl) d_D_argumentsHere_21 ?_
    refine lv_icmp_lt (tgt := 29) hx hb d_D_argumentsHere_24 (by decide) (fun c_24 => ?_) (fun c_24 => ?_)
    · refine lv_aload_n hx hb d_D_argumentsHere_29 rfl (lv_at hl 1 rfl) ?_
      refine lv_aload_n hx hb d_D_argumentsHere_30 rfl (lv_at hl 1 rfl) ?_
      refine va_get (D := (dC, dI)) (ci := 3) (v := .ref ru) (C := R_D) (T := F_D) (N := 8) hx hb ht tu_D hown hK hP 0 rfl rfl 4 (by decide) (ht _ tw_180) (fun _ h9 => h9) rfl d_D_argumentsHere_31 ?_
      refine va_getN (D := (dC, dI)) (ci := 1) (v := .int pl) (C := R_R) (T := F_R) (N := 9) hx hb ht tu_R hown hK hP 1 rfl rfl 1 (by decide) (va_Nw.use rfl (hE.1 _ nw_7)) (fun _ h9 => h9) rfl d_D_argumentsHere_34 ?_
      refine lv_iload_n hx hb d_D_argumentsHere_37 rfl (lv_at hl 0 rfl) ?_
      refine lv_iadd hx hb d_D_argumentsHere_38 ?_
      refine rcV (As := [.int (pl + (fxd k9))]) (rest := []) (c_D_sourceWord l dC dI tb x me sm to co ru sl fw fh bk pl dp lp ld dn rf qu ov mf qf cI (pl + (fxd k9)) ) F tw_398 tw_28 tw_397 tw_8 tw_395 hP [0, 1, 2, 3] rfl hK [0] rfl hE hS (q0 := 0) rfl rfl hd_D_sourceWord rfl rfl ⟨Nat.le_of_ble_eq_true rfl, Nat.le_of_ble_eq_true rfl⟩ ⟨Nat.le_of_ble_eq_true rfl, Nat.le_of_ble_eq_true rfl⟩ hl.1 rfl (Nat.le_of_ble_eq_true rfl) d_D_argumentsHere_39 ?_
      refine lv_istore_n (lv' := [(3, .int (srcW dp mf qf (pl + (fxd k9)))), (2, .int (fxd k9)), (0, .ref x), (1, .int k9)]) hx hb d_D_argumentsHere_42 rfl hl (by decide) rfl (fun ls hl => ?_)
      refine lv_iload_n hx hb d_D_argumentsHere_43 rfl (lv_at hl 1 rfl) ?_
      refine lv_iconst (v := 0) hx hb d_D_argumentsHere_44 (by decide) ?_
      refine lv_sipush (v := 256) hx hb d_D_argumentsHere_45 (by decide) ?_
      refine lv_iload_n hx hb d_D_argumentsHere_48 rfl (lv_at hl 0 rfl) ?_
      refine va_mmin hx hb (by rw [hml]; exact hl.1.symm) hown (ht _ tw_405) (ht _ tw_406) (ht _ tw_31) (ht _ tw_407) (Nat.le_of_ble_eq_true rfl) (Nat.le_of_ble_eq_true rfl) (Nat.le_of_ble_eq_true rfl) (Nat.le_of_ble_eq_true rfl) d_D_argumentsHere_49 ?_
      refine va_mmax hx hb (by rw [hml]; exact hl.1.symm) hown (ht _ tw_408) (ht _ tw_76) (ht _ tw_31) (ht _ tw_77) (Nat.le_of_ble_eq_true rfl) (Nat.le_of_ble_eq_true rfl) (Nat.le_of_ble_eq_true rfl) (Nat.le_of_ble_eq_true rfl) d_D_argumentsHere_52 ?_
      refine lv_iadd hx hb d_D_argumentsHere_55 ?_
      exact W.iret hx hb hr (fun t ht9 hW => ⟨_, rfl, by simp only [argH, clp, if_pos c_23, if_pos c_24], ht9⟩) hS.2.2 d_D_argumentsHere_56
    · refine lv_iload_n hx hb d_D_argumentsHere_27 rfl (lv_at hl 0 rfl) ?_
      exact W.iret hx hb hr (fun t ht9 hW => ⟨_, rfl, by simp only [argH, clp, if_pos c_23, if_neg c_24], ht9⟩) hS.2.2 d_D_argumentsHere_28
set_option maxHeartbeats 4000000 in
set_option maxRecDepth 100000 in
theorem c_D_placesAreThere (l : Launch) (dC : Nat → ClassId) (dI : Nat → Nat → Nat) (tb : tbT) (x me sm to co ru : Nat) (sl fw fh : Int32) (cw : Nat) (kd mn : Int32) (cf : IF) (cI : ClassId) : RM l y_D_placesAreThere (Cond.code y_D_placesAreThere b_D_placesAreThere 1 (some .boolean) :: TB) ({ frames := 2, cells := 0, slots := 0, locals := 42 }) tb (dC, dI) [.ref x] [(x, .inr (3, [.ref me, .ref sm, .ref to, .ref co, .ref ru, .int sl, .int fw, .int fh])), (co, .inr (0, [.ref cw, .int kd, .int mn])), (cw, .inl (cI, 258, .inl cf))] [(cI, .int)] (plT kd fw fh cf) := by
  refine Met.ofW (cc := b_D_placesAreThere) (maxL := 1) (ret := (some .boolean)) (by decide) rfl ?_
  intro p e s m args below meth c s₁ B hml hv
  obtain ⟨rfl, hP, hK, hE⟩ := hv
  have hx := B.exec
  have hb := B.bytes
  have hr := B.returns
  have ht := fun w (h : w ∈ TB) => atoms_spec (ws := Cond.code y_D_placesAreThere b_D_placesAreThere 1 (some .boolean) :: TB) B.pre w (List.mem_cons_of_mem _ h)
  have hown : s.vm.findClass R_D = some m.cls := findClass_of_methodNamed B.named
  have hlocks := B.notSynchronized
  have hS : va_S (fun _ => False) s.heap s.heap [] := va_S.rf
  have F : CallFix p m c b_D_placesAreThere 1 s _ TB R_D := ⟨hx, hb, hml, hown, ht⟩
  have hl := lv_entry ([.ref x]) (n := 1) (Nat.le_of_ble_eq_true rfl)
  rw [lg_entry_eq]
  generalize (lg_sl ([.ref x]) ++ List.replicate (1 - (lg_sl ([.ref x])).length) Slot.unset).toArray = ls at hl ⊢
  have hl : lv_has ls 1 [(0, .ref x)] := hl
  refine lv_aload_n hx hb d_D_placesAreThere_0 rfl (lv_at hl 0 rfl) ?_
  refine va_get (D := (dC, dI)) (ci := 3) (v := .ref co) (C := R_D) (T := F_D) (N := 8) hx hb ht tu_D hown hK hP 0 rfl rfl 3 (by decide) (ht _ tw_179) (fun _ h9 => h9) rfl d_D_placesAreThere_1 ?_
  refine va_getN (D := (dC, dI)) (ci := 0) (v := .int kd) (C := R_C) (T := F_C) (N := 3) hx hb ht tu_C hown hK hP 1 rfl rfl 1 (by decide) (va_Nw.use rfl (hE.1 _ nw_4)) (fun _ h9 => h9) rfl d_D_placesAreThere_4 ?_
  by_cases sv_25 : kd = 6
  · refine lv_tab (off := 85) (tgt := 92) hx hb d_D_placesAreThere_7 (by decide) (by rw [sv_25]; decide +kernel) (by decide) ?_
    refine lv_aload_n hx hb d_D_placesAreThere_92 rfl (lv_at hl 0 rfl) ?_
    refine va_get (D := (dC, dI)) (ci := 3) (v := .ref co) (C := R_D) (T := F_D) (N := 8) hx hb ht tu_D hown hK hP 0 rfl rfl 3 (by decide) (ht _ tw_179) (fun _ h9 => h9) rfl d_D_placesAreThere_93 ?_
    refine lv_iconst (v := 0) hx hb d_D_placesAreThere_96 (by decide) ?_
    refine rcV (As := [.int 0]) (rest := []) (c_C_at l dC dI tb co cw kd mn cf cI 0 ) F tw_422 tw_32 tw_420 tw_421 tw_431 hP [1, 2] rfl hK [0] rfl hE hS (q0 := 1) rfl rfl hd_C_at rfl rfl ⟨Nat.le_of_ble_eq_true rfl, Nat.le_of_ble_eq_true rfl⟩ ⟨Nat.le_of_ble_eq_true rfl, Nat.le_of_ble_eq_true rfl⟩ hl.1 rfl (Nat.le_of_ble_eq_true rfl) d_D_placesAreThere_97 ?_
    refine lv_aload_n hx hb d_D_placesAreThere_100 rfl (lv_at hl 0 rfl) ?_
    refine va_get (D := (dC, dI)) (ci := 3) (v := .ref co) (C := R_D) (T := F_D) (N := 8) hx hb ht tu_D hown hK hP 0 rfl rfl 3 (by decide) (ht _ tw_179) (fun _ h9 => h9) rfl d_D_placesAreThere_101 ?_
    refine lv_iconst (v := 1) hx hb d_D_placesAreThere_104 (by decide) ?_
    refine rcV (As := [.int 1]) (rest := [.int (rdA 258 cf 0)]) (c_C_at l dC dI tb co cw kd mn cf cI 1 ) F tw_422 tw_32 tw_420 tw_421 tw_431 hP [1, 2] rfl hK [0] rfl hE hS (q0 := 1) rfl rfl hd_C_at rfl rfl ⟨Nat.le_of_ble_eq_true rfl, Nat.le_of_ble_eq_true rfl⟩ ⟨Nat.le_of_ble_eq_true rfl, Nat.le_of_ble_eq_true rfl⟩ hl.1 rfl (Nat.le_of_ble_eq_true rfl) d_D_placesAreThere_105 ?_
    refine lv_iadd hx hb d_D_placesAreThere_108 ?_
    refine lv_bipush (v := 32) hx hb d_D_placesAreThere_109 (by decide) ?_
    refine lv_icmp_gt (tgt := 142) hx hb d_D_placesAreThere_111 (by decide) (fun c_26 => ?_) (fun c_26 => ?_)
    · refine lv_iconst (v := 0) hx hb d_D_placesAreThere_142 (by decide) ?_
      exact W.zret hx hb hr (rfl) (fun t ht9 hW => ⟨_, rfl, by simp only [plT, if_pos sv_25, if_pos c_26], ht9⟩) hS.2.2 d_D_placesAreThere_143
    · refine lv_aload_n hx hb d_D_placesAreThere_114 rfl (lv_at hl 0 rfl) ?_
      refine va_get (D := (dC, dI)) (ci := 3) (v := .ref co) (C := R_D) (T := F_D) (N := 8) hx hb ht tu_D hown hK hP 0 rfl rfl 3 (by decide) (ht _ tw_179) (fun _ h9 => h9) rfl d_D_placesAreThere_115 ?_
      refine lv_iconst (v := 2) hx hb d_D_placesAreThere_118 (by decide) ?_
      refine rcV (As := [.int 2]) (rest := []) (c_C_at l dC dI tb co cw kd mn cf cI 2 ) F tw_422 tw_32 tw_420 tw_421 tw_431 hP [1, 2] rfl hK [0] rfl hE hS (q0 := 1) rfl rfl hd_C_at rfl rfl ⟨Nat.le_of_ble_eq_true rfl, Nat.le_of_ble_eq_true rfl⟩ ⟨Nat.le_of_ble_eq_true rfl, Nat.le_of_ble_eq_true rfl⟩ hl.1 rfl (Nat.le_of_ble_eq_true rfl) d_D_placesAreThere_119 ?_
      refine lv_iconst (v := 4) hx hb d_D_placesAreThere_122 (by decide) ?_
      refine lv_aload_n hx hb d_D_placesAreThere_123 rfl (lv_at hl 0 rfl) ?_
      refine va_get (D := (dC, dI)) (ci := 3) (v := .ref co) (C := R_D) (T := F_D) (N := 8) hx hb ht tu_D hown hK hP 0 rfl rfl 3 (by decide) (ht _ tw_179) (fun _ h9 => h9) rfl d_D_placesAreThere_124 ?_
      refine lv_iconst (v := 1) hx hb d_D_placesAreThere_127 (by decide) ?_
      refine rcV (As := [.int 1]) (rest := [.int 4, .int (rdA 258 cf 2)]) (c_C_at l dC dI tb co cw kd mn cf cI 1 ) F tw_422 tw_32 tw_420 tw_421 tw_431 hP [1, 2] rfl hK [0] rfl hE hS (q0 := 1) rfl rfl hd_C_at rfl rfl ⟨Nat.le_of_ble_eq_true rfl, Nat.le_of_ble_eq_true rfl⟩ ⟨Nat.le_of_ble_eq_true rfl, Nat.le_of_ble_eq_true rfl⟩ hl.1 rfl (Nat.le_of_ble_eq_true rfl) d_D_placesAreThere_128 ?_
      refine lv_imul hx hb d_D_placesAreThere_131 ?_
      refine rcS (As := [.int (rdA 258 cf 2), .int (4 * (rdA 258 cf 1))]) (rest := []) (c_D_inMemory l dC dI tb (rdA 258 cf 2) (4 * (rdA 258 cf 1)) ) F tw_434 tw_28 tw_433 tw_432 hP [] rfl hK [] rfl hE hS hd_D_inMemory rfl rfl ⟨Nat.le_of_ble_eq_true rfl, Nat.le_of_ble_eq_true rfl⟩ ⟨Nat.le_of_ble_eq_true rfl, Nat.le_of_ble_eq_true rfl⟩ hl.1 rfl (Nat.le_of_ble_eq_true rfl) d_D_placesAreThere_132 ?_
      refine lv_if_eq (tgt := 142) hx hb d_D_placesAreThere_135 (by decide) (fun c_27 => ?_) (fun c_27 => ?_)
      · refine lv_iconst (v := 0) hx hb d_D_placesAreThere_142 (by decide) ?_
        exact W.zret hx hb hr (rfl) (fun t ht9 hW => ⟨_, rfl, by simp only [plT, if_pos sv_25, if_neg c_26, if_pos c_27], ht9⟩) hS.2.2 d_D_placesAreThere_143
      · refine lv_iconst (v := 1) hx hb d_D_placesAreThere_138 (by decide) ?_
        refine lv_goto (tgt := 143) hx hb d_D_placesAreThere_139 (by decide) ?_
        exact W.zret hx hb hr (rfl) (fun t ht9 hW => ⟨_, rfl, by simp only [plT, if_pos sv_25, if_neg c_26, if_neg c_27], ht9⟩) hS.2.2 d_D_placesAreThere_143
  · skip
    by_cases sv_28 : kd = 7 ∨ kd = 8
    · refine lv_tab (off := 137) (tgt := 144) hx hb d_D_placesAreThere_7 (by decide) (by rcases sv_28 with h9 | h9 <;> rw [h9] <;> decide +kernel) (by decide) ?_
      refine lv_aload_n hx hb d_D_placesAreThere_144 rfl (lv_at hl 0 rfl) ?_
      refine va_get (D := (dC, dI)) (ci := 3) (v := .ref co) (C := R_D) (T := F_D) (N := 8) hx hb ht tu_D hown hK hP 0 rfl rfl 3 (by decide) (ht _ tw_179) (fun _ h9 => h9) rfl d_D_placesAreThere_145 ?_
      refine lv_iconst (v := 0) hx hb d_D_placesAreThere_148 (by decide) ?_
      refine rcV (As := [.int 0]) (rest := []) (c_C_at l dC dI tb co cw kd mn cf cI 0 ) F tw_422 tw_32 tw_420 tw_421 tw_431 hP [1, 2] rfl hK [0] rfl hE hS (q0 := 1) rfl rfl hd_C_at rfl rfl ⟨Nat.le_of_ble_eq_true rfl, Nat.le_of_ble_eq_true rfl⟩ ⟨Nat.le_of_ble_eq_true rfl, Nat.le_of_ble_eq_true rfl⟩ hl.1 rfl (Nat.le_of_ble_eq_true rfl) d_D_placesAreThere_149 ?_
      refine lv_iconst (v := 3) hx hb d_D_placesAreThere_152 (by decide) ?_
      refine lv_aload_n hx hb d_D_placesAreThere_153 rfl (lv_at hl 0 rfl) ?_
      refine va_get (D := (dC, dI)) (ci := 3) (v := .ref co) (C := R_D) (T := F_D) (N := 8) hx hb ht tu_D hown hK hP 0 rfl rfl 3 (by decide) (ht _ tw_179) (fun _ h9 => h9) rfl d_D_placesAreThere_154 ?_
      refine lv_iconst (v := 1) hx hb d_D_placesAreThere_157 (by decide) ?_
      refine rcV (As := [.int 1]) (rest := [.int 3, .int (rdA 258 cf 0)]) (c_C_at l dC dI tb co cw kd mn cf cI 1 ) F tw_422 tw_32 tw_420 tw_421 tw_431 hP [1, 2] rfl hK [0] rfl hE hS (q0 := 1) rfl rfl hd_C_at rfl rfl ⟨Nat.le_of_ble_eq_true rfl, Nat.le_of_ble_eq_true rfl⟩ ⟨Nat.le_of_ble_eq_true rfl, Nat.le_of_ble_eq_true rfl⟩ hl.1 rfl (Nat.le_of_ble_eq_true rfl) d_D_placesAreThere_158 ?_
      refine lv_imul hx hb d_D_placesAreThere_161 ?_
      refine rcS (As := [.int (rdA 258 cf 0), .int (3 * (rdA 258 cf 1))]) (rest := []) (c_D_inMemory l dC dI tb (rdA 258 cf 0) (3 * (rdA 258 cf 1)) ) F tw_434 tw_28 tw_433 tw_432 hP [] rfl hK [] rfl hE hS hd_D_inMemory rfl rfl ⟨Nat.le_of_ble_eq_true rfl, Nat.le_of_ble_eq_true rfl⟩ ⟨Nat.le_of_ble_eq_true rfl, Nat.le_of_ble_eq_true rfl⟩ hl.1 rfl (Nat.le_of_ble_eq_true rfl) d_D_placesAreThere_162 ?_
      exact W.zret hx hb hr (nar_inM _ _) (fun t ht9 hW => ⟨_, rfl, by simp only [plT, if_neg sv_25, if_pos sv_28], ht9⟩) hS.2.2 d_D_placesAreThere_165
    · skip
      by_cases sv_29 : kd = 20
      · refine lv_tab (off := 159) (tgt := 166) hx hb d_D_placesAreThere_7 (by decide) (by rw [sv_29]; decide +kernel) (by decide) ?_
        refine lv_aload_n hx hb d_D_placesAreThere_166 rfl (lv_at hl 0 rfl) ?_
        refine va_get (D := (dC, dI)) (ci := 3) (v := .ref co) (C := R_D) (T := F_D) (N := 8) hx hb ht tu_D hown hK hP 0 rfl rfl 3 (by decide) (ht _ tw_179) (fun _ h9 => h9) rfl d_D_placesAreThere_167 ?_
        refine lv_iconst (v := 0) hx hb d_D_placesAreThere_170 (by decide) ?_
        refine rcV (As := [.int 0]) (rest := []) (c_C_at l dC dI tb co cw kd mn cf cI 0 ) F tw_422 tw_32 tw_420 tw_421 tw_431 hP [1, 2] rfl hK [0] rfl hE hS (q0 := 1) rfl rfl hd_C_at rfl rfl ⟨Nat.le_of_ble_eq_true rfl, Nat.le_of_ble_eq_true rfl⟩ ⟨Nat.le_of_ble_eq_true rfl, Nat.le_of_ble_eq_true rfl⟩ hl.1 rfl (Nat.le_of_ble_eq_true rfl) d_D_placesAreThere_171 ?_
        refine lv_aload_n hx hb d_D_placesAreThere_174 rfl (lv_at hl 0 rfl) ?_
        refine va_get (D := (dC, dI)) (ci := 3) (v := .ref co) (C := R_D) (T := F_D) (N := 8) hx hb ht tu_D hown hK hP 0 rfl rfl 3 (by decide) (ht _ tw_179) (fun _ h9 => h9) rfl d_D_placesAreThere_175 ?_
        refine lv_iconst (v := 2) hx hb d_D_placesAreThere_178 (by decide) ?_
        refine rcV (As := [.int 2]) (rest := [.int (rdA 258 cf 0)]) (c_C_at l dC dI tb co cw kd mn cf cI 2 ) F tw_422 tw_32 tw_420 tw_421 tw_431 hP [1, 2] rfl hK [0] rfl hE hS (q0 := 1) rfl rfl hd_C_at rfl rfl ⟨Nat.le_of_ble_eq_true rfl, Nat.le_of_ble_eq_true rfl⟩ ⟨Nat.le_of_ble_eq_true rfl, Nat.le_of_ble_eq_true rfl⟩ hl.1 rfl (Nat.le_of_ble_eq_true rfl) d_D_placesAreThere_179 ?_
        refine lv_iadd hx hb d_D_placesAreThere_182 ?_
        refine lv_aload_n hx hb d_D_placesAreThere_183 rfl (lv_at hl 0 rfl) ?_
        refine va_get (D := (dC, dI)) (ci := 3) (v := .int fw) (C := R_D) (T := F_D) (N := 8) hx hb ht tu_D hown hK hP 0 rfl rfl 6 (by decide) (ht _ tw_182) (fun _ h9 => h9) rfl d_D_placesAreThere_184 ?_
        refine lv_icmp_gt (tgt := 249) hx hb d_D_placesAreThere_187 (by decide) (fun c_30 => ?_) (fun c_30 => ?_)
        · refine lv_iconst (v := 0) hx hb d_D_placesAreThere_249 (by decide) ?_
          exact W.zret hx hb hr (rfl) (fun t ht9 hW => ⟨_, rfl, by simp only [plT, if_neg sv_25, if_neg sv_28, if_pos sv_29, if_pos c_30], ht9⟩) hS.2.2 d_D_placesAreThere_250
        · refine lv_aload_n hx hb d_D_placesAreThere_190 rfl (lv_at hl 0 rfl) ?_
          refine va_get (D := (dC, dI)) (ci := 3) (v := .ref co) (C := R_D) (T := F_D) (N := 8) hx hb ht tu_D hown hK hP 0 rfl rfl 3 (by decide) (ht _ tw_179) (fun _ h9 => h9) rfl d_D_placesAreThere_191 ?_
          refine lv_iconst (v := 1) hx hb d_D_placesAreThere_194 (by decide) ?_
          refine rcV (As := [.int 1]) (rest := []) (c_C_at l dC dI tb co cw kd mn cf cI 1 ) F tw_422 tw_32 tw_420 tw_421 tw_431 hP [1, 2] rfl hK [0] rfl hE hS (q0 := 1) rfl rfl hd_C_at rfl rfl ⟨Nat.le_of_ble_eq_true rfl, Nat.le_of_ble_eq_true rfl⟩ ⟨Nat.le_of_ble_eq_true rfl, Nat.le_of_ble_eq_true rfl⟩ hl.1 rfl (Nat.le_of_ble_eq_true rfl) d_D_placesAreThere_195 ?_
          refine lv_aload_n hx hb d_D_placesAreThere_198 rfl (lv_at hl 0 rfl) ?_
          refine va_get (D := (dC, dI)) (ci := 3) (v := .ref co) (C := R_D) (T := F_D) (N := 8) hx hb ht tu_D hown hK hP 0 rfl rfl 3 (by decide) (ht _ tw_179) (fun _ h9 => h9) rfl d_D_placesAreThere_199 ?_
          refine lv_iconst (v := 3) hx hb d_D_placesAreThere_202 (by decide) ?_
          refine rcV (As := [.int 3]) (rest := [.int (rdA 258 cf 1)]) (c_C_at l dC dI tb co cw kd mn cf cI 3 ) F tw_422 tw_32 tw_420 tw_421 tw_431 hP [1, 2] rfl hK [0] rfl hE hS (q0 := 1) rfl rfl hd_C_at rfl rfl ⟨Nat.le_of_ble_eq_true rfl, Nat.le_of_ble_eq_true rfl⟩ ⟨Nat.le_of_ble_eq_true rfl, Nat.le_of_ble_eq_true rfl⟩ hl.1 rfl (Nat.le_of_ble_eq_true rfl) d_D_placesAreThere_203 ?_
          refine lv_iadd hx hb d_D_placesAreThere_206 ?_
          refine lv_aload_n hx hb d_D_placesAreThere_207 rfl (lv_at hl 0 rfl) ?_
          refine va_get (D := (dC, dI)) (ci := 3) (v := .int fh) (C := R_D) (T := F_D) (N := 8) hx hb ht tu_D hown hK hP 0 rfl rfl 7 (by decide) (ht _ tw_183) (fun _ h9 => h9) rfl d_D_placesAreThere_208 ?_
          refine lv_icmp_gt (tgt := 249) hx hb d_D_placesAreThere_211 (by decide) (fun c_31 => ?_) (fun c_31 => ?_)
          · refine lv_iconst (v := 0) hx hb d_D_placesAreThere_249 (by decide) ?_
            exact W.zret hx hb hr (rfl) (fun t ht9 hW => ⟨_, rfl, by simp only [plT, if_neg sv_25, if_neg sv_28, if_pos sv_29, if_neg c_30, if_pos c_31], ht9⟩) hS.2.2 d_D_placesAreThere_250
          · refine lv_aload_n hx hb d_D_placesAreThere_214 rfl (lv_at hl 0 rfl) ?_
            refine va_get (D := (dC, dI)) (ci := 3) (v := .ref co) (C := R_D) (T := F_D) (N := 8) hx hb ht tu_D hown hK hP 0 rfl rfl 3 (by decide) (ht _ tw_179) (fun _ h9 => h9) rfl d_D_placesAreThere_215 ?_
            refine lv_iconst (v := 4) hx hb d_D_placesAreThere_218 (by decide) ?_
            refine rcV (As := [.int 4]) (rest := []) (c_C_at l dC dI tb co cw kd mn cf cI 4 ) F tw_422 tw_32 tw_420 tw_421 tw_431 hP [1, 2] rfl hK [0] rfl hE hS (q0 := 1) rfl rfl hd_C_at rfl rfl ⟨Nat.le_of_ble_eq_true rfl, Nat.le_of_ble_eq_true rfl⟩ ⟨Nat.le_of_ble_eq_true rfl, Nat.le_of_ble_eq_true rfl⟩ hl.1 rfl (Nat.le_of_ble_eq_true rfl) d_D_placesAreThere_219 ?_
            refine lv_aload_n hx hb d_D_placesAreThere_222 rfl (lv_at hl 0 rfl) ?_
            refine va_get (D := (dC, dI)) (ci := 3) (v := .ref co) (C := R_D) (T := F_D) (N := 8) hx hb ht tu_D hown hK hP 0 rfl rfl 3 (by decide) (ht _ tw_179) (fun _ h9 => h9) rfl d_D_placesAreThere_223 ?_
            refine lv_iconst (v := 2) hx hb d_D_placesAreThere_226 (by decide) ?_
            refine rcV (As := [.int 2]) (rest := [.int (rdA 258 cf 4)]) (c_C_at l dC dI tb co cw kd mn cf cI 2 ) F tw_422 tw_32 tw_420 tw_421 tw_431 hP [1, 2] rfl hK [0] rfl hE hS (q0 := 1) rfl rfl hd_C_at rfl rfl ⟨Nat.le_of_ble_eq_true rfl, Nat.le_of_ble_eq_true rfl⟩ ⟨Nat.le_of_ble_eq_true rfl, Nat.le_of_ble_eq_true rfl⟩ hl.1 rfl (Nat.le_of_ble_eq_true rfl) d_D_placesAreThere_227 ?_
            refine lv_aload_n hx hb d_D_placesAreThere_230 rfl (lv_at hl 0 rfl) ?_
            refine va_get (D := (dC, dI)) (ci := 3) (v := .ref co) (C := R_D) (T := F_D) (N := 8) hx hb ht tu_D hown hK hP 0 rfl rfl 3 (by decide) (ht _ tw_179) (fun _ h9 => h9) rfl d_D_placesAreThere_231 ?_
            refine lv_iconst (v := 3) hx hb d_D_placesAreThere_234 (by decide) ?_
            refine rcV (As := [.int 3]) (rest := [.int (rdA 258 cf 2), .int (rdA 258 cf 4)]) (c_C_at l dC dI tb co cw kd mn cf cI 3 ) F tw_422 tw_32 tw_420 tw_421 tw_431 hP [1, 2] rfl hK [0] rfl hE hS (q0 := 1) rfl rfl hd_C_at rfl rfl ⟨Nat.le_of_ble_eq_true rfl, Nat.le_of_ble_eq_true rfl⟩ ⟨Nat.le_of_ble_eq_true rfl, Nat.le_of_ble_eq_true rfl⟩ hl.1 rfl (Nat.le_of_ble_eq_true rfl) d_D_placesAreThere_235 ?_
            refine lv_imul hx hb d_D_placesAreThere_238 ?_
            refine rcS (As := [.int (rdA 258 cf 4), .int ((rdA 258 cf 2) * (rdA 258 cf 3))]) (rest := []) (c_D_inMemory l dC dI tb (rdA 258 cf 4) ((rdA 258 cf 2) * (rdA 258 cf 3)) ) F tw_434 tw_28 tw_433 tw_432 hP [] rfl hK [] rfl hE hS hd_D_inMemory rfl rfl ⟨Nat.le_of_ble_eq_true rfl, Nat.le_of_ble_eq_true rfl⟩ ⟨Nat.le_of_ble_eq_true rfl, Nat.le_of_ble_eq_true rfl⟩ hl.1 rfl (Nat.le_of_ble_eq_true rfl) d_D_placesAreThere_239 ?_
            refine lv_if_eq (tgt := 249) hx hb d_D_placesAreThere_242 (by decide) (fun c_32 => ?_) (fun c_32 => ?_)
            · refine lv_iconst (v := 0) hx hb d_D_placesAreThere_249 (by decide) ?_
              exact W.zret hx hb hr (rfl) (fun t ht9 hW => ⟨_, rfl, by simp only [plT, if_neg sv_25, if_neg sv_28, if_pos sv_29, if_neg c_30, if_neg c_31, if_pos c_32], ht9⟩) hS.2.2 d_D_placesAreThere_250
            · refine lv_iconst (v := 1) hx hb d_D_placesAreThere_245 (by decide) ?_
              refine lv_goto (tgt := 250) hx hb d_D_placesAreThere_246 (by decide) ?_
              exact W.zret hx hb hr (rfl) (fun t ht9 hW => ⟨_, rfl, by simp only [plT, if_neg sv_25, if_neg sv_28, if_pos sv_29, if_neg c_30, if_neg c_31, if_neg c_32], ht9⟩) hS.2.2 d_D_placesAreThere_250
      · skip
        by_cases sv_33 : kd = 21
        · refine lv_tab (off := 244) (tgt := 251) hx hb d_D_placesAreThere_7 (by decide) (by rw [sv_33]; decide +kernel) (by decide) ?_
          refine lv_aload_n hx hb d_D_placesAreThere_251 rfl (lv_at hl 0 rfl) ?_
          refine va_get (D := (dC, dI)) (ci := 3) (v := .ref co) (C := R_D) (T := F_D) (N := 8) hx hb ht tu_D hown hK hP 0 rfl rfl 3 (by decide) (ht _ tw_179) (fun _ h9 => h9) rfl d_D_placesAreThere_252 ?_
          refine lv_iconst (v := 0) hx hb d_D_placesAreThere_255 (by decide) ?_
          refine rcV (As := [.int 0]) (rest := []) (c_C_at l dC dI tb co cw kd mn cf cI 0 ) F tw_422 tw_32 tw_420 tw_421 tw_431 hP [1, 2] rfl hK [0] rfl hE hS (q0 := 1) rfl rfl hd_C_at rfl rfl ⟨Nat.le_of_ble_eq_true rfl, Nat.le_of_ble_eq_true rfl⟩ ⟨Nat.le_of_ble_eq_true rfl, Nat.le_of_ble_eq_true rfl⟩ hl.1 rfl (Nat.le_of_ble_eq_true rfl) d_D_placesAreThere_256 ?_
          refine lv_aload_n hx hb d_D_placesAreThere_259 rfl (lv_at hl 0 rfl) ?_
          refine va_get (D := (dC, dI)) (ci := 3) (v := .ref co) (C := R_D) (T := F_D) (N := 8) hx hb ht tu_D hown hK hP 0 rfl rfl 3 (by decide) (ht _ tw_179) (fun _ h9 => h9) rfl d_D_placesAreThere_260 ?_
          refine lv_iconst (v := 1) hx hb d_D_placesAreThere_263 (by decide) ?_
          refine rcV (As := [.int 1]) (rest := [.int (rdA 258 cf 0)]) (c_C_at l dC dI tb co cw kd mn cf cI 1 ) F tw_422 tw_32 tw_420 tw_421 tw_431 hP [1, 2] rfl hK [0] rfl hE hS (q0 := 1) rfl rfl hd_C_at rfl rfl ⟨Nat.le_of_ble_eq_true rfl, Nat.le_of_ble_eq_true rfl⟩ ⟨Nat.le_of_ble_eq_true rfl, Nat.le_of_ble_eq_true rfl⟩ hl.1 rfl (Nat.le_of_ble_eq_true rfl) d_D_placesAreThere_264 ?_
          refine rcS (As := [.int (rdA 258 cf 0), .int (rdA 258 cf 1)]) (rest := []) (c_D_inMemory l dC dI tb (rdA 258 cf 0) (rdA 258 cf 1) ) F tw_434 tw_28 tw_433 tw_432 hP [] rfl hK [] rfl hE hS hd_D_inMemory rfl rfl ⟨Nat.le_of_ble_eq_true rfl, Nat.le_of_ble_eq_true rfl⟩ ⟨Nat.le_of_ble_eq_true rfl, Nat.le_of_ble_eq_true rfl⟩ hl.1 rfl (Nat.le_of_ble_eq_true rfl) d_D_placesAreThere_267 ?_
          exact W.zret hx hb hr (nar_inM _ _) (fun t ht9 hW => ⟨_, rfl, by simp only [plT, if_neg sv_25, if_neg sv_28, if_neg sv_29, if_pos sv_33], ht9⟩) hS.2.2 d_D_placesAreThere_270
        · skip
          by_cases sv_34 : kd = 23
          · refine lv_tab (off := 264) (tgt := 271) hx hb d_D_placesAreThere_7 (by decide) (by rw [sv_34]; decide +kernel) (by decide) ?_
            refine lv_aload_n hx hb d_D_placesAreThere_271 rfl (lv_at hl 0 rfl) ?_
            refine va_get (D := (dC, dI)) (ci := 3) (v := .ref co) (C := R_D) (T := F_D) (N := 8) hx hb ht tu_D hown hK hP 0 rfl rfl 3 (by decide) (ht _ tw_179) (fun _ h9 => h9) rfl d_D_placesAreThere_272 ?_
            refine lv_iconst (v := 0) hx hb d_D_placesAreThere_275 (by decide) ?_
            refine rcV (As := [.int 0]) (rest := []) (c_C_at l dC dI tb co cw kd mn cf cI 0 ) F tw_422 tw_32 tw_420 tw_421 tw_431 hP [1, 2] rfl hK [0] rfl hE hS (q0 := 1) rfl rfl hd_C_at rfl rfl ⟨Nat.le_of_ble_eq_true rfl, Nat.le_of_ble_eq_true rfl⟩ ⟨Nat.le_of_ble_eq_true rfl, Nat.le_of_ble_eq_true rfl⟩ hl.1 rfl (Nat.le_of_ble_eq_true rfl) d_D_placesAreThere_276 ?_
            refine lv_iconst (v := 1) hx hb d_D_placesAreThere_279 (by decide) ?_
            refine rcS (As := [.int (rdA 258 cf 0), .int 1]) (rest := []) (c_D_inMemory l dC dI tb (rdA 258 cf 0) 1 ) F tw_434 tw_28 tw_433 tw_432 hP [] rfl hK [] rfl hE hS hd_D_inMemory rfl rfl ⟨Nat.le_of_ble_eq_true rfl, Nat.le_of_ble_eq_true rfl⟩ ⟨Nat.le_of_ble_eq_true rfl, Nat.le_of_ble_eq_true rfl⟩ hl.1 rfl (Nat.le_of_ble_eq_true rfl) d_D_placesAreThere_280 ?_
            exact W.zret hx hb hr (nar_inM _ _) (fun t ht9 hW => ⟨_, rfl, by simp only [plT, if_neg sv_25, if_neg sv_28, if_neg sv_29, if_neg sv_33, if_pos sv_34], ht9⟩) hS.2.2 d_D_placesAreThere_283
          · skip
            have hsw : ∀ b ∈ ([6, 7, 8, 20, 21, 23] : List Int32), ¬ kd = b := by
              intro b9 hb9
              simp only [List.mem_cons, List.not_mem_nil, or_false] at hb9
              rcases hb9 with rfl | rfl | rfl | rfl | rfl | rfl
              · exact sv_25
              · exact fun h9 => sv_28 (Or.inl h9)
              · exact fun h9 => sv_28 (Or.inr (h9))
              · exact sv_29
              · exact sv_33
              · exact sv_34
            refine lv_tab (off := 277) (tgt := 284) hx hb d_D_placesAreThere_7 (by decide) (sw_def [6, 7, 8, 20, 21, 23] hsw (by decide +kernel) (by decide)) (by decide) ?_
            refine lv_iconst (v := 1) hx hb d_D_placesAreThere_284 (by decide) ?_
            exact W.zret hx hb hr (rfl) (fun t ht9 hW => ⟨_, rfl, by simp only [plT, if_neg sv_25, if_neg sv_28, if_neg sv_29, if_neg sv_33, if_neg sv_34], ht9⟩) hS.2.2 d_D_placesAreThere_285
set_option maxHeartbeats 4000000 in
set_option maxRecDepth 100000 in
theorem c_D_stateAllows (l : Launch) (dC : Nat → ClassId) (dI : Nat → Nat → Nat) (tb : tbT) (x me sm to co ru : Nat) (sl fw fh : Int32) (bk : Nat) (pl dp lp ld dn rf qu ov : Int32) (cw : Nat) (kd mn : Int32) (cf : IF) (cI : ClassId) (sa wa : Nat) (sf wf : IF) : RM l y_D_stateAllows (Cond.code y_D_stateAllows b_D_stateAllows 1 (some .boolean) :: TB) ({ frames := 5, cells := 0, slots := 0, locals := 108 }) tb (dC, dI) [.ref x] [(x, .inr (3, [.ref me, .ref sm, .ref to, .ref co, .ref ru, .int sl, .int fw, .int fh])), (ru, .inr (1, [.ref bk, .int pl, .int dp, .int lp, .int ld, .int dn, .int rf, .int qu, .int ov])), (co, .inr (0, [.ref cw, .int kd, .int mn])), (cw, .inl (cI, 258, .inl cf)), (to, .inr (2, [.ref sa, .ref wa])), (sa, .inl (cI, 26, .inl sf)), (wa, .inl (cI, 303, .inl wf))] [(cI, .int)] (stA kd dp qu cf sf wf) := by
  refine Met.ofW (cc := b_D_stateAllows) (maxL := 1) (ret := (some .boolean)) (by decide) rfl ?_
  intro p e s m args below meth c s₁ B hml hv
  obtain ⟨rfl, hP, hK, hE⟩ := hv
  have hx := B.exec
  have hb := B.bytes
  have hr := B.returns
  have ht := fun w (h : w ∈ TB) => atoms_spec (ws := Cond.code y_D_stateAllows b_D_stateAllows 1 (some .boolean) :: TB) B.pre w (List.mem_cons_of_mem _ h)
  have hown : s.vm.findClass R_D = some m.cls := findClass_of_methodNamed B.named
  have hlocks := B.notSynchronized
  have hS : va_S (fun _ => False) s.heap s.heap [] := va_S.rf
  have F : CallFix p m c b_D_stateAllows 1 s _ TB R_D := ⟨hx, hb, hml, hown, ht⟩
  have hl := lv_entry ([.ref x]) (n := 1) (Nat.le_of_ble_eq_true rfl)
  rw [lg_entry_eq]
  generalize (lg_sl ([.ref x]) ++ List.replicate (1 - (lg_sl ([.ref x])).length) Slot.unset).toArray = ls at hl ⊢
  have hl : lv_has ls 1 [(0, .ref x)] := hl
  refine lv_aload_n hx hb d_D_stateAllows_0 rfl (lv_at hl 0 rfl) ?_
  refine va_get (D := (dC, dI)) (ci := 3) (v := .ref co) (C := R_D) (T := F_D) (N := 8) hx hb ht tu_D hown hK hP 0 rfl rfl 3 (by decide) (ht _ tw_179) (fun _ h9 => h9) rfl d_D_stateAllows_1 ?_
  refine va_getN (D := (dC, dI)) (ci := 0) (v := .int kd) (C := R_C) (T := F_C) (N := 3) hx hb ht tu_C hown hK hP 2 rfl rfl 1 (by decide) (va_Nw.use rfl (hE.1 _ nw_4)) (fun _ h9 => h9) rfl d_D_stateAllows_4 ?_
  by_cases sv_35 : kd = 17 ∨ kd = 18
  · refine lv_tab (off := 41) (tgt := 48) hx hb d_D_stateAllows_7 (by decide) (by rcases sv_35 with h9 | h9 <;> rw [h9] <;> decide +kernel) (by decide) ?_
    refine lv_aload_n hx hb d_D_stateAllows_48 rfl (lv_at hl 0 rfl) ?_
    refine va_get (D := (dC, dI)) (ci := 3) (v := .ref to) (C := R_D) (T := F_D) (N := 8) hx hb ht tu_D hown hK hP 0 rfl rfl 2 (by decide) (ht _ tw_178) (fun _ h9 => h9) rfl d_D_stateAllows_49 ?_
    refine lv_bipush (v := 7) hx hb d_D_stateAllows_52 (by decide) ?_
    refine rcV (As := [.int 7]) (rest := []) (c_T_hasProgram l dC dI tb to sa wa sf cI wf 7 ) F tw_442 tw_29 tw_440 tw_441 tw_439 hP [4, 5, 6] rfl hK [0] rfl hE hS (q0 := 4) rfl rfl hd_T_hasProgram rfl rfl ⟨Nat.le_of_ble_eq_true rfl, Nat.le_of_ble_eq_true rfl⟩ ⟨Nat.le_of_ble_eq_true rfl, Nat.le_of_ble_eq_true rfl⟩ hl.1 rfl (Nat.le_of_ble_eq_true rfl) d_D_stateAllows_54 ?_
    refine lv_if_eq (tgt := 76) hx hb d_D_stateAllows_57 (by decide) (fun c_36 => ?_) (fun c_36 => ?_)
    · refine lv_iconst (v := 0) hx hb d_D_stateAllows_76 (by decide) ?_
      exact W.zret hx hb hr (rfl) (fun t ht9 hW => ⟨_, rfl, by simp only [stA, if_pos sv_35, if_pos c_36], ht9⟩) hS.2.2 d_D_stateAllows_77
    · refine lv_aload_n hx hb d_D_stateAllows_60 rfl (lv_at hl 0 rfl) ?_
      refine va_get (D := (dC, dI)) (ci := 3) (v := .ref to) (C := R_D) (T := F_D) (N := 8) hx hb ht tu_D hown hK hP 0 rfl rfl 2 (by decide) (ht _ tw_178) (fun _ h9 => h9) rfl d_D_stateAllows_61 ?_
      refine lv_bipush (v := 8) hx hb d_D_stateAllows_64 (by decide) ?_
      refine rcV (As := [.int 8]) (rest := []) (c_T_hasProgram l dC dI tb to sa wa sf cI wf 8 ) F tw_442 tw_29 tw_440 tw_441 tw_439 hP [4, 5, 6] rfl hK [0] rfl hE hS (q0 := 4) rfl rfl hd_T_hasProgram rfl rfl ⟨Nat.le_of_ble_eq_true rfl, Nat.le_of_ble_eq_true rfl⟩ ⟨Nat.le_of_ble_eq_true rfl, Nat.le_of_ble_eq_true rfl⟩ hl.1 rfl (Nat.le_of_ble_eq_true rfl) d_D_stateAllows_66 ?_
      refine lv_if_eq (tgt := 76) hx hb d_D_stateAllows_69 (by decide) (fun c_37 => ?_) (fun c_37 => ?_)
      · refine lv_iconst (v := 0) hx hb d_D_stateAllows_76 (by decide) ?_
        exact W.zret hx hb hr (rfl) (fun t ht9 hW => ⟨_, rfl, by simp only [stA, if_pos sv_35, if_neg c_36, if_pos c_37], ht9⟩) hS.2.2 d_D_stateAllows_77
      · refine lv_iconst (v := 1) hx hb d_D_stateAllows_72 (by decide) ?_
        refine lv_goto (tgt := 77) hx hb d_D_stateAllows_73 (by decide) ?_
        exact W.zret hx hb hr (rfl) (fun t ht9 hW => ⟨_, rfl, by simp only [stA, if_pos sv_35, if_neg c_36, if_neg c_37], ht9⟩) hS.2.2 d_D_stateAllows_77
  · skip
    by_cases sv_38 : kd = 19
    · refine lv_tab (off := 71) (tgt := 78) hx hb d_D_stateAllows_7 (by decide) (by rw [sv_38]; decide +kernel) (by decide) ?_
      refine lv_aload_n hx hb d_D_stateAllows_78 rfl (lv_at hl 0 rfl) ?_
      refine va_get (D := (dC, dI)) (ci := 3) (v := .ref ru) (C := R_D) (T := F_D) (N := 8) hx hb ht tu_D hown hK hP 0 rfl rfl 4 (by decide) (ht _ tw_180) (fun _ h9 => h9) rfl d_D_stateAllows_79 ?_
      refine va_getN (D := (dC, dI)) (ci := 1) (v := .int qu) (C := R_R) (T := F_R) (N := 9) hx hb ht tu_R hown hK hP 1 rfl rfl 7 (by decide) (va_Nw.use rfl (hE.1 _ nw_13)) (fun _ h9 => h9) rfl d_D_stateAllows_82 ?_
      refine lv_aload_n hx hb d_D_stateAllows_85 rfl (lv_at hl 0 rfl) ?_
      refine va_get (D := (dC, dI)) (ci := 3) (v := .ref co) (C := R_D) (T := F_D) (N := 8) hx hb ht tu_D hown hK hP 0 rfl rfl 3 (by decide) (ht _ tw_179) (fun _ h9 => h9) rfl d_D_stateAllows_86 ?_
      refine lv_iconst (v := 1) hx hb d_D_stateAllows_89 (by decide) ?_
      refine rcV (As := [.int 1]) (rest := [.int qu]) (c_C_at l dC dI tb co cw kd mn cf cI 1 ) F tw_422 tw_32 tw_420 tw_421 tw_431 hP [2, 3] rfl hK [0] rfl hE hS (q0 := 2) rfl rfl hd_C_at rfl rfl ⟨Nat.le_of_ble_eq_true rfl, Nat.le_of_ble_eq_true rfl⟩ ⟨Nat.le_of_ble_eq_true rfl, Nat.le_of_ble_eq_true rfl⟩ hl.1 rfl (Nat.le_of_ble_eq_true rfl) d_D_stateAllows_90 ?_
      refine lv_iconst (v := 1) hx hb d_D_stateAllows_93 (by decide) ?_
      refine lv_icmp_ne (tgt := 101) hx hb d_D_stateAllows_94 (by decide) (fun c_39 => ?_) (fun c_39 => ?_)
      · refine lv_aload_n hx hb d_D_stateAllows_101 rfl (lv_at hl 0 rfl) ?_
        refine va_get (D := (dC, dI)) (ci := 3) (v := .ref co) (C := R_D) (T := F_D) (N := 8) hx hb ht tu_D hown hK hP 0 rfl rfl 3 (by decide) (ht _ tw_179) (fun _ h9 => h9) rfl d_D_stateAllows_102 ?_
        refine lv_iconst (v := 0) hx hb d_D_stateAllows_105 (by decide) ?_
        refine rcV (As := [.int 0]) (rest := [.int qu]) (c_C_at l dC dI tb co cw kd mn cf cI 0 ) F tw_422 tw_32 tw_420 tw_421 tw_431 hP [2, 3] rfl hK [0] rfl hE hS (q0 := 2) rfl rfl hd_C_at rfl rfl ⟨Nat.le_of_ble_eq_true rfl, Nat.le_of_ble_eq_true rfl⟩ ⟨Nat.le_of_ble_eq_true rfl, Nat.le_of_ble_eq_true rfl⟩ hl.1 rfl (Nat.le_of_ble_eq_true rfl) d_D_stateAllows_106 ?_
        refine lv_icmp_ne (tgt := 116) hx hb d_D_stateAllows_109 (by decide) (fun c_40 => ?_) (fun c_40 => ?_)
        · refine lv_iconst (v := 0) hx hb d_D_stateAllows_116 (by decide) ?_
          exact W.zret hx hb hr (rfl) (fun t ht9 hW => ⟨_, rfl, by simp only [stA, if_neg sv_35, if_pos sv_38, if_neg c_39, if_neg c_40], ht9⟩) hS.2.2 d_D_stateAllows_117
        · refine lv_iconst (v := 1) hx hb d_D_stateAllows_112 (by decide) ?_
          refine lv_goto (tgt := 117) hx hb d_D_stateAllows_113 (by decide) ?_
          exact W.zret hx hb hr (rfl) (fun t ht9 hW => ⟨_, rfl, by simp only [stA, if_neg sv_35, if_pos sv_38, if_neg c_39, if_pos c_40], ht9⟩) hS.2.2 d_D_stateAllows_117
      · refine lv_iconst (v := (-1)) hx hb d_D_stateAllows_97 (by decide) ?_
        refine lv_goto (tgt := 109) hx hb d_D_stateAllows_98 (by decide) ?_
        refine lv_icmp_ne (tgt := 116) hx hb d_D_stateAllows_109 (by decide) (fun c_41 => ?_) (fun c_41 => ?_)
        · refine lv_iconst (v := 0) hx hb d_D_stateAllows_116 (by decide) ?_
          exact W.zret hx hb hr (rfl) (fun t ht9 hW => ⟨_, rfl, by simp only [stA, if_neg sv_35, if_pos sv_38, if_pos c_39, if_neg c_41], ht9⟩) hS.2.2 d_D_stateAllows_117
        · refine lv_iconst (v := 1) hx hb d_D_stateAllows_112 (by decide) ?_
          refine lv_goto (tgt := 117) hx hb d_D_stateAllows_113 (by decide) ?_
          exact W.zret hx hb hr (rfl) (fun t ht9 hW => ⟨_, rfl, by simp only [stA, if_neg sv_35, if_pos sv_38, if_pos c_39, if_pos c_41], ht9⟩) hS.2.2 d_D_stateAllows_117
    · skip
      by_cases sv_42 : kd = 23
      · refine lv_tab (off := 111) (tgt := 118) hx hb d_D_stateAllows_7 (by decide) (by rw [sv_42]; decide +kernel) (by decide) ?_
        refine lv_aload_n hx hb d_D_stateAllows_118 rfl (lv_at hl 0 rfl) ?_
        refine va_get (D := (dC, dI)) (ci := 3) (v := .ref ru) (C := R_D) (T := F_D) (N := 8) hx hb ht tu_D hown hK hP 0 rfl rfl 4 (by decide) (ht _ tw_180) (fun _ h9 => h9) rfl d_D_stateAllows_119 ?_
        refine va_getN (D := (dC, dI)) (ci := 1) (v := .int dp) (C := R_R) (T := F_R) (N := 9) hx hb ht tu_R hown hK hP 1 rfl rfl 2 (by decide) (va_Nw.use rfl (hE.1 _ nw_8)) (fun _ h9 => h9) rfl d_D_stateAllows_122 ?_
        refine lv_iconst (v := 4) hx hb d_D_stateAllows_125 (by decide) ?_
        refine lv_icmp_ge (tgt := 133) hx hb d_D_stateAllows_126 (by decide) (fun c_43 => ?_) (fun c_43 => ?_)
        · refine lv_iconst (v := 0) hx hb d_D_stateAllows_133 (by decide) ?_
          exact W.zret hx hb hr (rfl) (fun t ht9 hW => ⟨_, rfl, by simp only [stA, if_neg sv_35, if_neg sv_38, if_pos sv_42, if_pos c_43], ht9⟩) hS.2.2 d_D_stateAllows_134
        · refine lv_iconst (v := 1) hx hb d_D_stateAllows_129 (by decide) ?_
          refine lv_goto (tgt := 134) hx hb d_D_stateAllows_130 (by decide) ?_
          exact W.zret hx hb hr (rfl) (fun t ht9 hW => ⟨_, rfl, by simp only [stA, if_neg sv_35, if_neg sv_38, if_pos sv_42, if_neg c_43], ht9⟩) hS.2.2 d_D_stateAllows_134
      · skip
        have hsw : ∀ b ∈ ([17, 18, 19, 23] : List Int32), ¬ kd = b := by
          intro b9 hb9
          simp only [List.mem_cons, List.not_mem_nil, or_false] at hb9
          rcases hb9 with rfl | rfl | rfl | rfl
          · exact fun h9 => sv_35 (Or.inl h9)
          · exact fun h9 => sv_35 (Or.inr (h9))
          · exact sv_38
          · exact sv_42
        refine lv_tab (off := 128) (tgt := 135) hx hb d_D_stateAllows_7 (by decide) (sw_def [17, 18, 19, 23] hsw (by decide +kernel) (by decide)) (by decide) ?_
        refine lv_iconst (v := 1) hx hb d_D_stateAllows_135 (by decide) ?_
        exact W.zret hx hb hr (rfl) (fun t ht9 hW => ⟨_, rfl, by simp only [stA, if_neg sv_35, if_neg sv_38, if_neg sv_42], ht9⟩) hS.2.2 d_D_stateAllows_136
set_option maxHeartbeats 4000000 in
set_option maxRecDepth 100000 in
theorem c_C_valuesMayBe (l : Launch) (dC : Nat → ClassId) (dI : Nat → Nat → Nat) (tb : tbT) (co cw : Nat) (kd mn : Int32) (cf : IF) (cI : ClassId) : RM l y_C_valuesMayBe (Cond.code y_C_valuesMayBe b_C_valuesMayBe 3 (some .boolean) :: TB) ({ frames := 3, cells := 0, slots := 0, locals := 65 }) tb (dC, dI) [.ref co] [(co, .inr (0, [.ref cw, .int kd, .int mn])), (cw, .inl (cI, 258, .inl cf))] [(cI, .int)] (vmB kd cf) := by
  refine Met.ofW (cc := b_C_valuesMayBe) (maxL := 3) (ret := (some .boolean)) (by decide) rfl ?_
  intro p e s m args below meth c s₁ B hml hv
  obtain ⟨rfl, hP, hK, hE⟩ := hv
  have hx := B.exec
  have hb := B.bytes
  have hr := B.returns
  have ht := fun w (h : w ∈ TB) => atoms_spec (ws := Cond.code y_C_valuesMayBe b_C_valuesMayBe 3 (some .boolean) :: TB) B.pre w (List.mem_cons_of_mem _ h)
  have hown : s.vm.findClass R_C = some m.cls := findClass_of_methodNamed B.named
  have hlocks := B.notSynchronized
  have hS : va_S (fun _ => False) s.heap s.heap [] := va_S.rf
  have F : CallFix p m c b_C_valuesMayBe 3 s _ TB R_C := ⟨hx, hb, hml, hown, ht⟩
  have hl := lv_entry ([.ref co]) (n := 3) (Nat.le_of_ble_eq_true rfl)
  rw [lg_entry_eq]
  generalize (lg_sl ([.ref co]) ++ List.replicate (3 - (lg_sl ([.ref co])).length) Slot.unset).toArray = ls at hl ⊢
  have hl : lv_has ls 3 [(0, .ref co)] := hl
  refine lv_aload_n hx hb d_C_valuesMayBe_0 rfl (lv_at hl 0 rfl) ?_
  refine va_get (D := (dC, dI)) (ci := 0) (v := .int kd) (C := R_C) (T := F_C) (N := 3) hx hb ht tu_C hown hK hP 0 rfl rfl 1 (by decide) (ht _ tw_117) (fun _ h9 => h9) rfl d_C_valuesMayBe_1 ?_
  refine rcS (As := [.int kd]) (rest := []) (c_S_fixed l dC dI tb kd ) F tw_69 tw_30 tw_68 tw_418 hP [] rfl hK [] rfl hE hS hd_S_fixed rfl rfl ⟨Nat.le_of_ble_eq_true rfl, Nat.le_of_ble_eq_true rfl⟩ ⟨Nat.le_of_ble_eq_true rfl, Nat.le_of_ble_eq_true rfl⟩ hl.1 rfl (Nat.le_of_ble_eq_true rfl) d_C_valuesMayBe_4 ?_
  refine lv_istore_n (lv' := [(1, .int (fxd kd)), (0, .ref co)]) hx hb d_C_valuesMayBe_7 rfl hl (by decide) rfl (fun ls hl => ?_)
  refine lv_iconst (v := 0) hx hb d_C_valuesMayBe_8 (by decide) ?_
  refine lv_istore_n (lv' := [(2, .int 0), (1, .int (fxd kd)), (0, .ref co)]) hx hb d_C_valuesMayBe_9 rfl hl (by decide) rfl (fun ls hl => ?_)
  refine lp_R (N := (fxd kd).toNatClampNeg) (head := 10) (I := fun i ls => lv_has ls 3 [(2, .int (nI i)), (1, .int (fxd kd)), (0, .ref co)] ∧ ∀ j, j < i → ¬ myB kd (nI j) (rdA 258 cf (nI j)) = 0) ?_ ?_ 0 (Nat.zero_le _) ⟨lv_sub hl [0, 1, 2] rfl, fun j hj => absurd hj (Nat.not_lt_zero j)⟩
  · intro i ls hi_i hI0 kk_i
    obtain ⟨hl, hI⟩ := hI0
    refine lv_iload_n hx hb d_C_valuesMayBe_10 rfl (lv_at hl 0 rfl) ?_
    refine lv_iload_n hx hb d_C_valuesMayBe_11 rfl (lv_at hl 1 rfl) ?_
    refine lv_icmp_ge (tgt := 39) hx hb d_C_valuesMayBe_12 (by decide) (fun c_44 => ?_) (fun c_44 => ?_)
    · exact absurd c_44 (lp_lt hi_i)
    · refine lv_aload_n hx hb d_C_valuesMayBe_15 rfl (lv_at hl 2 rfl) ?_
      refine va_get (D := (dC, dI)) (ci := 0) (v := .int kd) (C := R_C) (T := F_C) (N := 3) hx hb ht tu_C hown hK hP 0 rfl rfl 1 (by decide) (ht _ tw_117) (fun _ h9 => h9) rfl d_C_valuesMayBe_16 ?_
      refine lv_iload_n hx hb d_C_valuesMayBe_19 rfl (lv_at hl 0 rfl) ?_
      refine lv_aload_n hx hb d_C_valuesMayBe_20 rfl (lv_at hl 2 rfl) ?_
      refine lv_iload_n hx hb d_C_valuesMayBe_21 rfl (lv_at hl 0 rfl) ?_
      refine rcV (As := [.int (nI i)]) (rest := [.int (nI i), .int kd]) (c_C_at l dC dI tb co cw kd mn cf cI (nI i) ) F tw_422 tw_32 tw_420 tw_421 tw_419 hP [0, 1] rfl hK [0] rfl hE hS (q0 := 0) rfl rfl hd_C_at rfl rfl ⟨Nat.le_of_ble_eq_true rfl, Nat.le_of_ble_eq_true rfl⟩ ⟨Nat.le_of_ble_eq_true rfl, Nat.le_of_ble_eq_true rfl⟩ hl.1 rfl (Nat.le_of_ble_eq_true rfl) d_C_valuesMayBe_22 ?_
      refine rcS (As := [.int kd, .int (nI i), .int (rdA 258 cf (nI i))]) (rest := []) (c_S_mayBe l dC dI tb kd (nI i) (rdA 258 cf (nI i)) ) F tw_426 tw_30 tw_425 tw_424 hP [] rfl hK [] rfl hE hS hd_S_mayBe rfl rfl ⟨Nat.le_of_ble_eq_true rfl, Nat.le_of_ble_eq_true rfl⟩ ⟨Nat.le_of_ble_eq_true rfl, Nat.le_of_ble_eq_true rfl⟩ hl.1 rfl (Nat.le_of_ble_eq_true rfl) d_C_valuesMayBe_25 ?_
      refine lv_if_ne (tgt := 33) hx hb d_C_valuesMayBe_28 (by decide) (fun c_45 => ?_) (fun c_45 => ?_)
      · refine lv_iinc (v := ((nI i) + 1)) (lv' := [(2, .int ((nI i) + 1)), (1, .int (fxd kd)), (0, .ref co)]) hx hb d_C_valuesMayBe_33 hl (k := 0) rfl rfl (by decide) rfl (fun ls hl => ?_)
        refine lv_goto (tgt := 10) hx hb d_C_valuesMayBe_36 (by decide) ?_
        rw [nI_1] at hl
        exact kk_i _ ⟨lv_sub hl [0, 1, 2] rfl, lt_s hI c_45⟩
      · refine lv_iconst (v := 0) hx hb d_C_valuesMayBe_31 (by decide) ?_
        exact W.zret hx hb hr (rfl) (fun t ht9 hW => ⟨_, rfl, vmB_0 hi_i c_45, ht9⟩) hS.2.2 d_C_valuesMayBe_32
  · intro ls hI0
    obtain ⟨hl, hI⟩ := hI0
    refine lv_iload_n hx hb d_C_valuesMayBe_10 rfl (lv_at hl 0 rfl) ?_
    refine lv_iload_n hx hb d_C_valuesMayBe_11 rfl (lv_at hl 1 rfl) ?_
    refine lv_icmp_ge (tgt := 39) hx hb d_C_valuesMayBe_12 (by decide) (fun c_46 => ?_) (fun c_46 => ?_)
    · refine lv_iconst (v := 1) hx hb d_C_valuesMayBe_39 (by decide) ?_
      exact W.zret hx hb hr (rfl) (fun t ht9 hW => ⟨_, rfl, vmB_1 hI, ht9⟩) hS.2.2 d_C_valuesMayBe_40
    · exact absurd (lp_ge (fxd kd)) c_46
