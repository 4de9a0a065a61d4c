set_option maxHeartbeats 4000000 in
set_option maxRecDepth 100000 in
theorem c_D_readBeyondTheEnd (l : Launch) (dC : Nat → ClassId) (dI : Nat → Nat → Nat) (tb : tbT) (x me sm to co ru : Nat) (sl fw fh : Int32) (bk : Nat) (pl dp lp ld dn rf qu ov : Int32) (cw : Nat) (kd mn : Int32) (sz : Nat) : MI l y_D_readBeyondTheEnd (Cond.code y_D_readBeyondTheEnd b_D_readBeyondTheEnd 1 (some .int) :: TB) ({ frames := 1, cells := 0, slots := 0, locals := 22 }) tb (dC, dI) [.ref x] [(x, .inr (3, [.ref me, .ref sm, .ref to, .ref co, .ref ru, .int sl, .int fw, .int fh])), (ru, .inr (1, [.ref bk, .int pl, .int dp, .int lp, .int ld, .int dn, .int rf, .int qu, .int ov])), (co, .inr (0, [.ref cw, .int kd, .int mn]))] [(x, .inr (3, [.ref me, .ref sm, .ref to, .ref co, .ref ru, .int sl, .int fw, .int fh])), (ru, .inr (1, [.ref bk, .int pl, .int dp, .int lp, .int ld, .int dn, .int rf, .int qu, .int ov])), (co, .inr (0, [.ref cw, .int (if dp ≤ 0 then 0 else kd), .int (if dp ≤ 0 then 0 else mn)]))] [] sz (if dp ≤ 0 then 0 else 1) := by
  refine Met.ofW (cc := b_D_readBeyondTheEnd) (maxL := 1) (ret := (some .int)) (by decide) rfl ?_
  intro p e s m args below meth c s₁ B hml hv
  obtain ⟨rfl, hsz, hP, hK, hD0, hE⟩ := hv
  have hx := B.exec
  have hb := B.bytes
  have hr := B.returns
  have ht := fun w (h : w ∈ TB) => atoms_spec (ws := Cond.code y_D_readBeyondTheEnd b_D_readBeyondTheEnd 1 (some .int) :: TB) B.pre w (List.mem_cons_of_mem _ h)
  have hown : s.vm.findClass R_D = some m.cls := findClass_of_methodNamed B.named
  have hlocks := B.notSynchronized
  subst hsz
  have hD := hD0.self (sz := s.heap.size)
  generalize hAe : va_A [(x, .inr (3, [.ref me, .ref sm, .ref to, .ref co, .ref ru, .int sl, .int fw, .int fh])), (ru, .inr (1, [.ref bk, .int pl, .int dp, .int lp, .int ld, .int dn, .int rf, .int qu, .int ov])), (co, .inr (0, [.ref cw, .int kd, .int mn]))] s.heap.size = A at hD hE ⊢
  have hA : ∀ q : Nat, s.heap.size ≤ q → A q := fun q h => by rw [← hAe]; exact Or.inr h
  have hS : va_S A s.heap s.heap [] := va_S.rf
  have F : CallFix p m c b_D_readBeyondTheEnd 1 s _ TB R_D := ⟨hx, hb, hml, hown, ht⟩
  have hl := lv_entry ([.ref x]) (n := 1) (Nat.le_of_ble_eq_true rfl)
  rw [lg_entry_eq]
  generalize (lg_sl ([.ref x]) ++ List.replicate (1 - (lg_sl ([.ref x])).length) Slot.unset).toArray = ls at hl ⊢
  have hl : lv_has ls 1 [(0, .ref x)] := hl
  refine lv_aload_n hx hb d_D_readBeyondTheEnd_0 rfl (lv_at hl 0 rfl) ?_
  refine va_get (D := (dC, dI)) (ci := 3) (v := .ref ru) (C := R_D) (T := F_D) (N := 8) hx hb ht tu_D hown hK hP 0 rfl rfl 4 (by decide) (ht _ tw_180) (fun _ h9 => h9) rfl d_D_readBeyondTheEnd_1 ?_
  refine va_getN (D := (dC, dI)) (ci := 1) (v := .int dp) (C := R_R) (T := F_R) (N := 9) hx hb ht tu_R hown hK hP 1 rfl rfl 2 (by decide) (va_Nw.use rfl (hE.1 _ nw_8)) (fun _ h9 => h9) rfl d_D_readBeyondTheEnd_4 ?_
  refine lv_if_le (tgt := 12) hx hb d_D_readBeyondTheEnd_7 (by decide) (fun c_47 => ?_) (fun c_47 => ?_)
  · refine lv_aload_n hx hb d_D_readBeyondTheEnd_12 rfl (lv_at hl 0 rfl) ?_
    refine va_get (D := (dC, dI)) (ci := 3) (v := .ref co) (C := R_D) (T := F_D) (N := 8) hx hb ht tu_D hown hK hP 0 rfl rfl 3 (by decide) (ht _ tw_179) (fun _ h9 => h9) rfl d_D_readBeyondTheEnd_13 ?_
    refine lv_iconst (v := 0) hx hb d_D_readBeyondTheEnd_16 (by decide) ?_
    refine lv_iconst (v := 0) hx hb d_D_readBeyondTheEnd_17 (by decide) ?_
    refine mcVv (As := [.int 0, .int 0]) (rest := []) (wr := [(x, .inr (3, [.ref me, .ref sm, .ref to, .ref co, .ref ru, .int sl, .int fw, .int fh])), (ru, .inr (1, [.ref bk, .int pl, .int dp, .int lp, .int ld, .int dn, .int rf, .int qu, .int ov]))]) (c_C_become l dC dI tb co cw kd mn 0 0 ) F tw_216 tw_32 tw_214 tw_215 tw_394 hP hD [2] [0, 1] rfl rfl (by decide) (by decide) (by decide) hK [] rfl hE hS hA (q0 := 2) rfl rfl hd_C_become rfl rfl ⟨Nat.le_of_ble_eq_true rfl, Nat.le_of_ble_eq_true rfl⟩ ⟨Nat.le_of_ble_eq_true rfl, Nat.le_of_ble_eq_true rfl⟩ hl.1 rfl (Nat.le_of_ble_eq_true rfl) d_D_readBeyondTheEnd_18 (fun H locs hP hD hS => ?_)
    have hP : va_P (dC, dI) clX [(x, .inr (3, [.ref me, .ref sm, .ref to, .ref co, .ref ru, .int sl, .int fw, .int fh])), (ru, .inr (1, [.ref bk, .int pl, .int dp, .int lp, .int ld, .int dn, .int rf, .int qu, .int ov])), (co, .inr (0, [.ref cw, .int 0, .int 0]))] H := hP
    have hD : va_D A [(x, .inr (3, [.ref me, .ref sm, .ref to, .ref co, .ref ru, .int sl, .int fw, .int fh])), (ru, .inr (1, [.ref bk, .int pl, .int dp, .int lp, .int ld, .int dn, .int rf, .int qu, .int ov])), (co, .inr (0, [.ref cw, .int 0, .int 0]))] := hD
    refine lv_iconst (v := 0) hx hb d_D_readBeyondTheEnd_21 (by decide) ?_
    have hP9 := hP.sub (ws' := [(x, .inr (3, [.ref me, .ref sm, .ref to, .ref co, .ref ru, .int sl, .int fw, .int fh])), (ru, .inr (1, [.ref bk, .int pl, .int dp, .int lp, .int ld, .int dn, .int rf, .int qu, .int ov])), (co, .inr (0, [.ref cw, .int 0, .int 0]))]) [0, 1, 2] rfl
    have hD9 := hD.sub (ws' := [(x, .inr (3, [.ref me, .ref sm, .ref to, .ref co, .ref ru, .int sl, .int fw, .int fh])), (ru, .inr (1, [.ref bk, .int pl, .int dp, .int lp, .int ld, .int dn, .int rf, .int qu, .int ov])), (co, .inr (0, [.ref cw, .int 0, .int 0]))]) [0, 1, 2] (by decide) rfl
    exact W.iret hx hb hr (fun t ht9 hW => ⟨⟨_, (), rfl, by simp only [if_pos c_47], by rw [ht9]; simp only [if_pos c_47]; exact hP9, va_K.moved hW.alike hK, by rw [hAe]; simp only [if_pos c_47]; exact hD9⟩, hS.F ht9⟩) hS.2.2 d_D_readBeyondTheEnd_22
  · refine lv_iconst (v := 1) hx hb d_D_readBeyondTheEnd_10 (by decide) ?_
    have hP9 := hP.sub (ws' := [(x, .inr (3, [.ref me, .ref sm, .ref to, .ref co, .ref ru, .int sl, .int fw, .int fh])), (ru, .inr (1, [.ref bk, .int pl, .int dp, .int lp, .int ld, .int dn, .int rf, .int qu, .int ov])), (co, .inr (0, [.ref cw, .int kd, .int mn]))]) [0, 1, 2] rfl
    have hD9 := hD.sub (ws' := [(x, .inr (3, [.ref me, .ref sm, .ref to, .ref co, .ref ru, .int sl, .int fw, .int fh])), (ru, .inr (1, [.ref bk, .int pl, .int dp, .int lp, .int ld, .int dn, .int rf, .int qu, .int ov])), (co, .inr (0, [.ref cw, .int kd, .int mn]))]) [0, 1, 2] (by decide) rfl
    exact W.iret hx hb hr (fun t ht9 hW => ⟨⟨_, (), rfl, by simp only [if_neg c_47], by rw [ht9]; simp only [if_neg c_47]; exact hP9, va_K.moved hW.alike hK, by rw [hAe]; simp only [if_neg c_47]; exact hD9⟩, hS.F ht9⟩) hS.2.2 d_D_readBeyondTheEnd_11
set_option maxHeartbeats 4000000 in
set_option maxRecDepth 100000 in
theorem c_D_readCommand (l : Launch) (dC : Nat → ClassId) (dI : Nat → Nat → Nat) (tb : tbT) (x me sm to co ru : Nat) (sl fw fh : Int32) (bk : Nat) (pl dp lp ld dn rf qu ov : Int32) (cw : Nat) (kd mn : Int32) (mf qf cf : IF) (cI : ClassId) (sz : Nat) : MI l y_D_readCommand (Cond.code y_D_readCommand b_D_readCommand 5 (some .int) :: TB) ({ frames := 3, cells := 0, slots := 0, locals := 65 }) tb (dC, dI) [.ref x] [(x, .inr (3, [.ref me, .ref sm, .ref to, .ref co, .ref ru, .int sl, .int fw, .int fh])), (ru, .inr (1, [.ref bk, .int pl, .int dp, .int lp, .int ld, .int dn, .int rf, .int qu, .int ov])), (co, .inr (0, [.ref cw, .int kd, .int mn])), (me, .inl (cI, 4096, .inl mf)), (sm, .inl (cI, 4096, .inl qf)), (cw, .inl (cI, 258, .inl cf))] [(x, .inr (3, [.ref me, .ref sm, .ref to, .ref co, .ref ru, .int sl, .int fw, .int fh])), (ru, .inr (1, [.ref bk, .int pl, .int dp, .int lp, .int ld, .int dn, .int rf, .int qu, .int ov])), (co, .inr (0, [.ref cw, .int ((rdC dp pl sl mf qf kd mn cf).2.1), .int ((rdC dp pl sl mf qf kd mn cf).2.2.1)])), (me, .inl (cI, 4096, .inl mf)), (sm, .inl (cI, 4096, .inl qf)), (cw, .inl (cI, 258, .inl ((rdC dp pl sl mf qf kd mn cf).2.2.2)))] [(cI, .int)] sz ((rdC dp pl sl mf qf kd mn cf).1) := by
  refine Met.ofW (cc := b_D_readCommand) (maxL := 5) (ret := (some .int)) (by decide) rfl ?_
  intro p e s m args below meth c s₁ B hml hv
  obtain ⟨rfl, hsz, hP, hK, hD0, hE⟩ := hv
  have hx := B.exec
  have hb := B.bytes
  have hr := B.returns
  have ht := fun w (h : w ∈ TB) => atoms_spec (ws := Cond.code y_D_readCommand b_D_readCommand 5 (some .int) :: TB) B.pre w (List.mem_cons_of_mem _ h)
  have hown : s.vm.findClass R_D = some m.cls := findClass_of_methodNamed B.named
  have hlocks := B.notSynchronized
  subst hsz
  have hD := hD0.self (sz := s.heap.size)
  generalize hAe : va_A [(x, .inr (3, [.ref me, .ref sm, .ref to, .ref co, .ref ru, .int sl, .int fw, .int fh])), (ru, .inr (1, [.ref bk, .int pl, .int dp, .int lp, .int ld, .int dn, .int rf, .int qu, .int ov])), (co, .inr (0, [.ref cw, .int kd, .int mn])), (me, .inl (cI, 4096, .inl mf)), (sm, .inl (cI, 4096, .inl qf)), (cw, .inl (cI, 258, .inl cf))] s.heap.size = A at hD hE ⊢
  have hA : ∀ q : Nat, s.heap.size ≤ q → A q := fun q h => by rw [← hAe]; exact Or.inr h
  have hS : va_S A s.heap s.heap [] := va_S.rf
  have F : CallFix p m c b_D_readCommand 5 s _ TB R_D := ⟨hx, hb, hml, hown, ht⟩
  have hl := lv_entry ([.ref x]) (n := 5) (Nat.le_of_ble_eq_true rfl)
  rw [lg_entry_eq]
  generalize (lg_sl ([.ref x]) ++ List.replicate (5 - (lg_sl ([.ref x])).length) Slot.unset).toArray = ls at hl ⊢
  have hl : lv_has ls 5 [(0, .ref x)] := hl
  refine lv_aload_n hx hb d_D_readCommand_0 rfl (lv_at hl 0 rfl) ?_
  refine rcV (As := []) (rest := []) (c_D_sourceLength l dC dI tb x me sm to co ru sl fw fh bk pl dp lp ld dn rf qu ov ) F tw_389 tw_28 tw_388 tw_6 tw_386 hP [0, 1] rfl hK [] rfl hE hS (q0 := 0) rfl rfl hd_D_sourceLength rfl rfl ⟨Nat.le_of_ble_eq_true rfl, Nat.le_of_ble_eq_true rfl⟩ ⟨Nat.le_of_ble_eq_true rfl, Nat.le_of_ble_eq_true rfl⟩ hl.1 rfl (Nat.le_of_ble_eq_true rfl) d_D_readCommand_1 ?_
  refine lv_istore_n (lv' := [(1, .int (srcL dp sl)), (0, .ref x)]) hx hb d_D_readCommand_4 rfl hl (by decide) rfl (fun ls hl => ?_)
  refine lv_aload_n hx hb d_D_readCommand_5 rfl (lv_at hl 1 rfl) ?_
  refine va_get (D := (dC, dI)) (ci := 3) (v := .ref ru) (C := R_D) (T := F_D) (N := 8) hx hb ht tu_D hown hK hP 0 rfl rfl 4 (by decide) (ht _ tw_180) (fun _ h9 => h9) rfl d_D_readCommand_6 ?_
  refine va_getN (D := (dC, dI)) (ci := 1) (v := .int pl) (C := R_R) (T := F_R) (N := 9) hx hb ht tu_R hown hK hP 1 rfl rfl 1 (by decide) (va_Nw.use rfl (hE.1 _ nw_7)) (fun _ h9 => h9) rfl d_D_readCommand_9 ?_
  refine lv_iload_n hx hb d_D_readCommand_12 rfl (lv_at hl 0 rfl) ?_
  refine lv_icmp_lt (tgt := 21) hx hb d_D_readCommand_13 (by decide) (fun c_48 => ?_) (fun c_48 => ?_)
  · refine lv_aload_n hx hb d_D_readCommand_21 rfl (lv_at hl 1 rfl) ?_
    refine lv_aload_n hx hb d_D_readCommand_22 rfl (lv_at hl 1 rfl) ?_
    refine va_get (D := (dC, dI)) (ci := 3) (v := .ref ru) (C := R_D) (T := F_D) (N := 8) hx hb ht tu_D hown hK hP 0 rfl rfl 4 (by decide) (ht _ tw_180) (fun _ h9 => h9) rfl d_D_readCommand_23 ?_
    refine va_getN (D := (dC, dI)) (ci := 1) (v := .int pl) (C := R_R) (T := F_R) (N := 9) hx hb ht tu_R hown hK hP 1 rfl rfl 1 (by decide) (va_Nw.use rfl (hE.1 _ nw_7)) (fun _ h9 => h9) rfl d_D_readCommand_26 ?_
    refine rcV (As := [.int pl]) (rest := []) (c_D_sourceWord l dC dI tb x me sm to co ru sl fw fh bk pl dp lp ld dn rf qu ov mf qf cI pl ) F tw_398 tw_28 tw_397 tw_8 tw_395 hP [0, 1, 3, 4] rfl hK [0] rfl hE hS (q0 := 0) rfl rfl hd_D_sourceWord rfl rfl ⟨Nat.le_of_ble_eq_true rfl, Nat.le_of_ble_eq_true rfl⟩ ⟨Nat.le_of_ble_eq_true rfl, Nat.le_of_ble_eq_true rfl⟩ hl.1 rfl (Nat.le_of_ble_eq_true rfl) d_D_readCommand_29 ?_
    refine lv_istore_n (lv' := [(2, .int (srcW dp mf qf pl)), (1, .int (srcL dp sl)), (0, .ref x)]) hx hb d_D_readCommand_32 rfl hl (by decide) rfl (fun ls hl => ?_)
    refine lv_iload_n hx hb d_D_readCommand_33 rfl (lv_at hl 0 rfl) ?_
    refine rcS (As := [.int (srcW dp mf qf pl)]) (rest := []) (c_S_isKind l dC dI tb (srcW dp mf qf pl) ) F tw_72 tw_30 tw_71 tw_399 hP [] rfl hK [] rfl hE hS hd_S_isKind rfl rfl ⟨Nat.le_of_ble_eq_true rfl, Nat.le_of_ble_eq_true rfl⟩ ⟨Nat.le_of_ble_eq_true rfl, Nat.le_of_ble_eq_true rfl⟩ hl.1 rfl (Nat.le_of_ble_eq_true rfl) d_D_readCommand_34 ?_
    refine lv_if_ne (tgt := 42) hx hb d_D_readCommand_37 (by decide) (fun c_49 => ?_) (fun c_49 => ?_)
    · refine lv_aload_n hx hb d_D_readCommand_42 rfl (lv_at hl 2 rfl) ?_
      refine lv_iload_n hx hb d_D_readCommand_43 rfl (lv_at hl 0 rfl) ?_
      refine rcV (As := [.int (srcW dp mf qf pl)]) (rest := []) (c_D_argumentsHere l dC dI tb x me sm to co ru sl fw fh bk pl dp lp ld dn rf qu ov mf qf cI (srcW dp mf qf pl) ) F tw_403 tw_28 tw_402 tw_9 tw_400 hP [0, 1, 3, 4] rfl hK [0] rfl hE hS (q0 := 0) rfl rfl hd_D_argumentsHere rfl rfl ⟨Nat.le_of_ble_eq_true rfl, Nat.le_of_ble_eq_true rfl⟩ ⟨Nat.le_of_ble_eq_true rfl, Nat.le_of_ble_eq_true rfl⟩ hl.1 rfl (Nat.le_of_ble_eq_true rfl) d_D_readCommand_44 ?_
      refine lv_istore_n (lv' := [(3, .int (argH dp pl sl mf qf (srcW dp mf qf pl))), (2, .int (srcW dp mf qf pl)), (1, .int (srcL dp sl)), (0, .ref x)]) hx hb d_D_readCommand_47 rfl hl (by decide) rfl (fun ls hl => ?_)
      refine lv_aload_n hx hb d_D_readCommand_48 rfl (lv_at hl 3 rfl) ?_
      refine va_get (D := (dC, dI)) (ci := 3) (v := .ref ru) (C := R_D) (T := F_D) (N := 8) hx hb ht tu_D hown hK hP 0 rfl rfl 4 (by decide) (ht _ tw_180) (fun _ h9 => h9) rfl d_D_readCommand_49 ?_
      refine va_getN (D := (dC, dI)) (ci := 1) (v := .int pl) (C := R_R) (T := F_R) (N := 9) hx hb ht tu_R hown hK hP 1 rfl rfl 1 (by decide) (va_Nw.use rfl (hE.1 _ nw_7)) (fun _ h9 => h9) rfl d_D_readCommand_52 ?_
      refine lv_iload_n hx hb d_D_readCommand_55 rfl (lv_at hl 0 rfl) ?_
      refine lv_iadd hx hb d_D_readCommand_56 ?_
      refine lv_iload_n hx hb d_D_readCommand_57 rfl (lv_at hl 2 rfl) ?_
      refine lv_icmp_lt (tgt := 63) hx hb d_D_readCommand_58 (by decide) (fun c_50 => ?_) (fun c_50 => ?_)
      · refine lv_aload_n hx hb d_D_readCommand_63 rfl (lv_at hl 3 rfl) ?_
        refine va_get (D := (dC, dI)) (ci := 3) (v := .ref co) (C := R_D) (T := F_D) (N := 8) hx hb ht tu_D hown hK hP 0 rfl rfl 3 (by decide) (ht _ tw_179) (fun _ h9 => h9) rfl d_D_readCommand_64 ?_
        refine lv_iload_n hx hb d_D_readCommand_67 rfl (lv_at hl 1 rfl) ?_
        refine lv_iload_n hx hb d_D_readCommand_68 rfl (lv_at hl 0 rfl) ?_
        refine mcVv (As := [.int (srcW dp mf qf pl), .int (argH dp pl sl mf qf (srcW dp mf qf pl))]) (rest := []) (wr := [(x, .inr (3, [.ref me, .ref sm, .ref to, .ref co, .ref ru, .int sl, .int fw, .int fh])), (ru, .inr (1, [.ref bk, .int pl, .int dp, .int lp, .int ld, .int dn, .int rf, .int qu, .int ov])), (me, .inl (cI, 4096, .inl mf)), (sm, .inl (cI, 4096, .inl qf)), (cw, .inl (cI, 258, .inl cf))]) (c_C_become l dC dI tb co cw kd mn (srcW dp mf qf pl) (argH dp pl sl mf qf (srcW dp mf qf pl)) ) F tw_216 tw_32 tw_214 tw_215 tw_394 hP hD [2] [0, 1, 3, 4, 5] rfl rfl (by decide) (by decide) (by decide) hK [] rfl hE hS hA (q0 := 2) rfl rfl hd_C_become rfl rfl ⟨Nat.le_of_ble_eq_true rfl, Nat.le_of_ble_eq_true rfl⟩ ⟨Nat.le_of_ble_eq_true rfl, Nat.le_of_ble_eq_true rfl⟩ hl.1 rfl (Nat.le_of_ble_eq_true rfl) d_D_readCommand_69 (fun H locs hP hD hS => ?_)
        have hP : va_P (dC, dI) clX [(x, .inr (3, [.ref me, .ref sm, .ref to, .ref co, .ref ru, .int sl, .int fw, .int fh])), (ru, .inr (1, [.ref bk, .int pl, .int dp, .int lp, .int ld, .int dn, .int rf, .int qu, .int ov])), (me, .inl (cI, 4096, .inl mf)), (sm, .inl (cI, 4096, .inl qf)), (cw, .inl (cI, 258, .inl cf)), (co, .inr (0, [.ref cw, .int (srcW dp mf qf pl), .int (argH dp pl sl mf qf (srcW dp mf qf pl))]))] H := hP
        have hD : va_D A [(x, .inr (3, [.ref me, .ref sm, .ref to, .ref co, .ref ru, .int sl, .int fw, .int fh])), (ru, .inr (1, [.ref bk, .int pl, .int dp, .int lp, .int ld, .int dn, .int rf, .int qu, .int ov])), (me, .inl (cI, 4096, .inl mf)), (sm, .inl (cI, 4096, .inl qf)), (cw, .inl (cI, 258, .inl cf)), (co, .inr (0, [.ref cw, .int (srcW dp mf qf pl), .int (argH dp pl sl mf qf (srcW dp mf qf pl))]))] := hD
        refine lv_iconst (v := 0) hx hb d_D_readCommand_72 (by decide) ?_
        refine lv_istore (lv' := [(4, .int 0), (3, .int (argH dp pl sl mf qf (srcW dp mf qf pl))), (2, .int (srcW dp mf qf pl)), (1, .int (srcL dp sl)), (0, .ref x)]) hx hb d_D_readCommand_73 hl (by decide) rfl (fun ls hl => ?_)
        refine lp_W (N := ((argH dp pl sl mf qf (srcW dp mf qf pl))).toNatClampNeg) (head := 75) (I := fun i H locs ls => va_P (dC, dI) clX [(x, .inr (3, [.ref me, .ref sm, .ref to, .ref co, .ref ru, .int sl, .int fw, .int fh])), (ru, .inr (1, [.ref bk, .int pl, .int dp, .int lp, .int ld, .int dn, .int rf, .int qu, .int ov])), (me, .inl (cI, 4096, .inl mf)), (sm, .inl (cI, 4096, .inl qf)), (cw, .inl (cI, 258, .inl (itN (fun j c => wrA 258 c (nI j) (srcW dp mf qf (pl + 1 + nI j))) i cf))), (co, .inr (0, [.ref cw, .int (srcW dp mf qf pl), .int (argH dp pl sl mf qf (srcW dp mf qf pl))]))] H ∧ va_D A [(x, .inr (3, [.ref me, .ref sm, .ref to, .ref co, .ref ru, .int sl, .int fw, .int fh])), (ru, .inr (1, [.ref bk, .int pl, .int dp, .int lp, .int ld, .int dn, .int rf, .int qu, .int ov])), (me, .inl (cI, 4096, .inl mf)), (sm, .inl (cI, 4096, .inl qf)), (cw, .inl (cI, 258, .inl (itN (fun j c => wrA 258 c (nI j) (srcW dp mf qf (pl + 1 + nI j))) i cf))), (co, .inr (0, [.ref cw, .int (srcW dp mf qf pl), .int (argH dp pl sl mf qf (srcW dp mf qf pl))]))] ∧ va_S A s.heap H locs ∧ lv_has ls 5 [(4, .int (nI i)), (3, .int (argH dp pl sl mf qf (srcW dp mf qf pl))), (2, .int (srcW dp mf qf pl)), (1, .int (srcL dp sl)), (0, .ref x)]) ?_ ?_ 0 (Nat.zero_le _) ⟨hP, hD, hS, lv_sub hl [0, 1, 2, 3, 4] rfl⟩
        · intro i H locs ls hi_i hI0 kk_i
          obtain ⟨hP, hD, hS, hl⟩ := hI0
          refine lv_iload hx hb d_D_readCommand_75 (lv_at hl 0 rfl) ?_
          refine lv_iload_n hx hb d_D_readCommand_77 rfl (lv_at hl 1 rfl) ?_
          refine lv_icmp_ge (tgt := 112) hx hb d_D_readCommand_78 (by decide) (fun c_51 => ?_) (fun c_51 => ?_)
          · exact absurd c_51 (lp_lt hi_i)
          · refine lv_aload_n hx hb d_D_readCommand_81 rfl (lv_at hl 4 rfl) ?_
            refine va_get (D := (dC, dI)) (ci := 3) (v := .ref co) (C := R_D) (T := F_D) (N := 8) hx hb ht tu_D hown hK hP 0 rfl rfl 3 (by decide) (ht _ tw_179) (fun _ h9 => h9) rfl d_D_readCommand_82 ?_
            refine lv_iload hx hb d_D_readCommand_85 (lv_at hl 0 rfl) ?_
            refine lv_aload_n hx hb d_D_readCommand_87 rfl (lv_at hl 4 rfl) ?_
            refine lv_aload_n hx hb d_D_readCommand_88 rfl (lv_at hl 4 rfl) ?_
            refine va_get (D := (dC, dI)) (ci := 3) (v := .ref ru) (C := R_D) (T := F_D) (N := 8) hx hb ht tu_D hown hK hP 0 rfl rfl 4 (by decide) (ht _ tw_180) (fun _ h9 => h9) rfl d_D_readCommand_89 ?_
            refine va_getN (D := (dC, dI)) (ci := 1) (v := .int pl) (C := R_R) (T := F_R) (N := 9) hx hb ht tu_R hown hK hP 1 rfl rfl 1 (by decide) (va_Nw.use rfl (hE.1 _ nw_7)) (fun _ h9 => h9) rfl d_D_readCommand_92 ?_
            refine lv_iconst (v := 1) hx hb d_D_readCommand_95 (by decide) ?_
            refine lv_iadd hx hb d_D_readCommand_96 ?_
            refine lv_iload hx hb d_D_readCommand_97 (lv_at hl 0 rfl) ?_
            refine lv_iadd hx hb d_D_readCommand_99 ?_
            refine rcV (As := [.int ((pl + 1) + (nI i))]) (rest := [.int (nI i), .ref co]) (c_D_sourceWord l dC dI tb x me sm to co ru sl fw fh bk pl dp lp ld dn rf qu ov mf qf cI ((pl + 1) + (nI i)) ) F tw_398 tw_28 tw_397 tw_8 tw_395 hP [0, 1, 2, 3] rfl hK [0] rfl hE hS (q0 := 0) rfl rfl hd_D_sourceWord rfl rfl ⟨Nat.le_of_ble_eq_true rfl, Nat.le_of_ble_eq_true rfl⟩ ⟨Nat.le_of_ble_eq_true rfl, Nat.le_of_ble_eq_true rfl⟩ hl.1 rfl (Nat.le_of_ble_eq_true rfl) d_D_readCommand_100 ?_
            refine mcVv (As := [.int (nI i), .int (srcW dp mf qf ((pl + 1) + (nI i)))]) (rest := []) (wr := [(x, .inr (3, [.ref me, .ref sm, .ref to, .ref co, .ref ru, .int sl, .int fw, .int fh])), (ru, .inr (1, [.ref bk, .int pl, .int dp, .int lp, .int ld, .int dn, .int rf, .int qu, .int ov])), (me, .inl (cI, 4096, .inl mf)), (sm, .inl (cI, 4096, .inl qf))]) (c_C_tell l dC dI tb co cw (srcW dp mf qf pl) (argH dp pl sl mf qf (srcW dp mf qf pl)) (itN (fun j c => wrA 258 c (nI j) (srcW dp mf qf (pl + 1 + nI j))) i cf) cI (nI i) (srcW dp mf qf ((pl + 1) + (nI i))) ) F tw_412 tw_32 tw_410 tw_411 tw_409 hP hD [5, 4] [0, 1, 2, 3] rfl rfl (by decide) (by decide) (by decide) hK [0] rfl hE hS hA (q0 := 5) rfl rfl hd_C_tell rfl rfl ⟨Nat.le_of_ble_eq_true rfl, Nat.le_of_ble_eq_true rfl⟩ ⟨Nat.le_of_ble_eq_true rfl, Nat.le_of_ble_eq_true rfl⟩ hl.1 rfl (Nat.le_of_ble_eq_true rfl) d_D_readCommand_103 (fun H locs hP hD hS => ?_)
            have hP : va_P (dC, dI) clX [(x, .inr (3, [.ref me, .ref sm, .ref to, .ref co, .ref ru, .int sl, .int fw, .int fh])), (ru, .inr (1, [.ref bk, .int pl, .int dp, .int lp, .int ld, .int dn, .int rf, .int qu, .int ov])), (me, .inl (cI, 4096, .inl mf)), (sm, .inl (cI, 4096, .inl qf)), (co, .inr (0, [.ref cw, .int (srcW dp mf qf pl), .int (argH dp pl sl mf qf (srcW dp mf qf pl))])), (cw, .inl (cI, 258, .inl (wrA 258 (itN (fun j c => wrA 258 c (nI j) (srcW dp mf qf (pl + 1 + nI j))) i cf) (nI i) (srcW dp mf qf ((pl + 1) + (nI i))))))] H := hP
            have hD : va_D A [(x, .inr (3, [.ref me, .ref sm, .ref to, .ref co, .ref ru, .int sl, .int fw, .int fh])), (ru, .inr (1, [.ref bk, .int pl, .int dp, .int lp, .int ld, .int dn, .int rf, .int qu, .int ov])), (me, .inl (cI, 4096, .inl mf)), (sm, .inl (cI, 4096, .inl qf)), (co, .inr (0, [.ref cw, .int (srcW dp mf qf pl), .int (argH dp pl sl mf qf (srcW dp mf qf pl))])), (cw, .inl (cI, 258, .inl (wrA 258 (itN (fun j c => wrA 258 c (nI j) (srcW dp mf qf (pl + 1 + nI j))) i cf) (nI i) (srcW dp mf qf ((pl + 1) + (nI i))))))] := hD
            refine lv_iinc (v := ((nI i) + 1)) (lv' := [(4, .int ((nI i) + 1)), (3, .int (argH dp pl sl mf qf (srcW dp mf qf pl))), (2, .int (srcW dp mf qf pl)), (1, .int (srcL dp sl)), (0, .ref x)]) hx hb d_D_readCommand_106 hl (k := 0) rfl rfl (by decide) rfl (fun ls hl => ?_)
            refine lv_goto (tgt := 75) hx hb d_D_readCommand_109 (by decide) ?_
            rw [nI_1] at hl
            exact kk_i _ _ _ ⟨hP.sub [0, 1, 2, 3, 5, 4] rfl, hD.sub [0, 1, 2, 3, 5, 4] (by decide) rfl, hS, lv_sub hl [0, 1, 2, 3, 4] rfl⟩
        · intro H locs ls hI0
          obtain ⟨hP, hD, hS, hl⟩ := hI0
          refine lv_iload hx hb d_D_readCommand_75 (lv_at hl 0 rfl) ?_
          refine lv_iload_n hx hb d_D_readCommand_77 rfl (lv_at hl 1 rfl) ?_
          refine lv_icmp_ge (tgt := 112) hx hb d_D_readCommand_78 (by decide) (fun c_52 => ?_) (fun c_52 => ?_)
          · refine lv_iconst (v := 0) hx hb d_D_readCommand_112 (by decide) ?_
            have hP9 := hP.sub (ws' := [(x, .inr (3, [.ref me, .ref sm, .ref to, .ref co, .ref ru, .int sl, .int fw, .int fh])), (ru, .inr (1, [.ref bk, .int pl, .int dp, .int lp, .int ld, .int dn, .int rf, .int qu, .int ov])), (co, .inr (0, [.ref cw, .int (srcW dp mf qf pl), .int (argH dp pl sl mf qf (srcW dp mf qf pl))])), (me, .inl (cI, 4096, .inl mf)), (sm, .inl (cI, 4096, .inl qf)), (cw, .inl (cI, 258, .inl (itN (fun j c => wrA 258 c (nI j) (srcW dp mf qf (pl + 1 + nI j))) (((argH dp pl sl mf qf (srcW dp mf qf pl))).toNatClampNeg) cf)))]) [0, 1, 5, 2, 3, 4] rfl
            have hD9 := hD.sub (ws' := [(x, .inr (3, [.ref me, .ref sm, .ref to, .ref co, .ref ru, .int sl, .int fw, .int fh])), (ru, .inr (1, [.ref bk, .int pl, .int dp, .int lp, .int ld, .int dn, .int rf, .int qu, .int ov])), (co, .inr (0, [.ref cw, .int (srcW dp mf qf pl), .int (argH dp pl sl mf qf (srcW dp mf qf pl))])), (me, .inl (cI, 4096, .inl mf)), (sm, .inl (cI, 4096, .inl qf)), (cw, .inl (cI, 258, .inl (itN (fun j c => wrA 258 c (nI j) (srcW dp mf qf (pl + 1 + nI j))) (((argH dp pl sl mf qf (srcW dp mf qf pl))).toNatClampNeg) cf)))]) [0, 1, 5, 2, 3, 4] (by decide) rfl
            exact W.iret hx hb hr (fun t ht9 hW => ⟨⟨_, (), rfl, by rw [show rdC dp pl sl mf qf kd mn cf = (0, (srcW dp mf qf pl), (argH dp pl sl mf qf (srcW dp mf qf pl)), (itN (fun j c => wrA 258 c (nI j) (srcW dp mf qf (pl + 1 + nI j))) (((argH dp pl sl mf qf (srcW dp mf qf pl))).toNatClampNeg) cf)) from by simp only [rdC, ldC, if_pos c_48, if_neg c_49, if_pos c_50, if_pos c_52]], by rw [ht9]; rw [show rdC dp pl sl mf qf kd mn cf = (0, (srcW dp mf qf pl), (argH dp pl sl mf qf (srcW dp mf qf pl)), (itN (fun j c => wrA 258 c (nI j) (srcW dp mf qf (pl + 1 + nI j))) (((argH dp pl sl mf qf (srcW dp mf qf pl))).toNatClampNeg) cf)) from by simp only [rdC, ldC, if_pos c_48, if_neg c_49, if_pos c_50, if_pos c_52]]; exact hP9, va_K.moved hW.alike hK, by rw [hAe]; rw [show rdC dp pl sl mf qf kd mn cf = (0, (srcW dp mf qf pl), (argH dp pl sl mf qf (srcW dp mf qf pl)), (itN (fun j c => wrA 258 c (nI j) (srcW dp mf qf (pl + 1 + nI j))) (((argH dp pl sl mf qf (srcW dp mf qf pl))).toNatClampNeg) cf)) from by simp only [rdC, ldC, if_pos c_48, if_neg c_49, if_pos c_50, if_pos c_52]]; exact hD9⟩, hS.F ht9⟩) hS.2.2 d_D_readCommand_113
          · exact absurd (lp_ge (argH dp pl sl mf qf (srcW dp mf qf pl))) c_52
      · refine lv_iconst (v := 1) hx hb d_D_readCommand_61 (by decide) ?_
        have hP9 := hP.sub (ws' := [(x, .inr (3, [.ref me, .ref sm, .ref to, .ref co, .ref ru, .int sl, .int fw, .int fh])), (ru, .inr (1, [.ref bk, .int pl, .int dp, .int lp, .int ld, .int dn, .int rf, .int qu, .int ov])), (co, .inr (0, [.ref cw, .int kd, .int mn])), (me, .inl (cI, 4096, .inl mf)), (sm, .inl (cI, 4096, .inl qf)), (cw, .inl (cI, 258, .inl cf))]) [0, 1, 2, 3, 4, 5] rfl
        have hD9 := hD.sub (ws' := [(x, .inr (3, [.ref me, .ref sm, .ref to, .ref co, .ref ru, .int sl, .int fw, .int fh])), (ru, .inr (1, [.ref bk, .int pl, .int dp, .int lp, .int ld, .int dn, .int rf, .int qu, .int ov])), (co, .inr (0, [.ref cw, .int kd, .int mn])), (me, .inl (cI, 4096, .inl mf)), (sm, .inl (cI, 4096, .inl qf)), (cw, .inl (cI, 258, .inl cf))]) [0, 1, 2, 3, 4, 5] (by decide) rfl
        exact W.iret hx hb hr (fun t ht9 hW => ⟨⟨_, (), rfl, by rw [show rdC dp pl sl mf qf kd mn cf = (1, kd, mn, cf) from by simp only [rdC, ldC, if_pos c_48, if_neg c_49, if_neg c_50]], by rw [ht9]; rw [show rdC dp pl sl mf qf kd mn cf = (1, kd, mn, cf) from by simp only [rdC, ldC, if_pos c_48, if_neg c_49, if_neg c_50]]; exact hP9, va_K.moved hW.alike hK, by rw [hAe]; rw [show rdC dp pl sl mf qf kd mn cf = (1, kd, mn, cf) from by simp only [rdC, ldC, if_pos c_48, if_neg c_49, if_neg c_50]]; exact hD9⟩, hS.F ht9⟩) hS.2.2 d_D_readCommand_62
    · refine lv_iconst (v := 2) hx hb d_D_readCommand_40 (by decide) ?_
      have hP9 := hP.sub (ws' := [(x, .inr (3, [.ref me, .ref sm, .ref to, .ref co, .ref ru, .int sl, .int fw, .int fh])), (ru, .inr (1, [.ref bk, .int pl, .int dp, .int lp, .int ld, .int dn, .int rf, .int qu, .int ov])), (co, .inr (0, [.ref cw, .int kd, .int mn])), (me, .inl (cI, 4096, .inl mf)), (sm, .inl (cI, 4096, .inl qf)), (cw, .inl (cI, 258, .inl cf))]) [0, 1, 2, 3, 4, 5] rfl
      have hD9 := hD.sub (ws' := [(x, .inr (3, [.ref me, .ref sm, .ref to, .ref co, .ref ru, .int sl, .int fw, .int fh])), (ru, .inr (1, [.ref bk, .int pl, .int dp, .int lp, .int ld, .int dn, .int rf, .int qu, .int ov])), (co, .inr (0, [.ref cw, .int kd, .int mn])), (me, .inl (cI, 4096, .inl mf)), (sm, .inl (cI, 4096, .inl qf)), (cw, .inl (cI, 258, .inl cf))]) [0, 1, 2, 3, 4, 5] (by decide) rfl
      exact W.iret hx hb hr (fun t ht9 hW => ⟨⟨_, (), rfl, by rw [show rdC dp pl sl mf qf kd mn cf = (2, kd, mn, cf) from by simp only [rdC, ldC, if_pos c_48, if_pos c_49]], by rw [ht9]; rw [show rdC dp pl sl mf qf kd mn cf = (2, kd, mn, cf) from by simp only [rdC, ldC, if_pos c_48, if_pos c_49]]; exact hP9, va_K.moved hW.alike hK, by rw [hAe]; rw [show rdC dp pl sl mf qf kd mn cf = (2, kd, mn, cf) from by simp only [rdC, ldC, if_pos c_48, if_pos c_49]]; exact hD9⟩, hS.F ht9⟩) hS.2.2 d_D_readCommand_41
  · refine lv_aload_n hx hb d_D_readCommand_16 rfl (lv_at hl 1 rfl) ?_
    refine mcVi (As := []) (rest := []) (wr := [(me, .inl (cI, 4096, .inl mf)), (sm, .inl (cI, 4096, .inl qf)), (cw, .inl (cI, 258, .inl cf))]) (c_D_readBeyondTheEnd l dC dI tb x me sm to co ru sl fw fh bk pl dp lp ld dn rf qu ov cw kd mn ) F tw_393 tw_28 tw_392 tw_7 tw_390 hP hD [0, 1, 2] [3, 4, 5] rfl rfl (by decide) (by decide) (by decide) hK [] rfl hE hS hA (q0 := 0) rfl rfl hd_D_readBeyondTheEnd rfl rfl ⟨Nat.le_of_ble_eq_true rfl, Nat.le_of_ble_eq_true rfl⟩ ⟨Nat.le_of_ble_eq_true rfl, Nat.le_of_ble_eq_true rfl⟩ hl.1 rfl (Nat.le_of_ble_eq_true rfl) d_D_readCommand_17 (fun H locs hP hD hS => ?_)
    have hP : va_P (dC, dI) clX [(me, .inl (cI, 4096, .inl mf)), (sm, .inl (cI, 4096, .inl qf)), (cw, .inl (cI, 258, .inl cf)), (x, .inr (3, [.ref me, .ref sm, .ref to, .ref co, .ref ru, .int sl, .int fw, .int fh])), (ru, .inr (1, [.ref bk, .int pl, .int dp, .int lp, .int ld, .int dn, .int rf, .int qu, .int ov])), (co, .inr (0, [.ref cw, .int (if dp ≤ 0 then 0 else kd), .int (if dp ≤ 0 then 0 else mn)]))] H := hP
    have hD : va_D A [(me, .inl (cI, 4096, .inl mf)), (sm, .inl (cI, 4096, .inl qf)), (cw, .inl (cI, 258, .inl cf)), (x, .inr (3, [.ref me, .ref sm, .ref to, .ref co, .ref ru, .int sl, .int fw, .int fh])), (ru, .inr (1, [.ref bk, .int pl, .int dp, .int lp, .int ld, .int dn, .int rf, .int qu, .int ov])), (co, .inr (0, [.ref cw, .int (if dp ≤ 0 then 0 else kd), .int (if dp ≤ 0 then 0 else mn)]))] := hD
    have hP9 := hP.sub (ws' := [(x, .inr (3, [.ref me, .ref sm, .ref to, .ref co, .ref ru, .int sl, .int fw, .int fh])), (ru, .inr (1, [.ref bk, .int pl, .int dp, .int lp, .int ld, .int dn, .int rf, .int qu, .int ov])), (co, .inr (0, [.ref cw, .int (if dp ≤ 0 then 0 else kd), .int (if dp ≤ 0 then 0 else mn)])), (me, .inl (cI, 4096, .inl mf)), (sm, .inl (cI, 4096, .inl qf)), (cw, .inl (cI, 258, .inl cf))]) [3, 4, 5, 0, 1, 2] rfl
    have hD9 := hD.sub (ws' := [(x, .inr (3, [.ref me, .ref sm, .ref to, .ref co, .ref ru, .int sl, .int fw, .int fh])), (ru, .inr (1, [.ref bk, .int pl, .int dp, .int lp, .int ld, .int dn, .int rf, .int qu, .int ov])), (co, .inr (0, [.ref cw, .int (if dp ≤ 0 then 0 else kd), .int (if dp ≤ 0 then 0 else mn)])), (me, .inl (cI, 4096, .inl mf)), (sm, .inl (cI, 4096, .inl qf)), (cw, .inl (cI, 258, .inl cf))]) [3, 4, 5, 0, 1, 2] (by decide) rfl
    exact W.iret hx hb hr (fun t ht9 hW => ⟨⟨_, (), rfl, by rw [show rdC dp pl sl mf qf kd mn cf = ((if dp ≤ 0 then 0 else 1), (if dp ≤ 0 then 0 else kd), (if dp ≤ 0 then 0 else mn), cf) from by simp only [rdC, ldC, if_neg c_48]], by rw [ht9]; rw [show rdC dp pl sl mf qf kd mn cf = ((if dp ≤ 0 then 0 else 1), (if dp ≤ 0 then 0 else kd), (if dp ≤ 0 then 0 else mn), cf) from by simp only [rdC, ldC, if_neg c_48]]; exact hP9, va_K.moved hW.alike hK, by rw [hAe]; rw [show rdC dp pl sl mf qf kd mn cf = ((if dp ≤ 0 then 0 else 1), (if dp ≤ 0 then 0 else kd), (if dp ≤ 0 then 0 else mn), cf) from by simp only [rdC, ldC, if_neg c_48]]; exact hD9⟩, hS.F ht9⟩) hS.2.2 d_D_readCommand_20
set_option maxHeartbeats 4000000 in
set_option maxRecDepth 100000 in
theorem c_D_refusalHere (l : Launch) (dC : Nat → ClassId) (dI : Nat → Nat → Nat) (tb : tbT) (x me sm to co ru : Nat) (sl fw fh : Int32) (bk : Nat) (pl dp lp ld dn rf qu ov : Int32) (cw : Nat) (kd mn : Int32) (mf qf cf : IF) (cI : ClassId) (sa wa : Nat) (sf wf : IF) (sz : Nat) : MI l y_D_refusalHere (Cond.code y_D_refusalHere b_D_refusalHere 2 (some .int) :: TB) ({ frames := 6, cells := 0, slots := 0, locals := 128 }) tb (dC, dI) [.ref x] [(x, .inr (3, [.ref me, .ref sm, .ref to, .ref co, .ref ru, .int sl, .int fw, .int fh])), (ru, .inr (1, [.ref bk, .int pl, .int dp, .int lp, .int ld, .int dn, .int rf, .int qu, .int ov])), (co, .inr (0, [.ref cw, .int kd, .int mn])), (me, .inl (cI, 4096, .inl mf)), (sm, .inl (cI, 4096, .inl qf)), (cw, .inl (cI, 258, .inl cf)), (to, .inr (2, [.ref sa, .ref wa])), (sa, .inl (cI, 26, .inl sf)), (wa, .inl (cI, 303, .inl wf))] [(x, .inr (3, [.ref me, .ref sm, .ref to, .ref co, .ref ru, .int sl, .int fw, .int fh])), (ru, .inr (1, [.ref bk, .int pl, .int dp, .int lp, .int ld, .int dn, .int rf, .int qu, .int ov])), (co, .inr (0, [.ref cw, .int ((rfC dn dp pl sl mf qf kd mn cf).1), .int ((rfC dn dp pl sl mf qf kd mn cf).2.1)])), (me, .inl (cI, 4096, .inl mf)), (sm, .inl (cI, 4096, .inl qf)), (cw, .inl (cI, 258, .inl ((rfC dn dp pl sl mf qf kd mn cf).2.2))), (to, .inr (2, [.ref sa, .ref wa])), (sa, .inl (cI, 26, .inl sf)), (wa, .inl (cI, 303, .inl wf))] [(cI, .int)] sz (rfH dn dp pl sl fw fh qu mf qf sf wf kd mn cf) := by
  refine Met.ofW (cc := b_D_refusalHere) (maxL := 2) (ret := (some .int)) (by decide) rfl ?_
  intro p e s m args below meth c s₁ B hml hv
  obtain ⟨rfl, hsz, hP, hK, hD0, hE⟩ := hv
  have hx := B.exec
  have hb := B.bytes
  have hr := B.returns
  have ht := fun w (h : w ∈ TB) => atoms_spec (ws := Cond.code y_D_refusalHere b_D_refusalHere 2 (some .int) :: TB) B.pre w (List.mem_cons_of_mem _ h)
  have hown : s.vm.findClass R_D = some m.cls := findClass_of_methodNamed B.named
  have hlocks := B.notSynchronized
  subst hsz
  have hD := hD0.self (sz := s.heap.size)
  generalize hAe : va_A [(x, .inr (3, [.ref me, .ref sm, .ref to, .ref co, .ref ru, .int sl, .int fw, .int fh])), (ru, .inr (1, [.ref bk, .int pl, .int dp, .int lp, .int ld, .int dn, .int rf, .int qu, .int ov])), (co, .inr (0, [.ref cw, .int kd, .int mn])), (me, .inl (cI, 4096, .inl mf)), (sm, .inl (cI, 4096, .inl qf)), (cw, .inl (cI, 258, .inl cf)), (to, .inr (2, [.ref sa, .ref wa])), (sa, .inl (cI, 26, .inl sf)), (wa, .inl (cI, 303, .inl wf))] s.heap.size = A at hD hE ⊢
  have hA : ∀ q : Nat, s.heap.size ≤ q → A q := fun q h => by rw [← hAe]; exact Or.inr h
  have hS : va_S A s.heap s.heap [] := va_S.rf
  have F : CallFix p m c b_D_refusalHere 2 s _ TB R_D := ⟨hx, hb, hml, hown, ht⟩
  have hl := lv_entry ([.ref x]) (n := 2) (Nat.le_of_ble_eq_true rfl)
  rw [lg_entry_eq]
  generalize (lg_sl ([.ref x]) ++ List.replicate (2 - (lg_sl ([.ref x])).length) Slot.unset).toArray = ls at hl ⊢
  have hl : lv_has ls 2 [(0, .ref x)] := hl
  refine lv_aload_n hx hb d_D_refusalHere_0 rfl (lv_at hl 0 rfl) ?_
  refine va_get (D := (dC, dI)) (ci := 3) (v := .ref ru) (C := R_D) (T := F_D) (N := 8) hx hb ht tu_D hown hK hP 0 rfl rfl 4 (by decide) (ht _ tw_180) (fun _ h9 => h9) rfl d_D_refusalHere_1 ?_
  refine va_getN (D := (dC, dI)) (ci := 1) (v := .int dn) (C := R_R) (T := F_R) (N := 9) hx hb ht tu_R hown hK hP 1 rfl rfl 5 (by decide) (va_Nw.use rfl (hE.1 _ nw_11)) (fun _ h9 => h9) rfl d_D_refusalHere_4 ?_
  refine lv_sipush (v := 2000) hx hb d_D_refusalHere_7 (by decide) ?_
  refine lv_icmp_lt (tgt := 16) hx hb d_D_refusalHere_10 (by decide) (fun c_53 => ?_) (fun c_53 => ?_)
  · refine lv_aload_n hx hb d_D_refusalHere_16 rfl (lv_at hl 0 rfl) ?_
    refine mcVi (As := []) (rest := []) (wr := [(to, .inr (2, [.ref sa, .ref wa])), (sa, .inl (cI, 26, .inl sf)), (wa, .inl (cI, 303, .inl wf))]) (c_D_readCommand l dC dI tb x me sm to co ru sl fw fh bk pl dp lp ld dn rf qu ov cw kd mn mf qf cf cI ) F tw_385 tw_28 tw_384 tw_5 tw_382 hP hD [0, 1, 2, 3, 4, 5] [6, 7, 8] rfl rfl (by decide) (by decide) (by decide) hK [0] rfl hE hS hA (q0 := 0) rfl rfl hd_D_readCommand rfl rfl ⟨Nat.le_of_ble_eq_true rfl, Nat.le_of_ble_eq_true rfl⟩ ⟨Nat.le_of_ble_eq_true rfl, Nat.le_of_ble_eq_true rfl⟩ hl.1 rfl (Nat.le_of_ble_eq_true rfl) d_D_refusalHere_17 (fun H locs hP hD hS => ?_)
    have hP : va_P (dC, dI) clX [(to, .inr (2, [.ref sa, .ref wa])), (sa, .inl (cI, 26, .inl sf)), (wa, .inl (cI, 303, .inl wf)), (x, .inr (3, [.ref me, .ref sm, .ref to, .ref co, .ref ru, .int sl, .int fw, .int fh])), (ru, .inr (1, [.ref bk, .int pl, .int dp, .int lp, .int ld, .int dn, .int rf, .int qu, .int ov])), (co, .inr (0, [.ref cw, .int ((rdC dp pl sl mf qf kd mn cf).2.1), .int ((rdC dp pl sl mf qf kd mn cf).2.2.1)])), (me, .inl (cI, 4096, .inl mf)), (sm, .inl (cI, 4096, .inl qf)), (cw, .inl (cI, 258, .inl ((rdC dp pl sl mf qf kd mn cf).2.2.2)))] H := hP
    have hD : va_D A [(to, .inr (2, [.ref sa, .ref wa])), (sa, .inl (cI, 26, .inl sf)), (wa, .inl (cI, 303, .inl wf)), (x, .inr (3, [.ref me, .ref sm, .ref to, .ref co, .ref ru, .int sl, .int fw, .int fh])), (ru, .inr (1, [.ref bk, .int pl, .int dp, .int lp, .int ld, .int dn, .int rf, .int qu, .int ov])), (co, .inr (0, [.ref cw, .int ((rdC dp pl sl mf qf kd mn cf).2.1), .int ((rdC dp pl sl mf qf kd mn cf).2.2.1)])), (me, .inl (cI, 4096, .inl mf)), (sm, .inl (cI, 4096, .inl qf)), (cw, .inl (cI, 258, .inl ((rdC dp pl sl mf qf kd mn cf).2.2.2)))] := hD
    refine lv_istore_n (lv' := [(1, .int ((rdC dp pl sl mf qf kd mn cf).1)), (0, .ref x)]) hx hb d_D_refusalHere_20 rfl hl (by decide) rfl (fun ls hl => ?_)
    refine lv_iload_n hx hb d_D_refusalHere_21 rfl (lv_at hl 0 rfl) ?_
    refine lv_if_eq (tgt := 27) hx hb d_D_refusalHere_22 (by decide) (fun c_54 => ?_) (fun c_54 => ?_)
    · refine lv_aload_n hx hb d_D_refusalHere_27 rfl (lv_at hl 1 rfl) ?_
      refine va_get (D := (dC, dI)) (ci := 3) (v := .ref co) (C := R_D) (T := F_D) (N := 8) hx hb ht tu_D hown hK hP 3 rfl rfl 3 (by decide) (ht _ tw_179) (fun _ h9 => h9) rfl d_D_refusalHere_28 ?_
      refine rcV (As := []) (rest := []) (c_C_valuesMayBe l dC dI tb co cw ((rdC dp pl sl mf qf kd mn cf).2.1) ((rdC dp pl sl mf qf kd mn cf).2.2.1) ((rdC dp pl sl mf qf kd mn cf).2.2.2) cI ) F tw_417 tw_32 tw_415 tw_416 tw_414 hP [5, 8] rfl hK [0] rfl hE hS (q0 := 5) rfl rfl hd_C_valuesMayBe rfl rfl ⟨Nat.le_of_ble_eq_true rfl, Nat.le_of_ble_eq_true rfl⟩ ⟨Nat.le_of_ble_eq_true rfl, Nat.le_of_ble_eq_true rfl⟩ hl.1 rfl (Nat.le_of_ble_eq_true rfl) d_D_refusalHere_31 ?_
      refine lv_if_ne (tgt := 39) hx hb d_D_refusalHere_34 (by decide) (fun c_55 => ?_) (fun c_55 => ?_)
      · refine lv_aload_n hx hb d_D_refusalHere_39 rfl (lv_at hl 1 rfl) ?_
        refine rcV (As := []) (rest := []) (c_D_placesAreThere l dC dI tb x me sm to co ru sl fw fh cw ((rdC dp pl sl mf qf kd mn cf).2.1) ((rdC dp pl sl mf qf kd mn cf).2.2.1) ((rdC dp pl sl mf qf kd mn cf).2.2.2) cI ) F tw_430 tw_28 tw_429 tw_10 tw_427 hP [3, 5, 8] rfl hK [0] rfl hE hS (q0 := 3) rfl rfl hd_D_placesAreThere rfl rfl ⟨Nat.le_of_ble_eq_true rfl, Nat.le_of_ble_eq_true rfl⟩ ⟨Nat.le_of_ble_eq_true rfl, Nat.le_of_ble_eq_true rfl⟩ hl.1 rfl (Nat.le_of_ble_eq_true rfl) d_D_refusalHere_40 ?_
        refine lv_if_ne (tgt := 48) hx hb d_D_refusalHere_43 (by decide) (fun c_56 => ?_) (fun c_56 => ?_)
        · refine lv_aload_n hx hb d_D_refusalHere_48 rfl (lv_at hl 1 rfl) ?_
          refine rcV (As := []) (rest := []) (c_D_stateAllows l dC dI tb x me sm to co ru sl fw fh bk pl dp lp ld dn rf qu ov cw ((rdC dp pl sl mf qf kd mn cf).2.1) ((rdC dp pl sl mf qf kd mn cf).2.2.1) ((rdC dp pl sl mf qf kd mn cf).2.2.2) cI sa wa sf wf ) F tw_438 tw_28 tw_437 tw_11 tw_435 hP [3, 4, 5, 8, 0, 1, 2] rfl hK [0] rfl hE hS (q0 := 3) rfl rfl hd_D_stateAllows rfl rfl ⟨Nat.le_of_ble_eq_true rfl, Nat.le_of_ble_eq_true rfl⟩ ⟨Nat.le_of_ble_eq_true rfl, Nat.le_of_ble_eq_true rfl⟩ hl.1 rfl (Nat.le_of_ble_eq_true rfl) d_D_refusalHere_49 ?_
          refine lv_if_eq (tgt := 59) hx hb d_D_refusalHere_52 (by decide) (fun c_57 => ?_) (fun c_57 => ?_)
          · refine lv_bipush (v := 6) hx hb d_D_refusalHere_59 (by decide) ?_
            have hP9 := hP.sub (ws' := [(x, .inr (3, [.ref me, .ref sm, .ref to, .ref co, .ref ru, .int sl, .int fw, .int fh])), (ru, .inr (1, [.ref bk, .int pl, .int dp, .int lp, .int ld, .int dn, .int rf, .int qu, .int ov])), (co, .inr (0, [.ref cw, .int ((rdC dp pl sl mf qf kd mn cf).2.1), .int ((rdC dp pl sl mf qf kd mn cf).2.2.1)])), (me, .inl (cI, 4096, .inl mf)), (sm, .inl (cI, 4096, .inl qf)), (cw, .inl (cI, 258, .inl ((rdC dp pl sl mf qf kd mn cf).2.2.2))), (to, .inr (2, [.ref sa, .ref wa])), (sa, .inl (cI, 26, .inl sf)), (wa, .inl (cI, 303, .inl wf))]) [3, 4, 5, 6, 7, 8, 0, 1, 2] rfl
            have hD9 := hD.sub (ws' := [(x, .inr (3, [.ref me, .ref sm, .ref to, .ref co, .ref ru, .int sl, .int fw, .int fh])), (ru, .inr (1, [.ref bk, .int pl, .int dp, .int lp, .int ld, .int dn, .int rf, .int qu, .int ov])), (co, .inr (0, [.ref cw, .int ((rdC dp pl sl mf qf kd mn cf).2.1), .int ((rdC dp pl sl mf qf kd mn cf).2.2.1)])), (me, .inl (cI, 4096, .inl mf)), (sm, .inl (cI, 4096, .inl qf)), (cw, .inl (cI, 258, .inl ((rdC dp pl sl mf qf kd mn cf).2.2.2))), (to, .inr (2, [.ref sa, .ref wa])), (sa, .inl (cI, 26, .inl sf)), (wa, .inl (cI, 303, .inl wf))]) [3, 4, 5, 6, 7, 8, 0, 1, 2] (by decide) rfl
            exact W.iret hx hb hr (fun t ht9 hW => ⟨⟨_, (), rfl, by simp only [rfH, if_pos c_53, if_pos c_54, if_neg c_55, if_neg c_56, if_pos c_57], by rw [ht9]; simp only [rfC, if_pos c_53]; exact hP9, va_K.moved hW.alike hK, by rw [hAe]; simp only [rfC, if_pos c_53]; exact hD9⟩, hS.F ht9⟩) hS.2.2 d_D_refusalHere_61
          · refine lv_iconst (v := 0) hx hb d_D_refusalHere_55 (by decide) ?_
            refine lv_goto (tgt := 61) hx hb d_D_refusalHere_56 (by decide) ?_
            have hP9 := hP.sub (ws' := [(x, .inr (3, [.ref me, .ref sm, .ref to, .ref co, .ref ru, .int sl, .int fw, .int fh])), (ru, .inr (1, [.ref bk, .int pl, .int dp, .int lp, .int ld, .int dn, .int rf, .int qu, .int ov])), (co, .inr (0, [.ref cw, .int ((rdC dp pl sl mf qf kd mn cf).2.1), .int ((rdC dp pl sl mf qf kd mn cf).2.2.1)])), (me, .inl (cI, 4096, .inl mf)), (sm, .inl (cI, 4096, .inl qf)), (cw, .inl (cI, 258, .inl ((rdC dp pl sl mf qf kd mn cf).2.2.2))), (to, .inr (2, [.ref sa, .ref wa])), (sa, .inl (cI, 26, .inl sf)), (wa, .inl (cI, 303, .inl wf))]) [3, 4, 5, 6, 7, 8, 0, 1, 2] rfl
            have hD9 := hD.sub (ws' := [(x, .inr (3, [.ref me, .ref sm, .ref to, .ref co, .ref ru, .int sl, .int fw, .int fh])), (ru, .inr (1, [.ref bk, .int pl, .int dp, .int lp, .int ld, .int dn, .int rf, .int qu, .int ov])), (co, .inr (0, [.ref cw, .int ((rdC dp pl sl mf qf kd mn cf).2.1), .int ((rdC dp pl sl mf qf kd mn cf).2.2.1)])), (me, .inl (cI, 4096, .inl mf)), (sm, .inl (cI, 4096, .inl qf)), (cw, .inl (cI, 258, .inl ((rdC dp pl sl mf qf kd mn cf).2.2.2))), (to, .inr (2, [.ref sa, .ref wa])), (sa, .inl (cI, 26, .inl sf)), (wa, .inl (cI, 303, .inl wf))]) [3, 4, 5, 6, 7, 8, 0, 1, 2] (by decide) rfl
            exact W.iret hx hb hr (fun t ht9 hW => ⟨⟨_, (), rfl, by simp only [rfH, if_pos c_53, if_pos c_54, if_neg c_55, if_neg c_56, if_neg c_57], by rw [ht9]; simp only [rfC, if_pos c_53]; exact hP9, va_K.moved hW.alike hK, by rw [hAe]; simp only [rfC, if_pos c_53]; exact hD9⟩, hS.F ht9⟩) hS.2.2 d_D_refusalHere_61
        · refine lv_iconst (v := 5) hx hb d_D_refusalHere_46 (by decide) ?_
          have hP9 := hP.sub (ws' := [(x, .inr (3, [.ref me, .ref sm, .ref to, .ref co, .ref ru, .int sl, .int fw, .int fh])), (ru, .inr (1, [.ref bk, .int pl, .int dp, .int lp, .int ld, .int dn, .int rf, .int qu, .int ov])), (co, .inr (0, [.ref cw, .int ((rdC dp pl sl mf qf kd mn cf).2.1), .int ((rdC dp pl sl mf qf kd mn cf).2.2.1)])), (me, .inl (cI, 4096, .inl mf)), (sm, .inl (cI, 4096, .inl qf)), (cw, .inl (cI, 258, .inl ((rdC dp pl sl mf qf kd mn cf).2.2.2))), (to, .inr (2, [.ref sa, .ref wa])), (sa, .inl (cI, 26, .inl sf)), (wa, .inl (cI, 303, .inl wf))]) [3, 4, 5, 6, 7, 8, 0, 1, 2] rfl
          have hD9 := hD.sub (ws' := [(x, .inr (3, [.ref me, .ref sm, .ref to, .ref co, .ref ru, .int sl, .int fw, .int fh])), (ru, .inr (1, [.ref bk, .int pl, .int dp, .int lp, .int ld, .int dn, .int rf, .int qu, .int ov])), (co, .inr (0, [.ref cw, .int ((rdC dp pl sl mf qf kd mn cf).2.1), .int ((rdC dp pl sl mf qf kd mn cf).2.2.1)])), (me, .inl (cI, 4096, .inl mf)), (sm, .inl (cI, 4096, .inl qf)), (cw, .inl (cI, 258, .inl ((rdC dp pl sl mf qf kd mn cf).2.2.2))), (to, .inr (2, [.ref sa, .ref wa])), (sa, .inl (cI, 26, .inl sf)), (wa, .inl (cI, 303, .inl wf))]) [3, 4, 5, 6, 7, 8, 0, 1, 2] (by decide) rfl
          exact W.iret hx hb hr (fun t ht9 hW => ⟨⟨_, (), rfl, by simp only [rfH, if_pos c_53, if_pos c_54, if_neg c_55, if_pos c_56], by rw [ht9]; simp only [rfC, if_pos c_53]; exact hP9, va_K.moved hW.alike hK, by rw [hAe]; simp only [rfC, if_pos c_53]; exact hD9⟩, hS.F ht9⟩) hS.2.2 d_D_refusalHere_47
      · refine lv_iconst (v := 3) hx hb d_D_refusalHere_37 (by decide) ?_
        have hP9 := hP.sub (ws' := [(x, .inr (3, [.ref me, .ref sm, .ref to, .ref co, .ref ru, .int sl, .int fw, .int fh])), (ru, .inr (1, [.ref bk, .int pl, .int dp, .int lp, .int ld, .int dn, .int rf, .int qu, .int ov])), (co, .inr (0, [.ref cw, .int ((rdC dp pl sl mf qf kd mn cf).2.1), .int ((rdC dp pl sl mf qf kd mn cf).2.2.1)])), (me, .inl (cI, 4096, .inl mf)), (sm, .inl (cI, 4096, .inl qf)), (cw, .inl (cI, 258, .inl ((rdC dp pl sl mf qf kd mn cf).2.2.2))), (to, .inr (2, [.ref sa, .ref wa])), (sa, .inl (cI, 26, .inl sf)), (wa, .inl (cI, 303, .inl wf))]) [3, 4, 5, 6, 7, 8, 0, 1, 2] rfl
        have hD9 := hD.sub (ws' := [(x, .inr (3, [.ref me, .ref sm, .ref to, .ref co, .ref ru, .int sl, .int fw, .int fh])), (ru, .inr (1, [.ref bk, .int pl, .int dp, .int lp, .int ld, .int dn, .int rf, .int qu, .int ov])), (co, .inr (0, [.ref cw, .int ((rdC dp pl sl mf qf kd mn cf).2.1), .int ((rdC dp pl sl mf qf kd mn cf).2.2.1)])), (me, .inl (cI, 4096, .inl mf)), (sm, .inl (cI, 4096, .inl qf)), (cw, .inl (cI, 258, .inl ((rdC dp pl sl mf qf kd mn cf).2.2.2))), (to, .inr (2, [.ref sa, .ref wa])), (sa, .inl (cI, 26, .inl sf)), (wa, .inl (cI, 303, .inl wf))]) [3, 4, 5, 6, 7, 8, 0, 1, 2] (by decide) rfl
        exact W.iret hx hb hr (fun t ht9 hW => ⟨⟨_, (), rfl, by simp only [rfH, if_pos c_53, if_pos c_54, if_pos c_55], by rw [ht9]; simp only [rfC, if_pos c_53]; exact hP9, va_K.moved hW.alike hK, by rw [hAe]; simp only [rfC, if_pos c_53]; exact hD9⟩, hS.F ht9⟩) hS.2.2 d_D_refusalHere_38
    · refine lv_iload_n hx hb d_D_refusalHere_25 rfl (lv_at hl 0 rfl) ?_
      have hP9 := hP.sub (ws' := [(x, .inr (3, [.ref me, .ref sm, .ref to, .ref co, .ref ru, .int sl, .int fw, .int fh])), (ru, .inr (1, [.ref bk, .int pl, .int dp, .int lp, .int ld, .int dn, .int rf, .int qu, .int ov])), (co, .inr (0, [.ref cw, .int ((rdC dp pl sl mf qf kd mn cf).2.1), .int ((rdC dp pl sl mf qf kd mn cf).2.2.1)])), (me, .inl (cI, 4096, .inl mf)), (sm, .inl (cI, 4096, .inl qf)), (cw, .inl (cI, 258, .inl ((rdC dp pl sl mf qf kd mn cf).2.2.2))), (to, .inr (2, [.ref sa, .ref wa])), (sa, .inl (cI, 26, .inl sf)), (wa, .inl (cI, 303, .inl wf))]) [3, 4, 5, 6, 7, 8, 0, 1, 2] rfl
      have hD9 := hD.sub (ws' := [(x, .inr (3, [.ref me, .ref sm, .ref to, .ref co, .ref ru, .int sl, .int fw, .int fh])), (ru, .inr (1, [.ref bk, .int pl, .int dp, .int lp, .int ld, .int dn, .int rf, .int qu, .int ov])), (co, .inr (0, [.ref cw, .int ((rdC dp pl sl mf qf kd mn cf).2.1), .int ((rdC dp pl sl mf qf kd mn cf).2.2.1)])), (me, .inl (cI, 4096, .inl mf)), (sm, .inl (cI, 4096, .inl qf)), (cw, .inl (cI, 258, .inl ((rdC dp pl sl mf qf kd mn cf).2.2.2))), (to, .inr (2, [.ref sa, .ref wa])), (sa, .inl (cI, 26, .inl sf)), (wa, .inl (cI, 303, .inl wf))]) [3, 4, 5, 6, 7, 8, 0, 1, 2] (by decide) rfl
      exact W.iret hx hb hr (fun t ht9 hW => ⟨⟨_, (), rfl, by simp only [rfH, if_pos c_53, if_neg c_54], by rw [ht9]; simp only [rfC, if_pos c_53]; exact hP9, va_K.moved hW.alike hK, by rw [hAe]; simp only [rfC, if_pos c_53]; exact hD9⟩, hS.F ht9⟩) hS.2.2 d_D_refusalHere_26
  · refine lv_bipush (v := 7) hx hb d_D_refusalHere_13 (by decide) ?_
    have hP9 := hP.sub (ws' := [(x, .inr (3, [.ref me, .ref sm, .ref to, .ref co, .ref ru, .int sl, .int fw, .int fh])), (ru, .inr (1, [.ref bk, .int pl, .int dp, .int lp, .int ld, .int dn, .int rf, .int qu, .int ov])), (co, .inr (0, [.ref cw, .int kd, .int mn])), (me, .inl (cI, 4096, .inl mf)), (sm, .inl (cI, 4096, .inl qf)), (cw, .inl (cI, 258, .inl cf)), (to, .inr (2, [.ref sa, .ref wa])), (sa, .inl (cI, 26, .inl sf)), (wa, .inl (cI, 303, .inl wf))]) [0, 1, 2, 3, 4, 5, 6, 7, 8] rfl
    have hD9 := hD.sub (ws' := [(x, .inr (3, [.ref me, .ref sm, .ref to, .ref co, .ref ru, .int sl, .int fw, .int fh])), (ru, .inr (1, [.ref bk, .int pl, .int dp, .int lp, .int ld, .int dn, .int rf, .int qu, .int ov])), (co, .inr (0, [.ref cw, .int kd, .int mn])), (me, .inl (cI, 4096, .inl mf)), (sm, .inl (cI, 4096, .inl qf)), (cw, .inl (cI, 258, .inl cf)), (to, .inr (2, [.ref sa, .ref wa])), (sa, .inl (cI, 26, .inl sf)), (wa, .inl (cI, 303, .inl wf))]) [0, 1, 2, 3, 4, 5, 6, 7, 8] (by decide) rfl
    exact W.iret hx hb hr (fun t ht9 hW => ⟨⟨_, (), rfl, by simp only [rfH, if_neg c_53], by rw [ht9]; simp only [rfC, if_neg c_53]; exact hP9, va_K.moved hW.alike hK, by rw [hAe]; simp only [rfC, if_neg c_53]; exact hD9⟩, hS.F ht9⟩) hS.2.2 d_D_refusalHere_15
set_option maxHeartbeats 4000000 in
set_option maxRecDepth 100000 in
theorem c_D_storeWords (l : Launch) (dC : Nat → ClassId) (dI : Nat → Nat → Nat) (tb : tbT) (x me sm to co ru : Nat) (sl fw fh : Int32) (cw : Nat) (kd mn : Int32) (cf : IF) (cI : ClassId) (mf : IF) (sz : Nat) : MV l y_D_storeWords (Cond.code y_D_storeWords b_D_storeWords 3 none :: TB) ({ frames := 2, cells := 0, slots := 0, locals := 42 }) tb (dC, dI) [.ref x] [(x, .inr (3, [.ref me, .ref sm, .ref to, .ref co, .ref ru, .int sl, .int fw, .int fh])), (co, .inr (0, [.ref cw, .int kd, .int mn])), (cw, .inl (cI, 258, .inl cf)), (me, .inl (cI, 4096, .inl mf))] [(x, .inr (3, [.ref me, .ref sm, .ref to, .ref co, .ref ru, .int sl, .int fw, .int fh])), (co, .inr (0, [.ref cw, .int kd, .int mn])), (cw, .inl (cI, 258, .inl cf)), (me, .inl (cI, 4096, .inl (stW cf mf)))] [(cI, .int)] sz := by
  refine Met.ofW (cc := b_D_storeWords) (maxL := 3) (ret := none) (by decide) rfl ?_
  intro p e s m args below meth c s₁ B hml hv
  obtain ⟨rfl, hsz, hP, hK, hD0, hE⟩ := hv
  have hx := B.exec
  have hb := B.bytes
  have hr := B.returns
  have ht := fun w (h : w ∈ TB) => atoms_spec (ws := Cond.code y_D_storeWords b_D_storeWords 3 none :: TB) B.pre w (List.mem_cons_of_mem _ h)
  have hown : s.vm.findClass R_D = some m.cls := findClass_of_methodNamed B.named
  have hlocks := B.notSynchronized
  subst hsz
  have hD := hD0.self (sz := s.heap.size)
  generalize hAe : va_A [(x, .inr (3, [.ref me, .ref sm, .ref to, .ref co, .ref ru, .int sl, .int fw, .int fh])), (co, .inr (0, [.ref cw, .int kd, .int mn])), (cw, .inl (cI, 258, .inl cf)), (me, .inl (cI, 4096, .inl mf))] s.heap.size = A at hD hE ⊢
  have hA : ∀ q : Nat, s.heap.size ≤ q → A q := fun q h => by rw [← hAe]; exact Or.inr h
  have hS : va_S A s.heap s.heap [] := va_S.rf
  have F : CallFix p m c b_D_storeWords 3 s _ TB R_D := ⟨hx, hb, hml, hown, ht⟩
  have hl := lv_entry ([.ref x]) (n := 3) (Nat.le_of_ble_eq_true rfl)
  rw [lg_entry_eq]
  generalize (lg_sl ([.ref x]) ++ List.replicate (3 - (lg_sl ([.ref x])).length) Slot.unset).toArray = ls at hl ⊢
  have hl : lv_has ls 3 [(0, .ref x)] := hl
  refine lv_aload_n hx hb d_D_storeWords_0 rfl (lv_at hl 0 rfl) ?_
  refine va_get (D := (dC, dI)) (ci := 3) (v := .ref co) (C := R_D) (T := F_D) (N := 8) hx hb ht tu_D hown hK hP 0 rfl rfl 3 (by decide) (ht _ tw_179) (fun _ h9 => h9) rfl d_D_storeWords_1 ?_
  refine lv_iconst (v := 1) hx hb d_D_storeWords_4 (by decide) ?_
  refine rcV (As := [.int 1]) (rest := []) (c_C_at l dC dI tb co cw kd mn cf cI 1 ) F tw_422 tw_32 tw_420 tw_421 tw_431 hP [1, 2] rfl hK [0] rfl hE hS (q0 := 1) rfl rfl hd_C_at rfl rfl ⟨Nat.le_of_ble_eq_true rfl, Nat.le_of_ble_eq_true rfl⟩ ⟨Nat.le_of_ble_eq_true rfl, Nat.le_of_ble_eq_true rfl⟩ hl.1 rfl (Nat.le_of_ble_eq_true rfl) d_D_storeWords_5 ?_
  refine lv_istore_n (lv' := [(1, .int (rdA 258 cf 1)), (0, .ref x)]) hx hb d_D_storeWords_8 rfl hl (by decide) rfl (fun ls hl => ?_)
  refine lv_iconst (v := 0) hx hb d_D_storeWords_9 (by decide) ?_
  refine lv_istore_n (lv' := [(2, .int 0), (1, .int (rdA 258 cf 1)), (0, .ref x)]) hx hb d_D_storeWords_10 rfl hl (by decide) rfl (fun ls hl => ?_)
  refine lp_W (N := (rdA 258 cf 1).toNatClampNeg) (head := 11) (I := fun i H locs ls => va_P (dC, dI) clX [(x, .inr (3, [.ref me, .ref sm, .ref to, .ref co, .ref ru, .int sl, .int fw, .int fh])), (co, .inr (0, [.ref cw, .int kd, .int mn])), (cw, .inl (cI, 258, .inl cf)), (me, .inl (cI, 4096, .inl (itN (fun j m => wrA 4096 m (rdA 258 cf 0 + nI j) (rdA 258 cf (2 + nI j))) i mf)))] H ∧ va_D A [(x, .inr (3, [.ref me, .ref sm, .ref to, .ref co, .ref ru, .int sl, .int fw, .int fh])), (co, .inr (0, [.ref cw, .int kd, .int mn])), (cw, .inl (cI, 258, .inl cf)), (me, .inl (cI, 4096, .inl (itN (fun j m => wrA 4096 m (rdA 258 cf 0 + nI j) (rdA 258 cf (2 + nI j))) i mf)))] ∧ va_S A s.heap H locs ∧ lv_has ls 3 [(2, .int (nI i)), (1, .int (rdA 258 cf 1)), (0, .ref x)]) ?_ ?_ 0 (Nat.zero_le _) ⟨hP, hD, hS, lv_sub hl [0, 1, 2] rfl⟩
  · intro i H locs ls hi_i hI0 kk_i
    obtain ⟨hP, hD, hS, hl⟩ := hI0
    refine lv_iload_n hx hb d_D_storeWords_11 rfl (lv_at hl 0 rfl) ?_
    refine lv_iload_n hx hb d_D_storeWords_12 rfl (lv_at hl 1 rfl) ?_
    refine lv_icmp_ge (tgt := 49) hx hb d_D_storeWords_13 (by decide) (fun c_58 => ?_) (fun c_58 => ?_)
    · exact absurd c_58 (lp_lt hi_i)
    · refine lv_aload_n hx hb d_D_storeWords_16 rfl (lv_at hl 2 rfl) ?_
      refine va_get (D := (dC, dI)) (ci := 3) (v := .ref me) (C := R_D) (T := F_D) (N := 8) hx hb ht tu_D hown hK hP 0 rfl rfl 0 (by decide) (ht _ tw_176) (fun _ h9 => h9) rfl d_D_storeWords_17 ?_
      refine lv_aload_n hx hb d_D_storeWords_20 rfl (lv_at hl 2 rfl) ?_
      refine va_get (D := (dC, dI)) (ci := 3) (v := .ref co) (C := R_D) (T := F_D) (N := 8) hx hb ht tu_D hown hK hP 0 rfl rfl 3 (by decide) (ht _ tw_179) (fun _ h9 => h9) rfl d_D_storeWords_21 ?_
      refine lv_iconst (v := 0) hx hb d_D_storeWords_24 (by decide) ?_
      refine rcV (As := [.int 0]) (rest := [.ref me]) (c_C_at l dC dI tb co cw kd mn cf cI 0 ) F tw_422 tw_32 tw_420 tw_421 tw_431 hP [1, 2] rfl hK [0] rfl hE hS (q0 := 1) rfl rfl hd_C_at rfl rfl ⟨Nat.le_of_ble_eq_true rfl, Nat.le_of_ble_eq_true rfl⟩ ⟨Nat.le_of_ble_eq_true rfl, Nat.le_of_ble_eq_true rfl⟩ hl.1 rfl (Nat.le_of_ble_eq_true rfl) d_D_storeWords_25 ?_
      refine lv_iload_n hx hb d_D_storeWords_28 rfl (lv_at hl 0 rfl) ?_
      refine lv_iadd hx hb d_D_storeWords_29 ?_
      refine lv_aload_n hx hb d_D_storeWords_30 rfl (lv_at hl 2 rfl) ?_
      refine va_get (D := (dC, dI)) (ci := 3) (v := .ref co) (C := R_D) (T := F_D) (N := 8) hx hb ht tu_D hown hK hP 0 rfl rfl 3 (by decide) (ht _ tw_179) (fun _ h9 => h9) rfl d_D_storeWords_31 ?_
      refine lv_iconst (v := 2) hx hb d_D_storeWords_34 (by decide) ?_
      refine lv_iload_n hx hb d_D_storeWords_35 rfl (lv_at hl 0 rfl) ?_
      refine lv_iadd hx hb d_D_storeWords_36 ?_
      refine rcV (As := [.int (2 + (nI i))]) (rest := [.int ((rdA 258 cf 0) + (nI i)), .ref me]) (c_C_at l dC dI tb co cw kd mn cf cI (2 + (nI i)) ) F tw_422 tw_32 tw_420 tw_421 tw_431 hP [1, 2] rfl hK [0] rfl hE hS (q0 := 1) rfl rfl hd_C_at rfl rfl ⟨Nat.le_of_ble_eq_true rfl, Nat.le_of_ble_eq_true rfl⟩ ⟨Nat.le_of_ble_eq_true rfl, Nat.le_of_ble_eq_true rfl⟩ hl.1 rfl (Nat.le_of_ble_eq_true rfl) d_D_storeWords_37 ?_
      refine mcSv (As := [.ref me, .int ((rdA 258 cf 0) + (nI i)), .int (rdA 258 cf (2 + (nI i)))]) (rest := []) (wr := [(x, .inr (3, [.ref me, .ref sm, .ref to, .ref co, .ref ru, .int sl, .int fw, .int fh])), (co, .inr (0, [.ref cw, .int kd, .int mn])), (cw, .inl (cI, 258, .inl cf))]) (c_D_write l dC dI tb me 4096 (itN (fun j m => wrA 4096 m (rdA 258 cf 0 + nI j) (rdA 258 cf (2 + nI j))) i mf) cI ((rdA 258 cf 0) + (nI i)) (rdA 258 cf (2 + (nI i))) (by decide)) F tw_58 tw_28 tw_57 tw_301 hP hD [3] [0, 1, 2] rfl rfl (by decide) (by decide) (by decide) hK [0] rfl hE hS hA hd_D_write rfl rfl ⟨Nat.le_of_ble_eq_true rfl, Nat.le_of_ble_eq_true rfl⟩ ⟨Nat.le_of_ble_eq_true rfl, Nat.le_of_ble_eq_true rfl⟩ hl.1 rfl (Nat.le_of_ble_eq_true rfl) d_D_storeWords_40 (fun H locs hP hD hS => ?_)
      have hP : va_P (dC, dI) clX [(x, .inr (3, [.ref me, .ref sm, .ref to, .ref co, .ref ru, .int sl, .int fw, .int fh])), (co, .inr (0, [.ref cw, .int kd, .int mn])), (cw, .inl (cI, 258, .inl cf)), (me, .inl (cI, 4096, .inl (wrA 4096 (itN (fun j m => wrA 4096 m (rdA 258 cf 0 + nI j) (rdA 258 cf (2 + nI j))) i mf) ((rdA 258 cf 0) + (nI i)) (rdA 258 cf (2 + (nI i))))))] H := hP
      have hD : va_D A [(x, .inr (3, [.ref me, .ref sm, .ref to, .ref co, .ref ru, .int sl, .int fw, .int fh])), (co, .inr (0, [.ref cw, .int kd, .int mn])), (cw, .inl (cI, 258, .inl cf)), (me, .inl (cI, 4096, .inl (wrA 4096 (itN (fun j m => wrA 4096 m (rdA 258 cf 0 + nI j) (rdA 258 cf (2 + nI j))) i mf) ((rdA 258 cf 0) + (nI i)) (rdA 258 cf (2 + (nI i))))))] := hD
      refine lv_iinc (v := ((nI i) + 1)) (lv' := [(2, .int ((nI i) + 1)), (1, .int (rdA 258 cf 1)), (0, .ref x)]) hx hb d_D_storeWords_43 hl (k := 0) rfl rfl (by decide) rfl (fun ls hl => ?_)
      refine lv_goto (tgt := 11) hx hb d_D_storeWords_46 (by decide) ?_
      rw [nI_1] at hl
      exact kk_i _ _ _ ⟨hP.sub [0, 1, 2, 3] rfl, hD.sub [0, 1, 2, 3] (by decide) rfl, hS, lv_sub hl [0, 1, 2] rfl⟩
  · intro H locs ls hI0
    obtain ⟨hP, hD, hS, hl⟩ := hI0
    refine lv_iload_n hx hb d_D_storeWords_11 rfl (lv_at hl 0 rfl) ?_
    refine lv_iload_n hx hb d_D_storeWords_12 rfl (lv_at hl 1 rfl) ?_
    refine lv_icmp_ge (tgt := 49) hx hb d_D_storeWords_13 (by decide) (fun c_59 => ?_) (fun c_59 => ?_)
    · have hP9 := hP.sub (ws' := [(x, .inr (3, [.ref me, .ref sm, .ref to, .ref co, .ref ru, .int sl, .int fw, .int fh])), (co, .inr (0, [.ref cw, .int kd, .int mn])), (cw, .inl (cI, 258, .inl cf)), (me, .inl (cI, 4096, .inl (itN (fun j m => wrA 4096 m (rdA 258 cf 0 + nI j) (rdA 258 cf (2 + nI j))) ((rdA 258 cf 1).toNatClampNeg) mf)))]) [0, 1, 2, 3] rfl
      have hD9 := hD.sub (ws' := [(x, .inr (3, [.ref me, .ref sm, .ref to, .ref co, .ref ru, .int sl, .int fw, .int fh])), (co, .inr (0, [.ref cw, .int kd, .int mn])), (cw, .inl (cI, 258, .inl cf)), (me, .inl (cI, 4096, .inl (itN (fun j m => wrA 4096 m (rdA 258 cf 0 + nI j) (rdA 258 cf (2 + nI j))) ((rdA 258 cf 1).toNatClampNeg) mf)))]) [0, 1, 2, 3] (by decide) rfl
      exact W.vret hx hb hr (fun t ht9 hW => ⟨⟨(), rfl, trivial, by rw [ht9]; exact hP9, va_K.moved hW.alike hK, by rw [hAe]; exact hD9⟩, hS.F ht9⟩) hS.2.2 d_D_storeWords_49
    · exact absurd (lp_ge (rdA 258 cf 1)) c_59
set_option maxHeartbeats 4000000 in
set_option maxRecDepth 100000 in
theorem c_D_keepUniforms (l : Launch) (dC : Nat → ClassId) (dI : Nat → Nat → Nat) (tb : tbT) (x me sm to co ru : Nat) (sl fw fh : Int32) (cw : Nat) (kd mn : Int32) (cf : IF) (cI : ClassId) (mf : IF) (sa wa : Nat) (sf wf : IF) (sz : Nat) : MV l y_D_keepUniforms (Cond.code y_D_keepUniforms b_D_keepUniforms 6 none :: TB) ({ frames := 4, cells := 0, slots := 0, locals := 88 }) tb (dC, dI) [.ref x] [(x, .inr (3, [.ref me, .ref sm, .ref to, .ref co, .ref ru, .int sl, .int fw, .int fh])), (co, .inr (0, [.ref cw, .int kd, .int mn])), (cw, .inl (cI, 258, .inl cf)), (me, .inl (cI, 4096, .inl mf)), (to, .inr (2, [.ref sa, .ref wa])), (sa, .inl (cI, 26, .inl sf)), (wa, .inl (cI, 303, .inl wf))] [(x, .inr (3, [.ref me, .ref sm, .ref to, .ref co, .ref ru, .int sl, .int fw, .int fh])), (co, .inr (0, [.ref cw, .int kd, .int mn])), (cw, .inl (cI, 258, .inl cf)), (me, .inl (cI, 4096, .inl mf)), (to, .inr (2, [.ref sa, .ref wa])), (sa, .inl (cI, 26, .inl sf)), (wa, .inl (cI, 303, .inl (kuA sf mf cf wf)))] [(cI, .int)] sz := by
  refine Met.ofW (cc := b_D_keepUniforms) (maxL := 6) (ret := none) (by decide) rfl ?_
  intro p e s m args below meth c s₁ B hml hv
  obtain ⟨rfl, hsz, hP, hK, hD0, hE⟩ := hv
  have hx := B.exec
  have hb := B.bytes
  have hr := B.returns
  have ht := fun w (h : w ∈ TB) => atoms_spec (ws := Cond.code y_D_keepUniforms b_D_keepUniforms 6 none :: TB) B.pre w (List.mem_cons_of_mem _ h)
  have hown : s.vm.findClass R_D = some m.cls := findClass_of_methodNamed B.named
  have hlocks := B.notSynchronized
  subst hsz
  have hD := hD0.self (sz := s.heap.size)
  generalize hAe : va_A [(x, .inr (3, [.ref me, .ref sm, .ref to, .ref co, .ref ru, .int sl, .int fw, .int fh])), (co, .inr (0, [.ref cw, .int kd, .int mn])), (cw, .inl (cI, 258, .inl cf)), (me, .inl (cI, 4096, .inl mf)), (to, .inr (2, [.ref sa, .ref wa])), (sa, .inl (cI, 26, .inl sf)), (wa, .inl (cI, 303, .inl wf))] s.heap.size = A at hD hE ⊢
  have hA : ∀ q : Nat, s.heap.size ≤ q → A q := fun q h => by rw [← hAe]; exact Or.inr h
  have hS : va_S A s.heap s.heap [] := va_S.rf
  have F : CallFix p m c b_D_keepUniforms 6 s _ TB R_D := ⟨hx, hb, hml, hown, ht⟩
  have hl := lv_entry ([.ref x]) (n := 6) (Nat.le_of_ble_eq_true rfl)
  rw [lg_entry_eq]
  generalize (lg_sl ([.ref x]) ++ List.replicate (6 - (lg_sl ([.ref x])).length) Slot.unset).toArray = ls at hl ⊢
  have hl : lv_has ls 6 [(0, .ref x)] := hl
  refine lv_aload_n hx hb d_D_keepUniforms_0 rfl (lv_at hl 0 rfl) ?_
  refine va_get (D := (dC, dI)) (ci := 3) (v := .ref co) (C := R_D) (T := F_D) (N := 8) hx hb ht tu_D hown hK hP 0 rfl rfl 3 (by decide) (ht _ tw_179) (fun _ h9 => h9) rfl d_D_keepUniforms_1 ?_
  refine lv_iconst (v := 1) hx hb d_D_keepUniforms_4 (by decide) ?_
  refine rcV (As := [.int 1]) (rest := []) (c_C_at l dC dI tb co cw kd mn cf cI 1 ) F tw_422 tw_32 tw_420 tw_421 tw_431 hP [1, 2] rfl hK [0] rfl hE hS (q0 := 1) rfl rfl hd_C_at rfl rfl ⟨Nat.le_of_ble_eq_true rfl, Nat.le_of_ble_eq_true rfl⟩ ⟨Nat.le_of_ble_eq_true rfl, Nat.le_of_ble_eq_true rfl⟩ hl.1 rfl (Nat.le_of_ble_eq_true rfl) d_D_keepUniforms_5 ?_
  refine lv_istore_n (lv' := [(1, .int (rdA 258 cf 1)), (0, .ref x)]) hx hb d_D_keepUniforms_8 rfl hl (by decide) rfl (fun ls hl => ?_)
  refine lv_iconst (v := 0) hx hb d_D_keepUniforms_9 (by decide) ?_
  refine lv_istore_n (lv' := [(2, .int 0), (1, .int (rdA 258 cf 1)), (0, .ref x)]) hx hb d_D_keepUniforms_10 rfl hl (by decide) rfl (fun ls hl => ?_)
  refine lp_W (N := (rdA 258 cf 1).toNatClampNeg) (head := 11) (I := fun i H locs ls => va_P (dC, dI) clX [(x, .inr (3, [.ref me, .ref sm, .ref to, .ref co, .ref ru, .int sl, .int fw, .int fh])), (co, .inr (0, [.ref cw, .int kd, .int mn])), (cw, .inl (cI, 258, .inl cf)), (me, .inl (cI, 4096, .inl mf)), (to, .inr (2, [.ref sa, .ref wa])), (sa, .inl (cI, 26, .inl sf)), (wa, .inl (cI, 303, .inl (itN (fun i w => kuI sf mf (rdA 258 cf 0 + nI i) (rdA 258 cf 2 + 4 * nI i) w) i wf)))] H ∧ va_D A [(x, .inr (3, [.ref me, .ref sm, .ref to, .ref co, .ref ru, .int sl, .int fw, .int fh])), (co, .inr (0, [.ref cw, .int kd, .int mn])), (cw, .inl (cI, 258, .inl cf)), (me, .inl (cI, 4096, .inl mf)), (to, .inr (2, [.ref sa, .ref wa])), (sa, .inl (cI, 26, .inl sf)), (wa, .inl (cI, 303, .inl (itN (fun i w => kuI sf mf (rdA 258 cf 0 + nI i) (rdA 258 cf 2 + 4 * nI i) w) i wf)))] ∧ va_S A s.heap H locs ∧ lv_has ls 6 [(2, .int (nI i)), (1, .int (rdA 258 cf 1)), (0, .ref x)]) ?_ ?_ 0 (Nat.zero_le _) ⟨hP, hD, hS, lv_sub hl [0, 1, 2] rfl⟩
  · intro i H locs ls hi_i hI0 kk_i
    obtain ⟨hP, hD, hS, hl⟩ := hI0
    refine lv_iload_n hx hb d_D_keepUniforms_11 rfl (lv_at hl 0 rfl) ?_
    refine lv_iload_n hx hb d_D_keepUniforms_12 rfl (lv_at hl 1 rfl) ?_
    refine lv_icmp_ge (tgt := 87) hx hb d_D_keepUniforms_13 (by decide) (fun c_60 => ?_) (fun c_60 => ?_)
    · exact absurd c_60 (lp_lt hi_i)
    · refine lv_aload_n hx hb d_D_keepUniforms_16 rfl (lv_at hl 2 rfl) ?_
      refine va_get (D := (dC, dI)) (ci := 3) (v := .ref co) (C := R_D) (T := F_D) (N := 8) hx hb ht tu_D hown hK hP 0 rfl rfl 3 (by decide) (ht _ tw_179) (fun _ h9 => h9) rfl d_D_keepUniforms_17 ?_
      refine lv_iconst (v := 0) hx hb d_D_keepUniforms_20 (by decide) ?_
      refine rcV (As := [.int 0]) (rest := []) (c_C_at l dC dI tb co cw kd mn cf cI 0 ) F tw_422 tw_32 tw_420 tw_421 tw_431 hP [1, 2] rfl hK [0] rfl hE hS (q0 := 1) rfl rfl hd_C_at rfl rfl ⟨Nat.le_of_ble_eq_true rfl, Nat.le_of_ble_eq_true rfl⟩ ⟨Nat.le_of_ble_eq_true rfl, Nat.le_of_ble_eq_true rfl⟩ hl.1 rfl (Nat.le_of_ble_eq_true rfl) d_D_keepUniforms_21 ?_
      refine lv_iload_n hx hb d_D_keepUniforms_24 rfl (lv_at hl 0 rfl) ?_
      refine lv_iadd hx hb d_D_keepUniforms_25 ?_
      refine lv_istore_n (lv' := [(3, .int ((rdA 258 cf 0) + (nI i))), (2, .int (nI i)), (1, .int (rdA 258 cf 1)), (0, .ref x)]) hx hb d_D_keepUniforms_26 rfl hl (by decide) rfl (fun ls hl => ?_)
      refine lv_aload_n hx hb d_D_keepUniforms_27 rfl (lv_at hl 3 rfl) ?_
      refine va_get (D := (dC, dI)) (ci := 3) (v := .ref co) (C := R_D) (T := F_D) (N := 8) hx hb ht tu_D hown hK hP 0 rfl rfl 3 (by decide) (ht _ tw_179) (fun _ h9 => h9) rfl d_D_keepUniforms_28 ?_
      refine lv_iconst (v := 2) hx hb d_D_keepUniforms_31 (by decide) ?_
      refine rcV (As := [.int 2]) (rest := []) (c_C_at l dC dI tb co cw kd mn cf cI 2 ) F tw_422 tw_32 tw_420 tw_421 tw_431 hP [1, 2] rfl hK [0] rfl hE hS (q0 := 1) rfl rfl hd_C_at rfl rfl ⟨Nat.le_of_ble_eq_true rfl, Nat.le_of_ble_eq_true rfl⟩ ⟨Nat.le_of_ble_eq_true rfl, Nat.le_of_ble_eq_true rfl⟩ hl.1 rfl (Nat.le_of_ble_eq_true rfl) d_D_keepUniforms_32 ?_
      refine lv_iconst (v := 4) hx hb d_D_keepUniforms_35 (by decide) ?_
      refine lv_iload_n hx hb d_D_keepUniforms_36 rfl (lv_at hl 1 rfl) ?_
      refine lv_imul hx hb d_D_keepUniforms_37 ?_
      refine lv_iadd hx hb d_D_keepUniforms_38 ?_
      refine lv_istore (lv' := [(4, .int ((rdA 258 cf 2) + (4 * (nI i)))), (3, .int ((rdA 258 cf 0) + (nI i))), (2, .int (nI i)), (1, .int (rdA 258 cf 1)), (0, .ref x)]) hx hb d_D_keepUniforms_39 hl (by decide) rfl (fun ls hl => ?_)
      refine lv_iconst (v := 0) hx hb d_D_keepUniforms_41 (by decide) ?_
      refine lv_istore (lv' := [(5, .int 0), (4, .int ((rdA 258 cf 2) + (4 * (nI i)))), (3, .int ((rdA 258 cf 0) + (nI i))), (2, .int (nI i)), (1, .int (rdA 258 cf 1)), (0, .ref x)]) hx hb d_D_keepUniforms_42 hl (by decide) rfl (fun ls hl => ?_)
      refine lp_W (N := (4 : Int32).toNatClampNeg) (head := 44) (I := fun j H locs ls => va_P (dC, dI) clX [(x, .inr (3, [.ref me, .ref sm, .ref to, .ref co, .ref ru, .int sl, .int fw, .int fh])), (co, .inr (0, [.ref cw, .int kd, .int mn])), (cw, .inl (cI, 258, .inl cf)), (me, .inl (cI, 4096, .inl mf)), (to, .inr (2, [.ref sa, .ref wa])), (sa, .inl (cI, 26, .inl sf)), (wa, .inl (cI, 303, .inl (itN (fun j w => wrA 303 w (plc sf 5 (rdA 258 cf 0 + nI i) (nI j + 1)) (rdA 4096 mf (rdA 258 cf 2 + 4 * nI i + nI j))) j (itN (fun i w => kuI sf mf (rdA 258 cf 0 + nI i) (rdA 258 cf 2 + 4 * nI i) w) i wf))))] H ∧ va_D A [(x, .inr (3, [.ref me, .ref sm, .ref to, .ref co, .ref ru, .int sl, .int fw, .int fh])), (co, .inr (0, [.ref cw, .int kd, .int mn])), (cw, .inl (cI, 258, .inl cf)), (me, .inl (cI, 4096, .inl mf)), (to, .inr (2, [.ref sa, .ref wa])), (sa, .inl (cI, 26, .inl sf)), (wa, .inl (cI, 303, .inl (itN (fun j w => wrA 303 w (plc sf 5 (rdA 258 cf 0 + nI i) (nI j + 1)) (rdA 4096 mf (rdA 258 cf 2 + 4 * nI i + nI j))) j (itN (fun i w => kuI sf mf (rdA 258 cf 0 + nI i) (rdA 258 cf 2 + 4 * nI i) w) i wf))))] ∧ va_S A s.heap H locs ∧ lv_has ls 6 [(5, .int (nI j)), (4, .int ((rdA 258 cf 2) + (4 * (nI i)))), (3, .int ((rdA 258 cf 0) + (nI i))), (2, .int (nI i)), (1, .int (rdA 258 cf 1)), (0, .ref x)]) ?_ ?_ 0 (Nat.zero_le _) ⟨hP, hD, hS, lv_sub hl [0, 1, 2, 3, 4, 5] rfl⟩
      · intro j H locs ls hi_j hI0 kk_j
        obtain ⟨hP, hD, hS, hl⟩ := hI0
        refine lv_iload hx hb d_D_keepUniforms_44 (lv_at hl 0 rfl) ?_
        refine lv_iconst (v := 4) hx hb d_D_keepUniforms_46 (by decide) ?_
        refine lv_icmp_ge (tgt := 81) hx hb d_D_keepUniforms_47 (by decide) (fun c_61 => ?_) (fun c_61 => ?_)
        · exact absurd c_61 (lp_lt hi_j)
        · refine lv_aload_n hx hb d_D_keepUniforms_50 rfl (lv_at hl 5 rfl) ?_
          refine va_get (D := (dC, dI)) (ci := 3) (v := .ref to) (C := R_D) (T := F_D) (N := 8) hx hb ht tu_D hown hK hP 0 rfl rfl 2 (by decide) (ht _ tw_178) (fun _ h9 => h9) rfl d_D_keepUniforms_51 ?_
          refine lv_iconst (v := 5) hx hb d_D_keepUniforms_54 (by decide) ?_
          refine lv_iload_n hx hb d_D_keepUniforms_55 rfl (lv_at hl 2 rfl) ?_
          refine lv_iload hx hb d_D_keepUniforms_56 (lv_at hl 0 rfl) ?_
          refine lv_iconst (v := 1) hx hb d_D_keepUniforms_58 (by decide) ?_
          refine lv_iadd hx hb d_D_keepUniforms_59 ?_
          refine lv_aload_n hx hb d_D_keepUniforms_60 rfl (lv_at hl 5 rfl) ?_
          refine va_get (D := (dC, dI)) (ci := 3) (v := .ref me) (C := R_D) (T := F_D) (N := 8) hx hb ht tu_D hown hK hP 0 rfl rfl 0 (by decide) (ht _ tw_176) (fun _ h9 => h9) rfl d_D_keepUniforms_61 ?_
          refine lv_iload hx hb d_D_keepUniforms_64 (lv_at hl 1 rfl) ?_
          refine lv_iload hx hb d_D_keepUniforms_66 (lv_at hl 0 rfl) ?_
          refine lv_iadd hx hb d_D_keepUniforms_68 ?_
          refine rcS (As := [.ref me, .int (((rdA 258 cf 2) + (4 * (nI i))) + (nI j))]) (rest := [.int ((nI j) + 1), .int ((rdA 258 cf 0) + (nI i)), .int 5, .ref to]) (c_D_read l dC dI tb me 4096 mf cI (((rdA 258 cf 2) + (4 * (nI i))) + (nI j)) (by decide)) F tw_66 tw_28 tw_65 tw_300 hP [3] rfl hK [0] rfl hE hS hd_D_read rfl rfl ⟨Nat.le_of_ble_eq_true rfl, Nat.le_of_ble_eq_true rfl⟩ ⟨Nat.le_of_ble_eq_true rfl, Nat.le_of_ble_eq_true rfl⟩ hl.1 rfl (Nat.le_of_ble_eq_true rfl) d_D_keepUniforms_69 ?_
          refine mcVv (As := [.int 5, .int ((rdA 258 cf 0) + (nI i)), .int ((nI j) + 1), .int (rdA 4096 mf (((rdA 258 cf 2) + (4 * (nI i))) + (nI j)))]) (rest := []) (wr := [(x, .inr (3, [.ref me, .ref sm, .ref to, .ref co, .ref ru, .int sl, .int fw, .int fh])), (co, .inr (0, [.ref cw, .int kd, .int mn])), (cw, .inl (cI, 258, .inl cf)), (me, .inl (cI, 4096, .inl mf))]) (c_T_set l dC dI tb to sa wa sf cI (itN (fun j w => wrA 303 w (plc sf 5 (rdA 258 cf 0 + nI i) (nI j + 1)) (rdA 4096 mf (rdA 258 cf 2 + 4 * nI i + nI j))) j (itN (fun i w => kuI sf mf (rdA 258 cf 0 + nI i) (rdA 258 cf 2 + 4 * nI i) w) i wf)) 5 ((rdA 258 cf 0) + (nI i)) ((nI j) + 1) (rdA 4096 mf (((rdA 258 cf 2) + (4 * (nI i))) + (nI j))) ) F tw_471 tw_29 tw_469 tw_470 tw_468 hP hD [4, 5, 6] [0, 1, 2, 3] rfl rfl (by decide) (by decide) (by decide) hK [0] rfl hE hS hA (q0 := 4) rfl rfl hd_T_set rfl rfl ⟨Nat.le_of_ble_eq_true rfl, Nat.le_of_ble_eq_true rfl⟩ ⟨Nat.le_of_ble_eq_true rfl, Nat.le_of_ble_eq_true rfl⟩ hl.1 rfl (Nat.le_of_ble_eq_true rfl) d_D_keepUniforms_72 (fun H locs hP hD hS => ?_)
          have hP : va_P (dC, dI) clX [(x, .inr (3, [.ref me, .ref sm, .ref to, .ref co, .ref ru, .int sl, .int fw, .int fh])), (co, .inr (0, [.ref cw, .int kd, .int mn])), (cw, .inl (cI, 258, .inl cf)), (me, .inl (cI, 4096, .inl mf)), (to, .inr (2, [.ref sa, .ref wa])), (sa, .inl (cI, 26, .inl sf)), (wa, .inl (cI, 303, .inl (wrA 303 (itN (fun j w => wrA 303 w (plc sf 5 (rdA 258 cf 0 + nI i) (nI j + 1)) (rdA 4096 mf (rdA 258 cf 2 + 4 * nI i + nI j))) j (itN (fun i w => kuI sf mf (rdA 258 cf 0 + nI i) (rdA 258 cf 2 + 4 * nI i) w) i wf)) (plc sf 5 ((rdA 258 cf 0) + (nI i)) ((nI j) + 1)) (rdA 4096 mf (((rdA 258 cf 2) + (4 * (nI i))) + (nI j))))))] H := hP
          have hD : va_D A [(x, .inr (3, [.ref me, .ref sm, .ref to, .ref co, .ref ru, .int sl, .int fw, .int fh])), (co, .inr (0, [.ref cw, .int kd, .int mn])), (cw, .inl (cI, 258, .inl cf)), (me, .inl (cI, 4096, .inl mf)), (to, .inr (2, [.ref sa, .ref wa])), (sa, .inl (cI, 26, .inl sf)), (wa, .inl (cI, 303, .inl (wrA 303 (itN (fun j w => wrA 303 w (plc sf 5 (rdA 258 cf 0 + nI i) (nI j + 1)) (rdA 4096 mf (rdA 258 cf 2 + 4 * nI i + nI j))) j (itN (fun i w => kuI sf mf (rdA 258 cf 0 + nI i) (rdA 258 cf 2 + 4 * nI i) w) i wf)) (plc sf 5 ((rdA 258 cf 0) + (nI i)) ((nI j) + 1)) (rdA 4096 mf (((rdA 258 cf 2) + (4 * (nI i))) + (nI j))))))] := hD
          refine lv_iinc (v := ((nI j) + 1)) (lv' := [(5, .int ((nI j) + 1)), (4, .int ((rdA 258 cf 2) + (4 * (nI i)))), (3, .int ((rdA 258 cf 0) + (nI i))), (2, .int (nI i)), (1, .int (rdA 258 cf 1)), (0, .ref x)]) hx hb d_D_keepUniforms_75 hl (k := 0) rfl rfl (by decide) rfl (fun ls hl => ?_)
          refine lv_goto (tgt := 44) hx hb d_D_keepUniforms_78 (by decide) ?_
          rw [nI_1] at hl
          exact kk_j _ _ _ ⟨hP.sub [0, 1, 2, 3, 4, 5, 6] rfl, hD.sub [0, 1, 2, 3, 4, 5, 6] (by decide) rfl, hS, lv_sub hl [0, 1, 2, 3, 4, 5] rfl⟩
      · intro H locs ls hI0
        obtain ⟨hP, hD, hS, hl⟩ := hI0
        refine lv_iload hx hb d_D_keepUniforms_44 (lv_at hl 0 rfl) ?_
        refine lv_iconst (v := 4) hx hb d_D_keepUniforms_46 (by decide) ?_
        refine lv_icmp_ge (tgt := 81) hx hb d_D_keepUniforms_47 (by decide) (fun c_62 => ?_) (fun c_62 => ?_)
        · refine lv_iinc (v := ((nI i) + 1)) (lv' := [(2, .int ((nI i) + 1)), (5, .int (nI ((4 : Int32).toNatClampNeg))), (4, .int ((rdA 258 cf 2) + (4 * (nI i)))), (3, .int ((rdA 258 cf 0) + (nI i))), (1, .int (rdA 258 cf 1)), (0, .ref x)]) hx hb d_D_keepUniforms_81 hl (k := 3) rfl rfl (by decide) rfl (fun ls hl => ?_)
          refine lv_goto (tgt := 11) hx hb d_D_keepUniforms_84 (by decide) ?_
          rw [nI_1] at hl
          exact kk_i _ _ _ ⟨hP.sub [0, 1, 2, 3, 4, 5, 6] rfl, hD.sub [0, 1, 2, 3, 4, 5, 6] (by decide) rfl, hS, lv_sub hl [0, 4, 5] rfl⟩
        · exact absurd (lp_ge (4 : Int32)) c_62
  · intro H locs ls hI0
    obtain ⟨hP, hD, hS, hl⟩ := hI0
    refine lv_iload_n hx hb d_D_keepUniforms_11 rfl (lv_at hl 0 rfl) ?_
    refine lv_iload_n hx hb d_D_keepUniforms_12 rfl (lv_at hl 1 rfl) ?_
    refine lv_icmp_ge (tgt := 87) hx hb d_D_keepUniforms_13 (by decide) (fun c_63 => ?_) (fun c_63 => ?_)
    · have hP9 := hP.sub (ws' := [(x, .inr (3, [.ref me, .ref sm, .ref to, .ref co, .ref ru, .int sl, .int fw, .int fh])), (co, .inr (0, [.ref cw, .int kd, .int mn])), (cw, .inl (cI, 258, .inl cf)), (me, .inl (cI, 4096, .inl mf)), (to, .inr (2, [.ref sa, .ref wa])), (sa, .inl (cI, 26, .inl sf)), (wa, .inl (cI, 303, .inl (itN (fun i w => kuI sf mf (rdA 258 cf 0 + nI i) (rdA 258 cf 2 + 4 * nI i) w) ((rdA 258 cf 1).toNatClampNeg) wf)))]) [0, 1, 2, 3, 4, 5, 6] rfl
      have hD9 := hD.sub (ws' := [(x, .inr (3, [.ref me, .ref sm, .ref to, .ref co, .ref ru, .int sl, .int fw, .int fh])), (co, .inr (0, [.ref cw, .int kd, .int mn])), (cw, .inl (cI, 258, .inl cf)), (me, .inl (cI, 4096, .inl mf)), (to, .inr (2, [.ref sa, .ref wa])), (sa, .inl (cI, 26, .inl sf)), (wa, .inl (cI, 303, .inl (itN (fun i w => kuI sf mf (rdA 258 cf 0 + nI i) (rdA 258 cf 2 + 4 * nI i) w) ((rdA 258 cf 1).toNatClampNeg) wf)))]) [0, 1, 2, 3, 4, 5, 6] (by decide) rfl
      exact W.vret hx hb hr (fun t ht9 hW => ⟨⟨(), rfl, trivial, by rw [ht9]; exact hP9, va_K.moved hW.alike hK, by rw [hAe]; exact hD9⟩, hS.F ht9⟩) hS.2.2 d_D_keepUniforms_87
    · exact absurd (lp_ge (rdA 258 cf 1)) c_63
set_option maxHeartbeats 4000000 in
set_option maxRecDepth 100000 in
theorem c_T_keep (l : Launch) (dC : Nat → ClassId) (dI : Nat → Nat → Nat) (tb : tbT) (to sa wa : Nat) (sf wf : IF) (cI : ClassId) (co cw : Nat) (kd mn : Int32) (cf : IF) (sz : Nat) : MV l y_T_keep (Cond.code y_T_keep b_T_keep 5 none :: TB) ({ frames := 3, cells := 0, slots := 0, locals := 64 }) tb (dC, dI) [.ref to, .ref co] [(to, .inr (2, [.ref sa, .ref wa])), (sa, .inl (cI, 26, .inl sf)), (wa, .inl (cI, 303, .inl wf)), (co, .inr (0, [.ref cw, .int kd, .int mn])), (cw, .inl (cI, 258, .inl cf))] [(to, .inr (2, [.ref sa, .ref wa])), (sa, .inl (cI, 26, .inl sf)), (wa, .inl (cI, 303, .inl (kpW sf kd mn cf wf))), (co, .inr (0, [.ref cw, .int kd, .int mn])), (cw, .inl (cI, 258, .inl cf))] [(cI, .int)] sz := by
  refine Met.ofW (cc := b_T_keep) (maxL := 5) (ret := none) (by decide) rfl ?_
  intro p e s m args below meth c s₁ B hml hv
  obtain ⟨rfl, hsz, hP, hK, hD0, hE⟩ := hv
  have hx := B.exec
  have hb := B.bytes
  have hr := B.returns
  have ht := fun w (h : w ∈ TB) => atoms_spec (ws := Cond.code y_T_keep b_T_keep 5 none :: TB) B.pre w (List.mem_cons_of_mem _ h)
  have hown : s.vm.findClass R_T = some m.cls := findClass_of_methodNamed B.named
  have hlocks := B.notSynchronized
  subst hsz
  have hD := hD0.self (sz := s.heap.size)
  generalize hAe : va_A [(to, .inr (2, [.ref sa, .ref wa])), (sa, .inl (cI, 26, .inl sf)), (wa, .inl (cI, 303, .inl wf)), (co, .inr (0, [.ref cw, .int kd, .int mn])), (cw, .inl (cI, 258, .inl cf))] s.heap.size = A at hD hE ⊢
  have hA : ∀ q : Nat, s.heap.size ≤ q → A q := fun q h => by rw [← hAe]; exact Or.inr h
  have hS : va_S A s.heap s.heap [] := va_S.rf
  have F : CallFix p m c b_T_keep 5 s _ TB R_T := ⟨hx, hb, hml, hown, ht⟩
  have hl := lv_entry ([.ref to, .ref co]) (n := 5) (Nat.le_of_ble_eq_true rfl)
  rw [lg_entry_eq]
  generalize (lg_sl ([.ref to, .ref co]) ++ List.replicate (5 - (lg_sl ([.ref to, .ref co])).length) Slot.unset).toArray = ls at hl ⊢
  have hl : lv_has ls 5 [(0, .ref to), (1, .ref co)] := hl
  refine lv_aload_n hx hb d_T_keep_0 rfl (lv_at hl 1 rfl) ?_
  refine va_getN (D := (dC, dI)) (ci := 0) (v := .int kd) (C := R_C) (T := F_C) (N := 3) hx hb ht tu_C hown hK hP 3 rfl rfl 1 (by decide) (va_Nw.use rfl (hE.1 _ nw_3)) (fun _ h9 => h9) rfl d_T_keep_1 ?_
  refine lv_istore_n (lv' := [(2, .int kd), (0, .ref to), (1, .ref co)]) hx hb d_T_keep_4 rfl hl (by decide) rfl (fun ls hl => ?_)
  refine lv_iload_n hx hb d_T_keep_5 rfl (lv_at hl 0 rfl) ?_
  refine rcS (As := [.int kd]) (rest := []) (c_S_holders l dC dI tb kd ) F tw_61 tw_30 tw_60 tw_59 hP [] rfl hK [] rfl hE hS hd_S_holders rfl rfl ⟨Nat.le_of_ble_eq_true rfl, Nat.le_of_ble_eq_true rfl⟩ ⟨Nat.le_of_ble_eq_true rfl, Nat.le_of_ble_eq_true rfl⟩ hl.1 rfl (Nat.le_of_ble_eq_true rfl) d_T_keep_6 ?_
  refine lv_if_ne (tgt := 13) hx hb d_T_keep_9 (by decide) (fun c_64 => ?_) (fun c_64 => ?_)
  · refine lv_aload_n hx hb d_T_keep_13 rfl (lv_at hl 1 rfl) ?_
    refine lv_iload_n hx hb d_T_keep_14 rfl (lv_at hl 0 rfl) ?_
    refine lv_iload_n hx hb d_T_keep_15 rfl (lv_at hl 0 rfl) ?_
    refine rcS (As := [.int kd]) (rest := [.int kd, .ref to]) (c_T_namesItsHolder l dC dI tb kd ) F tw_101 tw_29 tw_100 tw_99 hP [] rfl hK [] rfl hE hS hd_T_namesItsHolder rfl rfl ⟨Nat.le_of_ble_eq_true rfl, Nat.le_of_ble_eq_true rfl⟩ ⟨Nat.le_of_ble_eq_true rfl, Nat.le_of_ble_eq_true rfl⟩ hl.1 rfl (Nat.le_of_ble_eq_true rfl) d_T_keep_16 ?_
    refine lv_if_eq (tgt := 30) hx hb d_T_keep_19 (by decide) (fun c_65 => ?_) (fun c_65 => ?_)
    · refine lv_iconst (v := 0) hx hb d_T_keep_30 (by decide) ?_
      refine lv_iconst (v := 0) hx hb d_T_keep_31 (by decide) ?_
      refine rcV (As := [.int kd, .int 0, .int 0]) (rest := []) (c_T_placeOf l dC dI tb to sa wa sf cI kd 0 0 ) F tw_89 tw_29 tw_88 tw_1 tw_86 hP [0, 1] rfl hK [0] rfl hE hS (q0 := 0) rfl rfl hd_T_placeOf rfl rfl ⟨Nat.le_of_ble_eq_true rfl, Nat.le_of_ble_eq_true rfl⟩ ⟨Nat.le_of_ble_eq_true rfl, Nat.le_of_ble_eq_true rfl⟩ hl.1 rfl (Nat.le_of_ble_eq_true rfl) d_T_keep_32 ?_
      refine lv_istore_n (lv' := [(3, .int (plc sf kd 0 0)), (2, .int kd), (0, .ref to), (1, .ref co)]) hx hb d_T_keep_35 rfl hl (by decide) rfl (fun ls hl => ?_)
      refine lv_iconst (v := 0) hx hb d_T_keep_36 (by decide) ?_
      refine lv_istore (lv' := [(4, .int 0), (3, .int (plc sf kd 0 0)), (2, .int kd), (0, .ref to), (1, .ref co)]) hx hb d_T_keep_37 hl (by decide) rfl (fun ls hl => ?_)
      refine lp_W (N := mn.toNatClampNeg) (head := 39) (I := fun i H locs ls => va_P (dC, dI) clX [(to, .inr (2, [.ref sa, .ref wa])), (sa, .inl (cI, 26, .inl sf)), (wa, .inl (cI, 303, .inl (itN (fun j w => wrA 303 w ((plc sf kd 0 0) + nI j) (rdA 258 cf (nI j))) i wf))), (co, .inr (0, [.ref cw, .int kd, .int mn])), (cw, .inl (cI, 258, .inl cf))] H ∧ va_D A [(to, .inr (2, [.ref sa, .ref wa])), (sa, .inl (cI, 26, .inl sf)), (wa, .inl (cI, 303, .inl (itN (fun j w => wrA 303 w ((plc sf kd 0 0) + nI j) (rdA 258 cf (nI j))) i wf))), (co, .inr (0, [.ref cw, .int kd, .int mn])), (cw, .inl (cI, 258, .inl cf))] ∧ va_S A s.heap H locs ∧ lv_has ls 5 [(4, .int (nI i)), (3, .int (plc sf kd 0 0)), (2, .int kd), (0, .ref to), (1, .ref co)]) ?_ ?_ 0 (Nat.zero_le _) ⟨hP, hD, hS, lv_sub hl [0, 1, 2, 3, 4] rfl⟩
      · intro i H locs ls hi_i hI0 kk_i
        obtain ⟨hP, hD, hS, hl⟩ := hI0
        refine lv_iload hx hb d_T_keep_39 (lv_at hl 0 rfl) ?_
        refine lv_aload_n hx hb d_T_keep_41 rfl (lv_at hl 4 rfl) ?_
        refine va_getN (D := (dC, dI)) (ci := 0) (v := .int mn) (C := R_C) (T := F_C) (N := 3) hx hb ht tu_C hown hK hP 3 rfl rfl 2 (by decide) (va_Nw.use rfl (hE.1 _ nw_5)) (fun _ h9 => h9) rfl d_T_keep_42 ?_
        refine lv_icmp_ge (tgt := 71) hx hb d_T_keep_45 (by decide) (fun c_66 => ?_) (fun c_66 => ?_)
        · exact absurd c_66 (lp_lt hi_i)
        · refine lv_aload_n hx hb d_T_keep_48 rfl (lv_at hl 3 rfl) ?_
          refine va_get (D := (dC, dI)) (ci := 2) (v := .ref wa) (C := R_T) (T := F_T) (N := 2) hx hb ht tu_T hown hK hP 0 rfl rfl 1 (by decide) (ht _ tw_103) (fun _ h9 => h9) rfl d_T_keep_49 ?_
          refine lv_iload_n hx hb d_T_keep_52 rfl (lv_at hl 1 rfl) ?_
          refine lv_iload hx hb d_T_keep_53 (lv_at hl 0 rfl) ?_
          refine lv_iadd hx hb d_T_keep_55 ?_
          refine lv_aload_n hx hb d_T_keep_56 rfl (lv_at hl 4 rfl) ?_
          refine lv_iload hx hb d_T_keep_57 (lv_at hl 0 rfl) ?_
          refine rcV (As := [.int (nI i)]) (rest := [.int ((plc sf kd 0 0) + (nI i)), .ref wa]) (c_C_at l dC dI tb co cw kd mn cf cI (nI i) ) F tw_422 tw_32 tw_420 tw_421 tw_485 hP [3, 4] rfl hK [0] rfl hE hS (q0 := 3) rfl rfl hd_C_at rfl rfl ⟨Nat.le_of_ble_eq_true rfl, Nat.le_of_ble_eq_true rfl⟩ ⟨Nat.le_of_ble_eq_true rfl, Nat.le_of_ble_eq_true rfl⟩ hl.1 rfl (Nat.le_of_ble_eq_true rfl) d_T_keep_59 ?_
          refine mcSNv (As := [.ref wa, .int ((plc sf kd 0 0) + (nI i)), .int (rdA 258 cf (nI i))]) (rest := []) (wr := [(to, .inr (2, [.ref sa, .ref wa])), (sa, .inl (cI, 26, .inl sf)), (co, .inr (0, [.ref cw, .int kd, .int mn])), (cw, .inl (cI, 258, .inl cf))]) (c_D_write l dC dI tb wa 303 (itN (fun j w => wrA 303 w ((plc sf kd 0 0) + nI j) (rdA 258 cf (nI j))) i wf) cI ((plc sf kd 0 0) + (nI i)) (rdA 258 cf (nI i)) (by decide)) F tw_58 tw_28 tw_57 nw_0 hP hD [2] [0, 1, 3, 4] rfl rfl (by decide) (by decide) (by decide) hK [0] rfl hE hS hA hd_D_write rfl rfl ⟨Nat.le_of_ble_eq_true rfl, Nat.le_of_ble_eq_true rfl⟩ ⟨Nat.le_of_ble_eq_true rfl, Nat.le_of_ble_eq_true rfl⟩ hl.1 rfl (Nat.le_of_ble_eq_true rfl) d_T_keep_62 (fun H locs hP hD hS => ?_)
          have hP : va_P (dC, dI) clX [(to, .inr (2, [.ref sa, .ref wa])), (sa, .inl (cI, 26, .inl sf)), (co, .inr (0, [.ref cw, .int kd, .int mn])), (cw, .inl (cI, 258, .inl cf)), (wa, .inl (cI, 303, .inl (wrA 303 (itN (fun j w => wrA 303 w ((plc sf kd 0 0) + nI j) (rdA 258 cf (nI j))) i wf) ((plc sf kd 0 0) + (nI i)) (rdA 258 cf (nI i)))))] H := hP
          have hD : va_D A [(to, .inr (2, [.ref sa, .ref wa])), (sa, .inl (cI, 26, .inl sf)), (co, .inr (0, [.ref cw, .int kd, .int mn])), (cw, .inl (cI, 258, .inl cf)), (wa, .inl (cI, 303, .inl (wrA 303 (itN (fun j w => wrA 303 w ((plc sf kd 0 0) + nI j) (rdA 258 cf (nI j))) i wf) ((plc sf kd 0 0) + (nI i)) (rdA 258 cf (nI i)))))] := hD
          refine lv_iinc (v := ((nI i) + 1)) (lv' := [(4, .int ((nI i) + 1)), (3, .int (plc sf kd 0 0)), (2, .int kd), (0, .ref to), (1, .ref co)]) hx hb d_T_keep_65 hl (k := 0) rfl rfl (by decide) rfl (fun ls hl => ?_)
          refine lv_goto (tgt := 39) hx hb d_T_keep_68 (by decide) ?_
          rw [nI_1] at hl
          exact kk_i _ _ _ ⟨hP.sub [0, 1, 4, 2, 3] rfl, hD.sub [0, 1, 4, 2, 3] (by decide) rfl, hS, lv_sub hl [0, 1, 2, 3, 4] rfl⟩
      · intro H locs ls hI0
        obtain ⟨hP, hD, hS, hl⟩ := hI0
        refine lv_iload hx hb d_T_keep_39 (lv_at hl 0 rfl) ?_
        refine lv_aload_n hx hb d_T_keep_41 rfl (lv_at hl 4 rfl) ?_
        refine va_getN (D := (dC, dI)) (ci := 0) (v := .int mn) (C := R_C) (T := F_C) (N := 3) hx hb ht tu_C hown hK hP 3 rfl rfl 2 (by decide) (va_Nw.use rfl (hE.1 _ nw_5)) (fun _ h9 => h9) rfl d_T_keep_42 ?_
        refine lv_icmp_ge (tgt := 71) hx hb d_T_keep_45 (by decide) (fun c_67 => ?_) (fun c_67 => ?_)
        · have hP9 := hP.sub (ws' := [(to, .inr (2, [.ref sa, .ref wa])), (sa, .inl (cI, 26, .inl sf)), (wa, .inl (cI, 303, .inl (itN (fun j w => wrA 303 w ((plc sf kd 0 0) + nI j) (rdA 258 cf (nI j))) mn.toNatClampNeg wf))), (co, .inr (0, [.ref cw, .int kd, .int mn])), (cw, .inl (cI, 258, .inl cf))]) [0, 1, 2, 3, 4] rfl
          have hD9 := hD.sub (ws' := [(to, .inr (2, [.ref sa, .ref wa])), (sa, .inl (cI, 26, .inl sf)), (wa, .inl (cI, 303, .inl (itN (fun j w => wrA 303 w ((plc sf kd 0 0) + nI j) (rdA 258 cf (nI j))) mn.toNatClampNeg wf))), (co, .inr (0, [.ref cw, .int kd, .int mn])), (cw, .inl (cI, 258, .inl cf))]) [0, 1, 2, 3, 4] (by decide) rfl
          exact W.vret hx hb hr (fun t ht9 hW => ⟨⟨(), rfl, trivial, by rw [ht9]; simp only [kpW, if_neg c_64, if_pos c_65, if_pos c_67]; exact hP9, va_K.moved hW.alike hK, by rw [hAe]; simp only [kpW, if_neg c_64, if_pos c_65, if_pos c_67]; exact hD9⟩, hS.F ht9⟩) hS.2.2 d_T_keep_71
        · exact absurd (lp_ge mn) c_67
    · refine lv_aload_n hx hb d_T_keep_22 rfl (lv_at hl 2 rfl) ?_
      refine lv_iconst (v := 0) hx hb d_T_keep_23 (by decide) ?_
      refine rcV (As := [.int 0]) (rest := [.int kd, .ref to]) (c_C_at l dC dI tb co cw kd mn cf cI 0 ) F tw_422 tw_32 tw_420 tw_421 tw_485 hP [3, 4] rfl hK [0] rfl hE hS (q0 := 3) rfl rfl hd_C_at rfl rfl ⟨Nat.le_of_ble_eq_true rfl, Nat.le_of_ble_eq_true rfl⟩ ⟨Nat.le_of_ble_eq_true rfl, Nat.le_of_ble_eq_true rfl⟩ hl.1 rfl (Nat.le_of_ble_eq_true rfl) d_T_keep_24 ?_
      refine lv_goto (tgt := 31) hx hb d_T_keep_27 (by decide) ?_
      refine lv_iconst (v := 0) hx hb d_T_keep_31 (by decide) ?_
      refine rcV (As := [.int kd, .int (rdA 258 cf 0), .int 0]) (rest := []) (c_T_placeOf l dC dI tb to sa wa sf cI kd (rdA 258 cf 0) 0 ) F tw_89 tw_29 tw_88 tw_1 tw_86 hP [0, 1] rfl hK [0] rfl hE hS (q0 := 0) rfl rfl hd_T_placeOf rfl rfl ⟨Nat.le_of_ble_eq_true rfl, Nat.le_of_ble_eq_true rfl⟩ ⟨Nat.le_of_ble_eq_true rfl, Nat.le_of_ble_eq_true rfl⟩ hl.1 rfl (Nat.le_of_ble_eq_true rfl) d_T_keep_32 ?_
      refine lv_istore_n (lv' := [(3, .int (plc sf kd (rdA 258 cf 0) 0)), (2, .int kd), (0, .ref to), (1, .ref co)]) hx hb d_T_keep_35 rfl hl (by decide) rfl (fun ls hl => ?_)
      refine lv_iconst (v := 0) hx hb d_T_keep_36 (by decide) ?_
      refine lv_istore (lv' := [(4, .int 0), (3, .int (plc sf kd (rdA 258 cf 0) 0)), (2, .int kd), (0, .ref to), (1, .ref co)]) hx hb d_T_keep_37 hl (by decide) rfl (fun ls hl => ?_)
      refine lp_W (N := mn.toNatClampNeg) (head := 39) (I := fun i H locs ls => va_P (dC, dI) clX [(to, .inr (2, [.ref sa, .ref wa])), (sa, .inl (cI, 26, .inl sf)), (wa, .inl (cI, 303, .inl (itN (fun j w => wrA 303 w ((plc sf kd (rdA 258 cf 0) 0) + nI j) (rdA 258 cf (nI j))) i wf))), (co, .inr (0, [.ref cw, .int kd, .int mn])), (cw, .inl (cI, 258, .inl cf))] H ∧ va_D A [(to, .inr (2, [.ref sa, .ref wa])), (sa, .inl (cI, 26, .inl sf)), (wa, .inl (cI, 303, .inl (itN (fun j w => wrA 303 w ((plc sf kd (rdA 258 cf 0) 0) + nI j) (rdA 258 cf (nI j))) i wf))), (co, .inr (0, [.ref cw, .int kd, .int mn])), (cw, .inl (cI, 258, .inl cf))] ∧ va_S A s.heap H locs ∧ lv_has ls 5 [(4, .int (nI i)), (3, .int (plc sf kd (rdA 258 cf 0) 0)), (2, .int kd), (0, .ref to), (1, .ref co)]) ?_ ?_ 0 (Nat.zero_le _) ⟨hP, hD, hS, lv_sub hl [0, 1, 2, 3, 4] rfl⟩
      · intro i H locs ls hi_i hI0 kk_i
        obtain ⟨hP, hD, hS, hl⟩ := hI0
        refine lv_iload hx hb d_T_keep_39 (lv_at hl 0 rfl) ?_
        refine lv_aload_n hx hb d_T_keep_41 rfl (lv_at hl 4 rfl) ?_
        refine va_getN (D := (dC, dI)) (ci := 0) (v := .int mn) (C := R_C) (T := F_C) (N := 3) hx hb ht tu_C hown hK hP 3 rfl rfl 2 (by decide) (va_Nw.use rfl (hE.1 _ nw_5)) (fun _ h9 => h9) rfl d_T_keep_42 ?_
        refine lv_icmp_ge (tgt := 71) hx hb d_T_keep_45 (by decide) (fun c_68 => ?_) (fun c_68 => ?_)
        · exact absurd c_68 (lp_lt hi_i)
        · refine lv_aload_n hx hb d_T_keep_48 rfl (lv_at hl 3 rfl) ?_
          refine va_get (D := (dC, dI)) (ci := 2) (v := .ref wa) (C := R_T) (T := F_T) (N := 2) hx hb ht tu_T hown hK hP 0 rfl rfl 1 (by decide) (ht _ tw_103) (fun _ h9 => h9) rfl d_T_keep_49 ?_
          refine lv_iload_n hx hb d_T_keep_52 rfl (lv_at hl 1 rfl) ?_
          refine lv_iload hx hb d_T_keep_53 (lv_at hl 0 rfl) ?_
          refine lv_iadd hx hb d_T_keep_55 ?_
          refine lv_aload_n hx hb d_T_keep_56 rfl (lv_at hl 4 rfl) ?_
          refine lv_iload hx hb d_T_keep_57 (lv_at hl 0 rfl) ?_
          refine rcV (As := [.int (nI i)]) (rest := [.int ((plc sf kd (rdA 258 cf 0) 0) + (nI i)), .ref wa]) (c_C_at l dC dI tb co cw kd mn cf cI (nI i) ) F tw_422 tw_32 tw_420 tw_421 tw_485 hP [3, 4] rfl hK [0] rfl hE hS (q0 := 3) rfl rfl hd_C_at rfl rfl ⟨Nat.le_of_ble_eq_true rfl, Nat.le_of_ble_eq_true rfl⟩ ⟨Nat.le_of_ble_eq_true rfl, Nat.le_of_ble_eq_true rfl⟩ hl.1 rfl (Nat.le_of_ble_eq_true rfl) d_T_keep_59 ?_
          refine mcSNv (As := [.ref wa, .int ((plc sf kd (rdA 258 cf 0) 0) + (nI i)), .int (rdA 258 cf (nI i))]) (rest := []) (wr := [(to, .inr (2, [.ref sa, .ref wa])), (sa, .inl (cI, 26, .inl sf)), (co, .inr (0, [.ref cw, .int kd, .int mn])), (cw, .inl (cI, 258, .inl cf))]) (c_D_write l dC dI tb wa 303 (itN (fun j w => wrA 303 w ((plc sf kd (rdA 258 cf 0) 0) + nI j) (rdA 258 cf (nI j))) i wf) cI ((plc sf kd (rdA 258 cf 0) 0) + (nI i)) (rdA 258 cf (nI i)) (by decide)) F tw_58 tw_28 tw_57 nw_0 hP hD [2] [0, 1, 3, 4] rfl rfl (by decide) (by decide) (by decide) hK [0] rfl hE hS hA hd_D_write rfl rfl ⟨Nat.le_of_ble_eq_true rfl, Nat.le_of_ble_eq_true rfl⟩ ⟨Nat.le_of_ble_eq_true rfl, Nat.le_of_ble_eq_true rfl⟩ hl.1 rfl (Nat.le_of_ble_eq_true rfl) d_T_keep_62 (fun H locs hP hD hS => ?_)
          have hP : va_P (dC, dI) clX [(to, .inr (2, [.ref sa, .ref wa])), (sa, .inl (cI, 26, .inl sf)), (co, .inr (0, [.ref cw, .int kd, .int mn])), (cw, .inl (cI, 258, .inl cf)), (wa, .inl (cI, 303, .inl (wrA 303 (itN (fun j w => wrA 303 w ((plc sf kd (rdA 258 cf 0) 0) + nI j) (rdA 258 cf (nI j))) i wf) ((plc sf kd (rdA 258 cf 0) 0) + (nI i)) (rdA 258 cf (nI i)))))] H := hP
          have hD : va_D A [(to, .inr (2, [.ref sa, .ref wa])), (sa, .inl (cI, 26, .inl sf)), (co, .inr (0, [.ref cw, .int kd, .int mn])), (cw, .inl (cI, 258, .inl cf)), (wa, .inl (cI, 303, .inl (wrA 303 (itN (fun j w => wrA 303 w ((plc sf kd (rdA 258 cf 0) 0) + nI j) (rdA 258 cf (nI j))) i wf) ((plc sf kd (rdA 258 cf 0) 0) + (nI i)) (rdA 258 cf (nI i)))))] := hD
          refine lv_iinc (v := ((nI i) + 1)) (lv' := [(4, .int ((nI i) + 1)), (3, .int (plc sf kd (rdA 258 cf 0) 0)), (2, .int kd), (0, .ref to), (1, .ref co)]) hx hb d_T_keep_65 hl (k := 0) rfl rfl (by decide) rfl (fun ls hl => ?_)
          refine lv_goto (tgt := 39) hx hb d_T_keep_68 (by decide) ?_
          rw [nI_1] at hl
          exact kk_i _ _ _ ⟨hP.sub [0, 1, 4, 2, 3] rfl, hD.sub [0, 1, 4, 2, 3] (by decide) rfl, hS, lv_sub hl [0, 1, 2, 3, 4] rfl⟩
      · intro H locs ls hI0
        obtain ⟨hP, hD, hS, hl⟩ := hI0
        refine lv_iload hx hb d_T_keep_39 (lv_at hl 0 rfl) ?_
        refine lv_aload_n hx hb d_T_keep_41 rfl (lv_at hl 4 rfl) ?_
        refine va_getN (D := (dC, dI)) (ci := 0) (v := .int mn) (C := R_C) (T := F_C) (N := 3) hx hb ht tu_C hown hK hP 3 rfl rfl 2 (by decide) (va_Nw.use rfl (hE.1 _ nw_5)) (fun _ h9 => h9) rfl d_T_keep_42 ?_
        refine lv_icmp_ge (tgt := 71) hx hb d_T_keep_45 (by decide) (fun c_69 => ?_) (fun c_69 => ?_)
        · have hP9 := hP.sub (ws' := [(to, .inr (2, [.ref sa, .ref wa])), (sa, .inl (cI, 26, .inl sf)), (wa, .inl (cI, 303, .inl (itN (fun j w => wrA 303 w ((plc sf kd (rdA 258 cf 0) 0) + nI j) (rdA 258 cf (nI j))) mn.toNatClampNeg wf))), (co, .inr (0, [.ref cw, .int kd, .int mn])), (cw, .inl (cI, 258, .inl cf))]) [0, 1, 2, 3, 4] rfl
          have hD9 := hD.sub (ws' := [(to, .inr (2, [.ref sa, .ref wa])), (sa, .inl (cI, 26, .inl sf)), (wa, .inl (cI, 303, .inl (itN (fun j w => wrA 303 w ((plc sf kd (rdA 258 cf 0) 0) + nI j) (rdA 258 cf (nI j))) mn.toNatClampNeg wf))), (co, .inr (0, [.ref cw, .int kd, .int mn])), (cw, .inl (cI, 258, .inl cf))]) [0, 1, 2, 3, 4] (by decide) rfl
          exact W.vret hx hb hr (fun t ht9 hW => ⟨⟨(), rfl, trivial, by rw [ht9]; simp only [kpW, if_neg c_64, if_neg c_65, if_pos c_69]; exact hP9, va_K.moved hW.alike hK, by rw [hAe]; simp only [kpW, if_neg c_64, if_neg c_65, if_pos c_69]; exact hD9⟩, hS.F ht9⟩) hS.2.2 d_T_keep_71
        · exact absurd (lp_ge mn) c_69
  · have hP9 := hP.sub (ws' := [(to, .inr (2, [.ref sa, .ref wa])), (sa, .inl (cI, 26, .inl sf)), (wa, .inl (cI, 303, .inl wf)), (co, .inr (0, [.ref cw, .int kd, .int mn])), (cw, .inl (cI, 258, .inl cf))]) [0, 1, 2, 3, 4] rfl
    have hD9 := hD.sub (ws' := [(to, .inr (2, [.ref sa, .ref wa])), (sa, .inl (cI, 26, .inl sf)), (wa, .inl (cI, 303, .inl wf)), (co, .inr (0, [.ref cw, .int kd, .int mn])), (cw, .inl (cI, 258, .inl cf))]) [0, 1, 2, 3, 4] (by decide) rfl
    exact W.vret hx hb hr (fun t ht9 hW => ⟨⟨(), rfl, trivial, by rw [ht9]; simp only [kpW, if_pos c_64]; exact hP9, va_K.moved hW.alike hK, by rw [hAe]; simp only [kpW, if_pos c_64]; exact hD9⟩, hS.F ht9⟩) hS.2.2 d_T_keep_12
set_option maxHeartbeats 4000000 in
set_option maxRecDepth 100000 in
theorem c_T_forgetOne (l : Launch) (dC : Nat → ClassId) (dI : Nat → Nat → Nat) (tb : tbT) (to sa wa : Nat) (sf wf : IF) (cI : ClassId) (k9 n9 : Int32) (sz : Nat) : MV l y_T_forgetOne (Cond.code y_T_forgetOne b_T_forgetOne 6 none :: TB) ({ frames := 3, cells := 0, slots := 0, locals := 64 }) tb (dC, dI) [.ref to, .int k9, .int n9] [(to, .inr (2, [.ref sa, .ref wa])), (sa, .inl (cI, 26, .inl sf)), (wa, .inl (cI, 303, .inl wf))] [(to, .inr (2, [.ref sa, .ref wa])), (sa, .inl (cI, 26, .inl sf)), (wa, .inl (cI, 303, .inl (fgO sf k9 n9 wf)))] [(cI, .int)] sz := by
  refine Met.ofW (cc := b_T_forgetOne) (maxL := 6) (ret := none) (by decide) rfl ?_
  intro p e s m args below meth c s₁ B hml hv
  obtain ⟨rfl, hsz, hP, hK, hD0, hE⟩ := hv
  have hx := B.exec
  have hb := B.bytes
  have hr := B.returns
  have ht := fun w (h : w ∈ TB) => atoms_spec (ws := Cond.code y_T_forgetOne b_T_forgetOne 6 none :: TB) B.pre w (List.mem_cons_of_mem _ h)
  have hown : s.vm.findClass R_T = some m.cls := findClass_of_methodNamed B.named
  have hlocks := B.notSynchronized
  subst hsz
  have hD := hD0.self (sz := s.heap.size)
  generalize hAe : va_A [(to, .inr (2, [.ref sa, .ref wa])), (sa, .inl (cI, 26, .inl sf)), (wa, .inl (cI, 303, .inl wf))] s.heap.size = A at hD hE ⊢
  have hA : ∀ q : Nat, s.heap.size ≤ q → A q := fun q h => by rw [← hAe]; exact Or.inr h
  have hS : va_S A s.heap s.heap [] := va_S.rf
  have F : CallFix p m c b_T_forgetOne 6 s _ TB R_T := ⟨hx, hb, hml, hown, ht⟩
  have hl := lv_entry ([.ref to, .int k9, .int n9]) (n := 6) (Nat.le_of_ble_eq_true rfl)
  rw [lg_entry_eq]
  generalize (lg_sl ([.ref to, .int k9, .int n9]) ++ List.replicate (6 - (lg_sl ([.ref to, .int k9, .int n9])).length) Slot.unset).toArray = ls at hl ⊢
  have hl : lv_has ls 6 [(0, .ref to), (1, .int k9), (2, .int n9)] := hl
  refine lv_aload_n hx hb d_T_forgetOne_0 rfl (lv_at hl 0 rfl) ?_
  refine lv_iload_n hx hb d_T_forgetOne_1 rfl (lv_at hl 1 rfl) ?_
  refine lv_iload_n hx hb d_T_forgetOne_2 rfl (lv_at hl 2 rfl) ?_
  refine lv_iconst (v := 0) hx hb d_T_forgetOne_3 (by decide) ?_
  refine rcV (As := [.int k9, .int n9, .int 0]) (rest := []) (c_T_placeOf l dC dI tb to sa wa sf cI k9 n9 0 ) F tw_89 tw_29 tw_88 tw_1 tw_86 hP [0, 1] rfl hK [0] rfl hE hS (q0 := 0) rfl rfl hd_T_placeOf rfl rfl ⟨Nat.le_of_ble_eq_true rfl, Nat.le_of_ble_eq_true rfl⟩ ⟨Nat.le_of_ble_eq_true rfl, Nat.le_of_ble_eq_true rfl⟩ hl.1 rfl (Nat.le_of_ble_eq_true rfl) d_T_forgetOne_4 ?_
  refine lv_istore_n (lv' := [(3, .int (plc sf k9 n9 0)), (0, .ref to), (1, .int k9), (2, .int n9)]) hx hb d_T_forgetOne_7 rfl hl (by decide) rfl (fun ls hl => ?_)
  refine lv_iload_n hx hb d_T_forgetOne_8 rfl (lv_at hl 2 rfl) ?_
  refine rcS (As := [.int k9]) (rest := []) (c_S_fixed l dC dI tb k9 ) F tw_69 tw_30 tw_68 tw_67 hP [] rfl hK [] rfl hE hS hd_S_fixed rfl rfl ⟨Nat.le_of_ble_eq_true rfl, Nat.le_of_ble_eq_true rfl⟩ ⟨Nat.le_of_ble_eq_true rfl, Nat.le_of_ble_eq_true rfl⟩ hl.1 rfl (Nat.le_of_ble_eq_true rfl) d_T_forgetOne_9 ?_
  refine lv_istore (lv' := [(4, .int (fxd k9)), (3, .int (plc sf k9 n9 0)), (0, .ref to), (1, .int k9), (2, .int n9)]) hx hb d_T_forgetOne_12 hl (by decide) rfl (fun ls hl => ?_)
  refine lv_iconst (v := 0) hx hb d_T_forgetOne_14 (by decide) ?_
  refine lv_istore (lv' := [(5, .int 0), (4, .int (fxd k9)), (3, .int (plc sf k9 n9 0)), (0, .ref to), (1, .int k9), (2, .int n9)]) hx hb d_T_forgetOne_15 hl (by decide) rfl (fun ls hl => ?_)
  refine lp_W (N := (fxd k9).toNatClampNeg) (head := 17) (I := fun i H locs ls => va_P (dC, dI) clX [(to, .inr (2, [.ref sa, .ref wa])), (sa, .inl (cI, 26, .inl sf)), (wa, .inl (cI, 303, .inl (itN (fun j w => wrA 303 w (plc sf k9 n9 0 + nI j) (colm k9 (nI j) 2)) i wf)))] H ∧ va_D A [(to, .inr (2, [.ref sa, .ref wa])), (sa, .inl (cI, 26, .inl sf)), (wa, .inl (cI, 303, .inl (itN (fun j w => wrA 303 w (plc sf k9 n9 0 + nI j) (colm k9 (nI j) 2)) i wf)))] ∧ va_S A s.heap H locs ∧ lv_has ls 6 [(5, .int (nI i)), (4, .int (fxd k9)), (3, .int (plc sf k9 n9 0)), (0, .ref to), (1, .int k9), (2, .int n9)]) ?_ ?_ 0 (Nat.zero_le _) ⟨hP, hD, hS, lv_sub hl [0, 1, 2, 3, 4, 5] rfl⟩
  · intro i H locs ls hi_i hI0 kk_i
    obtain ⟨hP, hD, hS, hl⟩ := hI0
    refine lv_iload hx hb d_T_forgetOne_17 (lv_at hl 0 rfl) ?_
    refine lv_iload hx hb d_T_forgetOne_19 (lv_at hl 1 rfl) ?_
    refine lv_icmp_ge (tgt := 47) hx hb d_T_forgetOne_21 (by decide) (fun c_70 => ?_) (fun c_70 => ?_)
    · exact absurd c_70 (lp_lt hi_i)
    · refine lv_aload_n hx hb d_T_forgetOne_24 rfl (lv_at hl 3 rfl) ?_
      refine va_get (D := (dC, dI)) (ci := 2) (v := .ref wa) (C := R_T) (T := F_T) (N := 2) hx hb ht tu_T hown hK hP 0 rfl rfl 1 (by decide) (ht _ tw_103) (fun _ h9 => h9) rfl d_T_forgetOne_25 ?_
      refine lv_iload_n hx hb d_T_forgetOne_28 rfl (lv_at hl 2 rfl) ?_
      refine lv_iload hx hb d_T_forgetOne_29 (lv_at hl 0 rfl) ?_
      refine lv_iadd hx hb d_T_forgetOne_31 ?_
      refine lv_iload_n hx hb d_T_forgetOne_32 rfl (lv_at hl 4 rfl) ?_
      refine lv_iload hx hb d_T_forgetOne_33 (lv_at hl 0 rfl) ?_
      refine rcS (As := [.int k9, .int (nI i)]) (rest := [.int ((plc sf k9 n9 0) + (nI i)), .ref wa]) (c_S_untold l dC dI tb k9 (nI i) ) F tw_93 tw_30 tw_92 tw_91 hP [] rfl hK [] rfl hE hS hd_S_untold rfl rfl ⟨Nat.le_of_ble_eq_true rfl, Nat.le_of_ble_eq_true rfl⟩ ⟨Nat.le_of_ble_eq_true rfl, Nat.le_of_ble_eq_true rfl⟩ hl.1 rfl (Nat.le_of_ble_eq_true rfl) d_T_forgetOne_35 ?_
      refine mcSNv (As := [.ref wa, .int ((plc sf k9 n9 0) + (nI i)), .int (colm k9 (nI i) 2)]) (rest := []) (wr := [(to, .inr (2, [.ref sa, .ref wa])), (sa, .inl (cI, 26, .inl sf))]) (c_D_write l dC dI tb wa 303 (itN (fun j w => wrA 303 w (plc sf k9 n9 0 + nI j) (colm k9 (nI j) 2)) i wf) cI ((plc sf k9 n9 0) + (nI i)) (colm k9 (nI i) 2) (by decide)) F tw_58 tw_28 tw_57 nw_0 hP hD [2] [0, 1] rfl rfl (by decide) (by decide) (by decide) hK [0] rfl hE hS hA hd_D_write rfl rfl ⟨Nat.le_of_ble_eq_true rfl, Nat.le_of_ble_eq_true rfl⟩ ⟨Nat.le_of_ble_eq_true rfl, Nat.le_of_ble_eq_true rfl⟩ hl.1 rfl (Nat.le_of_ble_eq_true rfl) d_T_forgetOne_38 (fun H locs hP hD hS => ?_)
      have hP : va_P (dC, dI) clX [(to, .inr (2, [.ref sa, .ref wa])), (sa, .inl (cI, 26, .inl sf)), (wa, .inl (cI, 303, .inl (wrA 303 (itN (fun j w => wrA 303 w (plc sf k9 n9 0 + nI j) (colm k9 (nI j) 2)) i wf) ((plc sf k9 n9 0) + (nI i)) (colm k9 (nI i) 2))))] H := hP
      have hD : va_D A [(to, .inr (2, [.ref sa, .ref wa])), (sa, .inl (cI, 26, .inl sf)), (wa, .inl (cI, 303, .inl (wrA 303 (itN (fun j w => wrA 303 w (plc sf k9 n9 0 + nI j) (colm k9 (nI j) 2)) i wf) ((plc sf k9 n9 0) + (nI i)) (colm k9 (nI i) 2))))] := hD
      refine lv_iinc (v := ((nI i) + 1)) (lv' := [(5, .int ((nI i) + 1)), (4, .int (fxd k9)), (3, .int (plc sf k9 n9 0)), (0, .ref to), (1, .int k9), (2, .int n9)]) hx hb d_T_forgetOne_41 hl (k := 0) rfl rfl (by decide) rfl (fun ls hl => ?_)
      refine lv_goto (tgt := 17) hx hb d_T_forgetOne_44 (by decide) ?_
      rw [nI_1] at hl
      exact kk_i _ _ _ ⟨hP.sub [0, 1, 2] rfl, hD.sub [0, 1, 2] (by decide) rfl, hS, lv_sub hl [0, 1, 2, 3, 4, 5] rfl⟩
  · intro H locs ls hI0
    obtain ⟨hP, hD, hS, hl⟩ := hI0
    refine lv_iload hx hb d_T_forgetOne_17 (lv_at hl 0 rfl) ?_
    refine lv_iload hx hb d_T_forgetOne_19 (lv_at hl 1 rfl) ?_
    refine lv_icmp_ge (tgt := 47) hx hb d_T_forgetOne_21 (by decide) (fun c_71 => ?_) (fun c_71 => ?_)
    · refine lv_iload_n hx hb d_T_forgetOne_47 rfl (lv_at hl 4 rfl) ?_
      refine rcS (As := [.int k9]) (rest := []) (c_T_namesItsHolder l dC dI tb k9 ) F tw_101 tw_29 tw_100 tw_99 hP [] rfl hK [] rfl hE hS hd_T_namesItsHolder rfl rfl ⟨Nat.le_of_ble_eq_true rfl, Nat.le_of_ble_eq_true rfl⟩ ⟨Nat.le_of_ble_eq_true rfl, Nat.le_of_ble_eq_true rfl⟩ hl.1 rfl (Nat.le_of_ble_eq_true rfl) d_T_forgetOne_48 ?_
      refine lv_if_eq (tgt := 63) hx hb d_T_forgetOne_51 (by decide) (fun c_72 => ?_) (fun c_72 => ?_)
      · have hP9 := hP.sub (ws' := [(to, .inr (2, [.ref sa, .ref wa])), (sa, .inl (cI, 26, .inl sf)), (wa, .inl (cI, 303, .inl (itN (fun j w => wrA 303 w (plc sf k9 n9 0 + nI j) (colm k9 (nI j) 2)) ((fxd k9).toNatClampNeg) wf)))]) [0, 1, 2] rfl
        have hD9 := hD.sub (ws' := [(to, .inr (2, [.ref sa, .ref wa])), (sa, .inl (cI, 26, .inl sf)), (wa, .inl (cI, 303, .inl (itN (fun j w => wrA 303 w (plc sf k9 n9 0 + nI j) (colm k9 (nI j) 2)) ((fxd k9).toNatClampNeg) wf)))]) [0, 1, 2] (by decide) rfl
        exact W.vret hx hb hr (fun t ht9 hW => ⟨⟨(), rfl, trivial, by rw [ht9]; simp only [fgO, if_pos c_71, if_pos c_72]; exact hP9, va_K.moved hW.alike hK, by rw [hAe]; simp only [fgO, if_pos c_71, if_pos c_72]; exact hD9⟩, hS.F ht9⟩) hS.2.2 d_T_forgetOne_63
      · refine lv_aload_n hx hb d_T_forgetOne_54 rfl (lv_at hl 3 rfl) ?_
        refine va_get (D := (dC, dI)) (ci := 2) (v := .ref wa) (C := R_T) (T := F_T) (N := 2) hx hb ht tu_T hown hK hP 0 rfl rfl 1 (by decide) (ht _ tw_103) (fun _ h9 => h9) rfl d_T_forgetOne_55 ?_
        refine lv_iload_n hx hb d_T_forgetOne_58 rfl (lv_at hl 2 rfl) ?_
        refine lv_iload_n hx hb d_T_forgetOne_59 rfl (lv_at hl 5 rfl) ?_
        refine mcSNv (As := [.ref wa, .int (plc sf k9 n9 0), .int n9]) (rest := []) (wr := [(to, .inr (2, [.ref sa, .ref wa])), (sa, .inl (cI, 26, .inl sf))]) (c_D_write l dC dI tb wa 303 (itN (fun j w => wrA 303 w (plc sf k9 n9 0 + nI j) (colm k9 (nI j) 2)) ((fxd k9).toNatClampNeg) wf) cI (plc sf k9 n9 0) n9 (by decide)) F tw_58 tw_28 tw_57 nw_0 hP hD [2] [0, 1] rfl rfl (by decide) (by decide) (by decide) hK [0] rfl hE hS hA hd_D_write rfl rfl ⟨Nat.le_of_ble_eq_true rfl, Nat.le_of_ble_eq_true rfl⟩ ⟨Nat.le_of_ble_eq_true rfl, Nat.le_of_ble_eq_true rfl⟩ hl.1 rfl (Nat.le_of_ble_eq_true rfl) d_T_forgetOne_60 (fun H locs hP hD hS => ?_)
        have hP : va_P (dC, dI) clX [(to, .inr (2, [.ref sa, .ref wa])), (sa, .inl (cI, 26, .inl sf)), (wa, .inl (cI, 303, .inl (wrA 303 (itN (fun j w => wrA 303 w (plc sf k9 n9 0 + nI j) (colm k9 (nI j) 2)) ((fxd k9).toNatClampNeg) wf) (plc sf k9 n9 0) n9)))] H := hP
        have hD : va_D A [(to, .inr (2, [.ref sa, .ref wa])), (sa, .inl (cI, 26, .inl sf)), (wa, .inl (cI, 303, .inl (wrA 303 (itN (fun j w => wrA 303 w (plc sf k9 n9 0 + nI j) (colm k9 (nI j) 2)) ((fxd k9).toNatClampNeg) wf) (plc sf k9 n9 0) n9)))] := hD
        have hP9 := hP.sub (ws' := [(to, .inr (2, [.ref sa, .ref wa])), (sa, .inl (cI, 26, .inl sf)), (wa, .inl (cI, 303, .inl (wrA 303 (itN (fun j w => wrA 303 w (plc sf k9 n9 0 + nI j) (colm k9 (nI j) 2)) ((fxd k9).toNatClampNeg) wf) (plc sf k9 n9 0) n9)))]) [0, 1, 2] rfl
        have hD9 := hD.sub (ws' := [(to, .inr (2, [.ref sa, .ref wa])), (sa, .inl (cI, 26, .inl sf)), (wa, .inl (cI, 303, .inl (wrA 303 (itN (fun j w => wrA 303 w (plc sf k9 n9 0 + nI j) (colm k9 (nI j) 2)) ((fxd k9).toNatClampNeg) wf) (plc sf k9 n9 0) n9)))]) [0, 1, 2] (by decide) rfl
        exact W.vret hx hb hr (fun t ht9 hW => ⟨⟨(), rfl, trivial, by rw [ht9]; simp only [fgO, if_pos c_71, if_neg c_72]; exact hP9, va_K.moved hW.alike hK, by rw [hAe]; simp only [fgO, if_pos c_71, if_neg c_72]; exact hD9⟩, hS.F ht9⟩) hS.2.2 d_T_forgetOne_63
    · exact absurd (lp_ge (fxd k9)) c_71
set_option maxHeartbeats 4000000 in
set_option maxRecDepth 100000 in
theorem c_T_forget (l : Launch) (dC : Nat → ClassId) (dI : Nat → Nat → Nat) (tb : tbT) (to sa wa : Nat) (sf wf : IF) (cI : ClassId) (sz : Nat) : MV l y_T_forget (Cond.code y_T_forget b_T_forget 4 none :: TB) ({ frames := 4, cells := 0, slots := 0, locals := 89 }) tb (dC, dI) [.ref to] [(to, .inr (2, [.ref sa, .ref wa])), (sa, .inl (cI, 26, .inl sf)), (wa, .inl (cI, 303, .inl wf))] [(to, .inr (2, [.ref sa, .ref wa])), (sa, .inl (cI, 26, .inl sf)), (wa, .inl (cI, 303, .inl (fgA sf wf)))] [(cI, .int)] sz := by
  refine Met.ofW (cc := b_T_forget) (maxL := 4) (ret := none) (by decide) rfl ?_
  intro p e s m args below meth c s₁ B hml hv
  obtain ⟨rfl, hsz, hP, hK, hD0, hE⟩ := hv
  have hx := B.exec
  have hb := B.bytes
  have hr := B.returns
  have ht := fun w (h : w ∈ TB) => atoms_spec (ws := Cond.code y_T_forget b_T_forget 4 none :: TB) B.pre w (List.mem_cons_of_mem _ h)
  have hown : s.vm.findClass R_T = some m.cls := findClass_of_methodNamed B.named
  have hlocks := B.notSynchronized
  subst hsz
  have hD := hD0.self (sz := s.heap.size)
  generalize hAe : va_A [(to, .inr (2, [.ref sa, .ref wa])), (sa, .inl (cI, 26, .inl sf)), (wa, .inl (cI, 303, .inl wf))] s.heap.size = A at hD hE ⊢
  have hA : ∀ q : Nat, s.heap.size ≤ q → A q := fun q h => by rw [← hAe]; exact Or.inr h
  have hS : va_S A s.heap s.heap [] := va_S.rf
  have F : CallFix p m c b_T_forget 4 s _ TB R_T := ⟨hx, hb, hml, hown, ht⟩
  have hl := lv_entry ([.ref to]) (n := 4) (Nat.le_of_ble_eq_true rfl)
  rw [lg_entry_eq]
  generalize (lg_sl ([.ref to]) ++ List.replicate (4 - (lg_sl ([.ref to])).length) Slot.unset).toArray = ls at hl ⊢
  have hl : lv_has ls 4 [(0, .ref to)] := hl
  refine lv_iconst (v := 0) hx hb d_T_forget_0 (by decide) ?_
  refine lv_istore_n (lv' := [(1, .int 0), (0, .ref to)]) hx hb d_T_forget_1 rfl hl (by decide) rfl (fun ls hl => ?_)
  refine lp_W (N := (26 : Int32).toNatClampNeg) (head := 2) (I := fun i H locs ls => va_P (dC, dI) clX [(to, .inr (2, [.ref sa, .ref wa])), (sa, .inl (cI, 26, .inl sf)), (wa, .inl (cI, 303, .inl (itN (fun k w => itN (fun n w => fgO sf (nI k) (nI n) w) (hld (nI k)).toNatClampNeg w) i wf)))] H ∧ va_D A [(to, .inr (2, [.ref sa, .ref wa])), (sa, .inl (cI, 26, .inl sf)), (wa, .inl (cI, 303, .inl (itN (fun k w => itN (fun n w => fgO sf (nI k) (nI n) w) (hld (nI k)).toNatClampNeg w) i wf)))] ∧ va_S A s.heap H locs ∧ lv_has ls 4 [(1, .int (nI i)), (0, .ref to)]) ?_ ?_ 0 (Nat.zero_le _) ⟨hP, hD, hS, lv_sub hl [0, 1] rfl⟩
  · intro i H locs ls hi_i hI0 kk_i
    obtain ⟨hP, hD, hS, hl⟩ := hI0
    refine lv_iload_n hx hb d_T_forget_2 rfl (lv_at hl 0 rfl) ?_
    refine lv_bipush (v := 26) hx hb d_T_forget_3 (by decide) ?_
    refine lv_icmp_ge (tgt := 38) hx hb d_T_forget_5 (by decide) (fun c_73 => ?_) (fun c_73 => ?_)
    · exact absurd c_73 (lp_lt hi_i)
    · refine lv_iload_n hx hb d_T_forget_8 rfl (lv_at hl 0 rfl) ?_
      refine rcS (As := [.int (nI i)]) (rest := []) (c_S_holders l dC dI tb (nI i) ) F tw_61 tw_30 tw_60 tw_59 hP [] rfl hK [] rfl hE hS hd_S_holders rfl rfl ⟨Nat.le_of_ble_eq_true rfl, Nat.le_of_ble_eq_true rfl⟩ ⟨Nat.le_of_ble_eq_true rfl, Nat.le_of_ble_eq_true rfl⟩ hl.1 rfl (Nat.le_of_ble_eq_true rfl) d_T_forget_9 ?_
      refine lv_istore_n (lv' := [(2, .int (hld (nI i))), (1, .int (nI i)), (0, .ref to)]) hx hb d_T_forget_12 rfl hl (by decide) rfl (fun ls hl => ?_)
      refine lv_iconst (v := 0) hx hb d_T_forget_13 (by decide) ?_
      refine lv_istore_n (lv' := [(3, .int 0), (2, .int (hld (nI i))), (1, .int (nI i)), (0, .ref to)]) hx hb d_T_forget_14 rfl hl (by decide) rfl (fun ls hl => ?_)
      refine lp_W (N := (hld (nI i)).toNatClampNeg) (head := 15) (I := fun j H locs ls => va_P (dC, dI) clX [(to, .inr (2, [.ref sa, .ref wa])), (sa, .inl (cI, 26, .inl sf)), (wa, .inl (cI, 303, .inl (itN (fun n w => fgO sf (nI i) (nI n) w) j (itN (fun k w => itN (fun n w => fgO sf (nI k) (nI n) w) (hld (nI k)).toNatClampNeg w) i wf))))] H ∧ va_D A [(to, .inr (2, [.ref sa, .ref wa])), (sa, .inl (cI, 26, .inl sf)), (wa, .inl (cI, 303, .inl (itN (fun n w => fgO sf (nI i) (nI n) w) j (itN (fun k w => itN (fun n w => fgO sf (nI k) (nI n) w) (hld (nI k)).toNatClampNeg w) i wf))))] ∧ va_S A s.heap H locs ∧ lv_has ls 4 [(3, .int (nI j)), (2, .int (hld (nI i))), (1, .int (nI i)), (0, .ref to)]) ?_ ?_ 0 (Nat.zero_le _) ⟨hP, hD, hS, lv_sub hl [0, 1, 2, 3] rfl⟩
      · intro j H locs ls hi_j hI0 kk_j
        obtain ⟨hP, hD, hS, hl⟩ := hI0
        refine lv_iload_n hx hb d_T_forget_15 rfl (lv_at hl 0 rfl) ?_
        refine lv_iload_n hx hb d_T_forget_16 rfl (lv_at hl 1 rfl) ?_
        refine lv_icmp_ge (tgt := 32) hx hb d_T_forget_17 (by decide) (fun c_74 => ?_) (fun c_74 => ?_)
        · exact absurd c_74 (lp_lt hi_j)
        · refine lv_aload_n hx hb d_T_forget_20 rfl (lv_at hl 3 rfl) ?_
          refine lv_iload_n hx hb d_T_forget_21 rfl (lv_at hl 2 rfl) ?_
          refine lv_iload_n hx hb d_T_forget_22 rfl (lv_at hl 0 rfl) ?_
          refine mcVv (As := [.int (nI i), .int (nI j)]) (rest := []) (wr := []) (c_T_forgetOne l dC dI tb to sa wa sf (itN (fun n w => fgO sf (nI i) (nI n) w) j (itN (fun k w => itN (fun n w => fgO sf (nI k) (nI n) w) (hld (nI k)).toNatClampNeg w) i wf)) cI (nI i) (nI j) ) F tw_85 tw_29 tw_84 tw_0 tw_82 hP hD [0, 1, 2] [] rfl rfl (by decide) (by decide) (by decide) hK [0] rfl hE hS hA (q0 := 0) rfl rfl hd_T_forgetOne rfl rfl ⟨Nat.le_of_ble_eq_true rfl, Nat.le_of_ble_eq_true rfl⟩ ⟨Nat.le_of_ble_eq_true rfl, Nat.le_of_ble_eq_true rfl⟩ hl.1 rfl (Nat.le_of_ble_eq_true rfl) d_T_forget_23 (fun H locs hP hD hS => ?_)
          have hP : va_P (dC, dI) clX [(to, .inr (2, [.ref sa, .ref wa])), (sa, .inl (cI, 26, .inl sf)), (wa, .inl (cI, 303, .inl (fgO sf (nI i) (nI j) (itN (fun n w => fgO sf (nI i) (nI n) w) j (itN (fun k w => itN (fun n w => fgO sf (nI k) (nI n) w) (hld (nI k)).toNatClampNeg w) i wf)))))] H := hP
          have hD : va_D A [(to, .inr (2, [.ref sa, .ref wa])), (sa, .inl (cI, 26, .inl sf)), (wa, .inl (cI, 303, .inl (fgO sf (nI i) (nI j) (itN (fun n w => fgO sf (nI i) (nI n) w) j (itN (fun k w => itN (fun n w => fgO sf (nI k) (nI n) w) (hld (nI k)).toNatClampNeg w) i wf)))))] := hD
          refine lv_iinc (v := ((nI j) + 1)) (lv' := [(3, .int ((nI j) + 1)), (2, .int (hld (nI i))), (1, .int (nI i)), (0, .ref to)]) hx hb d_T_forget_26 hl (k := 0) rfl rfl (by decide) rfl (fun ls hl => ?_)
          refine lv_goto (tgt := 15) hx hb d_T_forget_29 (by decide) ?_
          rw [nI_1] at hl
          exact kk_j _ _ _ ⟨hP.sub [0, 1, 2] rfl, hD.sub [0, 1, 2] (by decide) rfl, hS, lv_sub hl [0, 1, 2, 3] rfl⟩
      · intro H locs ls hI0
        obtain ⟨hP, hD, hS, hl⟩ := hI0
        refine lv_iload_n hx hb d_T_forget_15 rfl (lv_at hl 0 rfl) ?_
        refine lv_iload_n hx hb d_T_forget_16 rfl (lv_at hl 1 rfl) ?_
        refine lv_icmp_ge (tgt := 32) hx hb d_T_forget_17 (by decide) (fun c_75 => ?_) (fun c_75 => ?_)
        · refine lv_iinc (v := ((nI i) + 1)) (lv' := [(1, .int ((nI i) + 1)), (3, .int (nI ((hld (nI i)).toNatClampNeg))), (2, .int (hld (nI i))), (0, .ref to)]) hx hb d_T_forget_32 hl (k := 2) rfl rfl (by decide) rfl (fun ls hl => ?_)
          refine lv_goto (tgt := 2) hx hb d_T_forget_35 (by decide) ?_
          rw [nI_1] at hl
          exact kk_i _ _ _ ⟨hP.sub [0, 1, 2] rfl, hD.sub [0, 1, 2] (by decide) rfl, hS, lv_sub hl [0, 3] rfl⟩
        · exact absurd (lp_ge (hld (nI i))) c_75
  · intro H locs ls hI0
    obtain ⟨hP, hD, hS, hl⟩ := hI0
    refine lv_iload_n hx hb d_T_forget_2 rfl (lv_at hl 0 rfl) ?_
    refine lv_bipush (v := 26) hx hb d_T_forget_3 (by decide) ?_
    refine lv_icmp_ge (tgt := 38) hx hb d_T_forget_5 (by decide) (fun c_76 => ?_) (fun c_76 => ?_)
    · have hP9 := hP.sub (ws' := [(to, .inr (2, [.ref sa, .ref wa])), (sa, .inl (cI, 26, .inl sf)), (wa, .inl (cI, 303, .inl (itN (fun k w => itN (fun n w => fgO sf (nI k) (nI n) w) (hld (nI k)).toNatClampNeg w) ((26 : Int32).toNatClampNeg) wf)))]) [0, 1, 2] rfl
      have hD9 := hD.sub (ws' := [(to, .inr (2, [.ref sa, .ref wa])), (sa, .inl (cI, 26, .inl sf)), (wa, .inl (cI, 303, .inl (itN (fun k w => itN (fun n w => fgO sf (nI k) (nI n) w) (hld (nI k)).toNatClampNeg w) ((26 : Int32).toNatClampNeg) wf)))]) [0, 1, 2] (by decide) rfl
      exact W.vret hx hb hr (fun t ht9 hW => ⟨⟨(), rfl, trivial, by rw [ht9]; exact hP9, va_K.moved hW.alike hK, by rw [hAe]; exact hD9⟩, hS.F ht9⟩) hS.2.2 d_T_forget_38
    · exact absurd (lp_ge (26 : Int32)) c_76
set_option maxHeartbeats 4000000 in
set_option maxRecDepth 100000 in
theorem c_D_startAnew (l : Launch) (dC : Nat → ClassId) (dI : Nat → Nat → Nat) (tb : tbT) (x me sm to co ru : Nat) (sl fw fh : Int32) (bk : Nat) (pl dp lp ld dn rf qu ov : Int32) (cw : Nat) (kd mn : Int32) (sz : Nat) : MV l y_D_startAnew (Cond.code y_D_startAnew b_D_startAnew 1 none :: TB) ({ frames := 2, cells := 0, slots := 0, locals := 42 }) tb (dC, dI) [.ref x] [(x, .inr (3, [.ref me, .ref sm, .ref to, .ref co, .ref ru, .int sl, .int fw, .int fh])), (ru, .inr (1, [.ref bk, .int pl, .int dp, .int lp, .int ld, .int dn, .int rf, .int qu, .int ov])), (co, .inr (0, [.ref cw, .int kd, .int mn]))] [(x, .inr (3, [.ref me, .ref sm, .ref to, .ref co, .ref ru, .int sl, .int fw, .int fh])), (ru, .inr (1, [.ref bk, .int 0, .int 0, .int (-1), .int (-1), .int 0, .int 0, .int (-1), .int 0])), (co, .inr (0, [.ref cw, .int 0, .int 0]))] [] sz := by
  refine Met.ofW (cc := b_D_startAnew) (maxL := 1) (ret := none) (by decide) rfl ?_
  intro p e s m args below meth c s₁ B hml hv
  obtain ⟨rfl, hsz, hP, hK, hD0, hE⟩ := hv
  have hx := B.exec
  have hb := B.bytes
  have hr := B.returns
  have ht := fun w (h : w ∈ TB) => atoms_spec (ws := Cond.code y_D_startAnew b_D_startAnew 1 none :: TB) B.pre w (List.mem_cons_of_mem _ h)
  have hown : s.vm.findClass R_D = some m.cls := findClass_of_methodNamed B.named
  have hlocks := B.notSynchronized
  subst hsz
  have hD := hD0.self (sz := s.heap.size)
  generalize hAe : va_A [(x, .inr (3, [.ref me, .ref sm, .ref to, .ref co, .ref ru, .int sl, .int fw, .int fh])), (ru, .inr (1, [.ref bk, .int pl, .int dp, .int lp, .int ld, .int dn, .int rf, .int qu, .int ov])), (co, .inr (0, [.ref cw, .int kd, .int mn]))] s.heap.size = A at hD hE ⊢
  have hA : ∀ q : Nat, s.heap.size ≤ q → A q := fun q h => by rw [← hAe]; exact Or.inr h
  have hS : va_S A s.heap s.heap [] := va_S.rf
  have F : CallFix p m c b_D_startAnew 1 s _ TB R_D := ⟨hx, hb, hml, hown, ht⟩
  have hl := lv_entry ([.ref x]) (n := 1) (Nat.le_of_ble_eq_true rfl)
  rw [lg_entry_eq]
  generalize (lg_sl ([.ref x]) ++ List.replicate (1 - (lg_sl ([.ref x])).length) Slot.unset).toArray = ls at hl ⊢
  have hl : lv_has ls 1 [(0, .ref x)] := hl
  refine lv_aload_n hx hb d_D_startAnew_0 rfl (lv_at hl 0 rfl) ?_
  refine va_get (D := (dC, dI)) (ci := 3) (v := .ref co) (C := R_D) (T := F_D) (N := 8) hx hb ht tu_D hown hK hP 0 rfl rfl 3 (by decide) (ht _ tw_179) (fun _ h9 => h9) rfl d_D_startAnew_1 ?_
  refine mcVv (As := []) (rest := []) (wr := [(x, .inr (3, [.ref me, .ref sm, .ref to, .ref co, .ref ru, .int sl, .int fw, .int fh])), (ru, .inr (1, [.ref bk, .int pl, .int dp, .int lp, .int ld, .int dn, .int rf, .int qu, .int ov]))]) (c_C_forget l dC dI tb co cw kd mn ) F tw_212 tw_32 tw_210 tw_211 tw_209 hP hD [2] [0, 1] rfl rfl (by decide) (by decide) (by decide) hK [] rfl hE hS hA (q0 := 2) rfl rfl hd_C_forget rfl rfl ⟨Nat.le_of_ble_eq_true rfl, Nat.le_of_ble_eq_true rfl⟩ ⟨Nat.le_of_ble_eq_true rfl, Nat.le_of_ble_eq_true rfl⟩ hl.1 rfl (Nat.le_of_ble_eq_true rfl) d_D_startAnew_4 (fun H locs hP hD hS => ?_)
  have hP : va_P (dC, dI) clX [(x, .inr (3, [.ref me, .ref sm, .ref to, .ref co, .ref ru, .int sl, .int fw, .int fh])), (ru, .inr (1, [.ref bk, .int pl, .int dp, .int lp, .int ld, .int dn, .int rf, .int qu, .int ov])), (co, .inr (0, [.ref cw, .int 0, .int 0]))] H := hP
  have hD : va_D A [(x, .inr (3, [.ref me, .ref sm, .ref to, .ref co, .ref ru, .int sl, .int fw, .int fh])), (ru, .inr (1, [.ref bk, .int pl, .int dp, .int lp, .int ld, .int dn, .int rf, .int qu, .int ov])), (co, .inr (0, [.ref cw, .int 0, .int 0]))] := hD
  refine lv_aload_n hx hb d_D_startAnew_7 rfl (lv_at hl 0 rfl) ?_
  refine va_get (D := (dC, dI)) (ci := 3) (v := .ref ru) (C := R_D) (T := F_D) (N := 8) hx hb ht tu_D hown hK hP 0 rfl rfl 4 (by decide) (ht _ tw_180) (fun _ h9 => h9) rfl d_D_startAnew_8 ?_
  refine mcVv (As := []) (rest := []) (wr := [(x, .inr (3, [.ref me, .ref sm, .ref to, .ref co, .ref ru, .int sl, .int fw, .int fh])), (co, .inr (0, [.ref cw, .int 0, .int 0]))]) (c_R_restart l dC dI tb ru bk pl dp lp ld dn rf qu ov ) F tw_139 tw_33 tw_137 tw_138 tw_217 hP hD [1] [0, 2] rfl rfl (by decide) (by decide) (by decide) hK [] rfl hE hS hA (q0 := 1) rfl rfl hd_R_restart rfl rfl ⟨Nat.le_of_ble_eq_true rfl, Nat.le_of_ble_eq_true rfl⟩ ⟨Nat.le_of_ble_eq_true rfl, Nat.le_of_ble_eq_true rfl⟩ hl.1 rfl (Nat.le_of_ble_eq_true rfl) d_D_startAnew_11 (fun H locs hP hD hS => ?_)
  have hP : va_P (dC, dI) clX [(x, .inr (3, [.ref me, .ref sm, .ref to, .ref co, .ref ru, .int sl, .int fw, .int fh])), (co, .inr (0, [.ref cw, .int 0, .int 0])), (ru, .inr (1, [.ref bk, .int 0, .int 0, .int (-1), .int (-1), .int 0, .int 0, .int (-1), .int 0]))] H := hP
  have hD : va_D A [(x, .inr (3, [.ref me, .ref sm, .ref to, .ref co, .ref ru, .int sl, .int fw, .int fh])), (co, .inr (0, [.ref cw, .int 0, .int 0])), (ru, .inr (1, [.ref bk, .int 0, .int 0, .int (-1), .int (-1), .int 0, .int 0, .int (-1), .int 0]))] := hD
  have hP9 := hP.sub (ws' := [(x, .inr (3, [.ref me, .ref sm, .ref to, .ref co, .ref ru, .int sl, .int fw, .int fh])), (ru, .inr (1, [.ref bk, .int 0, .int 0, .int (-1), .int (-1), .int 0, .int 0, .int (-1), .int 0])), (co, .inr (0, [.ref cw, .int 0, .int 0]))]) [0, 2, 1] rfl
  have hD9 := hD.sub (ws' := [(x, .inr (3, [.ref me, .ref sm, .ref to, .ref co, .ref ru, .int sl, .int fw, .int fh])), (ru, .inr (1, [.ref bk, .int 0, .int 0, .int (-1), .int (-1), .int 0, .int 0, .int (-1), .int 0])), (co, .inr (0, [.ref cw, .int 0, .int 0]))]) [0, 2, 1] (by decide) rfl
  exact W.vret hx hb hr (fun t ht9 hW => ⟨⟨(), rfl, trivial, by rw [ht9]; exact hP9, va_K.moved hW.alike hK, by rw [hAe]; exact hD9⟩, hS.F ht9⟩) hS.2.2 d_D_startAnew_14
set_option maxHeartbeats 4000000 in
set_option maxRecDepth 100000 in
theorem c_D_clear (l : Launch) (dC : Nat → ClassId) (dI : Nat → Nat → Nat) (tb : tbT) (x me sm to co ru : Nat) (sl fw fh : Int32) (bk : Nat) (pl dp lp ld dn rf qu ov : Int32) (cw : Nat) (kd mn : Int32) (sz : Nat) : MV l y_D_clear (Cond.code y_D_clear b_D_clear 1 none :: TB) ({ frames := 3, cells := 0, slots := 0, locals := 62 }) tb (dC, dI) [.ref x] [(x, .inr (3, [.ref me, .ref sm, .ref to, .ref co, .ref ru, .int sl, .int fw, .int fh])), (ru, .inr (1, [.ref bk, .int pl, .int dp, .int lp, .int ld, .int dn, .int rf, .int qu, .int ov])), (co, .inr (0, [.ref cw, .int kd, .int mn]))] [(x, .inr (3, [.ref me, .ref sm, .ref to, .ref co, .ref ru, .int 0, .int fw, .int fh])), (ru, .inr (1, [.ref bk, .int 0, .int 0, .int (-1), .int (-1), .int 0, .int 0, .int (-1), .int 0])), (co, .inr (0, [.ref cw, .int 0, .int 0]))] [] sz := by
  refine Met.ofW (cc := b_D_clear) (maxL := 1) (ret := none) (by decide) rfl ?_
  intro p e s m args below meth c s₁ B hml hv
  obtain ⟨rfl, hsz, hP, hK, hD0, hE⟩ := hv
  have hx := B.exec
  have hb := B.bytes
  have hr := B.returns
  have ht := fun w (h : w ∈ TB) => atoms_spec (ws := Cond.code y_D_clear b_D_clear 1 none :: TB) B.pre w (List.mem_cons_of_mem _ h)
  have hown : s.vm.findClass R_D = some m.cls := findClass_of_methodNamed B.named
  have hlocks := B.notSynchronized
  subst hsz
  have hD := hD0.self (sz := s.heap.size)
  generalize hAe : va_A [(x, .inr (3, [.ref me, .ref sm, .ref to, .ref co, .ref ru, .int sl, .int fw, .int fh])), (ru, .inr (1, [.ref bk, .int pl, .int dp, .int lp, .int ld, .int dn, .int rf, .int qu, .int ov])), (co, .inr (0, [.ref cw, .int kd, .int mn]))] s.heap.size = A at hD hE ⊢
  have hA : ∀ q : Nat, s.heap.size ≤ q → A q := fun q h => by rw [← hAe]; exact Or.inr h
  have hS : va_S A s.heap s.heap [] := va_S.rf
  have F : CallFix p m c b_D_clear 1 s _ TB R_D := ⟨hx, hb, hml, hown, ht⟩
  have hl := lv_entry ([.ref x]) (n := 1) (Nat.le_of_ble_eq_true rfl)
  rw [lg_entry_eq]
  generalize (lg_sl ([.ref x]) ++ List.replicate (1 - (lg_sl ([.ref x])).length) Slot.unset).toArray = ls at hl ⊢
  have hl : lv_has ls 1 [(0, .ref x)] := hl
  refine lv_aload_n hx hb d_D_clear_0 rfl (lv_at hl 0 rfl) ?_
  refine lv_iconst (v := 0) hx hb d_D_clear_1 (by decide) ?_
  refine va_put (D := (dC, dI)) (ci := 3) (v := .int 0) (ty := .int) (C := R_D) (T := F_D) (N := 8) hx hb ht tu_D ft_D ft_D_ok n_D hown hK hP hD hS 0 rfl rfl 5 (by decide) (ht _ tw_181) (fun _ h9 => h9) rfl (by decide +kernel) rfl rfl (Nat.le_of_ble_eq_true rfl) d_D_clear_2 (fun H locs hP hD hS => ?_)
  have hP : va_P (dC, dI) clX [(x, .inr (3, [.ref me, .ref sm, .ref to, .ref co, .ref ru, .int 0, .int fw, .int fh])), (ru, .inr (1, [.ref bk, .int pl, .int dp, .int lp, .int ld, .int dn, .int rf, .int qu, .int ov])), (co, .inr (0, [.ref cw, .int kd, .int mn]))] H := hP
  have hD : va_D A [(x, .inr (3, [.ref me, .ref sm, .ref to, .ref co, .ref ru, .int 0, .int fw, .int fh])), (ru, .inr (1, [.ref bk, .int pl, .int dp, .int lp, .int ld, .int dn, .int rf, .int qu, .int ov])), (co, .inr (0, [.ref cw, .int kd, .int mn]))] := hD
  refine lv_aload_n hx hb d_D_clear_5 rfl (lv_at hl 0 rfl) ?_
  refine mcVv (As := []) (rest := []) (wr := []) (c_D_startAnew l dC dI tb x me sm to co ru 0 fw fh bk pl dp lp ld dn rf qu ov cw kd mn ) F tw_208 tw_28 tw_207 tw_2 tw_205 hP hD [0, 1, 2] [] rfl rfl (by decide) (by decide) (by decide) hK [] rfl hE hS hA (q0 := 0) rfl rfl hd_D_startAnew rfl rfl ⟨Nat.le_of_ble_eq_true rfl, Nat.le_of_ble_eq_true rfl⟩ ⟨Nat.le_of_ble_eq_true rfl, Nat.le_of_ble_eq_true rfl⟩ hl.1 rfl (Nat.le_of_ble_eq_true rfl) d_D_clear_6 (fun H locs hP hD hS => ?_)
  have hP : va_P (dC, dI) clX [(x, .inr (3, [.ref me, .ref sm, .ref to, .ref co, .ref ru, .int 0, .int fw, .int fh])), (ru, .inr (1, [.ref bk, .int 0, .int 0, .int (-1), .int (-1), .int 0, .int 0, .int (-1), .int 0])), (co, .inr (0, [.ref cw, .int 0, .int 0]))] H := hP
  have hD : va_D A [(x, .inr (3, [.ref me, .ref sm, .ref to, .ref co, .ref ru, .int 0, .int fw, .int fh])), (ru, .inr (1, [.ref bk, .int 0, .int 0, .int (-1), .int (-1), .int 0, .int 0, .int (-1), .int 0])), (co, .inr (0, [.ref cw, .int 0, .int 0]))] := hD
  have hP9 := hP.sub (ws' := [(x, .inr (3, [.ref me, .ref sm, .ref to, .ref co, .ref ru, .int 0, .int fw, .int fh])), (ru, .inr (1, [.ref bk, .int 0, .int 0, .int (-1), .int (-1), .int 0, .int 0, .int (-1), .int 0])), (co, .inr (0, [.ref cw, .int 0, .int 0]))]) [0, 1, 2] rfl
  have hD9 := hD.sub (ws' := [(x, .inr (3, [.ref me, .ref sm, .ref to, .ref co, .ref ru, .int 0, .int fw, .int fh])), (ru, .inr (1, [.ref bk, .int 0, .int 0, .int (-1), .int (-1), .int 0, .int 0, .int (-1), .int 0])), (co, .inr (0, [.ref cw, .int 0, .int 0]))]) [0, 1, 2] (by decide) rfl
  exact W.vret hx hb hr (fun t ht9 hW => ⟨⟨(), rfl, trivial, by rw [ht9]; exact hP9, va_K.moved hW.alike hK, by rw [hAe]; exact hD9⟩, hS.F ht9⟩) hS.2.2 d_D_clear_9
set_option maxHeartbeats 4000000 in
set_option maxRecDepth 100000 in
theorem c_D_begin (l : Launch) (dC : Nat → ClassId) (dI : Nat → Nat → Nat) (tb : tbT) (x me sm to co ru : Nat) (sl fw fh : Int32) (bk : Nat) (pl dp lp ld dn rf qu ov : Int32) (cw : Nat) (kd mn : Int32) (sa wa : Nat) (sf wf : IF) (cI : ClassId) (k9 : Int32) (sz : Nat) : MV l y_D_begin (Cond.code y_D_begin b_D_begin 2 none :: TB) ({ frames := 5, cells := 0, slots := 0, locals := 112 }) tb (dC, dI) [.ref x, .int k9] [(x, .inr (3, [.ref me, .ref sm, .ref to, .ref co, .ref ru, .int sl, .int fw, .int fh])), (ru, .inr (1, [.ref bk, .int pl, .int dp, .int lp, .int ld, .int dn, .int rf, .int qu, .int ov])), (co, .inr (0, [.ref cw, .int kd, .int mn])), (to, .inr (2, [.ref sa, .ref wa])), (sa, .inl (cI, 26, .inl sf)), (wa, .inl (cI, 303, .inl wf))] [(x, .inr (3, [.ref me, .ref sm, .ref to, .ref co, .ref ru, .int sl, .int fw, .int fh])), (ru, .inr (1, [.ref bk, .int 0, .int 0, .int (-1), .int (-1), .int 0, .int 0, .int (-1), .int 0])), (co, .inr (0, [.ref cw, .int 0, .int 0])), (to, .inr (2, [.ref sa, .ref wa])), (sa, .inl (cI, 26, .inl sf)), (wa, .inl (cI, 303, .inl (if k9 = 0 then fgA sf wf else wf)))] [(cI, .int)] sz := by
  refine Met.ofW (cc := b_D_begin) (maxL := 2) (ret := none) (by decide) rfl ?_
  intro p e s m args below meth c s₁ B hml hv
  obtain ⟨rfl, hsz, hP, hK, hD0, hE⟩ := hv
  have hx := B.exec
  have hb := B.bytes
  have hr := B.returns
  have ht := fun w (h : w ∈ TB) => atoms_spec (ws := Cond.code y_D_begin b_D_begin 2 none :: TB) B.pre w (List.mem_cons_of_mem _ h)
  have hown : s.vm.findClass R_D = some m.cls := findClass_of_methodNamed B.named
  have hlocks := B.notSynchronized
  subst hsz
  have hD := hD0.self (sz := s.heap.size)
  generalize hAe : va_A [(x, .inr (3, [.ref me, .ref sm, .ref to, .ref co, .ref ru, .int sl, .int fw, .int fh])), (ru, .inr (1, [.ref bk, .int pl, .int dp, .int lp, .int ld, .int dn, .int rf, .int qu, .int ov])), (co, .inr (0, [.ref cw, .int kd, .int mn])), (to, .inr (2, [.ref sa, .ref wa])), (sa, .inl (cI, 26, .inl sf)), (wa, .inl (cI, 303, .inl wf))] s.heap.size = A at hD hE ⊢
  have hA : ∀ q : Nat, s.heap.size ≤ q → A q := fun q h => by rw [← hAe]; exact Or.inr h
  have hS : va_S A s.heap s.heap [] := va_S.rf
  have F : CallFix p m c b_D_begin 2 s _ TB R_D := ⟨hx, hb, hml, hown, ht⟩
  have hl := lv_entry ([.ref x, .int k9]) (n := 2) (Nat.le_of_ble_eq_true rfl)
  rw [lg_entry_eq]
  generalize (lg_sl ([.ref x, .int k9]) ++ List.replicate (2 - (lg_sl ([.ref x, .int k9])).length) Slot.unset).toArray = ls at hl ⊢
  have hl : lv_has ls 2 [(0, .ref x), (1, .int k9)] := hl
  refine lv_iload_n hx hb d_D_begin_0 rfl (lv_at hl 1 rfl) ?_
  refine lv_if_ne (tgt := 11) hx hb d_D_begin_1 (by decide) (fun c_77 => ?_) (fun c_77 => ?_)
  · refine lv_aload_n hx hb d_D_begin_11 rfl (lv_at hl 0 rfl) ?_
    refine mcVv (As := []) (rest := []) (wr := [(to, .inr (2, [.ref sa, .ref wa])), (sa, .inl (cI, 26, .inl sf)), (wa, .inl (cI, 303, .inl wf))]) (c_D_startAnew l dC dI tb x me sm to co ru sl fw fh bk pl dp lp ld dn rf qu ov cw kd mn ) F tw_208 tw_28 tw_207 tw_2 tw_205 hP hD [0, 1, 2] [3, 4, 5] rfl rfl (by decide) (by decide) (by decide) hK [] rfl hE hS hA (q0 := 0) rfl rfl hd_D_startAnew rfl rfl ⟨Nat.le_of_ble_eq_true rfl, Nat.le_of_ble_eq_true rfl⟩ ⟨Nat.le_of_ble_eq_true rfl, Nat.le_of_ble_eq_true rfl⟩ hl.1 rfl (Nat.le_of_ble_eq_true rfl) d_D_begin_12 (fun H locs hP hD hS => ?_)
    have hP : va_P (dC, dI) clX [(to, .inr (2, [.ref sa, .ref wa])), (sa, .inl (cI, 26, .inl sf)), (wa, .inl (cI, 303, .inl wf)), (x, .inr (3, [.ref me, .ref sm, .ref to, .ref co, .ref ru, .int sl, .int fw, .int fh])), (ru, .inr (1, [.ref bk, .int 0, .int 0, .int (-1), .int (-1), .int 0, .int 0, .int (-1), .int 0])), (co, .inr (0, [.ref cw, .int 0, .int 0]))] H := hP
    have hD : va_D A [(to, .inr (2, [.ref sa, .ref wa])), (sa, .inl (cI, 26, .inl sf)), (wa, .inl (cI, 303, .inl wf)), (x, .inr (3, [.ref me, .ref sm, .ref to, .ref co, .ref ru, .int sl, .int fw, .int fh])), (ru, .inr (1, [.ref bk, .int 0, .int 0, .int (-1), .int (-1), .int 0, .int 0, .int (-1), .int 0])), (co, .inr (0, [.ref cw, .int 0, .int 0]))] := hD
    have hP9 := hP.sub (ws' := [(x, .inr (3, [.ref me, .ref sm, .ref to, .ref co, .ref ru, .int sl, .int fw, .int fh])), (ru, .inr (1, [.ref bk, .int 0, .int 0, .int (-1), .int (-1), .int 0, .int 0, .int (-1), .int 0])), (co, .inr (0, [.ref cw, .int 0, .int 0])), (to, .inr (2, [.ref sa, .ref wa])), (sa, .inl (cI, 26, .inl sf)), (wa, .inl (cI, 303, .inl wf))]) [3, 4, 5, 0, 1, 2] rfl
    have hD9 := hD.sub (ws' := [(x, .inr (3, [.ref me, .ref sm, .ref to, .ref co, .ref ru, .int sl, .int fw, .int fh])), (ru, .inr (1, [.ref bk, .int 0, .int 0, .int (-1), .int (-1), .int 0, .int 0, .int (-1), .int 0])), (co, .inr (0, [.ref cw, .int 0, .int 0])), (to, .inr (2, [.ref sa, .ref wa])), (sa, .inl (cI, 26, .inl sf)), (wa, .inl (cI, 303, .inl wf))]) [3, 4, 5, 0, 1, 2] (by decide) rfl
    exact W.vret hx hb hr (fun t ht9 hW => ⟨⟨(), rfl, trivial, by rw [ht9]; simp only [if_neg c_77]; exact hP9, va_K.moved hW.alike hK, by rw [hAe]; simp only [if_neg c_77]; exact hD9⟩, hS.F ht9⟩) hS.2.2 d_D_begin_15
  · refine lv_aload_n hx hb d_D_begin_4 rfl (lv_at hl 0 rfl) ?_
    refine va_get (D := (dC, dI)) (ci := 3) (v := .ref to) (C := R_D) (T := F_D) (N := 8) hx hb ht tu_D hown hK hP 0 rfl rfl 2 (by decide) (ht _ tw_178) (fun _ h9 => h9) rfl d_D_begin_5 ?_
    refine mcVv (As := []) (rest := []) (wr := [(x, .inr (3, [.ref me, .ref sm, .ref to, .ref co, .ref ru, .int sl, .int fw, .int fh])), (ru, .inr (1, [.ref bk, .int pl, .int dp, .int lp, .int ld, .int dn, .int rf, .int qu, .int ov])), (co, .inr (0, [.ref cw, .int kd, .int mn]))]) (c_T_forget l dC dI tb to sa wa sf wf cI ) F tw_81 tw_29 tw_79 tw_80 tw_222 hP hD [3, 4, 5] [0, 1, 2] rfl rfl (by decide) (by decide) (by decide) hK [0] rfl hE hS hA (q0 := 3) rfl rfl hd_T_forget rfl rfl ⟨Nat.le_of_ble_eq_true rfl, Nat.le_of_ble_eq_true rfl⟩ ⟨Nat.le_of_ble_eq_true rfl, Nat.le_of_ble_eq_true rfl⟩ hl.1 rfl (Nat.le_of_ble_eq_true rfl) d_D_begin_8 (fun H locs hP hD hS => ?_)
    have hP : va_P (dC, dI) clX [(x, .inr (3, [.ref me, .ref sm, .ref to, .ref co, .ref ru, .int sl, .int fw, .int fh])), (ru, .inr (1, [.ref bk, .int pl, .int dp, .int lp, .int ld, .int dn, .int rf, .int qu, .int ov])), (co, .inr (0, [.ref cw, .int kd, .int mn])), (to, .inr (2, [.ref sa, .ref wa])), (sa, .inl (cI, 26, .inl sf)), (wa, .inl (cI, 303, .inl (fgA sf wf)))] H := hP
    have hD : va_D A [(x, .inr (3, [.ref me, .ref sm, .ref to, .ref co, .ref ru, .int sl, .int fw, .int fh])), (ru, .inr (1, [.ref bk, .int pl, .int dp, .int lp, .int ld, .int dn, .int rf, .int qu, .int ov])), (co, .inr (0, [.ref cw, .int kd, .int mn])), (to, .inr (2, [.ref sa, .ref wa])), (sa, .inl (cI, 26, .inl sf)), (wa, .inl (cI, 303, .inl (fgA sf wf)))] := hD
    refine lv_aload_n hx hb d_D_begin_11 rfl (lv_at hl 0 rfl) ?_
    refine mcVv (As := []) (rest := []) (wr := [(to, .inr (2, [.ref sa, .ref wa])), (sa, .inl (cI, 26, .inl sf)), (wa, .inl (cI, 303, .inl (fgA sf wf)))]) (c_D_startAnew l dC dI tb x me sm to co ru sl fw fh bk pl dp lp ld dn rf qu ov cw kd mn ) F tw_208 tw_28 tw_207 tw_2 tw_205 hP hD [0, 1, 2] [3, 4, 5] rfl rfl (by decide) (by decide) (by decide) hK [] rfl hE hS hA (q0 := 0) rfl rfl hd_D_startAnew rfl rfl ⟨Nat.le_of_ble_eq_true rfl, Nat.le_of_ble_eq_true rfl⟩ ⟨Nat.le_of_ble_eq_true rfl, Nat.le_of_ble_eq_true rfl⟩ hl.1 rfl (Nat.le_of_ble_eq_true rfl) d_D_begin_12 (fun H locs hP hD hS => ?_)
    have hP : va_P (dC, dI) clX [(to, .inr (2, [.ref sa, .ref wa])), (sa, .inl (cI, 26, .inl sf)), (wa, .inl (cI, 303, .inl (fgA sf wf))), (x, .inr (3, [.ref me, .ref sm, .ref to, .ref co, .ref ru, .int sl, .int fw, .int fh])), (ru, .inr (1, [.ref bk, .int 0, .int 0, .int (-1), .int (-1), .int 0, .int 0, .int (-1), .int 0])), (co, .inr (0, [.ref cw, .int 0, .int 0]))] H := hP
    have hD : va_D A [(to, .inr (2, [.ref sa, .ref wa])), (sa, .inl (cI, 26, .inl sf)), (wa, .inl (cI, 303, .inl (fgA sf wf))), (x, .inr (3, [.ref me, .ref sm, .ref to, .ref co, .ref ru, .int sl, .int fw, .int fh])), (ru, .inr (1, [.ref bk, .int 0, .int 0, .int (-1), .int (-1), .int 0, .int 0, .int (-1), .int 0])), (co, .inr (0, [.ref cw, .int 0, .int 0]))] := hD
    have hP9 := hP.sub (ws' := [(x, .inr (3, [.ref me, .ref sm, .ref to, .ref co, .ref ru, .int sl, .int fw, .int fh])), (ru, .inr (1, [.ref bk, .int 0, .int 0, .int (-1), .int (-1), .int 0, .int 0, .int (-1), .int 0])), (co, .inr (0, [.ref cw, .int 0, .int 0])), (to, .inr (2, [.ref sa, .ref wa])), (sa, .inl (cI, 26, .inl sf)), (wa, .inl (cI, 303, .inl (fgA sf wf)))]) [3, 4, 5, 0, 1, 2] rfl
    have hD9 := hD.sub (ws' := [(x, .inr (3, [.ref me, .ref sm, .ref to, .ref co, .ref ru, .int sl, .int fw, .int fh])), (ru, .inr (1, [.ref bk, .int 0, .int 0, .int (-1), .int (-1), .int 0, .int 0, .int (-1), .int 0])), (co, .inr (0, [.ref cw, .int 0, .int 0])), (to, .inr (2, [.ref sa, .ref wa])), (sa, .inl (cI, 26, .inl sf)), (wa, .inl (cI, 303, .inl (fgA sf wf)))]) [3, 4, 5, 0, 1, 2] (by decide) rfl
    exact W.vret hx hb hr (fun t ht9 hW => ⟨⟨(), rfl, trivial, by rw [ht9]; simp only [if_pos c_77]; exact hP9, va_K.moved hW.alike hK, by rw [hAe]; simp only [if_pos c_77]; exact hD9⟩, hS.F ht9⟩) hS.2.2 d_D_begin_15
set_option maxHeartbeats 4000000 in
set_option maxRecDepth 100000 in
theorem c_D_carryOut (l : Launch) (dC : Nat → ClassId) (dI : Nat → Nat → Nat) (tb : tbT) (x me sm to co ru : Nat) (sl fw fh : Int32) (bk : Nat) (pl dp lp ld dn rf qu ov : Int32) (bf : IF) (cw : Nat) (kd mn : Int32) (cf : IF) (cI : ClassId) (mf : IF) (sa wa : Nat) (sf wf : IF) (sz : Nat) : MV l y_D_carryOut (Cond.code y_D_carryOut b_D_carryOut 1 none :: TB) ({ frames := 5, cells := 0, slots := 0, locals := 113 }) tb (dC, dI) [.ref x] [(x, .inr (3, [.ref me, .ref sm, .ref to, .ref co, .ref ru, .int sl, .int fw, .int fh])), (ru, .inr (1, [.ref bk, .int pl, .int dp, .int lp, .int ld, .int dn, .int rf, .int qu, .int ov])), (bk, .inl (cI, 4, .inl bf)), (co, .inr (0, [.ref cw, .int kd, .int mn])), (cw, .inl (cI, 258, .inl cf)), (to, .inr (2, [.ref sa, .ref wa])), (sa, .inl (cI, 26, .inl sf)), (wa, .inl (cI, 303, .inl wf)), (me, .inl (cI, 4096, .inl mf))] [(x, .inr (3, [.ref me, .ref sm, .ref to, .ref co, .ref ru, .int sl, .int fw, .int fh])), (ru, .inr (1, [.ref bk, .int ((cry pl dp ov qu kd mn bf cf sf wf mf).1), .int ((cry pl dp ov qu kd mn bf cf sf wf mf).2.1), .int lp, .int ld, .int (dn + 1), .int rf, .int ((cry pl dp ov qu kd mn bf cf sf wf mf).2.2.2.1), .int ((cry pl dp ov qu kd mn bf cf sf wf mf).2.2.1)])), (bk, .inl (cI, 4, .inl ((cry pl dp ov qu kd mn bf cf sf wf mf).2.2.2.2.1))), (co, .inr (0, [.ref cw, .int kd, .int mn])), (cw, .inl (cI, 258, .inl cf)), (to, .inr (2, [.ref sa, .ref wa])), (sa, .inl (cI, 26, .inl sf)), (wa, .inl (cI, 303, .inl ((cry pl dp ov qu kd mn bf cf sf wf mf).2.2.2.2.2.1))), (me, .inl (cI, 4096, .inl ((cry pl dp ov qu kd mn bf cf sf wf mf).2.2.2.2.2.2)))] [(cI, .int)] sz := by
  refine Met.ofW (cc := b_D_carryOut) (maxL := 1) (ret := none) (by decide) rfl ?_
  intro p e s m args below meth c s₁ B hml hv
  obtain ⟨rfl, hsz, hP, hK, hD0, hE⟩ := hv
  have hx := B.exec
  have hb := B.bytes
  have hr := B.returns
  have ht := fun w (h : w ∈ TB) => atoms_spec (ws := Cond.code y_D_carryOut b_D_carryOut 1 none :: TB) B.pre w (List.mem_cons_of_mem _ h)
  have hown : s.vm.findClass R_D = some m.cls := findClass_of_methodNamed B.named
  have hlocks := B.notSynchronized
  subst hsz
  have hD := hD0.self (sz := s.heap.size)
  generalize hAe : va_A [(x, .inr (3, [.ref me, .ref sm, .ref to, .ref co, .ref ru, .int sl, .int fw, .int fh])), (ru, .inr (1, [.ref bk, .int pl, .int dp, .int lp, .int ld, .int dn, .int rf, .int qu, .int ov])), (bk, .inl (cI, 4, .inl bf)), (co, .inr (0, [.ref cw, .int kd, .int mn])), (cw, .inl (cI, 258, .inl cf)), (to, .inr (2, [.ref sa, .ref wa])), (sa, .inl (cI, 26, .inl sf)), (wa, .inl (cI, 303, .inl wf)), (me, .inl (cI, 4096, .inl mf))] s.heap.size = A at hD hE ⊢
  have hA : ∀ q : Nat, s.heap.size ≤ q → A q := fun q h => by rw [← hAe]; exact Or.inr h
  have hS : va_S A s.heap s.heap [] := va_S.rf
  have F : CallFix p m c b_D_carryOut 1 s _ TB R_D := ⟨hx, hb, hml, hown, ht⟩
  have hl := lv_entry ([.ref x]) (n := 1) (Nat.le_of_ble_eq_true rfl)
  rw [lg_entry_eq]
  generalize (lg_sl ([.ref x]) ++ List.replicate (1 - (lg_sl ([.ref x])).length) Slot.unset).toArray = ls at hl ⊢
  have hl : lv_has ls 1 [(0, .ref x)] := hl
  refine lv_aload_n hx hb d_D_carryOut_0 rfl (lv_at hl 0 rfl) ?_
  refine va_get (D := (dC, dI)) (ci := 3) (v := .ref ru) (C := R_D) (T := F_D) (N := 8) hx hb ht tu_D hown hK hP 0 rfl rfl 4 (by decide) (ht _ tw_180) (fun _ h9 => h9) rfl d_D_carryOut_1 ?_
  refine lv_aload_n hx hb d_D_carryOut_4 rfl (lv_at hl 0 rfl) ?_
  refine va_get (D := (dC, dI)) (ci := 3) (v := .ref co) (C := R_D) (T := F_D) (N := 8) hx hb ht tu_D hown hK hP 0 rfl rfl 3 (by decide) (ht _ tw_179) (fun _ h9 => h9) rfl d_D_carryOut_5 ?_
  refine va_getN (D := (dC, dI)) (ci := 0) (v := .int mn) (C := R_C) (T := F_C) (N := 3) hx hb ht tu_C hown hK hP 3 rfl rfl 2 (by decide) (va_Nw.use rfl (hE.1 _ nw_6)) (fun _ h9 => h9) rfl d_D_carryOut_8 ?_
  refine mcVv (As := [.int mn]) (rest := []) (wr := [(x, .inr (3, [.ref me, .ref sm, .ref to, .ref co, .ref ru, .int sl, .int fw, .int fh])), (bk, .inl (cI, 4, .inl bf)), (co, .inr (0, [.ref cw, .int kd, .int mn])), (cw, .inl (cI, 258, .inl cf)), (to, .inr (2, [.ref sa, .ref wa])), (sa, .inl (cI, 26, .inl sf)), (wa, .inl (cI, 303, .inl wf)), (me, .inl (cI, 4096, .inl mf))]) (c_R_passOver l dC dI tb ru bk pl dp lp ld dn rf qu ov mn ) F tw_458 tw_33 tw_456 tw_457 tw_455 hP hD [1] [0, 2, 3, 4, 5, 6, 7, 8] rfl rfl (by decide) (by decide) (by decide) hK [] rfl hE hS hA (q0 := 1) rfl rfl hd_R_passOver rfl rfl ⟨Nat.le_of_ble_eq_true rfl, Nat.le_of_ble_eq_true rfl⟩ ⟨Nat.le_of_ble_eq_true rfl, Nat.le_of_ble_eq_true rfl⟩ hl.1 rfl (Nat.le_of_ble_eq_true rfl) d_D_carryOut_11 (fun H locs hP hD hS => ?_)
  have hP : va_P (dC, dI) clX [(x, .inr (3, [.ref me, .ref sm, .ref to, .ref co, .ref ru, .int sl, .int fw, .int fh])), (bk, .inl (cI, 4, .inl bf)), (co, .inr (0, [.ref cw, .int kd, .int mn])), (cw, .inl (cI, 258, .inl cf)), (to, .inr (2, [.ref sa, .ref wa])), (sa, .inl (cI, 26, .inl sf)), (wa, .inl (cI, 303, .inl wf)), (me, .inl (cI, 4096, .inl mf)), (ru, .inr (1, [.ref bk, .int (pl + (1 + mn)), .int dp, .int lp, .int ld, .int (dn + 1), .int rf, .int qu, .int ov]))] H := hP
  have hD : va_D A [(x, .inr (3, [.ref me, .ref sm, .ref to, .ref co, .ref ru, .int sl, .int fw, .int fh])), (bk, .inl (cI, 4, .inl bf)), (co, .inr (0, [.ref cw, .int kd, .int mn])), (cw, .inl (cI, 258, .inl cf)), (to, .inr (2, [.ref sa, .ref wa])), (sa, .inl (cI, 26, .inl sf)), (wa, .inl (cI, 303, .inl wf)), (me, .inl (cI, 4096, .inl mf)), (ru, .inr (1, [.ref bk, .int (pl + (1 + mn)), .int dp, .int lp, .int ld, .int (dn + 1), .int rf, .int qu, .int ov]))] := hD
  refine lv_aload_n hx hb d_D_carryOut_14 rfl (lv_at hl 0 rfl) ?_
  refine va_get (D := (dC, dI)) (ci := 3) (v := .ref co) (C := R_D) (T := F_D) (N := 8) hx hb ht tu_D hown hK hP 0 rfl rfl 3 (by decide) (ht _ tw_179) (fun _ h9 => h9) rfl d_D_carryOut_15 ?_
  refine va_getN (D := (dC, dI)) (ci := 0) (v := .int kd) (C := R_C) (T := F_C) (N := 3) hx hb ht tu_C hown hK hP 2 rfl rfl 1 (by decide) (va_Nw.use rfl (hE.1 _ nw_4)) (fun _ h9 => h9) rfl d_D_carryOut_18 ?_
  by_cases sv_78 : kd = 0
  · refine lv_lookup (off := 51) (tgt := 72) hx hb d_D_carryOut_21 (by decide) (by rw [sv_78]; decide +kernel) (by decide) ?_
    refine lv_aload_n hx hb d_D_carryOut_72 rfl (lv_at hl 0 rfl) ?_
    refine va_get (D := (dC, dI)) (ci := 3) (v := .ref ru) (C := R_D) (T := F_D) (N := 8) hx hb ht tu_D hown hK hP 0 rfl rfl 4 (by decide) (ht _ tw_180) (fun _ h9 => h9) rfl d_D_carryOut_73 ?_
    refine mcVv (As := []) (rest := []) (wr := [(x, .inr (3, [.ref me, .ref sm, .ref to, .ref co, .ref ru, .int sl, .int fw, .int fh])), (co, .inr (0, [.ref cw, .int kd, .int mn])), (cw, .inl (cI, 258, .inl cf)), (to, .inr (2, [.ref sa, .ref wa])), (sa, .inl (cI, 26, .inl sf)), (wa, .inl (cI, 303, .inl wf)), (me, .inl (cI, 4096, .inl mf))]) (c_R_leave l dC dI tb ru bk (pl + (1 + mn)) dp lp ld (dn + 1) rf qu ov bf cI ) F tw_462 tw_33 tw_460 tw_461 tw_459 hP hD [8, 1] [0, 2, 3, 4, 5, 6, 7] rfl rfl (by decide) (by decide) (by decide) hK [0] rfl hE hS hA (q0 := 8) rfl rfl hd_R_leave rfl rfl ⟨Nat.le_of_ble_eq_true rfl, Nat.le_of_ble_eq_true rfl⟩ ⟨Nat.le_of_ble_eq_true rfl, Nat.le_of_ble_eq_true rfl⟩ hl.1 rfl (Nat.le_of_ble_eq_true rfl) d_D_carryOut_76 (fun H locs hP hD hS => ?_)
    have hP : va_P (dC, dI) clX [(x, .inr (3, [.ref me, .ref sm, .ref to, .ref co, .ref ru, .int sl, .int fw, .int fh])), (co, .inr (0, [.ref cw, .int kd, .int mn])), (cw, .inl (cI, 258, .inl cf)), (to, .inr (2, [.ref sa, .ref wa])), (sa, .inl (cI, 26, .inl sf)), (wa, .inl (cI, 303, .inl wf)), (me, .inl (cI, 4096, .inl mf)), (ru, .inr (1, [.ref bk, .int (if dp = 0 then (pl + (1 + mn)) else rdA 4 bf (dp - 1)), .int (if dp = 0 then dp else (dp - 1)), .int lp, .int ld, .int (dn + 1), .int rf, .int qu, .int (if dp = 0 then 1 else ov)])), (bk, .inl (cI, 4, .inl bf))] H := hP
    have hD : va_D A [(x, .inr (3, [.ref me, .ref sm, .ref to, .ref co, .ref ru, .int sl, .int fw, .int fh])), (co, .inr (0, [.ref cw, .int kd, .int mn])), (cw, .inl (cI, 258, .inl cf)), (to, .inr (2, [.ref sa, .ref wa])), (sa, .inl (cI, 26, .inl sf)), (wa, .inl (cI, 303, .inl wf)), (me, .inl (cI, 4096, .inl mf)), (ru, .inr (1, [.ref bk, .int (if dp = 0 then (pl + (1 + mn)) else rdA 4 bf (dp - 1)), .int (if dp = 0 then dp else (dp - 1)), .int lp, .int ld, .int (dn + 1), .int rf, .int qu, .int (if dp = 0 then 1 else ov)])), (bk, .inl (cI, 4, .inl bf))] := hD
    refine lv_goto (tgt := 159) hx hb d_D_carryOut_79 (by decide) ?_
    have hP9 := hP.sub (ws' := [(x, .inr (3, [.ref me, .ref sm, .ref to, .ref co, .ref ru, .int sl, .int fw, .int fh])), (ru, .inr (1, [.ref bk, .int (if dp = 0 then (pl + (1 + mn)) else rdA 4 bf (dp - 1)), .int (if dp = 0 then dp else (dp - 1)), .int lp, .int ld, .int (dn + 1), .int rf, .int qu, .int (if dp = 0 then 1 else ov)])), (bk, .inl (cI, 4, .inl bf)), (co, .inr (0, [.ref cw, .int kd, .int mn])), (cw, .inl (cI, 258, .inl cf)), (to, .inr (2, [.ref sa, .ref wa])), (sa, .inl (cI, 26, .inl sf)), (wa, .inl (cI, 303, .inl wf)), (me, .inl (cI, 4096, .inl mf))]) [0, 7, 8, 1, 2, 3, 4, 5, 6] rfl
    have hD9 := hD.sub (ws' := [(x, .inr (3, [.ref me, .ref sm, .ref to, .ref co, .ref ru, .int sl, .int fw, .int fh])), (ru, .inr (1, [.ref bk, .int (if dp = 0 then (pl + (1 + mn)) else rdA 4 bf (dp - 1)), .int (if dp = 0 then dp else (dp - 1)), .int lp, .int ld, .int (dn + 1), .int rf, .int qu, .int (if dp = 0 then 1 else ov)])), (bk, .inl (cI, 4, .inl bf)), (co, .inr (0, [.ref cw, .int kd, .int mn])), (cw, .inl (cI, 258, .inl cf)), (to, .inr (2, [.ref sa, .ref wa])), (sa, .inl (cI, 26, .inl sf)), (wa, .inl (cI, 303, .inl wf)), (me, .inl (cI, 4096, .inl mf))]) [0, 7, 8, 1, 2, 3, 4, 5, 6] (by decide) rfl
    exact W.vret hx hb hr (fun t ht9 hW => ⟨⟨(), rfl, trivial, by rw [ht9]; rw [show cry pl dp ov qu kd mn bf cf sf wf mf = ((if dp = 0 then (pl + (1 + mn)) else rdA 4 bf (dp - 1)), (if dp = 0 then dp else (dp - 1)), (if dp = 0 then 1 else ov), qu, bf, wf, mf) from by simp only [cry, if_pos sv_78]]; exact hP9, va_K.moved hW.alike hK, by rw [hAe]; rw [show cry pl dp ov qu kd mn bf cf sf wf mf = ((if dp = 0 then (pl + (1 + mn)) else rdA 4 bf (dp - 1)), (if dp = 0 then dp else (dp - 1)), (if dp = 0 then 1 else ov), qu, bf, wf, mf) from by simp only [cry, if_pos sv_78]]; exact hD9⟩, hS.F ht9⟩) hS.2.2 d_D_carryOut_159
  · skip
    by_cases sv_79 : kd = 6
    · refine lv_lookup (off := 61) (tgt := 82) hx hb d_D_carryOut_21 (by decide) (by rw [sv_79]; decide +kernel) (by decide) ?_
      refine lv_aload_n hx hb d_D_carryOut_82 rfl (lv_at hl 0 rfl) ?_
      refine mcVv (As := []) (rest := []) (wr := [(bk, .inl (cI, 4, .inl bf)), (ru, .inr (1, [.ref bk, .int (pl + (1 + mn)), .int dp, .int lp, .int ld, .int (dn + 1), .int rf, .int qu, .int ov]))]) (c_D_keepUniforms l dC dI tb x me sm to co ru sl fw fh cw kd mn cf cI mf sa wa sf wf ) F tw_467 tw_28 tw_466 tw_13 tw_464 hP hD [0, 2, 3, 7, 4, 5, 6] [1, 8] rfl rfl (by decide) (by decide) (by decide) hK [0] rfl hE hS hA (q0 := 0) rfl rfl hd_D_keepUniforms rfl rfl ⟨Nat.le_of_ble_eq_true rfl, Nat.le_of_ble_eq_true rfl⟩ ⟨Nat.le_of_ble_eq_true rfl, Nat.le_of_ble_eq_true rfl⟩ hl.1 rfl (Nat.le_of_ble_eq_true rfl) d_D_carryOut_83 (fun H locs hP hD hS => ?_)
      have hP : va_P (dC, dI) clX [(bk, .inl (cI, 4, .inl bf)), (ru, .inr (1, [.ref bk, .int (pl + (1 + mn)), .int dp, .int lp, .int ld, .int (dn + 1), .int rf, .int qu, .int ov])), (x, .inr (3, [.ref me, .ref sm, .ref to, .ref co, .ref ru, .int sl, .int fw, .int fh])), (co, .inr (0, [.ref cw, .int kd, .int mn])), (cw, .inl (cI, 258, .inl cf)), (me, .inl (cI, 4096, .inl mf)), (to, .inr (2, [.ref sa, .ref wa])), (sa, .inl (cI, 26, .inl sf)), (wa, .inl (cI, 303, .inl (kuA sf mf cf wf)))] H := hP
      have hD : va_D A [(bk, .inl (cI, 4, .inl bf)), (ru, .inr (1, [.ref bk, .int (pl + (1 + mn)), .int dp, .int lp, .int ld, .int (dn + 1), .int rf, .int qu, .int ov])), (x, .inr (3, [.ref me, .ref sm, .ref to, .ref co, .ref ru, .int sl, .int fw, .int fh])), (co, .inr (0, [.ref cw, .int kd, .int mn])), (cw, .inl (cI, 258, .inl cf)), (me, .inl (cI, 4096, .inl mf)), (to, .inr (2, [.ref sa, .ref wa])), (sa, .inl (cI, 26, .inl sf)), (wa, .inl (cI, 303, .inl (kuA sf mf cf wf)))] := hD
      refine lv_goto (tgt := 159) hx hb d_D_carryOut_86 (by decide) ?_
      have hP9 := hP.sub (ws' := [(x, .inr (3, [.ref me, .ref sm, .ref to, .ref co, .ref ru, .int sl, .int fw, .int fh])), (ru, .inr (1, [.ref bk, .int (pl + (1 + mn)), .int dp, .int lp, .int ld, .int (dn + 1), .int rf, .int qu, .int ov])), (bk, .inl (cI, 4, .inl bf)), (co, .inr (0, [.ref cw, .int kd, .int mn])), (cw, .inl (cI, 258, .inl cf)), (to, .inr (2, [.ref sa, .ref wa])), (sa, .inl (cI, 26, .inl sf)), (wa, .inl (cI, 303, .inl (kuA sf mf cf wf))), (me, .inl (cI, 4096, .inl mf))]) [2, 1, 0, 3, 4, 6, 7, 8, 5] rfl
      have hD9 := hD.sub (ws' := [(x, .inr (3, [.ref me, .ref sm, .ref to, .ref co, .ref ru, .int sl, .int fw, .int fh])), (ru, .inr (1, [.ref bk, .int (pl + (1 + mn)), .int dp, .int lp, .int ld, .int (dn + 1), .int rf, .int qu, .int ov])), (bk, .inl (cI, 4, .inl bf)), (co, .inr (0, [.ref cw, .int kd, .int mn])), (cw, .inl (cI, 258, .inl cf)), (to, .inr (2, [.ref sa, .ref wa])), (sa, .inl (cI, 26, .inl sf)), (wa, .inl (cI, 303, .inl (kuA sf mf cf wf))), (me, .inl (cI, 4096, .inl mf))]) [2, 1, 0, 3, 4, 6, 7, 8, 5] (by decide) rfl
      exact W.vret hx hb hr (fun t ht9 hW => ⟨⟨(), rfl, trivial, by rw [ht9]; rw [show cry pl dp ov qu kd mn bf cf sf wf mf = ((pl + (1 + mn)), dp, ov, qu, bf, (kuA sf mf cf wf), mf) from by simp only [cry, if_neg sv_78, if_pos sv_79]]; exact hP9, va_K.moved hW.alike hK, by rw [hAe]; rw [show cry pl dp ov qu kd mn bf cf sf wf mf = ((pl + (1 + mn)), dp, ov, qu, bf, (kuA sf mf cf wf), mf) from by simp only [cry, if_neg sv_78, if_pos sv_79]]; exact hD9⟩, hS.F ht9⟩) hS.2.2 d_D_carryOut_159
    · skip
      by_cases sv_80 : kd = 19
      · refine lv_lookup (off := 68) (tgt := 89) hx hb d_D_carryOut_21 (by decide) (by rw [sv_80]; decide +kernel) (by decide) ?_
        refine lv_aload_n hx hb d_D_carryOut_89 rfl (lv_at hl 0 rfl) ?_
        refine va_get (D := (dC, dI)) (ci := 3) (v := .ref ru) (C := R_D) (T := F_D) (N := 8) hx hb ht tu_D hown hK hP 0 rfl rfl 4 (by decide) (ht _ tw_180) (fun _ h9 => h9) rfl d_D_carryOut_90 ?_
        refine lv_aload_n hx hb d_D_carryOut_93 rfl (lv_at hl 0 rfl) ?_
        refine va_get (D := (dC, dI)) (ci := 3) (v := .ref co) (C := R_D) (T := F_D) (N := 8) hx hb ht tu_D hown hK hP 0 rfl rfl 3 (by decide) (ht _ tw_179) (fun _ h9 => h9) rfl d_D_carryOut_94 ?_
        refine lv_iconst (v := 1) hx hb d_D_carryOut_97 (by decide) ?_
        refine rcV (As := [.int 1]) (rest := [.ref ru]) (c_C_at l dC dI tb co cw kd mn cf cI 1 ) F tw_422 tw_32 tw_420 tw_421 tw_431 hP [2, 3] rfl hK [0] rfl hE hS (q0 := 2) rfl rfl hd_C_at rfl rfl ⟨Nat.le_of_ble_eq_true rfl, Nat.le_of_ble_eq_true rfl⟩ ⟨Nat.le_of_ble_eq_true rfl, Nat.le_of_ble_eq_true rfl⟩ hl.1 rfl (Nat.le_of_ble_eq_true rfl) d_D_carryOut_98 ?_
        refine lv_iconst (v := 1) hx hb d_D_carryOut_101 (by decide) ?_
        refine lv_icmp_ne (tgt := 116) hx hb d_D_carryOut_102 (by decide) (fun c_81 => ?_) (fun c_81 => ?_)
        · refine lv_iconst (v := (-1)) hx hb d_D_carryOut_116 (by decide) ?_
          refine va_putN (D := (dC, dI)) (ci := 1) (v := .int (-1)) (ty := .int) (C := R_R) (T := F_R) (N := 9) hx hb ht tu_R ft_R ft_R_ok n_R hown hK hP hD hS 8 rfl rfl 7 (by decide) (va_Nw.use rfl (hE.1 _ nw_13)) (fun _ h9 => h9) rfl (by decide +kernel) rfl rfl (Nat.le_of_ble_eq_true rfl) d_D_carryOut_117 (fun H locs hP hD hS => ?_)
          have hP : va_P (dC, dI) clX [(x, .inr (3, [.ref me, .ref sm, .ref to, .ref co, .ref ru, .int sl, .int fw, .int fh])), (bk, .inl (cI, 4, .inl bf)), (co, .inr (0, [.ref cw, .int kd, .int mn])), (cw, .inl (cI, 258, .inl cf)), (to, .inr (2, [.ref sa, .ref wa])), (sa, .inl (cI, 26, .inl sf)), (wa, .inl (cI, 303, .inl wf)), (me, .inl (cI, 4096, .inl mf)), (ru, .inr (1, [.ref bk, .int (pl + (1 + mn)), .int dp, .int lp, .int ld, .int (dn + 1), .int rf, .int (-1), .int ov]))] H := hP
          have hD : va_D A [(x, .inr (3, [.ref me, .ref sm, .ref to, .ref co, .ref ru, .int sl, .int fw, .int fh])), (bk, .inl (cI, 4, .inl bf)), (co, .inr (0, [.ref cw, .int kd, .int mn])), (cw, .inl (cI, 258, .inl cf)), (to, .inr (2, [.ref sa, .ref wa])), (sa, .inl (cI, 26, .inl sf)), (wa, .inl (cI, 303, .inl wf)), (me, .inl (cI, 4096, .inl mf)), (ru, .inr (1, [.ref bk, .int (pl + (1 + mn)), .int dp, .int lp, .int ld, .int (dn + 1), .int rf, .int (-1), .int ov]))] := hD
          refine lv_goto (tgt := 159) hx hb d_D_carryOut_120 (by decide) ?_
          have hP9 := hP.sub (ws' := [(x, .inr (3, [.ref me, .ref sm, .ref to, .ref co, .ref ru, .int sl, .int fw, .int fh])), (ru, .inr (1, [.ref bk, .int (pl + (1 + mn)), .int dp, .int lp, .int ld, .int (dn + 1), .int rf, .int (-1), .int ov])), (bk, .inl (cI, 4, .inl bf)), (co, .inr (0, [.ref cw, .int kd, .int mn])), (cw, .inl (cI, 258, .inl cf)), (to, .inr (2, [.ref sa, .ref wa])), (sa, .inl (cI, 26, .inl sf)), (wa, .inl (cI, 303, .inl wf)), (me, .inl (cI, 4096, .inl mf))]) [0, 8, 1, 2, 3, 4, 5, 6, 7] rfl
          have hD9 := hD.sub (ws' := [(x, .inr (3, [.ref me, .ref sm, .ref to, .ref co, .ref ru, .int sl, .int fw, .int fh])), (ru, .inr (1, [.ref bk, .int (pl + (1 + mn)), .int dp, .int lp, .int ld, .int (dn + 1), .int rf, .int (-1), .int ov])), (bk, .inl (cI, 4, .inl bf)), (co, .inr (0, [.ref cw, .int kd, .int mn])), (cw, .inl (cI, 258, .inl cf)), (to, .inr (2, [.ref sa, .ref wa])), (sa, .inl (cI, 26, .inl sf)), (wa, .inl (cI, 303, .inl wf)), (me, .inl (cI, 4096, .inl mf))]) [0, 8, 1, 2, 3, 4, 5, 6, 7] (by decide) rfl
          exact W.vret hx hb hr (fun t ht9 hW => ⟨⟨(), rfl, trivial, by rw [ht9]; rw [show cry pl dp ov qu kd mn bf cf sf wf mf = ((pl + (1 + mn)), dp, ov, (-1), bf, wf, mf) from by simp only [cry, if_neg sv_78, if_neg sv_79, if_pos sv_80, if_neg c_81]]; exact hP9, va_K.moved hW.alike hK, by rw [hAe]; rw [show cry pl dp ov qu kd mn bf cf sf wf mf = ((pl + (1 + mn)), dp, ov, (-1), bf, wf, mf) from by simp only [cry, if_neg sv_78, if_neg sv_79, if_pos sv_80, if_neg c_81]]; exact hD9⟩, hS.F ht9⟩) hS.2.2 d_D_carryOut_159
        · refine lv_aload_n hx hb d_D_carryOut_105 rfl (lv_at hl 0 rfl) ?_
          refine va_get (D := (dC, dI)) (ci := 3) (v := .ref co) (C := R_D) (T := F_D) (N := 8) hx hb ht tu_D hown hK hP 0 rfl rfl 3 (by decide) (ht _ tw_179) (fun _ h9 => h9) rfl d_D_carryOut_106 ?_
          refine lv_iconst (v := 0) hx hb d_D_carryOut_109 (by decide) ?_
          refine rcV (As := [.int 0]) (rest := [.ref ru]) (c_C_at l dC dI tb co cw kd mn cf cI 0 ) F tw_422 tw_32 tw_420 tw_421 tw_431 hP [2, 3] rfl hK [0] rfl hE hS (q0 := 2) rfl rfl hd_C_at rfl rfl ⟨Nat.le_of_ble_eq_true rfl, Nat.le_of_ble_eq_true rfl⟩ ⟨Nat.le_of_ble_eq_true rfl, Nat.le_of_ble_eq_true rfl⟩ hl.1 rfl (Nat.le_of_ble_eq_true rfl) d_D_carryOut_110 ?_
          refine lv_goto (tgt := 117) hx hb d_D_carryOut_113 (by decide) ?_
          refine va_putN (D := (dC, dI)) (ci := 1) (v := .int (rdA 258 cf 0)) (ty := .int) (C := R_R) (T := F_R) (N := 9) hx hb ht tu_R ft_R ft_R_ok n_R hown hK hP hD hS 8 rfl rfl 7 (by decide) (va_Nw.use rfl (hE.1 _ nw_13)) (fun _ h9 => h9) rfl (by decide +kernel) rfl rfl (Nat.le_of_ble_eq_true rfl) d_D_carryOut_117 (fun H locs hP hD hS => ?_)
          have hP : va_P (dC, dI) clX [(x, .inr (3, [.ref me, .ref sm, .ref to, .ref co, .ref ru, .int sl, .int fw, .int fh])), (bk, .inl (cI, 4, .inl bf)), (co, .inr (0, [.ref cw, .int kd, .int mn])), (cw, .inl (cI, 258, .inl cf)), (to, .inr (2, [.ref sa, .ref wa])), (sa, .inl (cI, 26, .inl sf)), (wa, .inl (cI, 303, .inl wf)), (me, .inl (cI, 4096, .inl mf)), (ru, .inr (1, [.ref bk, .int (pl + (1 + mn)), .int dp, .int lp, .int ld, .int (dn + 1), .int rf, .int (rdA 258 cf 0), .int ov]))] H := hP
          have hD : va_D A [(x, .inr (3, [.ref me, .ref sm, .ref to, .ref co, .ref ru, .int sl, .int fw, .int fh])), (bk, .inl (cI, 4, .inl bf)), (co, .inr (0, [.ref cw, .int kd, .int mn])), (cw, .inl (cI, 258, .inl cf)), (to, .inr (2, [.ref sa, .ref wa])), (sa, .inl (cI, 26, .inl sf)), (wa, .inl (cI, 303, .inl wf)), (me, .inl (cI, 4096, .inl mf)), (ru, .inr (1, [.ref bk, .int (pl + (1 + mn)), .int dp, .int lp, .int ld, .int (dn + 1), .int rf, .int (rdA 258 cf 0), .int ov]))] := hD
          refine lv_goto (tgt := 159) hx hb d_D_carryOut_120 (by decide) ?_
          have hP9 := hP.sub (ws' := [(x, .inr (3, [.ref me, .ref sm, .ref to, .ref co, .ref ru, .int sl, .int fw, .int fh])), (ru, .inr (1, [.ref bk, .int (pl + (1 + mn)), .int dp, .int lp, .int ld, .int (dn + 1), .int rf, .int (rdA 258 cf 0), .int ov])), (bk, .inl (cI, 4, .inl bf)), (co, .inr (0, [.ref cw, .int kd, .int mn])), (cw, .inl (cI, 258, .inl cf)), (to, .inr (2, [.ref sa, .ref wa])), (sa, .inl (cI, 26, .inl sf)), (wa, .inl (cI, 303, .inl wf)), (me, .inl (cI, 4096, .inl mf))]) [0, 8, 1, 2, 3, 4, 5, 6, 7] rfl
          have hD9 := hD.sub (ws' := [(x, .inr (3, [.ref me, .ref sm, .ref to, .ref co, .ref ru, .int sl, .int fw, .int fh])), (ru, .inr (1, [.ref bk, .int (pl + (1 + mn)), .int dp, .int lp, .int ld, .int (dn + 1), .int rf, .int (rdA 258 cf 0), .int ov])), (bk, .inl (cI, 4, .inl bf)), (co, .inr (0, [.ref cw, .int kd, .int mn])), (cw, .inl (cI, 258, .inl cf)), (to, .inr (2, [.ref sa, .ref wa])), (sa, .inl (cI, 26, .inl sf)), (wa, .inl (cI, 303, .inl wf)), (me, .inl (cI, 4096, .inl mf))]) [0, 8, 1, 2, 3, 4, 5, 6, 7] (by decide) rfl
          exact W.vret hx hb hr (fun t ht9 hW => ⟨⟨(), rfl, trivial, by rw [ht9]; rw [show cry pl dp ov qu kd mn bf cf sf wf mf = ((pl + (1 + mn)), dp, ov, (rdA 258 cf 0), bf, wf, mf) from by simp only [cry, if_neg sv_78, if_neg sv_79, if_pos sv_80, if_pos c_81]]; exact hP9, va_K.moved hW.alike hK, by rw [hAe]; rw [show cry pl dp ov qu kd mn bf cf sf wf mf = ((pl + (1 + mn)), dp, ov, (rdA 258 cf 0), bf, wf, mf) from by simp only [cry, if_neg sv_78, if_neg sv_79, if_pos sv_80, if_pos c_81]]; exact hD9⟩, hS.F ht9⟩) hS.2.2 d_D_carryOut_159
      · skip
        by_cases sv_82 : kd = 21
        · refine lv_lookup (off := 102) (tgt := 123) hx hb d_D_carryOut_21 (by decide) (by rw [sv_82]; decide +kernel) (by decide) ?_
          refine lv_aload_n hx hb d_D_carryOut_123 rfl (lv_at hl 0 rfl) ?_
          refine mcVv (As := []) (rest := []) (wr := [(bk, .inl (cI, 4, .inl bf)), (to, .inr (2, [.ref sa, .ref wa])), (sa, .inl (cI, 26, .inl sf)), (wa, .inl (cI, 303, .inl wf)), (ru, .inr (1, [.ref bk, .int (pl + (1 + mn)), .int dp, .int lp, .int ld, .int (dn + 1), .int rf, .int qu, .int ov]))]) (c_D_storeWords l dC dI tb x me sm to co ru sl fw fh cw kd mn cf cI mf ) F tw_475 tw_28 tw_474 tw_14 tw_472 hP hD [0, 2, 3, 7] [1, 4, 5, 6, 8] rfl rfl (by decide) (by decide) (by decide) hK [0] rfl hE hS hA (q0 := 0) rfl rfl hd_D_storeWords rfl rfl ⟨Nat.le_of_ble_eq_true rfl, Nat.le_of_ble_eq_true rfl⟩ ⟨Nat.le_of_ble_eq_true rfl, Nat.le_of_ble_eq_true rfl⟩ hl.1 rfl (Nat.le_of_ble_eq_true rfl) d_D_carryOut_124 (fun H locs hP hD hS => ?_)
          have hP : va_P (dC, dI) clX [(bk, .inl (cI, 4, .inl bf)), (to, .inr (2, [.ref sa, .ref wa])), (sa, .inl (cI, 26, .inl sf)), (wa, .inl (cI, 303, .inl wf)), (ru, .inr (1, [.ref bk, .int (pl + (1 + mn)), .int dp, .int lp, .int ld, .int (dn + 1), .int rf, .int qu, .int ov])), (x, .inr (3, [.ref me, .ref sm, .ref to, .ref co, .ref ru, .int sl, .int fw, .int fh])), (co, .inr (0, [.ref cw, .int kd, .int mn])), (cw, .inl (cI, 258, .inl cf)), (me, .inl (cI, 4096, .inl (stW cf mf)))] H := hP
          have hD : va_D A [(bk, .inl (cI, 4, .inl bf)), (to, .inr (2, [.ref sa, .ref wa])), (sa, .inl (cI, 26, .inl sf)), (wa, .inl (cI, 303, .inl wf)), (ru, .inr (1, [.ref bk, .int (pl + (1 + mn)), .int dp, .int lp, .int ld, .int (dn + 1), .int rf, .int qu, .int ov])), (x, .inr (3, [.ref me, .ref sm, .ref to, .ref co, .ref ru, .int sl, .int fw, .int fh])), (co, .inr (0, [.ref cw, .int kd, .int mn])), (cw, .inl (cI, 258, .inl cf)), (me, .inl (cI, 4096, .inl (stW cf mf)))] := hD
          refine lv_goto (tgt := 159) hx hb d_D_carryOut_127 (by decide) ?_
          have hP9 := hP.sub (ws' := [(x, .inr (3, [.ref me, .ref sm, .ref to, .ref co, .ref ru, .int sl, .int fw, .int fh])), (ru, .inr (1, [.ref bk, .int (pl + (1 + mn)), .int dp, .int lp, .int ld, .int (dn + 1), .int rf, .int qu, .int ov])), (bk, .inl (cI, 4, .inl bf)), (co, .inr (0, [.ref cw, .int kd, .int mn])), (cw, .inl (cI, 258, .inl cf)), (to, .inr (2, [.ref sa, .ref wa])), (sa, .inl (cI, 26, .inl sf)), (wa, .inl (cI, 303, .inl wf)), (me, .inl (cI, 4096, .inl (stW cf mf)))]) [5, 4, 0, 6, 7, 1, 2, 3, 8] rfl
          have hD9 := hD.sub (ws' := [(x, .inr (3, [.ref me, .ref sm, .ref to, .ref co, .ref ru, .int sl, .int fw, .int fh])), (ru, .inr (1, [.ref bk, .int (pl + (1 + mn)), .int dp, .int lp, .int ld, .int (dn + 1), .int rf, .int qu, .int ov])), (bk, .inl (cI, 4, .inl bf)), (co, .inr (0, [.ref cw, .int kd, .int mn])), (cw, .inl (cI, 258, .inl cf)), (to, .inr (2, [.ref sa, .ref wa])), (sa, .inl (cI, 26, .inl sf)), (wa, .inl (cI, 303, .inl wf)), (me, .inl (cI, 4096, .inl (stW cf mf)))]) [5, 4, 0, 6, 7, 1, 2, 3, 8] (by decide) rfl
          exact W.vret hx hb hr (fun t ht9 hW => ⟨⟨(), rfl, trivial, by rw [ht9]; rw [show cry pl dp ov qu kd mn bf cf sf wf mf = ((pl + (1 + mn)), dp, ov, qu, bf, wf, (stW cf mf)) from by simp only [cry, if_neg sv_78, if_neg sv_79, if_neg sv_80, if_pos sv_82]]; exact hP9, va_K.moved hW.alike hK, by rw [hAe]; rw [show cry pl dp ov qu kd mn bf cf sf wf mf = ((pl + (1 + mn)), dp, ov, qu, bf, wf, (stW cf mf)) from by simp only [cry, if_neg sv_78, if_neg sv_79, if_neg sv_80, if_pos sv_82]]; exact hD9⟩, hS.F ht9⟩) hS.2.2 d_D_carryOut_159
        · skip
          by_cases sv_83 : kd = 23
          · refine lv_lookup (off := 109) (tgt := 130) hx hb d_D_carryOut_21 (by decide) (by rw [sv_83]; decide +kernel) (by decide) ?_
            refine lv_aload_n hx hb d_D_carryOut_130 rfl (lv_at hl 0 rfl) ?_
            refine va_get (D := (dC, dI)) (ci := 3) (v := .ref ru) (C := R_D) (T := F_D) (N := 8) hx hb ht tu_D hown hK hP 0 rfl rfl 4 (by decide) (ht _ tw_180) (fun _ h9 => h9) rfl d_D_carryOut_131 ?_
            refine lv_aload_n hx hb d_D_carryOut_134 rfl (lv_at hl 0 rfl) ?_
            refine va_get (D := (dC, dI)) (ci := 3) (v := .ref co) (C := R_D) (T := F_D) (N := 8) hx hb ht tu_D hown hK hP 0 rfl rfl 3 (by decide) (ht _ tw_179) (fun _ h9 => h9) rfl d_D_carryOut_135 ?_
            refine lv_iconst (v := 0) hx hb d_D_carryOut_138 (by decide) ?_
            refine rcV (As := [.int 0]) (rest := [.ref ru]) (c_C_at l dC dI tb co cw kd mn cf cI 0 ) F tw_422 tw_32 tw_420 tw_421 tw_431 hP [2, 3] rfl hK [0] rfl hE hS (q0 := 2) rfl rfl hd_C_at rfl rfl ⟨Nat.le_of_ble_eq_true rfl, Nat.le_of_ble_eq_true rfl⟩ ⟨Nat.le_of_ble_eq_true rfl, Nat.le_of_ble_eq_true rfl⟩ hl.1 rfl (Nat.le_of_ble_eq_true rfl) d_D_carryOut_139 ?_
            refine mcVv (As := [.int (rdA 258 cf 0)]) (rest := []) (wr := [(x, .inr (3, [.ref me, .ref sm, .ref to, .ref co, .ref ru, .int sl, .int fw, .int fh])), (co, .inr (0, [.ref cw, .int kd, .int mn])), (cw, .inl (cI, 258, .inl cf)), (to, .inr (2, [.ref sa, .ref wa])), (sa, .inl (cI, 26, .inl sf)), (wa, .inl (cI, 303, .inl wf)), (me, .inl (cI, 4096, .inl mf))]) (c_R_enter l dC dI tb ru bk (pl + (1 + mn)) dp lp ld (dn + 1) rf qu ov bf cI (rdA 258 cf 0) ) F tw_479 tw_33 tw_477 tw_478 tw_476 hP hD [8, 1] [0, 2, 3, 4, 5, 6, 7] rfl rfl (by decide) (by decide) (by decide) hK [0] rfl hE hS hA (q0 := 8) rfl rfl hd_R_enter rfl rfl ⟨Nat.le_of_ble_eq_true rfl, Nat.le_of_ble_eq_true rfl⟩ ⟨Nat.le_of_ble_eq_true rfl, Nat.le_of_ble_eq_true rfl⟩ hl.1 rfl (Nat.le_of_ble_eq_true rfl) d_D_carryOut_142 (fun H locs hP hD hS => ?_)
            have hP : va_P (dC, dI) clX [(x, .inr (3, [.ref me, .ref sm, .ref to, .ref co, .ref ru, .int sl, .int fw, .int fh])), (co, .inr (0, [.ref cw, .int kd, .int mn])), (cw, .inl (cI, 258, .inl cf)), (to, .inr (2, [.ref sa, .ref wa])), (sa, .inl (cI, 26, .inl sf)), (wa, .inl (cI, 303, .inl wf)), (me, .inl (cI, 4096, .inl mf)), (ru, .inr (1, [.ref bk, .int (rdA 258 cf 0), .int (dp + 1), .int lp, .int ld, .int (dn + 1), .int rf, .int qu, .int ov])), (bk, .inl (cI, 4, .inl (wrA 4 bf dp (pl + (1 + mn)))))] H := hP
            have hD : va_D A [(x, .inr (3, [.ref me, .ref sm, .ref to, .ref co, .ref ru, .int sl, .int fw, .int fh])), (co, .inr (0, [.ref cw, .int kd, .int mn])), (cw, .inl (cI, 258, .inl cf)), (to, .inr (2, [.ref sa, .ref wa])), (sa, .inl (cI, 26, .inl sf)), (wa, .inl (cI, 303, .inl wf)), (me, .inl (cI, 4096, .inl mf)), (ru, .inr (1, [.ref bk, .int (rdA 258 cf 0), .int (dp + 1), .int lp, .int ld, .int (dn + 1), .int rf, .int qu, .int ov])), (bk, .inl (cI, 4, .inl (wrA 4 bf dp (pl + (1 + mn)))))] := hD
            refine lv_goto (tgt := 159) hx hb d_D_carryOut_145 (by decide) ?_
            have hP9 := hP.sub (ws' := [(x, .inr (3, [.ref me, .ref sm, .ref to, .ref co, .ref ru, .int sl, .int fw, .int fh])), (ru, .inr (1, [.ref bk, .int (rdA 258 cf 0), .int (dp + 1), .int lp, .int ld, .int (dn + 1), .int rf, .int qu, .int ov])), (bk, .inl (cI, 4, .inl (wrA 4 bf dp (pl + (1 + mn))))), (co, .inr (0, [.ref cw, .int kd, .int mn])), (cw, .inl (cI, 258, .inl cf)), (to, .inr (2, [.ref sa, .ref wa])), (sa, .inl (cI, 26, .inl sf)), (wa, .inl (cI, 303, .inl wf)), (me, .inl (cI, 4096, .inl mf))]) [0, 7, 8, 1, 2, 3, 4, 5, 6] rfl
            have hD9 := hD.sub (ws' := [(x, .inr (3, [.ref me, .ref sm, .ref to, .ref co, .ref ru, .int sl, .int fw, .int fh])), (ru, .inr (1, [.ref bk, .int (rdA 258 cf 0), .int (dp + 1), .int lp, .int ld, .int (dn + 1), .int rf, .int qu, .int ov])), (bk, .inl (cI, 4, .inl (wrA 4 bf dp (pl + (1 + mn))))), (co, .inr (0, [.ref cw, .int kd, .int mn])), (cw, .inl (cI, 258, .inl cf)), (to, .inr (2, [.ref sa, .ref wa])), (sa, .inl (cI, 26, .inl sf)), (wa, .inl (cI, 303, .inl wf)), (me, .inl (cI, 4096, .inl mf))]) [0, 7, 8, 1, 2, 3, 4, 5, 6] (by decide) rfl
            exact W.vret hx hb hr (fun t ht9 hW => ⟨⟨(), rfl, trivial, by rw [ht9]; rw [show cry pl dp ov qu kd mn bf cf sf wf mf = ((rdA 258 cf 0), (dp + 1), ov, qu, (wrA 4 bf dp (pl + (1 + mn))), wf, mf) from by simp only [cry, if_neg sv_78, if_neg sv_79, if_neg sv_80, if_neg sv_82, if_pos sv_83]]; exact hP9, va_K.moved hW.alike hK, by rw [hAe]; rw [show cry pl dp ov qu kd mn bf cf sf wf mf = ((rdA 258 cf 0), (dp + 1), ov, qu, (wrA 4 bf dp (pl + (1 + mn))), wf, mf) from by simp only [cry, if_neg sv_78, if_neg sv_79, if_neg sv_80, if_neg sv_82, if_pos sv_83]]; exact hD9⟩, hS.F ht9⟩) hS.2.2 d_D_carryOut_159
          · skip
            refine lv_lookup (off := 127) (tgt := 148) hx hb d_D_carryOut_21 (by decide) ((lv_osw sv_78 rfl).trans ((lv_osw sv_79 rfl).trans ((lv_osw sv_80 rfl).trans ((lv_osw sv_82 rfl).trans ((lv_osw sv_83 rfl).trans (rfl)))))) (by decide) ?_
            refine lv_aload_n hx hb d_D_carryOut_148 rfl (lv_at hl 0 rfl) ?_
            refine va_get (D := (dC, dI)) (ci := 3) (v := .ref to) (C := R_D) (T := F_D) (N := 8) hx hb ht tu_D hown hK hP 0 rfl rfl 2 (by decide) (ht _ tw_178) (fun _ h9 => h9) rfl d_D_carryOut_149 ?_
            refine lv_aload_n hx hb d_D_carryOut_152 rfl (lv_at hl 0 rfl) ?_
            refine va_get (D := (dC, dI)) (ci := 3) (v := .ref co) (C := R_D) (T := F_D) (N := 8) hx hb ht tu_D hown hK hP 0 rfl rfl 3 (by decide) (ht _ tw_179) (fun _ h9 => h9) rfl d_D_carryOut_153 ?_
            refine mcVv (As := [.ref co]) (rest := []) (wr := [(x, .inr (3, [.ref me, .ref sm, .ref to, .ref co, .ref ru, .int sl, .int fw, .int fh])), (bk, .inl (cI, 4, .inl bf)), (me, .inl (cI, 4096, .inl mf)), (ru, .inr (1, [.ref bk, .int (pl + (1 + mn)), .int dp, .int lp, .int ld, .int (dn + 1), .int rf, .int qu, .int ov]))]) (c_T_keep l dC dI tb to sa wa sf wf cI co cw kd mn cf ) F tw_484 tw_29 tw_482 tw_483 tw_481 hP hD [4, 5, 6, 2, 3] [0, 1, 7, 8] rfl rfl (by decide) (by decide) (by decide) hK [0] rfl hE hS hA (q0 := 4) rfl rfl hd_T_keep rfl rfl ⟨Nat.le_of_ble_eq_true rfl, Nat.le_of_ble_eq_true rfl⟩ ⟨Nat.le_of_ble_eq_true rfl, Nat.le_of_ble_eq_true rfl⟩ hl.1 rfl (Nat.le_of_ble_eq_true rfl) d_D_carryOut_156 (fun H locs hP hD hS => ?_)
            have hP : va_P (dC, dI) clX [(x, .inr (3, [.ref me, .ref sm, .ref to, .ref co, .ref ru, .int sl, .int fw, .int fh])), (bk, .inl (cI, 4, .inl bf)), (me, .inl (cI, 4096, .inl mf)), (ru, .inr (1, [.ref bk, .int (pl + (1 + mn)), .int dp, .int lp, .int ld, .int (dn + 1), .int rf, .int qu, .int ov])), (to, .inr (2, [.ref sa, .ref wa])), (sa, .inl (cI, 26, .inl sf)), (wa, .inl (cI, 303, .inl (kpW sf kd mn cf wf))), (co, .inr (0, [.ref cw, .int kd, .int mn])), (cw, .inl (cI, 258, .inl cf))] H := hP
            have hD : va_D A [(x, .inr (3, [.ref me, .ref sm, .ref to, .ref co, .ref ru, .int sl, .int fw, .int fh])), (bk, .inl (cI, 4, .inl bf)), (me, .inl (cI, 4096, .inl mf)), (ru, .inr (1, [.ref bk, .int (pl + (1 + mn)), .int dp, .int lp, .int ld, .int (dn + 1), .int rf, .int qu, .int ov])), (to, .inr (2, [.ref sa, .ref wa])), (sa, .inl (cI, 26, .inl sf)), (wa, .inl (cI, 303, .inl (kpW sf kd mn cf wf))), (co, .inr (0, [.ref cw, .int kd, .int mn])), (cw, .inl (cI, 258, .inl cf))] := hD
            have hP9 := hP.sub (ws' := [(x, .inr (3, [.ref me, .ref sm, .ref to, .ref co, .ref ru, .int sl, .int fw, .int fh])), (ru, .inr (1, [.ref bk, .int (pl + (1 + mn)), .int dp, .int lp, .int ld, .int (dn + 1), .int rf, .int qu, .int ov])), (bk, .inl (cI, 4, .inl bf)), (co, .inr (0, [.ref cw, .int kd, .int mn])), (cw, .inl (cI, 258, .inl cf)), (to, .inr (2, [.ref sa, .ref wa])), (sa, .inl (cI, 26, .inl sf)), (wa, .inl (cI, 303, .inl (kpW sf kd mn cf wf))), (me, .inl (cI, 4096, .inl mf))]) [0, 3, 1, 7, 8, 4, 5, 6, 2] rfl
            have hD9 := hD.sub (ws' := [(x, .inr (3, [.ref me, .ref sm, .ref to, .ref co, .ref ru, .int sl, .int fw, .int fh])), (ru, .inr (1, [.ref bk, .int (pl + (1 + mn)), .int dp, .int lp, .int ld, .int (dn + 1), .int rf, .int qu, .int ov])), (bk, .inl (cI, 4, .inl bf)), (co, .inr (0, [.ref cw, .int kd, .int mn])), (cw, .inl (cI, 258, .inl cf)), (to, .inr (2, [.ref sa, .ref wa])), (sa, .inl (cI, 26, .inl sf)), (wa, .inl (cI, 303, .inl (kpW sf kd mn cf wf))), (me, .inl (cI, 4096, .inl mf))]) [0, 3, 1, 7, 8, 4, 5, 6, 2] (by decide) rfl
            exact W.vret hx hb hr (fun t ht9 hW => ⟨⟨(), rfl, trivial, by rw [ht9]; rw [show cry pl dp ov qu kd mn bf cf sf wf mf = ((pl + (1 + mn)), dp, ov, qu, bf, (kpW sf kd mn cf wf), mf) from by simp only [cry, if_neg sv_78, if_neg sv_79, if_neg sv_80, if_neg sv_82, if_neg sv_83]]; exact hP9, va_K.moved hW.alike hK, by rw [hAe]; rw [show cry pl dp ov qu kd mn bf cf sf wf mf = ((pl + (1 + mn)), dp, ov, qu, bf, (kpW sf kd mn cf wf), mf) from by simp only [cry, if_neg sv_78, if_neg sv_79, if_neg sv_80, if_neg sv_82, if_neg sv_83]]; exact hD9⟩, hS.F ht9⟩) hS.2.2 d_D_carryOut_159
