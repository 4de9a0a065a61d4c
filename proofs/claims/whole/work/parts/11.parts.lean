set_option maxHeartbeats 4000000 in
set_option maxRecDepth 100000 in
theorem c_R_restart (l : Launch) (dC : Nat → ClassId) (dI : Nat → Nat → Nat) (tb : tbT) (ru bk : Nat) (pl dp lp ld dn rf qu ov : Int32) (sz : Nat) : MV l y_R_restart (Cond.code y_R_restart b_R_restart 1 none :: TB) ({ frames := 0, cells := 0, slots := 0, locals := 0 }) tb (dC, dI) [.ref ru] [(ru, .inr (1, [.ref bk, .int pl, .int dp, .int lp, .int ld, .int dn, .int rf, .int qu, .int ov]))] [(ru, .inr (1, [.ref bk, .int 0, .int 0, .int (-1), .int (-1), .int 0, .int 0, .int (-1), .int 0]))] [] sz := by
  refine Met.ofW (cc := b_R_restart) (maxL := 1) (ret := none) (by decide) rfl ?_
  intro p e s m args below meth c s₁ B hml hv
  obtain ⟨rfl, hsz, hP, hK, hD0, hE⟩ := hv
  have hx := B.exec
  have hb := B.bytes
  have hr := B.returns
  have ht := fun w (h : w ∈ TB) => atoms_spec (ws := Cond.code y_R_restart b_R_restart 1 none :: TB) B.pre w (List.mem_cons_of_mem _ h)
  have hown : s.vm.findClass R_R = some m.cls := findClass_of_methodNamed B.named
  have hlocks := B.notSynchronized
  subst hsz
  have hD := hD0.self (sz := s.heap.size)
  generalize hAe : va_A [(ru, .inr (1, [.ref bk, .int pl, .int dp, .int lp, .int ld, .int dn, .int rf, .int qu, .int ov]))] s.heap.size = A at hD hE ⊢
  have hA : ∀ q : Nat, s.heap.size ≤ q → A q := fun q h => by rw [← hAe]; exact Or.inr h
  have hS : va_S A s.heap s.heap [] := va_S.rf
  have F : CallFix p m c b_R_restart 1 s _ TB R_R := ⟨hx, hb, hml, hown, ht⟩
  have hl := lv_entry ([.ref ru]) (n := 1) (Nat.le_of_ble_eq_true rfl)
  rw [lg_entry_eq]
  generalize (lg_sl ([.ref ru]) ++ List.replicate (1 - (lg_sl ([.ref ru])).length) Slot.unset).toArray = ls at hl ⊢
  have hl : lv_has ls 1 [(0, .ref ru)] := hl
  refine lv_aload_n hx hb d_R_restart_0 rfl (lv_at hl 0 rfl) ?_
  refine lv_iconst (v := 0) hx hb d_R_restart_1 (by decide) ?_
  refine va_put (D := (dC, dI)) (ci := 1) (v := .int 0) (ty := .int) (C := R_R) (T := F_R) (N := 9) hx hb ht tu_R ft_R ft_R_ok n_R hown hK hP hD hS 0 rfl rfl 1 (by decide) (ht _ tw_141) (fun _ h9 => h9) rfl (by decide +kernel) rfl rfl (Nat.le_of_ble_eq_true rfl) d_R_restart_2 (fun H locs hP hD hS => ?_)
  have hP : va_P (dC, dI) clX [(ru, .inr (1, [.ref bk, .int 0, .int dp, .int lp, .int ld, .int dn, .int rf, .int qu, .int ov]))] H := hP
  have hD : va_D A [(ru, .inr (1, [.ref bk, .int 0, .int dp, .int lp, .int ld, .int dn, .int rf, .int qu, .int ov]))] := hD
  refine lv_aload_n hx hb d_R_restart_5 rfl (lv_at hl 0 rfl) ?_
  refine lv_iconst (v := 0) hx hb d_R_restart_6 (by decide) ?_
  refine va_put (D := (dC, dI)) (ci := 1) (v := .int 0) (ty := .int) (C := R_R) (T := F_R) (N := 9) hx hb ht tu_R ft_R ft_R_ok n_R hown hK hP hD hS 0 rfl rfl 2 (by decide) (ht _ tw_143) (fun _ h9 => h9) rfl (by decide +kernel) rfl rfl (Nat.le_of_ble_eq_true rfl) d_R_restart_7 (fun H locs hP hD hS => ?_)
  have hP : va_P (dC, dI) clX [(ru, .inr (1, [.ref bk, .int 0, .int 0, .int lp, .int ld, .int dn, .int rf, .int qu, .int ov]))] H := hP
  have hD : va_D A [(ru, .inr (1, [.ref bk, .int 0, .int 0, .int lp, .int ld, .int dn, .int rf, .int qu, .int ov]))] := hD
  refine lv_aload_n hx hb d_R_restart_10 rfl (lv_at hl 0 rfl) ?_
  refine lv_iconst (v := (-1)) hx hb d_R_restart_11 (by decide) ?_
  refine va_put (D := (dC, dI)) (ci := 1) (v := .int (-1)) (ty := .int) (C := R_R) (T := F_R) (N := 9) hx hb ht tu_R ft_R ft_R_ok n_R hown hK hP hD hS 0 rfl rfl 3 (by decide) (ht _ tw_145) (fun _ h9 => h9) rfl (by decide +kernel) rfl rfl (Nat.le_of_ble_eq_true rfl) d_R_restart_12 (fun H locs hP hD hS => ?_)
  have hP : va_P (dC, dI) clX [(ru, .inr (1, [.ref bk, .int 0, .int 0, .int (-1), .int ld, .int dn, .int rf, .int qu, .int ov]))] H := hP
  have hD : va_D A [(ru, .inr (1, [.ref bk, .int 0, .int 0, .int (-1), .int ld, .int dn, .int rf, .int qu, .int ov]))] := hD
  refine lv_aload_n hx hb d_R_restart_15 rfl (lv_at hl 0 rfl) ?_
  refine lv_iconst (v := (-1)) hx hb d_R_restart_16 (by decide) ?_
  refine va_put (D := (dC, dI)) (ci := 1) (v := .int (-1)) (ty := .int) (C := R_R) (T := F_R) (N := 9) hx hb ht tu_R ft_R ft_R_ok n_R hown hK hP hD hS 0 rfl rfl 4 (by decide) (ht _ tw_147) (fun _ h9 => h9) rfl (by decide +kernel) rfl rfl (Nat.le_of_ble_eq_true rfl) d_R_restart_17 (fun H locs hP hD hS => ?_)
  have hP : va_P (dC, dI) clX [(ru, .inr (1, [.ref bk, .int 0, .int 0, .int (-1), .int (-1), .int dn, .int rf, .int qu, .int ov]))] H := hP
  have hD : va_D A [(ru, .inr (1, [.ref bk, .int 0, .int 0, .int (-1), .int (-1), .int dn, .int rf, .int qu, .int ov]))] := hD
  refine lv_aload_n hx hb d_R_restart_20 rfl (lv_at hl 0 rfl) ?_
  refine lv_iconst (v := 0) hx hb d_R_restart_21 (by decide) ?_
  refine va_put (D := (dC, dI)) (ci := 1) (v := .int 0) (ty := .int) (C := R_R) (T := F_R) (N := 9) hx hb ht tu_R ft_R ft_R_ok n_R hown hK hP hD hS 0 rfl rfl 5 (by decide) (ht _ tw_149) (fun _ h9 => h9) rfl (by decide +kernel) rfl rfl (Nat.le_of_ble_eq_true rfl) d_R_restart_22 (fun H locs hP hD hS => ?_)
  have hP : va_P (dC, dI) clX [(ru, .inr (1, [.ref bk, .int 0, .int 0, .int (-1), .int (-1), .int 0, .int rf, .int qu, .int ov]))] H := hP
  have hD : va_D A [(ru, .inr (1, [.ref bk, .int 0, .int 0, .int (-1), .int (-1), .int 0, .int rf, .int qu, .int ov]))] := hD
  refine lv_aload_n hx hb d_R_restart_25 rfl (lv_at hl 0 rfl) ?_
  refine lv_iconst (v := 0) hx hb d_R_restart_26 (by decide) ?_
  refine va_put (D := (dC, dI)) (ci := 1) (v := .int 0) (ty := .int) (C := R_R) (T := F_R) (N := 9) hx hb ht tu_R ft_R ft_R_ok n_R hown hK hP hD hS 0 rfl rfl 6 (by decide) (ht _ tw_151) (fun _ h9 => h9) rfl (by decide +kernel) rfl rfl (Nat.le_of_ble_eq_true rfl) d_R_restart_27 (fun H locs hP hD hS => ?_)
  have hP : va_P (dC, dI) clX [(ru, .inr (1, [.ref bk, .int 0, .int 0, .int (-1), .int (-1), .int 0, .int 0, .int qu, .int ov]))] H := hP
  have hD : va_D A [(ru, .inr (1, [.ref bk, .int 0, .int 0, .int (-1), .int (-1), .int 0, .int 0, .int qu, .int ov]))] := hD
  refine lv_aload_n hx hb d_R_restart_30 rfl (lv_at hl 0 rfl) ?_
  refine lv_iconst (v := (-1)) hx hb d_R_restart_31 (by decide) ?_
  refine va_put (D := (dC, dI)) (ci := 1) (v := .int (-1)) (ty := .int) (C := R_R) (T := F_R) (N := 9) hx hb ht tu_R ft_R ft_R_ok n_R hown hK hP hD hS 0 rfl rfl 7 (by decide) (ht _ tw_153) (fun _ h9 => h9) rfl (by decide +kernel) rfl rfl (Nat.le_of_ble_eq_true rfl) d_R_restart_32 (fun H locs hP hD hS => ?_)
  have hP : va_P (dC, dI) clX [(ru, .inr (1, [.ref bk, .int 0, .int 0, .int (-1), .int (-1), .int 0, .int 0, .int (-1), .int ov]))] H := hP
  have hD : va_D A [(ru, .inr (1, [.ref bk, .int 0, .int 0, .int (-1), .int (-1), .int 0, .int 0, .int (-1), .int ov]))] := hD
  refine lv_aload_n hx hb d_R_restart_35 rfl (lv_at hl 0 rfl) ?_
  refine lv_iconst (v := 0) hx hb d_R_restart_36 (by decide) ?_
  refine va_put (D := (dC, dI)) (ci := 1) (v := .int 0) (ty := .boolean) (C := R_R) (T := F_R) (N := 9) hx hb ht tu_R ft_R ft_R_ok n_R hown hK hP hD hS 0 rfl rfl 8 (by decide) (ht _ tw_155) (fun _ h9 => h9) rfl (by decide +kernel) (by rfl) rfl (Nat.le_of_ble_eq_true rfl) d_R_restart_37 (fun H locs hP hD hS => ?_)
  have hP : va_P (dC, dI) clX [(ru, .inr (1, [.ref bk, .int 0, .int 0, .int (-1), .int (-1), .int 0, .int 0, .int (-1), .int 0]))] H := hP
  have hD : va_D A [(ru, .inr (1, [.ref bk, .int 0, .int 0, .int (-1), .int (-1), .int 0, .int 0, .int (-1), .int 0]))] := hD
  have hP9 := hP.sub (ws' := [(ru, .inr (1, [.ref bk, .int 0, .int 0, .int (-1), .int (-1), .int 0, .int 0, .int (-1), .int 0]))]) [0] rfl
  have hD9 := hD.sub (ws' := [(ru, .inr (1, [.ref bk, .int 0, .int 0, .int (-1), .int (-1), .int 0, .int 0, .int (-1), .int 0]))]) [0] (by decide) rfl
  exact W.vret hx hb hr (fun t ht9 hW => ⟨⟨(), rfl, trivial, by rw [ht9]; exact hP9, va_K.moved hW.alike hK, by rw [hAe]; exact hD9⟩, hS.F ht9⟩) hS.2.2 d_R_restart_40
set_option maxHeartbeats 4000000 in
set_option maxRecDepth 100000 in
theorem c_R_arrive (l : Launch) (dC : Nat → ClassId) (dI : Nat → Nat → Nat) (tb : tbT) (ru bk : Nat) (pl dp lp ld dn rf qu ov : Int32) (sz : Nat) : MV l y_R_arrive (Cond.code y_R_arrive b_R_arrive 1 none :: TB) ({ frames := 0, cells := 0, slots := 0, locals := 0 }) tb (dC, dI) [.ref ru] [(ru, .inr (1, [.ref bk, .int pl, .int dp, .int lp, .int ld, .int dn, .int rf, .int qu, .int ov]))] [(ru, .inr (1, [.ref bk, .int pl, .int dp, .int pl, .int dp, .int dn, .int rf, .int qu, .int ov]))] [] sz := by
  refine Met.ofW (cc := b_R_arrive) (maxL := 1) (ret := none) (by decide) rfl ?_
  intro p e s m args below meth c s₁ B hml hv
  obtain ⟨rfl, hsz, hP, hK, hD0, hE⟩ := hv
  have hx := B.exec
  have hb := B.bytes
  have hr := B.returns
  have ht := fun w (h : w ∈ TB) => atoms_spec (ws := Cond.code y_R_arrive b_R_arrive 1 none :: TB) B.pre w (List.mem_cons_of_mem _ h)
  have hown : s.vm.findClass R_R = some m.cls := findClass_of_methodNamed B.named
  have hlocks := B.notSynchronized
  subst hsz
  have hD := hD0.self (sz := s.heap.size)
  generalize hAe : va_A [(ru, .inr (1, [.ref bk, .int pl, .int dp, .int lp, .int ld, .int dn, .int rf, .int qu, .int ov]))] s.heap.size = A at hD hE ⊢
  have hA : ∀ q : Nat, s.heap.size ≤ q → A q := fun q h => by rw [← hAe]; exact Or.inr h
  have hS : va_S A s.heap s.heap [] := va_S.rf
  have F : CallFix p m c b_R_arrive 1 s _ TB R_R := ⟨hx, hb, hml, hown, ht⟩
  have hl := lv_entry ([.ref ru]) (n := 1) (Nat.le_of_ble_eq_true rfl)
  rw [lg_entry_eq]
  generalize (lg_sl ([.ref ru]) ++ List.replicate (1 - (lg_sl ([.ref ru])).length) Slot.unset).toArray = ls at hl ⊢
  have hl : lv_has ls 1 [(0, .ref ru)] := hl
  refine lv_aload_n hx hb d_R_arrive_0 rfl (lv_at hl 0 rfl) ?_
  refine lv_aload_n hx hb d_R_arrive_1 rfl (lv_at hl 0 rfl) ?_
  refine va_get (D := (dC, dI)) (ci := 1) (v := .int pl) (C := R_R) (T := F_R) (N := 9) hx hb ht tu_R hown hK hP 0 rfl rfl 1 (by decide) (ht _ tw_141) (fun _ h9 => h9) rfl d_R_arrive_2 ?_
  refine va_put (D := (dC, dI)) (ci := 1) (v := .int pl) (ty := .int) (C := R_R) (T := F_R) (N := 9) hx hb ht tu_R ft_R ft_R_ok n_R hown hK hP hD hS 0 rfl rfl 3 (by decide) (ht _ tw_145) (fun _ h9 => h9) rfl (by decide +kernel) rfl rfl (Nat.le_of_ble_eq_true rfl) d_R_arrive_5 (fun H locs hP hD hS => ?_)
  have hP : va_P (dC, dI) clX [(ru, .inr (1, [.ref bk, .int pl, .int dp, .int pl, .int ld, .int dn, .int rf, .int qu, .int ov]))] H := hP
  have hD : va_D A [(ru, .inr (1, [.ref bk, .int pl, .int dp, .int pl, .int ld, .int dn, .int rf, .int qu, .int ov]))] := hD
  refine lv_aload_n hx hb d_R_arrive_8 rfl (lv_at hl 0 rfl) ?_
  refine lv_aload_n hx hb d_R_arrive_9 rfl (lv_at hl 0 rfl) ?_
  refine va_get (D := (dC, dI)) (ci := 1) (v := .int dp) (C := R_R) (T := F_R) (N := 9) hx hb ht tu_R hown hK hP 0 rfl rfl 2 (by decide) (ht _ tw_143) (fun _ h9 => h9) rfl d_R_arrive_10 ?_
  refine va_put (D := (dC, dI)) (ci := 1) (v := .int dp) (ty := .int) (C := R_R) (T := F_R) (N := 9) hx hb ht tu_R ft_R ft_R_ok n_R hown hK hP hD hS 0 rfl rfl 4 (by decide) (ht _ tw_147) (fun _ h9 => h9) rfl (by decide +kernel) rfl rfl (Nat.le_of_ble_eq_true rfl) d_R_arrive_13 (fun H locs hP hD hS => ?_)
  have hP : va_P (dC, dI) clX [(ru, .inr (1, [.ref bk, .int pl, .int dp, .int pl, .int dp, .int dn, .int rf, .int qu, .int ov]))] H := hP
  have hD : va_D A [(ru, .inr (1, [.ref bk, .int pl, .int dp, .int pl, .int dp, .int dn, .int rf, .int qu, .int ov]))] := hD
  have hP9 := hP.sub (ws' := [(ru, .inr (1, [.ref bk, .int pl, .int dp, .int pl, .int dp, .int dn, .int rf, .int qu, .int ov]))]) [0] rfl
  have hD9 := hD.sub (ws' := [(ru, .inr (1, [.ref bk, .int pl, .int dp, .int pl, .int dp, .int dn, .int rf, .int qu, .int ov]))]) [0] (by decide) rfl
  exact W.vret hx hb hr (fun t ht9 hW => ⟨⟨(), rfl, trivial, by rw [ht9]; exact hP9, va_K.moved hW.alike hK, by rw [hAe]; exact hD9⟩, hS.F ht9⟩) hS.2.2 d_R_arrive_16
set_option maxHeartbeats 4000000 in
set_option maxRecDepth 100000 in
theorem c_R_refuse (l : Launch) (dC : Nat → ClassId) (dI : Nat → Nat → Nat) (tb : tbT) (ru bk : Nat) (pl dp lp ld dn rf qu ov : Int32) (n9 : Int32) (sz : Nat) : MV l y_R_refuse (Cond.code y_R_refuse b_R_refuse 2 none :: TB) ({ frames := 0, cells := 0, slots := 0, locals := 0 }) tb (dC, dI) [.ref ru, .int n9] [(ru, .inr (1, [.ref bk, .int pl, .int dp, .int lp, .int ld, .int dn, .int rf, .int qu, .int ov]))] [(ru, .inr (1, [.ref bk, .int pl, .int dp, .int lp, .int ld, .int dn, .int n9, .int qu, .int 1]))] [] sz := by
  refine Met.ofW (cc := b_R_refuse) (maxL := 2) (ret := none) (by decide) rfl ?_
  intro p e s m args below meth c s₁ B hml hv
  obtain ⟨rfl, hsz, hP, hK, hD0, hE⟩ := hv
  have hx := B.exec
  have hb := B.bytes
  have hr := B.returns
  have ht := fun w (h : w ∈ TB) => atoms_spec (ws := Cond.code y_R_refuse b_R_refuse 2 none :: TB) B.pre w (List.mem_cons_of_mem _ h)
  have hown : s.vm.findClass R_R = some m.cls := findClass_of_methodNamed B.named
  have hlocks := B.notSynchronized
  subst hsz
  have hD := hD0.self (sz := s.heap.size)
  generalize hAe : va_A [(ru, .inr (1, [.ref bk, .int pl, .int dp, .int lp, .int ld, .int dn, .int rf, .int qu, .int ov]))] s.heap.size = A at hD hE ⊢
  have hA : ∀ q : Nat, s.heap.size ≤ q → A q := fun q h => by rw [← hAe]; exact Or.inr h
  have hS : va_S A s.heap s.heap [] := va_S.rf
  have F : CallFix p m c b_R_refuse 2 s _ TB R_R := ⟨hx, hb, hml, hown, ht⟩
  have hl := lv_entry ([.ref ru, .int n9]) (n := 2) (Nat.le_of_ble_eq_true rfl)
  rw [lg_entry_eq]
  generalize (lg_sl ([.ref ru, .int n9]) ++ List.replicate (2 - (lg_sl ([.ref ru, .int n9])).length) Slot.unset).toArray = ls at hl ⊢
  have hl : lv_has ls 2 [(0, .ref ru), (1, .int n9)] := hl
  refine lv_aload_n hx hb d_R_refuse_0 rfl (lv_at hl 0 rfl) ?_
  refine lv_iload_n hx hb d_R_refuse_1 rfl (lv_at hl 1 rfl) ?_
  refine va_put (D := (dC, dI)) (ci := 1) (v := .int n9) (ty := .int) (C := R_R) (T := F_R) (N := 9) hx hb ht tu_R ft_R ft_R_ok n_R hown hK hP hD hS 0 rfl rfl 6 (by decide) (ht _ tw_151) (fun _ h9 => h9) rfl (by decide +kernel) rfl rfl (Nat.le_of_ble_eq_true rfl) d_R_refuse_2 (fun H locs hP hD hS => ?_)
  have hP : va_P (dC, dI) clX [(ru, .inr (1, [.ref bk, .int pl, .int dp, .int lp, .int ld, .int dn, .int n9, .int qu, .int ov]))] H := hP
  have hD : va_D A [(ru, .inr (1, [.ref bk, .int pl, .int dp, .int lp, .int ld, .int dn, .int n9, .int qu, .int ov]))] := hD
  refine lv_aload_n hx hb d_R_refuse_5 rfl (lv_at hl 0 rfl) ?_
  refine lv_iconst (v := 1) hx hb d_R_refuse_6 (by decide) ?_
  refine va_put (D := (dC, dI)) (ci := 1) (v := .int 1) (ty := .boolean) (C := R_R) (T := F_R) (N := 9) hx hb ht tu_R ft_R ft_R_ok n_R hown hK hP hD hS 0 rfl rfl 8 (by decide) (ht _ tw_155) (fun _ h9 => h9) rfl (by decide +kernel) (by rfl) rfl (Nat.le_of_ble_eq_true rfl) d_R_refuse_7 (fun H locs hP hD hS => ?_)
  have hP : va_P (dC, dI) clX [(ru, .inr (1, [.ref bk, .int pl, .int dp, .int lp, .int ld, .int dn, .int n9, .int qu, .int 1]))] H := hP
  have hD : va_D A [(ru, .inr (1, [.ref bk, .int pl, .int dp, .int lp, .int ld, .int dn, .int n9, .int qu, .int 1]))] := hD
  have hP9 := hP.sub (ws' := [(ru, .inr (1, [.ref bk, .int pl, .int dp, .int lp, .int ld, .int dn, .int n9, .int qu, .int 1]))]) [0] rfl
  have hD9 := hD.sub (ws' := [(ru, .inr (1, [.ref bk, .int pl, .int dp, .int lp, .int ld, .int dn, .int n9, .int qu, .int 1]))]) [0] (by decide) rfl
  exact W.vret hx hb hr (fun t ht9 hW => ⟨⟨(), rfl, trivial, by rw [ht9]; exact hP9, va_K.moved hW.alike hK, by rw [hAe]; exact hD9⟩, hS.F ht9⟩) hS.2.2 d_R_refuse_10
set_option maxHeartbeats 4000000 in
set_option maxRecDepth 100000 in
theorem c_R_passOver (l : Launch) (dC : Nat → ClassId) (dI : Nat → Nat → Nat) (tb : tbT) (ru bk : Nat) (pl dp lp ld dn rf qu ov : Int32) (n9 : Int32) (sz : Nat) : MV l y_R_passOver (Cond.code y_R_passOver b_R_passOver 2 none :: TB) ({ frames := 0, cells := 0, slots := 0, locals := 0 }) tb (dC, dI) [.ref ru, .int n9] [(ru, .inr (1, [.ref bk, .int pl, .int dp, .int lp, .int ld, .int dn, .int rf, .int qu, .int ov]))] [(ru, .inr (1, [.ref bk, .int (pl + (1 + n9)), .int dp, .int lp, .int ld, .int (dn + 1), .int rf, .int qu, .int ov]))] [] sz := by
  refine Met.ofW (cc := b_R_passOver) (maxL := 2) (ret := none) (by decide) rfl ?_
  intro p e s m args below meth c s₁ B hml hv
  obtain ⟨rfl, hsz, hP, hK, hD0, hE⟩ := hv
  have hx := B.exec
  have hb := B.bytes
  have hr := B.returns
  have ht := fun w (h : w ∈ TB) => atoms_spec (ws := Cond.code y_R_passOver b_R_passOver 2 none :: TB) B.pre w (List.mem_cons_of_mem _ h)
  have hown : s.vm.findClass R_R = some m.cls := findClass_of_methodNamed B.named
  have hlocks := B.notSynchronized
  subst hsz
  have hD := hD0.self (sz := s.heap.size)
  generalize hAe : va_A [(ru, .inr (1, [.ref bk, .int pl, .int dp, .int lp, .int ld, .int dn, .int rf, .int qu, .int ov]))] s.heap.size = A at hD hE ⊢
  have hA : ∀ q : Nat, s.heap.size ≤ q → A q := fun q h => by rw [← hAe]; exact Or.inr h
  have hS : va_S A s.heap s.heap [] := va_S.rf
  have F : CallFix p m c b_R_passOver 2 s _ TB R_R := ⟨hx, hb, hml, hown, ht⟩
  have hl := lv_entry ([.ref ru, .int n9]) (n := 2) (Nat.le_of_ble_eq_true rfl)
  rw [lg_entry_eq]
  generalize (lg_sl ([.ref ru, .int n9]) ++ List.replicate (2 - (lg_sl ([.ref ru, .int n9])).length) Slot.unset).toArray = ls at hl ⊢
  have hl : lv_has ls 2 [(0, .ref ru), (1, .int n9)] := hl
  refine lv_aload_n hx hb d_R_passOver_0 rfl (lv_at hl 0 rfl) ?_
  refine lv_dup hx hb d_R_passOver_1 rfl ?_
  refine va_get (D := (dC, dI)) (ci := 1) (v := .int pl) (C := R_R) (T := F_R) (N := 9) hx hb ht tu_R hown hK hP 0 rfl rfl 1 (by decide) (ht _ tw_141) (fun _ h9 => h9) rfl d_R_passOver_2 ?_
  refine lv_iconst (v := 1) hx hb d_R_passOver_5 (by decide) ?_
  refine lv_iload_n hx hb d_R_passOver_6 rfl (lv_at hl 1 rfl) ?_
  refine lv_iadd hx hb d_R_passOver_7 ?_
  refine lv_iadd hx hb d_R_passOver_8 ?_
  refine va_put (D := (dC, dI)) (ci := 1) (v := .int (pl + (1 + n9))) (ty := .int) (C := R_R) (T := F_R) (N := 9) hx hb ht tu_R ft_R ft_R_ok n_R hown hK hP hD hS 0 rfl rfl 1 (by decide) (ht _ tw_141) (fun _ h9 => h9) rfl (by decide +kernel) rfl rfl (Nat.le_of_ble_eq_true rfl) d_R_passOver_9 (fun H locs hP hD hS => ?_)
  have hP : va_P (dC, dI) clX [(ru, .inr (1, [.ref bk, .int (pl + (1 + n9)), .int dp, .int lp, .int ld, .int dn, .int rf, .int qu, .int ov]))] H := hP
  have hD : va_D A [(ru, .inr (1, [.ref bk, .int (pl + (1 + n9)), .int dp, .int lp, .int ld, .int dn, .int rf, .int qu, .int ov]))] := hD
  refine lv_aload_n hx hb d_R_passOver_12 rfl (lv_at hl 0 rfl) ?_
  refine lv_dup hx hb d_R_passOver_13 rfl ?_
  refine va_get (D := (dC, dI)) (ci := 1) (v := .int dn) (C := R_R) (T := F_R) (N := 9) hx hb ht tu_R hown hK hP 0 rfl rfl 5 (by decide) (ht _ tw_149) (fun _ h9 => h9) rfl d_R_passOver_14 ?_
  refine lv_iconst (v := 1) hx hb d_R_passOver_17 (by decide) ?_
  refine lv_iadd hx hb d_R_passOver_18 ?_
  refine va_put (D := (dC, dI)) (ci := 1) (v := .int (dn + 1)) (ty := .int) (C := R_R) (T := F_R) (N := 9) hx hb ht tu_R ft_R ft_R_ok n_R hown hK hP hD hS 0 rfl rfl 5 (by decide) (ht _ tw_149) (fun _ h9 => h9) rfl (by decide +kernel) rfl rfl (Nat.le_of_ble_eq_true rfl) d_R_passOver_19 (fun H locs hP hD hS => ?_)
  have hP : va_P (dC, dI) clX [(ru, .inr (1, [.ref bk, .int (pl + (1 + n9)), .int dp, .int lp, .int ld, .int (dn + 1), .int rf, .int qu, .int ov]))] H := hP
  have hD : va_D A [(ru, .inr (1, [.ref bk, .int (pl + (1 + n9)), .int dp, .int lp, .int ld, .int (dn + 1), .int rf, .int qu, .int ov]))] := hD
  have hP9 := hP.sub (ws' := [(ru, .inr (1, [.ref bk, .int (pl + (1 + n9)), .int dp, .int lp, .int ld, .int (dn + 1), .int rf, .int qu, .int ov]))]) [0] rfl
  have hD9 := hD.sub (ws' := [(ru, .inr (1, [.ref bk, .int (pl + (1 + n9)), .int dp, .int lp, .int ld, .int (dn + 1), .int rf, .int qu, .int ov]))]) [0] (by decide) rfl
  exact W.vret hx hb hr (fun t ht9 hW => ⟨⟨(), rfl, trivial, by rw [ht9]; exact hP9, va_K.moved hW.alike hK, by rw [hAe]; exact hD9⟩, hS.F ht9⟩) hS.2.2 d_R_passOver_22
set_option maxHeartbeats 4000000 in
set_option maxRecDepth 100000 in
theorem c_R_enter (l : Launch) (dC : Nat → ClassId) (dI : Nat → Nat → Nat) (tb : tbT) (ru bk : Nat) (pl dp lp ld dn rf qu ov : Int32) (bf : IF) (cI : ClassId) (n9 : Int32) (sz : Nat) : MV l y_R_enter (Cond.code y_R_enter b_R_enter 2 none :: TB) ({ frames := 1, cells := 0, slots := 0, locals := 22 }) tb (dC, dI) [.ref ru, .int n9] [(ru, .inr (1, [.ref bk, .int pl, .int dp, .int lp, .int ld, .int dn, .int rf, .int qu, .int ov])), (bk, .inl (cI, 4, .inl bf))] [(ru, .inr (1, [.ref bk, .int n9, .int (dp + 1), .int lp, .int ld, .int dn, .int rf, .int qu, .int ov])), (bk, .inl (cI, 4, .inl (wrA 4 bf dp pl)))] [(cI, .int)] sz := by
  refine Met.ofW (cc := b_R_enter) (maxL := 2) (ret := none) (by decide) rfl ?_
  intro p e s m args below meth c s₁ B hml hv
  obtain ⟨rfl, hsz, hP, hK, hD0, hE⟩ := hv
  have hx := B.exec
  have hb := B.bytes
  have hr := B.returns
  have ht := fun w (h : w ∈ TB) => atoms_spec (ws := Cond.code y_R_enter b_R_enter 2 none :: TB) B.pre w (List.mem_cons_of_mem _ h)
  have hown : s.vm.findClass R_R = some m.cls := findClass_of_methodNamed B.named
  have hlocks := B.notSynchronized
  subst hsz
  have hD := hD0.self (sz := s.heap.size)
  generalize hAe : va_A [(ru, .inr (1, [.ref bk, .int pl, .int dp, .int lp, .int ld, .int dn, .int rf, .int qu, .int ov])), (bk, .inl (cI, 4, .inl bf))] s.heap.size = A at hD hE ⊢
  have hA : ∀ q : Nat, s.heap.size ≤ q → A q := fun q h => by rw [← hAe]; exact Or.inr h
  have hS : va_S A s.heap s.heap [] := va_S.rf
  have F : CallFix p m c b_R_enter 2 s _ TB R_R := ⟨hx, hb, hml, hown, ht⟩
  have hl := lv_entry ([.ref ru, .int n9]) (n := 2) (Nat.le_of_ble_eq_true rfl)
  rw [lg_entry_eq]
  generalize (lg_sl ([.ref ru, .int n9]) ++ List.replicate (2 - (lg_sl ([.ref ru, .int n9])).length) Slot.unset).toArray = ls at hl ⊢
  have hl : lv_has ls 2 [(0, .ref ru), (1, .int n9)] := hl
  refine lv_aload_n hx hb d_R_enter_0 rfl (lv_at hl 0 rfl) ?_
  refine va_get (D := (dC, dI)) (ci := 1) (v := .ref bk) (C := R_R) (T := F_R) (N := 9) hx hb ht tu_R hown hK hP 0 rfl rfl 0 (by decide) (ht _ tw_140) (fun _ h9 => h9) rfl d_R_enter_1 ?_
  refine lv_aload_n hx hb d_R_enter_4 rfl (lv_at hl 0 rfl) ?_
  refine va_get (D := (dC, dI)) (ci := 1) (v := .int dp) (C := R_R) (T := F_R) (N := 9) hx hb ht tu_R hown hK hP 0 rfl rfl 2 (by decide) (ht _ tw_143) (fun _ h9 => h9) rfl d_R_enter_5 ?_
  refine lv_aload_n hx hb d_R_enter_8 rfl (lv_at hl 0 rfl) ?_
  refine va_get (D := (dC, dI)) (ci := 1) (v := .int pl) (C := R_R) (T := F_R) (N := 9) hx hb ht tu_R hown hK hP 0 rfl rfl 1 (by decide) (ht _ tw_141) (fun _ h9 => h9) rfl d_R_enter_9 ?_
  refine mcSNv (As := [.ref bk, .int dp, .int pl]) (rest := []) (wr := [(ru, .inr (1, [.ref bk, .int pl, .int dp, .int lp, .int ld, .int dn, .int rf, .int qu, .int ov]))]) (c_D_write l dC dI tb bk 4 bf cI dp pl (by decide)) F tw_58 tw_28 tw_57 nw_18 hP hD [1] [0] rfl rfl (by decide) (by decide) (by decide) hK [0] rfl hE hS hA hd_D_write rfl rfl ⟨Nat.le_of_ble_eq_true rfl, Nat.le_of_ble_eq_true rfl⟩ ⟨Nat.le_of_ble_eq_true rfl, Nat.le_of_ble_eq_true rfl⟩ hl.1 rfl (Nat.le_of_ble_eq_true rfl) d_R_enter_12 (fun H locs hP hD hS => ?_)
  have hP : va_P (dC, dI) clX [(ru, .inr (1, [.ref bk, .int pl, .int dp, .int lp, .int ld, .int dn, .int rf, .int qu, .int ov])), (bk, .inl (cI, 4, .inl (wrA 4 bf dp pl)))] H := hP
  have hD : va_D A [(ru, .inr (1, [.ref bk, .int pl, .int dp, .int lp, .int ld, .int dn, .int rf, .int qu, .int ov])), (bk, .inl (cI, 4, .inl (wrA 4 bf dp pl)))] := hD
  refine lv_aload_n hx hb d_R_enter_15 rfl (lv_at hl 0 rfl) ?_
  refine lv_dup hx hb d_R_enter_16 rfl ?_
  refine va_get (D := (dC, dI)) (ci := 1) (v := .int dp) (C := R_R) (T := F_R) (N := 9) hx hb ht tu_R hown hK hP 0 rfl rfl 2 (by decide) (ht _ tw_143) (fun _ h9 => h9) rfl d_R_enter_17 ?_
  refine lv_iconst (v := 1) hx hb d_R_enter_20 (by decide) ?_
  refine lv_iadd hx hb d_R_enter_21 ?_
  refine va_put (D := (dC, dI)) (ci := 1) (v := .int (dp + 1)) (ty := .int) (C := R_R) (T := F_R) (N := 9) hx hb ht tu_R ft_R ft_R_ok n_R hown hK hP hD hS 0 rfl rfl 2 (by decide) (ht _ tw_143) (fun _ h9 => h9) rfl (by decide +kernel) rfl rfl (Nat.le_of_ble_eq_true rfl) d_R_enter_22 (fun H locs hP hD hS => ?_)
  have hP : va_P (dC, dI) clX [(ru, .inr (1, [.ref bk, .int pl, .int (dp + 1), .int lp, .int ld, .int dn, .int rf, .int qu, .int ov])), (bk, .inl (cI, 4, .inl (wrA 4 bf dp pl)))] H := hP
  have hD : va_D A [(ru, .inr (1, [.ref bk, .int pl, .int (dp + 1), .int lp, .int ld, .int dn, .int rf, .int qu, .int ov])), (bk, .inl (cI, 4, .inl (wrA 4 bf dp pl)))] := hD
  refine lv_aload_n hx hb d_R_enter_25 rfl (lv_at hl 0 rfl) ?_
  refine lv_iload_n hx hb d_R_enter_26 rfl (lv_at hl 1 rfl) ?_
  refine va_put (D := (dC, dI)) (ci := 1) (v := .int n9) (ty := .int) (C := R_R) (T := F_R) (N := 9) hx hb ht tu_R ft_R ft_R_ok n_R hown hK hP hD hS 0 rfl rfl 1 (by decide) (ht _ tw_141) (fun _ h9 => h9) rfl (by decide +kernel) rfl rfl (Nat.le_of_ble_eq_true rfl) d_R_enter_27 (fun H locs hP hD hS => ?_)
  have hP : va_P (dC, dI) clX [(ru, .inr (1, [.ref bk, .int n9, .int (dp + 1), .int lp, .int ld, .int dn, .int rf, .int qu, .int ov])), (bk, .inl (cI, 4, .inl (wrA 4 bf dp pl)))] H := hP
  have hD : va_D A [(ru, .inr (1, [.ref bk, .int n9, .int (dp + 1), .int lp, .int ld, .int dn, .int rf, .int qu, .int ov])), (bk, .inl (cI, 4, .inl (wrA 4 bf dp pl)))] := hD
  have hP9 := hP.sub (ws' := [(ru, .inr (1, [.ref bk, .int n9, .int (dp + 1), .int lp, .int ld, .int dn, .int rf, .int qu, .int ov])), (bk, .inl (cI, 4, .inl (wrA 4 bf dp pl)))]) [0, 1] rfl
  have hD9 := hD.sub (ws' := [(ru, .inr (1, [.ref bk, .int n9, .int (dp + 1), .int lp, .int ld, .int dn, .int rf, .int qu, .int ov])), (bk, .inl (cI, 4, .inl (wrA 4 bf dp pl)))]) [0, 1] (by decide) rfl
  exact W.vret hx hb hr (fun t ht9 hW => ⟨⟨(), rfl, trivial, by rw [ht9]; exact hP9, va_K.moved hW.alike hK, by rw [hAe]; exact hD9⟩, hS.F ht9⟩) hS.2.2 d_R_enter_30
set_option maxHeartbeats 4000000 in
set_option maxRecDepth 100000 in
theorem c_R_leave (l : Launch) (dC : Nat → ClassId) (dI : Nat → Nat → Nat) (tb : tbT) (ru bk : Nat) (pl dp lp ld dn rf qu ov : Int32) (bf : IF) (cI : ClassId) (sz : Nat) : MV l y_R_leave (Cond.code y_R_leave b_R_leave 1 none :: TB) ({ frames := 1, cells := 0, slots := 0, locals := 21 }) tb (dC, dI) [.ref ru] [(ru, .inr (1, [.ref bk, .int pl, .int dp, .int lp, .int ld, .int dn, .int rf, .int qu, .int ov])), (bk, .inl (cI, 4, .inl bf))] [(ru, .inr (1, [.ref bk, .int (if dp = 0 then pl else rdA 4 bf (dp - 1)), .int (if dp = 0 then dp else (dp - 1)), .int lp, .int ld, .int dn, .int rf, .int qu, .int (if dp = 0 then 1 else ov)])), (bk, .inl (cI, 4, .inl bf))] [(cI, .int)] sz := by
  refine Met.ofW (cc := b_R_leave) (maxL := 1) (ret := none) (by decide) rfl ?_
  intro p e s m args below meth c s₁ B hml hv
  obtain ⟨rfl, hsz, hP, hK, hD0, hE⟩ := hv
  have hx := B.exec
  have hb := B.bytes
  have hr := B.returns
  have ht := fun w (h : w ∈ TB) => atoms_spec (ws := Cond.code y_R_leave b_R_leave 1 none :: TB) B.pre w (List.mem_cons_of_mem _ h)
  have hown : s.vm.findClass R_R = some m.cls := findClass_of_methodNamed B.named
  have hlocks := B.notSynchronized
  subst hsz
  have hD := hD0.self (sz := s.heap.size)
  generalize hAe : va_A [(ru, .inr (1, [.ref bk, .int pl, .int dp, .int lp, .int ld, .int dn, .int rf, .int qu, .int ov])), (bk, .inl (cI, 4, .inl bf))] s.heap.size = A at hD hE ⊢
  have hA : ∀ q : Nat, s.heap.size ≤ q → A q := fun q h => by rw [← hAe]; exact Or.inr h
  have hS : va_S A s.heap s.heap [] := va_S.rf
  have F : CallFix p m c b_R_leave 1 s _ TB R_R := ⟨hx, hb, hml, hown, ht⟩
  have hl := lv_entry ([.ref ru]) (n := 1) (Nat.le_of_ble_eq_true rfl)
  rw [lg_entry_eq]
  generalize (lg_sl ([.ref ru]) ++ List.replicate (1 - (lg_sl ([.ref ru])).length) Slot.unset).toArray = ls at hl ⊢
  have hl : lv_has ls 1 [(0, .ref ru)] := hl
  refine lv_aload_n hx hb d_R_leave_0 rfl (lv_at hl 0 rfl) ?_
  refine va_get (D := (dC, dI)) (ci := 1) (v := .int dp) (C := R_R) (T := F_R) (N := 9) hx hb ht tu_R hown hK hP 0 rfl rfl 2 (by decide) (ht _ tw_143) (fun _ h9 => h9) rfl d_R_leave_1 ?_
  refine lv_if_ne (tgt := 13) hx hb d_R_leave_4 (by decide) (fun c_16 => ?_) (fun c_16 => ?_)
  · refine lv_aload_n hx hb d_R_leave_13 rfl (lv_at hl 0 rfl) ?_
    refine lv_dup hx hb d_R_leave_14 rfl ?_
    refine va_get (D := (dC, dI)) (ci := 1) (v := .int dp) (C := R_R) (T := F_R) (N := 9) hx hb ht tu_R hown hK hP 0 rfl rfl 2 (by decide) (ht _ tw_143) (fun _ h9 => h9) rfl d_R_leave_15 ?_
    refine lv_iconst (v := 1) hx hb d_R_leave_18 (by decide) ?_
    refine lv_isub hx hb d_R_leave_19 ?_
    refine va_put (D := (dC, dI)) (ci := 1) (v := .int (dp - 1)) (ty := .int) (C := R_R) (T := F_R) (N := 9) hx hb ht tu_R ft_R ft_R_ok n_R hown hK hP hD hS 0 rfl rfl 2 (by decide) (ht _ tw_143) (fun _ h9 => h9) rfl (by decide +kernel) rfl rfl (Nat.le_of_ble_eq_true rfl) d_R_leave_20 (fun H locs hP hD hS => ?_)
    have hP : va_P (dC, dI) clX [(ru, .inr (1, [.ref bk, .int pl, .int (dp - 1), .int lp, .int ld, .int dn, .int rf, .int qu, .int ov])), (bk, .inl (cI, 4, .inl bf))] H := hP
    have hD : va_D A [(ru, .inr (1, [.ref bk, .int pl, .int (dp - 1), .int lp, .int ld, .int dn, .int rf, .int qu, .int ov])), (bk, .inl (cI, 4, .inl bf))] := hD
    refine lv_aload_n hx hb d_R_leave_23 rfl (lv_at hl 0 rfl) ?_
    refine lv_aload_n hx hb d_R_leave_24 rfl (lv_at hl 0 rfl) ?_
    refine va_get (D := (dC, dI)) (ci := 1) (v := .ref bk) (C := R_R) (T := F_R) (N := 9) hx hb ht tu_R hown hK hP 0 rfl rfl 0 (by decide) (ht _ tw_140) (fun _ h9 => h9) rfl d_R_leave_25 ?_
    refine lv_aload_n hx hb d_R_leave_28 rfl (lv_at hl 0 rfl) ?_
    refine va_get (D := (dC, dI)) (ci := 1) (v := .int (dp - 1)) (C := R_R) (T := F_R) (N := 9) hx hb ht tu_R hown hK hP 0 rfl rfl 2 (by decide) (ht _ tw_143) (fun _ h9 => h9) rfl d_R_leave_29 ?_
    refine rcSN (As := [.ref bk, .int (dp - 1)]) (rest := [.ref ru]) (c_D_read l dC dI tb bk 4 bf cI (dp - 1) (by decide)) F tw_66 tw_28 tw_65 nw_17 hP [1] rfl hK [0] rfl hE hS hd_D_read rfl rfl ⟨Nat.le_of_ble_eq_true rfl, Nat.le_of_ble_eq_true rfl⟩ ⟨Nat.le_of_ble_eq_true rfl, Nat.le_of_ble_eq_true rfl⟩ hl.1 rfl (Nat.le_of_ble_eq_true rfl) d_R_leave_32 ?_
    refine va_put (D := (dC, dI)) (ci := 1) (v := .int (rdA 4 bf (dp - 1))) (ty := .int) (C := R_R) (T := F_R) (N := 9) hx hb ht tu_R ft_R ft_R_ok n_R hown hK hP hD hS 0 rfl rfl 1 (by decide) (ht _ tw_141) (fun _ h9 => h9) rfl (by decide +kernel) rfl rfl (Nat.le_of_ble_eq_true rfl) d_R_leave_35 (fun H locs hP hD hS => ?_)
    have hP : va_P (dC, dI) clX [(ru, .inr (1, [.ref bk, .int (rdA 4 bf (dp - 1)), .int (dp - 1), .int lp, .int ld, .int dn, .int rf, .int qu, .int ov])), (bk, .inl (cI, 4, .inl bf))] H := hP
    have hD : va_D A [(ru, .inr (1, [.ref bk, .int (rdA 4 bf (dp - 1)), .int (dp - 1), .int lp, .int ld, .int dn, .int rf, .int qu, .int ov])), (bk, .inl (cI, 4, .inl bf))] := hD
    have hP9 := hP.sub (ws' := [(ru, .inr (1, [.ref bk, .int (rdA 4 bf (dp - 1)), .int (dp - 1), .int lp, .int ld, .int dn, .int rf, .int qu, .int ov])), (bk, .inl (cI, 4, .inl bf))]) [0, 1] rfl
    have hD9 := hD.sub (ws' := [(ru, .inr (1, [.ref bk, .int (rdA 4 bf (dp - 1)), .int (dp - 1), .int lp, .int ld, .int dn, .int rf, .int qu, .int ov])), (bk, .inl (cI, 4, .inl bf))]) [0, 1] (by decide) rfl
    exact W.vret hx hb hr (fun t ht9 hW => ⟨⟨(), rfl, trivial, by rw [ht9]; simp only [if_neg c_16]; exact hP9, va_K.moved hW.alike hK, by rw [hAe]; simp only [if_neg c_16]; exact hD9⟩, hS.F ht9⟩) hS.2.2 d_R_leave_38
  · refine lv_aload_n hx hb d_R_leave_7 rfl (lv_at hl 0 rfl) ?_
    refine lv_iconst (v := 1) hx hb d_R_leave_8 (by decide) ?_
    refine va_put (D := (dC, dI)) (ci := 1) (v := .int 1) (ty := .boolean) (C := R_R) (T := F_R) (N := 9) hx hb ht tu_R ft_R ft_R_ok n_R hown hK hP hD hS 0 rfl rfl 8 (by decide) (ht _ tw_155) (fun _ h9 => h9) rfl (by decide +kernel) (by rfl) rfl (Nat.le_of_ble_eq_true rfl) d_R_leave_9 (fun H locs hP hD hS => ?_)
    have hP : va_P (dC, dI) clX [(ru, .inr (1, [.ref bk, .int pl, .int dp, .int lp, .int ld, .int dn, .int rf, .int qu, .int 1])), (bk, .inl (cI, 4, .inl bf))] H := hP
    have hD : va_D A [(ru, .inr (1, [.ref bk, .int pl, .int dp, .int lp, .int ld, .int dn, .int rf, .int qu, .int 1])), (bk, .inl (cI, 4, .inl bf))] := hD
    have hP9 := hP.sub (ws' := [(ru, .inr (1, [.ref bk, .int pl, .int dp, .int lp, .int ld, .int dn, .int rf, .int qu, .int 1])), (bk, .inl (cI, 4, .inl bf))]) [0, 1] rfl
    have hD9 := hD.sub (ws' := [(ru, .inr (1, [.ref bk, .int pl, .int dp, .int lp, .int ld, .int dn, .int rf, .int qu, .int 1])), (bk, .inl (cI, 4, .inl bf))]) [0, 1] (by decide) rfl
    exact W.vret hx hb hr (fun t ht9 hW => ⟨⟨(), rfl, trivial, by rw [ht9]; simp only [if_pos c_16]; exact hP9, va_K.moved hW.alike hK, by rw [hAe]; simp only [if_pos c_16]; exact hD9⟩, hS.F ht9⟩) hS.2.2 d_R_leave_12
set_option maxHeartbeats 4000000 in
set_option maxRecDepth 100000 in
theorem c_C_become (l : Launch) (dC : Nat → ClassId) (dI : Nat → Nat → Nat) (tb : tbT) (co cw : Nat) (kd mn : Int32) (k9 m9 : Int32) (sz : Nat) : MV l y_C_become (Cond.code y_C_become b_C_become 3 none :: TB) ({ frames := 0, cells := 0, slots := 0, locals := 0 }) tb (dC, dI) [.ref co, .int k9, .int m9] [(co, .inr (0, [.ref cw, .int kd, .int mn]))] [(co, .inr (0, [.ref cw, .int k9, .int m9]))] [] sz := by
  refine Met.ofW (cc := b_C_become) (maxL := 3) (ret := none) (by decide) rfl ?_
  intro p e s m args below meth c s₁ B hml hv
  obtain ⟨rfl, hsz, hP, hK, hD0, hE⟩ := hv
  have hx := B.exec
  have hb := B.bytes
  have hr := B.returns
  have ht := fun w (h : w ∈ TB) => atoms_spec (ws := Cond.code y_C_become b_C_become 3 none :: TB) B.pre w (List.mem_cons_of_mem _ h)
  have hown : s.vm.findClass R_C = some m.cls := findClass_of_methodNamed B.named
  have hlocks := B.notSynchronized
  subst hsz
  have hD := hD0.self (sz := s.heap.size)
  generalize hAe : va_A [(co, .inr (0, [.ref cw, .int kd, .int mn]))] s.heap.size = A at hD hE ⊢
  have hA : ∀ q : Nat, s.heap.size ≤ q → A q := fun q h => by rw [← hAe]; exact Or.inr h
  have hS : va_S A s.heap s.heap [] := va_S.rf
  have F : CallFix p m c b_C_become 3 s _ TB R_C := ⟨hx, hb, hml, hown, ht⟩
  have hl := lv_entry ([.ref co, .int k9, .int m9]) (n := 3) (Nat.le_of_ble_eq_true rfl)
  rw [lg_entry_eq]
  generalize (lg_sl ([.ref co, .int k9, .int m9]) ++ List.replicate (3 - (lg_sl ([.ref co, .int k9, .int m9])).length) Slot.unset).toArray = ls at hl ⊢
  have hl : lv_has ls 3 [(0, .ref co), (1, .int k9), (2, .int m9)] := hl
  refine lv_aload_n hx hb d_C_become_0 rfl (lv_at hl 0 rfl) ?_
  refine lv_iload_n hx hb d_C_become_1 rfl (lv_at hl 1 rfl) ?_
  refine va_put (D := (dC, dI)) (ci := 0) (v := .int k9) (ty := .int) (C := R_C) (T := F_C) (N := 3) hx hb ht tu_C ft_C ft_C_ok n_C hown hK hP hD hS 0 rfl rfl 1 (by decide) (ht _ tw_117) (fun _ h9 => h9) rfl (by decide +kernel) rfl rfl (Nat.le_of_ble_eq_true rfl) d_C_become_2 (fun H locs hP hD hS => ?_)
  have hP : va_P (dC, dI) clX [(co, .inr (0, [.ref cw, .int k9, .int mn]))] H := hP
  have hD : va_D A [(co, .inr (0, [.ref cw, .int k9, .int mn]))] := hD
  refine lv_aload_n hx hb d_C_become_5 rfl (lv_at hl 0 rfl) ?_
  refine lv_iload_n hx hb d_C_become_6 rfl (lv_at hl 2 rfl) ?_
  refine va_put (D := (dC, dI)) (ci := 0) (v := .int m9) (ty := .int) (C := R_C) (T := F_C) (N := 3) hx hb ht tu_C ft_C ft_C_ok n_C hown hK hP hD hS 0 rfl rfl 2 (by decide) (ht _ tw_120) (fun _ h9 => h9) rfl (by decide +kernel) rfl rfl (Nat.le_of_ble_eq_true rfl) d_C_become_7 (fun H locs hP hD hS => ?_)
  have hP : va_P (dC, dI) clX [(co, .inr (0, [.ref cw, .int k9, .int m9]))] H := hP
  have hD : va_D A [(co, .inr (0, [.ref cw, .int k9, .int m9]))] := hD
  have hP9 := hP.sub (ws' := [(co, .inr (0, [.ref cw, .int k9, .int m9]))]) [0] rfl
  have hD9 := hD.sub (ws' := [(co, .inr (0, [.ref cw, .int k9, .int m9]))]) [0] (by decide) rfl
  exact W.vret hx hb hr (fun t ht9 hW => ⟨⟨(), rfl, trivial, by rw [ht9]; exact hP9, va_K.moved hW.alike hK, by rw [hAe]; exact hD9⟩, hS.F ht9⟩) hS.2.2 d_C_become_10
set_option maxHeartbeats 4000000 in
set_option maxRecDepth 100000 in
theorem c_C_forget (l : Launch) (dC : Nat → ClassId) (dI : Nat → Nat → Nat) (tb : tbT) (co cw : Nat) (kd mn : Int32) (sz : Nat) : MV l y_C_forget (Cond.code y_C_forget b_C_forget 1 none :: TB) ({ frames := 1, cells := 0, slots := 0, locals := 22 }) tb (dC, dI) [.ref co] [(co, .inr (0, [.ref cw, .int kd, .int mn]))] [(co, .inr (0, [.ref cw, .int 0, .int 0]))] [] sz := by
  refine Met.ofW (cc := b_C_forget) (maxL := 1) (ret := none) (by decide) rfl ?_
  intro p e s m args below meth c s₁ B hml hv
  obtain ⟨rfl, hsz, hP, hK, hD0, hE⟩ := hv
  have hx := B.exec
  have hb := B.bytes
  have hr := B.returns
  have ht := fun w (h : w ∈ TB) => atoms_spec (ws := Cond.code y_C_forget b_C_forget 1 none :: TB) B.pre w (List.mem_cons_of_mem _ h)
  have hown : s.vm.findClass R_C = some m.cls := findClass_of_methodNamed B.named
  have hlocks := B.notSynchronized
  subst hsz
  have hD := hD0.self (sz := s.heap.size)
  generalize hAe : va_A [(co, .inr (0, [.ref cw, .int kd, .int mn]))] s.heap.size = A at hD hE ⊢
  have hA : ∀ q : Nat, s.heap.size ≤ q → A q := fun q h => by rw [← hAe]; exact Or.inr h
  have hS : va_S A s.heap s.heap [] := va_S.rf
  have F : CallFix p m c b_C_forget 1 s _ TB R_C := ⟨hx, hb, hml, hown, ht⟩
  have hl := lv_entry ([.ref co]) (n := 1) (Nat.le_of_ble_eq_true rfl)
  rw [lg_entry_eq]
  generalize (lg_sl ([.ref co]) ++ List.replicate (1 - (lg_sl ([.ref co])).length) Slot.unset).toArray = ls at hl ⊢
  have hl : lv_has ls 1 [(0, .ref co)] := hl
  refine lv_aload_n hx hb d_C_forget_0 rfl (lv_at hl 0 rfl) ?_
  refine lv_iconst (v := 0) hx hb d_C_forget_1 (by decide) ?_
  refine lv_iconst (v := 0) hx hb d_C_forget_2 (by decide) ?_
  refine mcVv (As := [.int 0, .int 0]) (rest := []) (wr := []) (c_C_become l dC dI tb co cw kd mn 0 0 ) F tw_216 tw_32 tw_214 tw_215 tw_213 hP hD [0] [] rfl rfl (by decide) (by decide) (by decide) hK [] rfl hE hS hA (q0 := 0) rfl rfl hd_C_become rfl rfl ⟨Nat.le_of_ble_eq_true rfl, Nat.le_of_ble_eq_true rfl⟩ ⟨Nat.le_of_ble_eq_true rfl, Nat.le_of_ble_eq_true rfl⟩ hl.1 rfl (Nat.le_of_ble_eq_true rfl) d_C_forget_3 (fun H locs hP hD hS => ?_)
  have hP : va_P (dC, dI) clX [(co, .inr (0, [.ref cw, .int 0, .int 0]))] H := hP
  have hD : va_D A [(co, .inr (0, [.ref cw, .int 0, .int 0]))] := hD
  have hP9 := hP.sub (ws' := [(co, .inr (0, [.ref cw, .int 0, .int 0]))]) [0] rfl
  have hD9 := hD.sub (ws' := [(co, .inr (0, [.ref cw, .int 0, .int 0]))]) [0] (by decide) rfl
  exact W.vret hx hb hr (fun t ht9 hW => ⟨⟨(), rfl, trivial, by rw [ht9]; exact hP9, va_K.moved hW.alike hK, by rw [hAe]; exact hD9⟩, hS.F ht9⟩) hS.2.2 d_C_forget_6
set_option maxHeartbeats 4000000 in
set_option maxRecDepth 100000 in
theorem c_C_tell (l : Launch) (dC : Nat → ClassId) (dI : Nat → Nat → Nat) (tb : tbT) (co cw : Nat) (kd mn : Int32) (cf : IF) (cI : ClassId) (k9 v9 : Int32) (sz : Nat) : MV l y_C_tell (Cond.code y_C_tell b_C_tell 3 none :: TB) ({ frames := 1, cells := 0, slots := 0, locals := 22 }) tb (dC, dI) [.ref co, .int k9, .int v9] [(co, .inr (0, [.ref cw, .int kd, .int mn])), (cw, .inl (cI, 258, .inl cf))] [(co, .inr (0, [.ref cw, .int kd, .int mn])), (cw, .inl (cI, 258, .inl (wrA 258 cf k9 v9)))] [(cI, .int)] sz := by
  refine Met.ofW (cc := b_C_tell) (maxL := 3) (ret := none) (by decide) rfl ?_
  intro p e s m args below meth c s₁ B hml hv
  obtain ⟨rfl, hsz, hP, hK, hD0, hE⟩ := hv
  have hx := B.exec
  have hb := B.bytes
  have hr := B.returns
  have ht := fun w (h : w ∈ TB) => atoms_spec (ws := Cond.code y_C_tell b_C_tell 3 none :: TB) B.pre w (List.mem_cons_of_mem _ h)
  have hown : s.vm.findClass R_C = some m.cls := findClass_of_methodNamed B.named
  have hlocks := B.notSynchronized
  subst hsz
  have hD := hD0.self (sz := s.heap.size)
  generalize hAe : va_A [(co, .inr (0, [.ref cw, .int kd, .int mn])), (cw, .inl (cI, 258, .inl cf))] s.heap.size = A at hD hE ⊢
  have hA : ∀ q : Nat, s.heap.size ≤ q → A q := fun q h => by rw [← hAe]; exact Or.inr h
  have hS : va_S A s.heap s.heap [] := va_S.rf
  have F : CallFix p m c b_C_tell 3 s _ TB R_C := ⟨hx, hb, hml, hown, ht⟩
  have hl := lv_entry ([.ref co, .int k9, .int v9]) (n := 3) (Nat.le_of_ble_eq_true rfl)
  rw [lg_entry_eq]
  generalize (lg_sl ([.ref co, .int k9, .int v9]) ++ List.replicate (3 - (lg_sl ([.ref co, .int k9, .int v9])).length) Slot.unset).toArray = ls at hl ⊢
  have hl : lv_has ls 3 [(0, .ref co), (1, .int k9), (2, .int v9)] := hl
  refine lv_aload_n hx hb d_C_tell_0 rfl (lv_at hl 0 rfl) ?_
  refine va_get (D := (dC, dI)) (ci := 0) (v := .ref cw) (C := R_C) (T := F_C) (N := 3) hx hb ht tu_C hown hK hP 0 rfl rfl 0 (by decide) (ht _ tw_116) (fun _ h9 => h9) rfl d_C_tell_1 ?_
  refine lv_iload_n hx hb d_C_tell_4 rfl (lv_at hl 1 rfl) ?_
  refine lv_iload_n hx hb d_C_tell_5 rfl (lv_at hl 2 rfl) ?_
  refine mcSNv (As := [.ref cw, .int k9, .int v9]) (rest := []) (wr := [(co, .inr (0, [.ref cw, .int kd, .int mn]))]) (c_D_write l dC dI tb cw 258 cf cI k9 v9 (by decide)) F tw_58 tw_28 tw_57 nw_15 hP hD [1] [0] rfl rfl (by decide) (by decide) (by decide) hK [0] rfl hE hS hA hd_D_write rfl rfl ⟨Nat.le_of_ble_eq_true rfl, Nat.le_of_ble_eq_true rfl⟩ ⟨Nat.le_of_ble_eq_true rfl, Nat.le_of_ble_eq_true rfl⟩ hl.1 rfl (Nat.le_of_ble_eq_true rfl) d_C_tell_6 (fun H locs hP hD hS => ?_)
  have hP : va_P (dC, dI) clX [(co, .inr (0, [.ref cw, .int kd, .int mn])), (cw, .inl (cI, 258, .inl (wrA 258 cf k9 v9)))] H := hP
  have hD : va_D A [(co, .inr (0, [.ref cw, .int kd, .int mn])), (cw, .inl (cI, 258, .inl (wrA 258 cf k9 v9)))] := hD
  have hP9 := hP.sub (ws' := [(co, .inr (0, [.ref cw, .int kd, .int mn])), (cw, .inl (cI, 258, .inl (wrA 258 cf k9 v9)))]) [0, 1] rfl
  have hD9 := hD.sub (ws' := [(co, .inr (0, [.ref cw, .int kd, .int mn])), (cw, .inl (cI, 258, .inl (wrA 258 cf k9 v9)))]) [0, 1] (by decide) rfl
  exact W.vret hx hb hr (fun t ht9 hW => ⟨⟨(), rfl, trivial, by rw [ht9]; exact hP9, va_K.moved hW.alike hK, by rw [hAe]; exact hD9⟩, hS.F ht9⟩) hS.2.2 d_C_tell_9
set_option maxHeartbeats 4000000 in
set_option maxRecDepth 100000 in
theorem c_C_at (l : Launch) (dC : Nat → ClassId) (dI : Nat → Nat → Nat) (tb : tbT) (co cw : Nat) (kd mn : Int32) (cf : IF) (cI : ClassId) (k9 : Int32) : RM l y_C_at (Cond.code y_C_at b_C_at 2 (some .int) :: TB) ({ frames := 1, cells := 0, slots := 0, locals := 21 }) tb (dC, dI) [.ref co, .int k9] [(co, .inr (0, [.ref cw, .int kd, .int mn])), (cw, .inl (cI, 258, .inl cf))] [(cI, .int)] (rdA 258 cf k9) := by
  refine Met.ofW (cc := b_C_at) (maxL := 2) (ret := (some .int)) (by decide) rfl ?_
  intro p e s m args below meth c s₁ B hml hv
  obtain ⟨rfl, hP, hK, hE⟩ := hv
  have hx := B.exec
  have hb := B.bytes
  have hr := B.returns
  have ht := fun w (h : w ∈ TB) => atoms_spec (ws := Cond.code y_C_at b_C_at 2 (some .int) :: TB) B.pre w (List.mem_cons_of_mem _ h)
  have hown : s.vm.findClass R_C = some m.cls := findClass_of_methodNamed B.named
  have hlocks := B.notSynchronized
  have hS : va_S (fun _ => False) s.heap s.heap [] := va_S.rf
  have F : CallFix p m c b_C_at 2 s _ TB R_C := ⟨hx, hb, hml, hown, ht⟩
  have hl := lv_entry ([.ref co, .int k9]) (n := 2) (Nat.le_of_ble_eq_true rfl)
  rw [lg_entry_eq]
  generalize (lg_sl ([.ref co, .int k9]) ++ List.replicate (2 - (lg_sl ([.ref co, .int k9])).length) Slot.unset).toArray = ls at hl ⊢
  have hl : lv_has ls 2 [(0, .ref co), (1, .int k9)] := hl
  refine lv_aload_n hx hb d_C_at_0 rfl (lv_at hl 0 rfl) ?_
  refine va_get (D := (dC, dI)) (ci := 0) (v := .ref cw) (C := R_C) (T := F_C) (N := 3) hx hb ht tu_C hown hK hP 0 rfl rfl 0 (by decide) (ht _ tw_116) (fun _ h9 => h9) rfl d_C_at_1 ?_
  refine lv_iload_n hx hb d_C_at_4 rfl (lv_at hl 1 rfl) ?_
  refine rcSN (As := [.ref cw, .int k9]) (rest := []) (c_D_read l dC dI tb cw 258 cf cI k9 (by decide)) F tw_66 tw_28 tw_65 nw_16 hP [1] rfl hK [0] rfl hE hS hd_D_read rfl rfl ⟨Nat.le_of_ble_eq_true rfl, Nat.le_of_ble_eq_true rfl⟩ ⟨Nat.le_of_ble_eq_true rfl, Nat.le_of_ble_eq_true rfl⟩ hl.1 rfl (Nat.le_of_ble_eq_true rfl) d_C_at_5 ?_
  exact W.iret hx hb hr (fun t ht9 hW => ⟨_, rfl, rfl, ht9⟩) hS.2.2 d_C_at_8
set_option maxHeartbeats 4000000 in
set_option maxRecDepth 100000 in
theorem c_T_placeOf (l : Launch) (dC : Nat → ClassId) (dI : Nat → Nat → Nat) (tb : tbT) (to sa wa : Nat) (sf : IF) (cI : ClassId) (k9 n9 j9 : Int32) : RM l y_T_placeOf (Cond.code y_T_placeOf b_T_placeOf 4 (some .int) :: TB) ({ frames := 2, cells := 0, slots := 0, locals := 41 }) tb (dC, dI) [.ref to, .int k9, .int n9, .int j9] [(to, .inr (2, [.ref sa, .ref wa])), (sa, .inl (cI, 26, .inl sf))] [(cI, .int)] (plc sf k9 n9 j9) := by
  refine Met.ofW (cc := b_T_placeOf) (maxL := 4) (ret := (some .int)) (by decide) rfl ?_
  intro p e s m args below meth c s₁ B hml hv
  obtain ⟨rfl, hP, hK, hE⟩ := hv
  have hx := B.exec
  have hb := B.bytes
  have hr := B.returns
  have ht := fun w (h : w ∈ TB) => atoms_spec (ws := Cond.code y_T_placeOf b_T_placeOf 4 (some .int) :: TB) B.pre w (List.mem_cons_of_mem _ h)
  have hown : s.vm.findClass R_T = some m.cls := findClass_of_methodNamed B.named
  have hlocks := B.notSynchronized
  have hS : va_S (fun _ => False) s.heap s.heap [] := va_S.rf
  have F : CallFix p m c b_T_placeOf 4 s _ TB R_T := ⟨hx, hb, hml, hown, ht⟩
  have hl := lv_entry ([.ref to, .int k9, .int n9, .int j9]) (n := 4) (Nat.le_of_ble_eq_true rfl)
  rw [lg_entry_eq]
  generalize (lg_sl ([.ref to, .int k9, .int n9, .int j9]) ++ List.replicate (4 - (lg_sl ([.ref to, .int k9, .int n9, .int j9])).length) Slot.unset).toArray = ls at hl ⊢
  have hl : lv_has ls 4 [(0, .ref to), (1, .int k9), (2, .int n9), (3, .int j9)] := hl
  refine lv_aload_n hx hb d_T_placeOf_0 rfl (lv_at hl 0 rfl) ?_
  refine va_get (D := (dC, dI)) (ci := 2) (v := .ref sa) (C := R_T) (T := F_T) (N := 2) hx hb ht tu_T hown hK hP 0 rfl rfl 0 (by decide) (ht _ tw_102) (fun _ h9 => h9) rfl d_T_placeOf_1 ?_
  refine lv_iload_n hx hb d_T_placeOf_4 rfl (lv_at hl 1 rfl) ?_
  refine rcSN (As := [.ref sa, .int k9]) (rest := []) (c_D_read l dC dI tb sa 26 sf cI k9 (by decide)) F tw_66 tw_28 tw_65 nw_2 hP [1] rfl hK [0] rfl hE hS hd_D_read rfl rfl ⟨Nat.le_of_ble_eq_true rfl, Nat.le_of_ble_eq_true rfl⟩ ⟨Nat.le_of_ble_eq_true rfl, Nat.le_of_ble_eq_true rfl⟩ hl.1 rfl (Nat.le_of_ble_eq_true rfl) d_T_placeOf_5 ?_
  refine lv_iload_n hx hb d_T_placeOf_8 rfl (lv_at hl 2 rfl) ?_
  refine lv_iload_n hx hb d_T_placeOf_9 rfl (lv_at hl 1 rfl) ?_
  refine rcS (As := [.int k9]) (rest := [.int n9, .int (rdA 26 sf k9)]) (c_S_fixed l dC dI tb k9 ) F tw_69 tw_30 tw_68 tw_67 hP [] rfl hK [] rfl hE hS hd_S_fixed rfl rfl ⟨Nat.le_of_ble_eq_true rfl, Nat.le_of_ble_eq_true rfl⟩ ⟨Nat.le_of_ble_eq_true rfl, Nat.le_of_ble_eq_true rfl⟩ hl.1 rfl (Nat.le_of_ble_eq_true rfl) d_T_placeOf_10 ?_
  refine lv_imul hx hb d_T_placeOf_13 ?_
  refine lv_iadd hx hb d_T_placeOf_14 ?_
  refine lv_iload_n hx hb d_T_placeOf_15 rfl (lv_at hl 3 rfl) ?_
  refine lv_iadd hx hb d_T_placeOf_16 ?_
  exact W.iret hx hb hr (fun t ht9 hW => ⟨_, rfl, rfl, ht9⟩) hS.2.2 d_T_placeOf_17
set_option maxHeartbeats 4000000 in
set_option maxRecDepth 100000 in
theorem c_T_namesItsHolder (l : Launch) (dC : Nat → ClassId) (dI : Nat → Nat → Nat) (tb : tbT) (k9 : Int32) : RM l y_T_namesItsHolder (Cond.code y_T_namesItsHolder b_T_namesItsHolder 1 (some .boolean) :: TB) ({ frames := 2, cells := 0, slots := 0, locals := 41 }) tb (dC, dI) [.int k9] [] [] (nmH k9) := by
  refine Met.ofW (cc := b_T_namesItsHolder) (maxL := 1) (ret := (some .boolean)) (by decide) rfl ?_
  intro p e s m args below meth c s₁ B hml hv
  obtain ⟨rfl, hP, hK, hE⟩ := hv
  have hx := B.exec
  have hb := B.bytes
  have hr := B.returns
  have ht := fun w (h : w ∈ TB) => atoms_spec (ws := Cond.code y_T_namesItsHolder b_T_namesItsHolder 1 (some .boolean) :: TB) B.pre w (List.mem_cons_of_mem _ h)
  have hown : s.vm.findClass R_T = some m.cls := findClass_of_methodNamed B.named
  have hlocks := B.notSynchronized
  have hS : va_S (fun _ => False) s.heap s.heap [] := va_S.rf
  have F : CallFix p m c b_T_namesItsHolder 1 s _ TB R_T := ⟨hx, hb, hml, hown, ht⟩
  have hl := lv_entry ([.int k9]) (n := 1) (Nat.le_of_ble_eq_true rfl)
  rw [lg_entry_eq]
  generalize (lg_sl ([.int k9]) ++ List.replicate (1 - (lg_sl ([.int k9])).length) Slot.unset).toArray = ls at hl ⊢
  have hl : lv_has ls 1 [(0, .int k9)] := hl
  refine lv_iload_n hx hb d_T_namesItsHolder_0 rfl (lv_at hl 0 rfl) ?_
  refine rcS (As := [.int k9]) (rest := []) (c_S_holders l dC dI tb k9 ) F tw_61 tw_30 tw_60 tw_59 hP [] rfl hK [] rfl hE hS hd_S_holders rfl rfl ⟨Nat.le_of_ble_eq_true rfl, Nat.le_of_ble_eq_true rfl⟩ ⟨Nat.le_of_ble_eq_true rfl, Nat.le_of_ble_eq_true rfl⟩ hl.1 rfl (Nat.le_of_ble_eq_true rfl) d_T_namesItsHolder_1 ?_
  refine lv_iconst (v := 1) hx hb d_T_namesItsHolder_4 (by decide) ?_
  refine lv_icmp_le (tgt := 12) hx hb d_T_namesItsHolder_5 (by decide) (fun c_17 => ?_) (fun c_17 => ?_)
  · refine lv_iconst (v := 0) hx hb d_T_namesItsHolder_12 (by decide) ?_
    exact W.zret hx hb hr (rfl) (fun t ht9 hW => ⟨_, rfl, by simp only [nmH, if_pos c_17], ht9⟩) hS.2.2 d_T_namesItsHolder_13
  · refine lv_iconst (v := 1) hx hb d_T_namesItsHolder_8 (by decide) ?_
    refine lv_goto (tgt := 13) hx hb d_T_namesItsHolder_9 (by decide) ?_
    exact W.zret hx hb hr (rfl) (fun t ht9 hW => ⟨_, rfl, by simp only [nmH, if_neg c_17], ht9⟩) hS.2.2 d_T_namesItsHolder_13
set_option maxHeartbeats 4000000 in
set_option maxRecDepth 100000 in
theorem c_T_at (l : Launch) (dC : Nat → ClassId) (dI : Nat → Nat → Nat) (tb : tbT) (to sa wa : Nat) (sf : IF) (cI : ClassId) (wf : IF) (k9 n9 j9 : Int32) : RM l y_T_at (Cond.code y_T_at b_T_at 4 (some .int) :: TB) ({ frames := 3, cells := 0, slots := 0, locals := 64 }) tb (dC, dI) [.ref to, .int k9, .int n9, .int j9] [(to, .inr (2, [.ref sa, .ref wa])), (sa, .inl (cI, 26, .inl sf)), (wa, .inl (cI, 303, .inl wf))] [(cI, .int)] (rdA 303 wf (plc sf k9 n9 j9)) := by
  refine Met.ofW (cc := b_T_at) (maxL := 4) (ret := (some .int)) (by decide) rfl ?_
  intro p e s m args below meth c s₁ B hml hv
  obtain ⟨rfl, hP, hK, hE⟩ := hv
  have hx := B.exec
  have hb := B.bytes
  have hr := B.returns
  have ht := fun w (h : w ∈ TB) => atoms_spec (ws := Cond.code y_T_at b_T_at 4 (some .int) :: TB) B.pre w (List.mem_cons_of_mem _ h)
  have hown : s.vm.findClass R_T = some m.cls := findClass_of_methodNamed B.named
  have hlocks := B.notSynchronized
  have hS : va_S (fun _ => False) s.heap s.heap [] := va_S.rf
  have F : CallFix p m c b_T_at 4 s _ TB R_T := ⟨hx, hb, hml, hown, ht⟩
  have hl := lv_entry ([.ref to, .int k9, .int n9, .int j9]) (n := 4) (Nat.le_of_ble_eq_true rfl)
  rw [lg_entry_eq]
  generalize (lg_sl ([.ref to, .int k9, .int n9, .int j9]) ++ List.replicate (4 - (lg_sl ([.ref to, .int k9, .int n9, .int j9])).length) Slot.unset).toArray = ls at hl ⊢
  have hl : lv_has ls 4 [(0, .ref to), (1, .int k9), (2, .int n9), (3, .int j9)] := hl
  refine lv_aload_n hx hb d_T_at_0 rfl (lv_at hl 0 rfl) ?_
  refine va_get (D := (dC, dI)) (ci := 2) (v := .ref wa) (C := R_T) (T := F_T) (N := 2) hx hb ht tu_T hown hK hP 0 rfl rfl 1 (by decide) (ht _ tw_103) (fun _ h9 => h9) rfl d_T_at_1 ?_
  refine lv_aload_n hx hb d_T_at_4 rfl (lv_at hl 0 rfl) ?_
  refine lv_iload_n hx hb d_T_at_5 rfl (lv_at hl 1 rfl) ?_
  refine lv_iload_n hx hb d_T_at_6 rfl (lv_at hl 2 rfl) ?_
  refine lv_iload_n hx hb d_T_at_7 rfl (lv_at hl 3 rfl) ?_
  refine rcV (As := [.int k9, .int n9, .int j9]) (rest := [.ref wa]) (c_T_placeOf l dC dI tb to sa wa sf cI k9 n9 j9 ) F tw_89 tw_29 tw_88 tw_1 tw_86 hP [0, 1] rfl hK [0] rfl hE hS (q0 := 0) rfl rfl hd_T_placeOf rfl rfl ⟨Nat.le_of_ble_eq_true rfl, Nat.le_of_ble_eq_true rfl⟩ ⟨Nat.le_of_ble_eq_true rfl, Nat.le_of_ble_eq_true rfl⟩ hl.1 rfl (Nat.le_of_ble_eq_true rfl) d_T_at_8 ?_
  refine rcSN (As := [.ref wa, .int (plc sf k9 n9 j9)]) (rest := []) (c_D_read l dC dI tb wa 303 wf cI (plc sf k9 n9 j9) (by decide)) F tw_66 tw_28 tw_65 nw_2 hP [2] rfl hK [0] rfl hE hS hd_D_read rfl rfl ⟨Nat.le_of_ble_eq_true rfl, Nat.le_of_ble_eq_true rfl⟩ ⟨Nat.le_of_ble_eq_true rfl, Nat.le_of_ble_eq_true rfl⟩ hl.1 rfl (Nat.le_of_ble_eq_true rfl) d_T_at_11 ?_
  exact W.iret hx hb hr (fun t ht9 hW => ⟨_, rfl, rfl, ht9⟩) hS.2.2 d_T_at_14
set_option maxHeartbeats 4000000 in
set_option maxRecDepth 100000 in
theorem c_T_set (l : Launch) (dC : Nat → ClassId) (dI : Nat → Nat → Nat) (tb : tbT) (to sa wa : Nat) (sf : IF) (cI : ClassId) (wf : IF) (k9 n9 j9 v9 : Int32) (sz : Nat) : MV l y_T_set (Cond.code y_T_set b_T_set 5 none :: TB) ({ frames := 3, cells := 0, slots := 0, locals := 64 }) tb (dC, dI) [.ref to, .int k9, .int n9, .int j9, .int v9] [(to, .inr (2, [.ref sa, .ref wa])), (sa, .inl (cI, 26, .inl sf)), (wa, .inl (cI, 303, .inl wf))] [(to, .inr (2, [.ref sa, .ref wa])), (sa, .inl (cI, 26, .inl sf)), (wa, .inl (cI, 303, .inl (wrA 303 wf (plc sf k9 n9 j9) v9)))] [(cI, .int)] sz := by
  refine Met.ofW (cc := b_T_set) (maxL := 5) (ret := none) (by decide) rfl ?_
  intro p e s m args below meth c s₁ B hml hv
  obtain ⟨rfl, hsz, hP, hK, hD0, hE⟩ := hv
  have hx := B.exec
  have hb := B.bytes
  have hr := B.returns
  have ht := fun w (h : w ∈ TB) => atoms_spec (ws := Cond.code y_T_set b_T_set 5 none :: TB) B.pre w (List.mem_cons_of_mem _ h)
  have hown : s.vm.findClass R_T = some m.cls := findClass_of_methodNamed B.named
  have hlocks := B.notSynchronized
  subst hsz
  have hD := hD0.self (sz := s.heap.size)
  generalize hAe : va_A [(to, .inr (2, [.ref sa, .ref wa])), (sa, .inl (cI, 26, .inl sf)), (wa, .inl (cI, 303, .inl wf))] s.heap.size = A at hD hE ⊢
  have hA : ∀ q : Nat, s.heap.size ≤ q → A q := fun q h => by rw [← hAe]; exact Or.inr h
  have hS : va_S A s.heap s.heap [] := va_S.rf
  have F : CallFix p m c b_T_set 5 s _ TB R_T := ⟨hx, hb, hml, hown, ht⟩
  have hl := lv_entry ([.ref to, .int k9, .int n9, .int j9, .int v9]) (n := 5) (Nat.le_of_ble_eq_true rfl)
  rw [lg_entry_eq]
  generalize (lg_sl ([.ref to, .int k9, .int n9, .int j9, .int v9]) ++ List.replicate (5 - (lg_sl ([.ref to, .int k9, .int n9, .int j9, .int v9])).length) Slot.unset).toArray = ls at hl ⊢
  have hl : lv_has ls 5 [(0, .ref to), (1, .int k9), (2, .int n9), (3, .int j9), (4, .int v9)] := hl
  refine lv_aload_n hx hb d_T_set_0 rfl (lv_at hl 0 rfl) ?_
  refine va_get (D := (dC, dI)) (ci := 2) (v := .ref wa) (C := R_T) (T := F_T) (N := 2) hx hb ht tu_T hown hK hP 0 rfl rfl 1 (by decide) (ht _ tw_103) (fun _ h9 => h9) rfl d_T_set_1 ?_
  refine lv_aload_n hx hb d_T_set_4 rfl (lv_at hl 0 rfl) ?_
  refine lv_iload_n hx hb d_T_set_5 rfl (lv_at hl 1 rfl) ?_
  refine lv_iload_n hx hb d_T_set_6 rfl (lv_at hl 2 rfl) ?_
  refine lv_iload_n hx hb d_T_set_7 rfl (lv_at hl 3 rfl) ?_
  refine rcV (As := [.int k9, .int n9, .int j9]) (rest := [.ref wa]) (c_T_placeOf l dC dI tb to sa wa sf cI k9 n9 j9 ) F tw_89 tw_29 tw_88 tw_1 tw_86 hP [0, 1] rfl hK [0] rfl hE hS (q0 := 0) rfl rfl hd_T_placeOf rfl rfl ⟨Nat.le_of_ble_eq_true rfl, Nat.le_of_ble_eq_true rfl⟩ ⟨Nat.le_of_ble_eq_true rfl, Nat.le_of_ble_eq_true rfl⟩ hl.1 rfl (Nat.le_of_ble_eq_true rfl) d_T_set_8 ?_
  refine lv_iload hx hb d_T_set_11 (lv_at hl 4 rfl) ?_
  refine mcSNv (As := [.ref wa, .int (plc sf k9 n9 j9), .int v9]) (rest := []) (wr := [(to, .inr (2, [.ref sa, .ref wa])), (sa, .inl (cI, 26, .inl sf))]) (c_D_write l dC dI tb wa 303 wf cI (plc sf k9 n9 j9) v9 (by decide)) F tw_58 tw_28 tw_57 nw_0 hP hD [2] [0, 1] rfl rfl (by decide) (by decide) (by decide) hK [0] rfl hE hS hA hd_D_write rfl rfl ⟨Nat.le_of_ble_eq_true rfl, Nat.le_of_ble_eq_true rfl⟩ ⟨Nat.le_of_ble_eq_true rfl, Nat.le_of_ble_eq_true rfl⟩ hl.1 rfl (Nat.le_of_ble_eq_true rfl) d_T_set_13 (fun H locs hP hD hS => ?_)
  have hP : va_P (dC, dI) clX [(to, .inr (2, [.ref sa, .ref wa])), (sa, .inl (cI, 26, .inl sf)), (wa, .inl (cI, 303, .inl (wrA 303 wf (plc sf k9 n9 j9) v9)))] H := hP
  have hD : va_D A [(to, .inr (2, [.ref sa, .ref wa])), (sa, .inl (cI, 26, .inl sf)), (wa, .inl (cI, 303, .inl (wrA 303 wf (plc sf k9 n9 j9) v9)))] := hD
  have hP9 := hP.sub (ws' := [(to, .inr (2, [.ref sa, .ref wa])), (sa, .inl (cI, 26, .inl sf)), (wa, .inl (cI, 303, .inl (wrA 303 wf (plc sf k9 n9 j9) v9)))]) [0, 1, 2] rfl
  have hD9 := hD.sub (ws' := [(to, .inr (2, [.ref sa, .ref wa])), (sa, .inl (cI, 26, .inl sf)), (wa, .inl (cI, 303, .inl (wrA 303 wf (plc sf k9 n9 j9) v9)))]) [0, 1, 2] (by decide) rfl
  exact W.vret hx hb hr (fun t ht9 hW => ⟨⟨(), rfl, trivial, by rw [ht9]; exact hP9, va_K.moved hW.alike hK, by rw [hAe]; exact hD9⟩, hS.F ht9⟩) hS.2.2 d_T_set_16
set_option maxHeartbeats 4000000 in
set_option maxRecDepth 100000 in
theorem c_T_hasProgram (l : Launch) (dC : Nat → ClassId) (dI : Nat → Nat → Nat) (tb : tbT) (to sa wa : Nat) (sf : IF) (cI : ClassId) (wf : IF) (k9 : Int32) : RM l y_T_hasProgram (Cond.code y_T_hasProgram b_T_hasProgram 2 (some .boolean) :: TB) ({ frames := 4, cells := 0, slots := 0, locals := 87 }) tb (dC, dI) [.ref to, .int k9] [(to, .inr (2, [.ref sa, .ref wa])), (sa, .inl (cI, 26, .inl sf)), (wa, .inl (cI, 303, .inl wf))] [(cI, .int)] (hsP sf wf k9) := by
  refine Met.ofW (cc := b_T_hasProgram) (maxL := 2) (ret := (some .boolean)) (by decide) rfl ?_
  intro p e s m args below meth c s₁ B hml hv
  obtain ⟨rfl, hP, hK, hE⟩ := hv
  have hx := B.exec
  have hb := B.bytes
  have hr := B.returns
  have ht := fun w (h : w ∈ TB) => atoms_spec (ws := Cond.code y_T_hasProgram b_T_hasProgram 2 (some .boolean) :: TB) B.pre w (List.mem_cons_of_mem _ h)
  have hown : s.vm.findClass R_T = some m.cls := findClass_of_methodNamed B.named
  have hlocks := B.notSynchronized
  have hS : va_S (fun _ => False) s.heap s.heap [] := va_S.rf
  have F : CallFix p m c b_T_hasProgram 2 s _ TB R_T := ⟨hx, hb, hml, hown, ht⟩
  have hl := lv_entry ([.ref to, .int k9]) (n := 2) (Nat.le_of_ble_eq_true rfl)
  rw [lg_entry_eq]
  generalize (lg_sl ([.ref to, .int k9]) ++ List.replicate (2 - (lg_sl ([.ref to, .int k9])).length) Slot.unset).toArray = ls at hl ⊢
  have hl : lv_has ls 2 [(0, .ref to), (1, .int k9)] := hl
  refine lv_aload_n hx hb d_T_hasProgram_0 rfl (lv_at hl 0 rfl) ?_
  refine lv_iload_n hx hb d_T_hasProgram_1 rfl (lv_at hl 1 rfl) ?_
  refine lv_iconst (v := 0) hx hb d_T_hasProgram_2 (by decide) ?_
  refine lv_iconst (v := 0) hx hb d_T_hasProgram_3 (by decide) ?_
  refine rcV (As := [.int k9, .int 0, .int 0]) (rest := []) (c_T_at l dC dI tb to sa wa sf cI wf k9 0 0 ) F tw_446 tw_29 tw_444 tw_445 tw_443 hP [0, 1, 2] rfl hK [0] rfl hE hS (q0 := 0) rfl rfl hd_T_at rfl rfl ⟨Nat.le_of_ble_eq_true rfl, Nat.le_of_ble_eq_true rfl⟩ ⟨Nat.le_of_ble_eq_true rfl, Nat.le_of_ble_eq_true rfl⟩ hl.1 rfl (Nat.le_of_ble_eq_true rfl) d_T_hasProgram_4 ?_
  refine lv_iconst (v := (-1)) hx hb d_T_hasProgram_7 (by decide) ?_
  refine lv_icmp_eq (tgt := 15) hx hb d_T_hasProgram_8 (by decide) (fun c_18 => ?_) (fun c_18 => ?_)
  · refine lv_iconst (v := 0) hx hb d_T_hasProgram_15 (by decide) ?_
    exact W.zret hx hb hr (rfl) (fun t ht9 hW => ⟨_, rfl, by simp only [hsP, if_pos c_18], ht9⟩) hS.2.2 d_T_hasProgram_16
  · refine lv_iconst (v := 1) hx hb d_T_hasProgram_11 (by decide) ?_
    refine lv_goto (tgt := 16) hx hb d_T_hasProgram_12 (by decide) ?_
    exact W.zret hx hb hr (rfl) (fun t ht9 hW => ⟨_, rfl, by simp only [hsP, if_neg c_18], ht9⟩) hS.2.2 d_T_hasProgram_16
