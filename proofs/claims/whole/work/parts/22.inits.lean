set_option maxHeartbeats 4000000 in
set_option maxRecDepth 100000 in
theorem c_C_init (l : Launch) (dC : Nat → ClassId) (dI : Nat → Nat → Nat) (tb : tbT) (co : Nat) (sz : Nat) : MN l y_C_init (Cond.code y_C_init b_C_init 1 none :: TB) ({ frames := 1, cells := 1, slots := 258, locals := 20 }) tb (dC, dI) [.ref co] [(co, .inr (0, [.null, .int 0, .int 0]))] [] (fun u : Nat × ClassId => [(co, .inr (0, [.ref u.1, .int 0, .int 0])), (u.1, .inl (u.2, 258, .inl zF))]) (fun u : Nat × ClassId => [(u.2, .int)]) 1 258 sz := by
  refine Met.ofW (cc := b_C_init) (maxL := 1) (ret := none) (by decide) rfl ?_
  intro p e s m args below meth c s₁ B hml hv
  obtain ⟨rfl, hsz, hP, hK, hD0, hE⟩ := hv
  have hx := B.exec
  have hb := B.bytes
  have hr := B.returns
  have ht := fun w (h : w ∈ TB) => atoms_spec (ws := Cond.code y_C_init b_C_init 1 none :: TB) B.pre w (List.mem_cons_of_mem _ h)
  have hown : s.vm.findClass R_C = some m.cls := findClass_of_methodNamed B.named
  have hlocks := B.notSynchronized
  have hin : meth.name = "<init>" := (name_of_methodNamed B.named B.method).1
  subst hsz
  have hD := hD0.self (sz := s.heap.size)
  generalize hAe : va_A [(co, .inr (0, [.null, .int 0, .int 0]))] s.heap.size = A at hD hE ⊢
  have hA : ∀ q : Nat, s.heap.size ≤ q → A q := fun q h => by rw [← hAe]; exact Or.inr h
  have hS : va_S A s.heap s.heap [] := va_S.rf
  have F : CallFix p m c b_C_init 1 s _ TB R_C := ⟨hx, hb, hml, hown, ht⟩
  have hl := lv_entry ([.ref co]) (n := 1) (Nat.le_of_ble_eq_true rfl)
  rw [lg_entry_eq]
  generalize (lg_sl ([.ref co]) ++ List.replicate (1 - (lg_sl ([.ref co])).length) Slot.unset).toArray = ls at hl ⊢
  have hl : lv_has ls 1 [(0, .ref co)] := hl
  refine lv_aload_n hx hb d_C_init_0 rfl (lv_at hl 0 rfl) ?_
  refine W.objInit hx hb hown (ht _ tw_115) (ht _ tw_48) (ht _ tw_49) rfl (by rw [hml]; exact hl.1) rfl d_C_init_1 (Nat.le_of_ble_eq_true rfl) (Nat.le_of_ble_eq_true rfl) ?_
  refine W.eq (g2 := F0 m 4 ls []) rfl ?_
  refine lv_aload_n hx hb d_C_init_4 rfl (lv_at hl 0 rfl) ?_
  refine lv_sipush (v := 258) hx hb d_C_init_5 (by decide) ?_
  refine va_newa (atype := .int) hx hb (ht _ tw_109) (ty := .int) rfl hK hP hD hS hA (a0 := (258, .inl zF)) (N' := 258) (fun _ => rfl) (by decide +kernel) (by decide +kernel) (by decide) (Nat.le_of_ble_eq_true rfl) (Nat.le_of_ble_eq_true rfl) d_C_init_8 (fun q8 cA8 H hK hP hD hS => ?_)
  obtain ⟨cI, rfl⟩ : ∃ z, z = cA8 := ⟨_, rfl⟩
  have hK : va_K (dC, dI) clX [(cI, .int)] s := hK
  have hP : va_P (dC, dI) clX [(co, .inr (0, [.null, .int 0, .int 0])), (q8, .inl (cI, 258, .inl zF))] H := hP
  have hD : va_D A [(co, .inr (0, [.null, .int 0, .int 0])), (q8, .inl (cI, 258, .inl zF))] := hD
  refine W.widen (k := 1) (n := 258) (Nat.le_of_ble_eq_true rfl) (Nat.le_of_ble_eq_true rfl) ?_
  refine va_putF (D := (dC, dI)) (ci := 0) (v := .ref q8) (ty := .array .int) (C := R_C) (T := F_C) (N := 3) hx hb ht tu_C ft_C ft_C_ok n_C hown hK hP hD hS 0 rfl rfl 0 (by decide) (ht _ tw_116) (fun _ h9 => h9) rfl hin rfl (by decide +kernel) rfl rfl (Nat.le_of_ble_eq_true rfl) d_C_init_10 (fun H locs hP hD hS => ?_)
  have hP : va_P (dC, dI) clX [(co, .inr (0, [.ref q8, .int 0, .int 0])), (q8, .inl (cI, 258, .inl zF))] H := hP
  have hD : va_D A [(co, .inr (0, [.ref q8, .int 0, .int 0])), (q8, .inl (cI, 258, .inl zF))] := hD
  refine lv_aload_n hx hb d_C_init_13 rfl (lv_at hl 0 rfl) ?_
  refine lv_iconst (v := 0) hx hb d_C_init_14 (by decide) ?_
  refine va_put (D := (dC, dI)) (ci := 0) (v := .int 0) (ty := .int) (C := R_C) (T := F_C) (N := 3) hx hb ht tu_C ft_C ft_C_ok n_C hown hK hP hD hS 0 rfl rfl 1 (by decide) (ht _ tw_117) (fun _ h9 => h9) rfl (by decide +kernel) rfl rfl (Nat.le_of_ble_eq_true rfl) d_C_init_15 (fun H locs hP hD hS => ?_)
  have hP : va_P (dC, dI) clX [(co, .inr (0, [.ref q8, .int 0, .int 0])), (q8, .inl (cI, 258, .inl zF))] H := hP
  have hD : va_D A [(co, .inr (0, [.ref q8, .int 0, .int 0])), (q8, .inl (cI, 258, .inl zF))] := hD
  refine lv_aload_n hx hb d_C_init_18 rfl (lv_at hl 0 rfl) ?_
  refine lv_iconst (v := 0) hx hb d_C_init_19 (by decide) ?_
  refine va_put (D := (dC, dI)) (ci := 0) (v := .int 0) (ty := .int) (C := R_C) (T := F_C) (N := 3) hx hb ht tu_C ft_C ft_C_ok n_C hown hK hP hD hS 0 rfl rfl 2 (by decide) (ht _ tw_120) (fun _ h9 => h9) rfl (by decide +kernel) rfl rfl (Nat.le_of_ble_eq_true rfl) d_C_init_20 (fun H locs hP hD hS => ?_)
  have hP : va_P (dC, dI) clX [(co, .inr (0, [.ref q8, .int 0, .int 0])), (q8, .inl (cI, 258, .inl zF))] H := hP
  have hD : va_D A [(co, .inr (0, [.ref q8, .int 0, .int 0])), (q8, .inl (cI, 258, .inl zF))] := hD
  have hP9 := hP.sub (ws' := [(co, .inr (0, [.ref q8, .int 0, .int 0])), (q8, .inl (cI, 258, .inl zF))]) [0, 1] rfl
  have hD9 := hD.sub (ws' := [(co, .inr (0, [.ref q8, .int 0, .int 0])), (q8, .inl (cI, 258, .inl zF))]) [0, 1] (by decide) rfl
  exact W.vret hx hb hr (fun t ht9 hW => ⟨⟨(q8, cI), rfl, trivial, by rw [ht9]; exact hP9, va_K.moved hW.alike hK, hD9⟩, hS.F ht9⟩) hS.2.2 d_C_init_23
set_option maxHeartbeats 4000000 in
set_option maxRecDepth 100000 in
theorem c_R_init (l : Launch) (dC : Nat → ClassId) (dI : Nat → Nat → Nat) (tb : tbT) (ru : Nat) (sz : Nat) : MN l y_R_init (Cond.code y_R_init b_R_init 1 none :: TB) ({ frames := 1, cells := 1, slots := 4, locals := 20 }) tb (dC, dI) [.ref ru] [(ru, .inr (1, [.null, .int 0, .int 0, .int 0, .int 0, .int 0, .int 0, .int 0, .int 0]))] [] (fun u : Nat × ClassId => [(ru, .inr (1, [.ref u.1, .int 0, .int 0, .int (-1), .int (-1), .int 0, .int 0, .int (-1), .int 0])), (u.1, .inl (u.2, 4, .inl zF))]) (fun u : Nat × ClassId => [(u.2, .int)]) 1 4 sz := by
  refine Met.ofW (cc := b_R_init) (maxL := 1) (ret := none) (by decide) rfl ?_
  intro p e s m args below meth c s₁ B hml hv
  obtain ⟨rfl, hsz, hP, hK, hD0, hE⟩ := hv
  have hx := B.exec
  have hb := B.bytes
  have hr := B.returns
  have ht := fun w (h : w ∈ TB) => atoms_spec (ws := Cond.code y_R_init b_R_init 1 none :: TB) B.pre w (List.mem_cons_of_mem _ h)
  have hown : s.vm.findClass R_R = some m.cls := findClass_of_methodNamed B.named
  have hlocks := B.notSynchronized
  have hin : meth.name = "<init>" := (name_of_methodNamed B.named B.method).1
  subst hsz
  have hD := hD0.self (sz := s.heap.size)
  generalize hAe : va_A [(ru, .inr (1, [.null, .int 0, .int 0, .int 0, .int 0, .int 0, .int 0, .int 0, .int 0]))] s.heap.size = A at hD hE ⊢
  have hA : ∀ q : Nat, s.heap.size ≤ q → A q := fun q h => by rw [← hAe]; exact Or.inr h
  have hS : va_S A s.heap s.heap [] := va_S.rf
  have F : CallFix p m c b_R_init 1 s _ TB R_R := ⟨hx, hb, hml, hown, ht⟩
  have hl := lv_entry ([.ref ru]) (n := 1) (Nat.le_of_ble_eq_true rfl)
  rw [lg_entry_eq]
  generalize (lg_sl ([.ref ru]) ++ List.replicate (1 - (lg_sl ([.ref ru])).length) Slot.unset).toArray = ls at hl ⊢
  have hl : lv_has ls 1 [(0, .ref ru)] := hl
  refine lv_aload_n hx hb d_R_init_0 rfl (lv_at hl 0 rfl) ?_
  refine W.objInit hx hb hown (ht _ tw_135) (ht _ tw_48) (ht _ tw_49) rfl (by rw [hml]; exact hl.1) rfl d_R_init_1 (Nat.le_of_ble_eq_true rfl) (Nat.le_of_ble_eq_true rfl) ?_
  refine W.eq (g2 := F0 m 4 ls []) rfl ?_
  refine lv_aload_n hx hb d_R_init_4 rfl (lv_at hl 0 rfl) ?_
  refine lv_iconst (v := 4) hx hb d_R_init_5 (by decide) ?_
  refine va_newa (atype := .int) hx hb (ht _ tw_109) (ty := .int) rfl hK hP hD hS hA (a0 := (4, .inl zF)) (N' := 4) (fun _ => rfl) (by decide +kernel) (by decide +kernel) (by decide) (Nat.le_of_ble_eq_true rfl) (Nat.le_of_ble_eq_true rfl) d_R_init_6 (fun q6 cA6 H hK hP hD hS => ?_)
  obtain ⟨cI, rfl⟩ : ∃ z, z = cA6 := ⟨_, rfl⟩
  have hK : va_K (dC, dI) clX [(cI, .int)] s := hK
  have hP : va_P (dC, dI) clX [(ru, .inr (1, [.null, .int 0, .int 0, .int 0, .int 0, .int 0, .int 0, .int 0, .int 0])), (q6, .inl (cI, 4, .inl zF))] H := hP
  have hD : va_D A [(ru, .inr (1, [.null, .int 0, .int 0, .int 0, .int 0, .int 0, .int 0, .int 0, .int 0])), (q6, .inl (cI, 4, .inl zF))] := hD
  refine W.widen (k := 1) (n := 4) (Nat.le_of_ble_eq_true rfl) (Nat.le_of_ble_eq_true rfl) ?_
  refine va_putF (D := (dC, dI)) (ci := 1) (v := .ref q6) (ty := .array .int) (C := R_R) (T := F_R) (N := 9) hx hb ht tu_R ft_R ft_R_ok n_R hown hK hP hD hS 0 rfl rfl 0 (by decide) (ht _ tw_140) (fun _ h9 => h9) rfl hin rfl (by decide +kernel) rfl rfl (Nat.le_of_ble_eq_true rfl) d_R_init_8 (fun H locs hP hD hS => ?_)
  have hP : va_P (dC, dI) clX [(ru, .inr (1, [.ref q6, .int 0, .int 0, .int 0, .int 0, .int 0, .int 0, .int 0, .int 0])), (q6, .inl (cI, 4, .inl zF))] H := hP
  have hD : va_D A [(ru, .inr (1, [.ref q6, .int 0, .int 0, .int 0, .int 0, .int 0, .int 0, .int 0, .int 0])), (q6, .inl (cI, 4, .inl zF))] := hD
  refine lv_aload_n hx hb d_R_init_11 rfl (lv_at hl 0 rfl) ?_
  refine mcVv (As := []) (rest := []) (wr := [(q6, .inl (cI, 4, .inl zF))]) (c_R_restart l dC dI tb ru q6 0 0 0 0 0 0 0 0 ) F tw_139 tw_33 tw_137 tw_138 tw_136 hP hD [0] [1] rfl rfl (by decide) (by decide) (by decide) hK [] rfl hE hS hA (q0 := 0) rfl rfl hd_R_restart rfl rfl ⟨Nat.le_of_ble_eq_true rfl, Nat.le_of_ble_eq_true rfl⟩ ⟨Nat.le_of_ble_eq_true rfl, Nat.le_of_ble_eq_true rfl⟩ hl.1 rfl (Nat.le_of_ble_eq_true rfl) d_R_init_12 (fun H locs hP hD hS => ?_)
  have hP : va_P (dC, dI) clX [(q6, .inl (cI, 4, .inl zF)), (ru, .inr (1, [.ref q6, .int 0, .int 0, .int (-1), .int (-1), .int 0, .int 0, .int (-1), .int 0]))] H := hP
  have hD : va_D A [(q6, .inl (cI, 4, .inl zF)), (ru, .inr (1, [.ref q6, .int 0, .int 0, .int (-1), .int (-1), .int 0, .int 0, .int (-1), .int 0]))] := hD
  have hP9 := hP.sub (ws' := [(ru, .inr (1, [.ref q6, .int 0, .int 0, .int (-1), .int (-1), .int 0, .int 0, .int (-1), .int 0])), (q6, .inl (cI, 4, .inl zF))]) [1, 0] rfl
  have hD9 := hD.sub (ws' := [(ru, .inr (1, [.ref q6, .int 0, .int 0, .int (-1), .int (-1), .int 0, .int 0, .int (-1), .int 0])), (q6, .inl (cI, 4, .inl zF))]) [1, 0] (by decide) rfl
  exact W.vret hx hb hr (fun t ht9 hW => ⟨⟨(q6, cI), rfl, trivial, by rw [ht9]; exact hP9, va_K.moved hW.alike hK, hD9⟩, hS.F ht9⟩) hS.2.2 d_R_init_15
set_option maxHeartbeats 4000000 in
set_option maxRecDepth 100000 in
theorem c_T_init (l : Launch) (dC : Nat → ClassId) (dI : Nat → Nat → Nat) (tb : tbT) (to : Nat) (sz : Nat) : MN l y_T_init (Cond.code y_T_init b_T_init 3 none :: TB) ({ frames := 5, cells := 2, slots := 329, locals := 112 }) tb (dC, dI) [.ref to] [(to, .inr (2, [.null, .null]))] [] (fun u : Nat × Nat × ClassId => [(to, .inr (2, [.ref u.1, .ref u.2.1])), (u.1, .inl (u.2.2, 26, .inl sfC)), (u.2.1, .inl (u.2.2, 303, .inl (fgA sfC zF)))]) (fun u : Nat × Nat × ClassId => [(u.2.2, .int)]) 2 329 sz := by
  refine Met.ofW (cc := b_T_init) (maxL := 3) (ret := none) (by decide) rfl ?_
  intro p e s m args below meth c s₁ B hml hv
  obtain ⟨rfl, hsz, hP, hK, hD0, hE⟩ := hv
  have hx := B.exec
  have hb := B.bytes
  have hr := B.returns
  have ht := fun w (h : w ∈ TB) => atoms_spec (ws := Cond.code y_T_init b_T_init 3 none :: TB) B.pre w (List.mem_cons_of_mem _ h)
  have hown : s.vm.findClass R_T = some m.cls := findClass_of_methodNamed B.named
  have hlocks := B.notSynchronized
  have hin : meth.name = "<init>" := (name_of_methodNamed B.named B.method).1
  subst hsz
  have hD := hD0.self (sz := s.heap.size)
  generalize hAe : va_A [(to, .inr (2, [.null, .null]))] s.heap.size = A at hD hE ⊢
  have hA : ∀ q : Nat, s.heap.size ≤ q → A q := fun q h => by rw [← hAe]; exact Or.inr h
  have hS : va_S A s.heap s.heap [] := va_S.rf
  have F : CallFix p m c b_T_init 3 s _ TB R_T := ⟨hx, hb, hml, hown, ht⟩
  have hl := lv_entry ([.ref to]) (n := 3) (Nat.le_of_ble_eq_true rfl)
  rw [lg_entry_eq]
  generalize (lg_sl ([.ref to]) ++ List.replicate (3 - (lg_sl ([.ref to])).length) Slot.unset).toArray = ls at hl ⊢
  have hl : lv_has ls 3 [(0, .ref to)] := hl
  refine lv_aload_n hx hb d_T_init_0 rfl (lv_at hl 0 rfl) ?_
  refine W.objInit hx hb hown (ht _ tw_55) (ht _ tw_48) (ht _ tw_49) rfl (by rw [hml]; exact hl.1) rfl d_T_init_1 (Nat.le_of_ble_eq_true rfl) (Nat.le_of_ble_eq_true rfl) ?_
  refine W.eq (g2 := F0 m 4 ls []) rfl ?_
  refine lv_aload_n hx hb d_T_init_4 rfl (lv_at hl 0 rfl) ?_
  refine lv_bipush (v := 26) hx hb d_T_init_5 (by decide) ?_
  refine va_newa (atype := .int) hx hb (ht _ tw_109) (ty := .int) rfl hK hP hD hS hA (a0 := (26, .inl zF)) (N' := 26) (fun _ => rfl) (by decide +kernel) (by decide +kernel) (by decide) (Nat.le_of_ble_eq_true rfl) (Nat.le_of_ble_eq_true rfl) d_T_init_7 (fun q7 cA7 H hK hP hD hS => ?_)
  obtain ⟨cI, rfl⟩ : ∃ z, z = cA7 := ⟨_, rfl⟩
  have hK : va_K (dC, dI) clX [(cI, .int)] s := hK
  have hP : va_P (dC, dI) clX [(to, .inr (2, [.null, .null])), (q7, .inl (cI, 26, .inl zF))] H := hP
  have hD : va_D A [(to, .inr (2, [.null, .null])), (q7, .inl (cI, 26, .inl zF))] := hD
  refine W.widen (k := 1) (n := 26) (Nat.le_of_ble_eq_true rfl) (Nat.le_of_ble_eq_true rfl) ?_
  refine va_putF (D := (dC, dI)) (ci := 2) (v := .ref q7) (ty := .array .int) (C := R_T) (T := F_T) (N := 2) hx hb ht tu_T ft_T ft_T_ok n_T hown hK hP hD hS 0 rfl rfl 0 (by decide) (ht _ tw_102) (fun _ h9 => h9) rfl hin rfl (by decide +kernel) rfl rfl (Nat.le_of_ble_eq_true rfl) d_T_init_9 (fun H locs hP hD hS => ?_)
  have hP : va_P (dC, dI) clX [(to, .inr (2, [.ref q7, .null])), (q7, .inl (cI, 26, .inl zF))] H := hP
  have hD : va_D A [(to, .inr (2, [.ref q7, .null])), (q7, .inl (cI, 26, .inl zF))] := hD
  refine lv_iconst (v := 0) hx hb d_T_init_12 (by decide) ?_
  refine lv_istore_n (lv' := [(1, .int 0), (0, .ref to)]) hx hb d_T_init_13 rfl hl (by decide) rfl (fun ls hl => ?_)
  refine lv_iconst (v := 0) hx hb d_T_init_14 (by decide) ?_
  refine lv_istore_n (lv' := [(2, .int 0), (1, .int 0), (0, .ref to)]) hx hb d_T_init_15 rfl hl (by decide) rfl (fun ls hl => ?_)
  refine lp_W (N := (26 : Int32).toNatClampNeg) (head := 16) (I := fun i H locs ls => va_P (dC, dI) clX [(to, .inr (2, [.ref q7, .null])), (q7, .inl (cI, 26, .inl (itN (fun k w => wrA 26 w (nI k) (lnT k)) i zF)))] H ∧ va_D A [(to, .inr (2, [.ref q7, .null])), (q7, .inl (cI, 26, .inl (itN (fun k w => wrA 26 w (nI k) (lnT k)) i zF)))] ∧ va_S A s.heap H locs ∧ lv_has ls 3 [(2, .int (nI i)), (1, .int (lnT i)), (0, .ref to)]) ?_ ?_ 0 (Nat.zero_le _) ⟨hP, hD, hS, lv_sub hl [0, 1, 2] rfl⟩
  · intro i H locs ls hi_i hI0 kk_i
    obtain ⟨hP, hD, hS, hl⟩ := hI0
    refine lv_iload_n hx hb d_T_init_16 rfl (lv_at hl 0 rfl) ?_
    refine lv_bipush (v := 26) hx hb d_T_init_17 (by decide) ?_
    refine lv_icmp_ge (tgt := 49) hx hb d_T_init_19 (by decide) (fun c_312 => ?_) (fun c_312 => ?_)
    · exact absurd c_312 (lp_lt hi_i)
    · refine lv_aload_n hx hb d_T_init_22 rfl (lv_at hl 2 rfl) ?_
      refine va_get (D := (dC, dI)) (ci := 2) (v := .ref q7) (C := R_T) (T := F_T) (N := 2) hx hb ht tu_T hown hK hP 0 rfl rfl 0 (by decide) (ht _ tw_102) (fun _ h9 => h9) rfl d_T_init_23 ?_
      refine lv_iload_n hx hb d_T_init_26 rfl (lv_at hl 0 rfl) ?_
      refine lv_iload_n hx hb d_T_init_27 rfl (lv_at hl 1 rfl) ?_
      refine mcSNv (As := [.ref q7, .int (nI i), .int (lnT i)]) (rest := []) (wr := [(to, .inr (2, [.ref q7, .null]))]) (c_D_write l dC dI tb q7 26 (itN (fun k w => wrA 26 w (nI k) (lnT k)) i zF) cI (nI i) (lnT i) (by decide)) F tw_58 tw_28 tw_57 nw_0 hP hD [1] [0] rfl rfl (by decide) (by decide) (by decide) hK [0] rfl hE hS hA hd_D_write rfl rfl ⟨Nat.le_of_ble_eq_true rfl, Nat.le_of_ble_eq_true rfl⟩ ⟨Nat.le_of_ble_eq_true rfl, Nat.le_of_ble_eq_true rfl⟩ hl.1 rfl (Nat.le_of_ble_eq_true rfl) d_T_init_28 (fun H locs hP hD hS => ?_)
      have hP : va_P (dC, dI) clX [(to, .inr (2, [.ref q7, .null])), (q7, .inl (cI, 26, .inl (wrA 26 (itN (fun k w => wrA 26 w (nI k) (lnT k)) i zF) (nI i) (lnT i))))] H := hP
      have hD : va_D A [(to, .inr (2, [.ref q7, .null])), (q7, .inl (cI, 26, .inl (wrA 26 (itN (fun k w => wrA 26 w (nI k) (lnT k)) i zF) (nI i) (lnT i))))] := hD
      refine lv_iload_n hx hb d_T_init_31 rfl (lv_at hl 1 rfl) ?_
      refine lv_iload_n hx hb d_T_init_32 rfl (lv_at hl 0 rfl) ?_
      refine rcS (As := [.int (nI i)]) (rest := [.int (lnT i)]) (c_S_holders l dC dI tb (nI i) ) F tw_61 tw_30 tw_60 tw_59 hP [] rfl hK [] rfl hE hS hd_S_holders rfl rfl ⟨Nat.le_of_ble_eq_true rfl, Nat.le_of_ble_eq_true rfl⟩ ⟨Nat.le_of_ble_eq_true rfl, Nat.le_of_ble_eq_true rfl⟩ hl.1 rfl (Nat.le_of_ble_eq_true rfl) d_T_init_33 ?_
      refine lv_iload_n hx hb d_T_init_36 rfl (lv_at hl 0 rfl) ?_
      refine rcS (As := [.int (nI i)]) (rest := [.int (hld (nI i)), .int (lnT i)]) (c_S_fixed l dC dI tb (nI i) ) F tw_69 tw_30 tw_68 tw_67 hP [] rfl hK [] rfl hE hS hd_S_fixed rfl rfl ⟨Nat.le_of_ble_eq_true rfl, Nat.le_of_ble_eq_true rfl⟩ ⟨Nat.le_of_ble_eq_true rfl, Nat.le_of_ble_eq_true rfl⟩ hl.1 rfl (Nat.le_of_ble_eq_true rfl) d_T_init_37 ?_
      refine lv_imul hx hb d_T_init_40 ?_
      refine lv_iadd hx hb d_T_init_41 ?_
      refine lv_istore_n (lv' := [(1, .int ((lnT i) + ((hld (nI i)) * (fxd (nI i))))), (2, .int (nI i)), (0, .ref to)]) hx hb d_T_init_42 rfl hl (by decide) rfl (fun ls hl => ?_)
      refine lv_iinc (v := ((nI i) + 1)) (lv' := [(2, .int ((nI i) + 1)), (1, .int ((lnT i) + ((hld (nI i)) * (fxd (nI i))))), (0, .ref to)]) hx hb d_T_init_43 hl (k := 1) rfl rfl (by decide) rfl (fun ls hl => ?_)
      refine lv_goto (tgt := 16) hx hb d_T_init_46 (by decide) ?_
      rw [nI_1] at hl
      exact kk_i _ _ _ ⟨hP.sub [0, 1] rfl, hD.sub [0, 1] (by decide) rfl, hS, lv_sub hl [0, 1, 2] rfl⟩
  · intro H locs ls hI0
    obtain ⟨hP, hD, hS, hl⟩ := hI0
    refine lv_iload_n hx hb d_T_init_16 rfl (lv_at hl 0 rfl) ?_
    refine lv_bipush (v := 26) hx hb d_T_init_17 (by decide) ?_
    refine lv_icmp_ge (tgt := 49) hx hb d_T_init_19 (by decide) (fun c_313 => ?_) (fun c_313 => ?_)
    · refine lv_aload_n hx hb d_T_init_49 rfl (lv_at hl 2 rfl) ?_
      refine lv_iconst (v := 0) hx hb d_T_init_50 (by decide) ?_
      refine lv_iload_n hx hb d_T_init_51 rfl (lv_at hl 1 rfl) ?_
      refine va_mmax hx hb (by rw [hml]; exact hl.1.symm) hown (ht _ tw_75) (ht _ tw_76) (ht _ tw_31) (ht _ tw_77) (Nat.le_of_ble_eq_true rfl) (Nat.le_of_ble_eq_true rfl) (Nat.le_of_ble_eq_true rfl) (Nat.le_of_ble_eq_true rfl) d_T_init_52 ?_
      refine va_newa (atype := .int) hx hb (ht _ tw_109) (ty := .int) rfl hK hP hD hS hA (a0 := (303, .inl zF)) (N' := 303) (fun _ => rfl) (by decide +kernel) (by decide +kernel) (by decide) (Nat.le_of_ble_eq_true rfl) (Nat.le_of_ble_eq_true rfl) d_T_init_55 (fun q55 cA55 H hK hP hD hS => ?_)
      have e55 : cI = cA55 := k_same hK (i := 0) (j := 1) rfl rfl
      subst e55
      have hK : va_K (dC, dI) clX [(cI, .int)] s := hK.sub [0] rfl
      have hP : va_P (dC, dI) clX [(to, .inr (2, [.ref q7, .null])), (q7, .inl (cI, 26, .inl (itN (fun k w => wrA 26 w (nI k) (lnT k)) ((26 : Int32).toNatClampNeg) zF))), (q55, .inl (cI, 303, .inl zF))] H := hP
      have hD : va_D A [(to, .inr (2, [.ref q7, .null])), (q7, .inl (cI, 26, .inl (itN (fun k w => wrA 26 w (nI k) (lnT k)) ((26 : Int32).toNatClampNeg) zF))), (q55, .inl (cI, 303, .inl zF))] := hD
      refine W.widen (k := 2) (n := 329) (Nat.le_of_ble_eq_true rfl) (Nat.le_of_ble_eq_true rfl) ?_
      refine va_putF (D := (dC, dI)) (ci := 2) (v := .ref q55) (ty := .array .int) (C := R_T) (T := F_T) (N := 2) hx hb ht tu_T ft_T ft_T_ok n_T hown hK hP hD hS 0 rfl rfl 1 (by decide) (ht _ tw_103) (fun _ h9 => h9) rfl hin rfl (by decide +kernel) rfl rfl (Nat.le_of_ble_eq_true rfl) d_T_init_57 (fun H locs hP hD hS => ?_)
      have hP : va_P (dC, dI) clX [(to, .inr (2, [.ref q7, .ref q55])), (q7, .inl (cI, 26, .inl (itN (fun k w => wrA 26 w (nI k) (lnT k)) ((26 : Int32).toNatClampNeg) zF))), (q55, .inl (cI, 303, .inl zF))] H := hP
      have hD : va_D A [(to, .inr (2, [.ref q7, .ref q55])), (q7, .inl (cI, 26, .inl (itN (fun k w => wrA 26 w (nI k) (lnT k)) ((26 : Int32).toNatClampNeg) zF))), (q55, .inl (cI, 303, .inl zF))] := hD
      refine lv_aload_n hx hb d_T_init_60 rfl (lv_at hl 2 rfl) ?_
      refine mcVv (As := []) (rest := []) (wr := []) (c_T_forget l dC dI tb to q7 q55 (itN (fun k w => wrA 26 w (nI k) (lnT k)) ((26 : Int32).toNatClampNeg) zF) zF cI ) F tw_81 tw_29 tw_79 tw_80 tw_78 hP hD [0, 1, 2] [] rfl rfl (by decide) (by decide) (by decide) hK [0] rfl hE hS hA (q0 := 0) rfl rfl hd_T_forget rfl rfl ⟨Nat.le_of_ble_eq_true rfl, Nat.le_of_ble_eq_true rfl⟩ ⟨Nat.le_of_ble_eq_true rfl, Nat.le_of_ble_eq_true rfl⟩ hl.1 rfl (Nat.le_of_ble_eq_true rfl) d_T_init_61 (fun H locs hP hD hS => ?_)
      have hP : va_P (dC, dI) clX [(to, .inr (2, [.ref q7, .ref q55])), (q7, .inl (cI, 26, .inl (itN (fun k w => wrA 26 w (nI k) (lnT k)) ((26 : Int32).toNatClampNeg) zF))), (q55, .inl (cI, 303, .inl (fgA (itN (fun k w => wrA 26 w (nI k) (lnT k)) ((26 : Int32).toNatClampNeg) zF) zF)))] H := hP
      have hD : va_D A [(to, .inr (2, [.ref q7, .ref q55])), (q7, .inl (cI, 26, .inl (itN (fun k w => wrA 26 w (nI k) (lnT k)) ((26 : Int32).toNatClampNeg) zF))), (q55, .inl (cI, 303, .inl (fgA (itN (fun k w => wrA 26 w (nI k) (lnT k)) ((26 : Int32).toNatClampNeg) zF) zF)))] := hD
      have hP9 := hP.sub (ws' := [(to, .inr (2, [.ref q7, .ref q55])), (q7, .inl (cI, 26, .inl (itN (fun k w => wrA 26 w (nI k) (lnT k)) ((26 : Int32).toNatClampNeg) zF))), (q55, .inl (cI, 303, .inl (fgA (itN (fun k w => wrA 26 w (nI k) (lnT k)) ((26 : Int32).toNatClampNeg) zF) zF)))]) [0, 1, 2] rfl
      have hD9 := hD.sub (ws' := [(to, .inr (2, [.ref q7, .ref q55])), (q7, .inl (cI, 26, .inl (itN (fun k w => wrA 26 w (nI k) (lnT k)) ((26 : Int32).toNatClampNeg) zF))), (q55, .inl (cI, 303, .inl (fgA (itN (fun k w => wrA 26 w (nI k) (lnT k)) ((26 : Int32).toNatClampNeg) zF) zF)))]) [0, 1, 2] (by decide) rfl
      exact W.vret hx hb hr (fun t ht9 hW => ⟨⟨(q7, q55, cI), rfl, trivial, by rw [ht9]; exact hP9, va_K.moved hW.alike hK, hD9⟩, hS.F ht9⟩) hS.2.2 d_T_init_64
    · exact absurd (lp_ge (26 : Int32)) c_313
set_option maxHeartbeats 4000000 in
set_option maxRecDepth 100000 in
theorem c_D_init (l : Launch) (dC : Nat → ClassId) (dI : Nat → Nat → Nat) (tb : tbT) (x : Nat) (sz : Nat) : MN l y_D_init (Cond.code y_D_init b_D_init 1 none :: TB) ({ frames := 6, cells := 9, slots := 8797, locals := 134 }) tb (dC, dI) [.ref x] [(x, .inr (3, [.null, .null, .null, .null, .null, .int 0, .int 0, .int 0]))] [] (fun u : Nat × Nat × Nat × Nat × Nat × Nat × Nat × Nat × Nat × ClassId => [(x, .inr (3, [.ref u.1, .ref u.2.1, .ref u.2.2.1, .ref u.2.2.2.2.2.1, .ref u.2.2.2.2.2.2.2.1, .int 0, .int 1, .int 1])), (u.1, .inl (u.2.2.2.2.2.2.2.2.2, 4096, .inl zF)), (u.2.1, .inl (u.2.2.2.2.2.2.2.2.2, 4096, .inl zF)), (u.2.2.1, .inr (2, [.ref u.2.2.2.1, .ref u.2.2.2.2.1])), (u.2.2.2.1, .inl (u.2.2.2.2.2.2.2.2.2, 26, .inl sfC)), (u.2.2.2.2.1, .inl (u.2.2.2.2.2.2.2.2.2, 303, .inl (fgA sfC zF))), (u.2.2.2.2.2.1, .inr (0, [.ref u.2.2.2.2.2.2.1, .int 0, .int 0])), (u.2.2.2.2.2.2.1, .inl (u.2.2.2.2.2.2.2.2.2, 258, .inl zF)), (u.2.2.2.2.2.2.2.1, .inr (1, [.ref u.2.2.2.2.2.2.2.2.1, .int 0, .int 0, .int (-1), .int (-1), .int 0, .int 0, .int (-1), .int 0])), (u.2.2.2.2.2.2.2.2.1, .inl (u.2.2.2.2.2.2.2.2.2, 4, .inl zF))]) (fun u : Nat × Nat × Nat × Nat × Nat × Nat × Nat × Nat × Nat × ClassId => [(u.2.2.2.2.2.2.2.2.2, .int)]) 9 8797 sz := by
  refine Met.ofW (cc := b_D_init) (maxL := 1) (ret := none) (by decide) rfl ?_
  intro p e s m args below meth c s₁ B hml hv
  obtain ⟨rfl, hsz, hP, hK, hD0, hE⟩ := hv
  have hx := B.exec
  have hb := B.bytes
  have hr := B.returns
  have ht := fun w (h : w ∈ TB) => atoms_spec (ws := Cond.code y_D_init b_D_init 1 none :: TB) B.pre w (List.mem_cons_of_mem _ h)
  have hown : s.vm.findClass R_D = some m.cls := findClass_of_methodNamed B.named
  have hlocks := B.notSynchronized
  have hin : meth.name = "<init>" := (name_of_methodNamed B.named B.method).1
  subst hsz
  have hD := hD0.self (sz := s.heap.size)
  generalize hAe : va_A [(x, .inr (3, [.null, .null, .null, .null, .null, .int 0, .int 0, .int 0]))] s.heap.size = A at hD hE ⊢
  have hA : ∀ q : Nat, s.heap.size ≤ q → A q := fun q h => by rw [← hAe]; exact Or.inr h
  have hS : va_S A s.heap s.heap [] := va_S.rf
  have F : CallFix p m c b_D_init 1 s _ TB R_D := ⟨hx, hb, hml, hown, ht⟩
  have hl := lv_entry ([.ref x]) (n := 1) (Nat.le_of_ble_eq_true rfl)
  rw [lg_entry_eq]
  generalize (lg_sl ([.ref x]) ++ List.replicate (1 - (lg_sl ([.ref x])).length) Slot.unset).toArray = ls at hl ⊢
  have hl : lv_has ls 1 [(0, .ref x)] := hl
  refine lv_aload_n hx hb d_D_init_0 rfl (lv_at hl 0 rfl) ?_
  refine W.objInit hx hb hown (ht _ tw_47) (ht _ tw_48) (ht _ tw_49) rfl (by rw [hml]; exact hl.1) rfl d_D_init_1 (Nat.le_of_ble_eq_true rfl) (Nat.le_of_ble_eq_true rfl) ?_
  refine W.eq (g2 := F0 m 4 ls []) rfl ?_
  refine lv_aload_n hx hb d_D_init_4 rfl (lv_at hl 0 rfl) ?_
  refine lv_sipush (v := 4096) hx hb d_D_init_5 (by decide) ?_
  refine va_newa (atype := .int) hx hb (ht _ tw_109) (ty := .int) rfl hK hP hD hS hA (a0 := (4096, .inl zF)) (N' := 4096) (fun _ => rfl) (by decide +kernel) (by decide +kernel) (by decide) (Nat.le_of_ble_eq_true rfl) (Nat.le_of_ble_eq_true rfl) d_D_init_8 (fun q8 cA8 H hK hP hD hS => ?_)
  obtain ⟨cI, rfl⟩ : ∃ z, z = cA8 := ⟨_, rfl⟩
  have hK : va_K (dC, dI) clX [(cI, .int)] s := hK
  have hP : va_P (dC, dI) clX [(x, .inr (3, [.null, .null, .null, .null, .null, .int 0, .int 0, .int 0])), (q8, .inl (cI, 4096, .inl zF))] H := hP
  have hD : va_D A [(x, .inr (3, [.null, .null, .null, .null, .null, .int 0, .int 0, .int 0])), (q8, .inl (cI, 4096, .inl zF))] := hD
  refine W.widen (k := 1) (n := 4096) (Nat.le_of_ble_eq_true rfl) (Nat.le_of_ble_eq_true rfl) ?_
  refine va_putF (D := (dC, dI)) (ci := 3) (v := .ref q8) (ty := .array .int) (C := R_D) (T := F_D) (N := 8) hx hb ht tu_D ft_D ft_D_ok n_D hown hK hP hD hS 0 rfl rfl 0 (by decide) (ht _ tw_176) (fun _ h9 => h9) rfl hin rfl (by decide +kernel) rfl rfl (Nat.le_of_ble_eq_true rfl) d_D_init_10 (fun H locs hP hD hS => ?_)
  have hP : va_P (dC, dI) clX [(x, .inr (3, [.ref q8, .null, .null, .null, .null, .int 0, .int 0, .int 0])), (q8, .inl (cI, 4096, .inl zF))] H := hP
  have hD : va_D A [(x, .inr (3, [.ref q8, .null, .null, .null, .null, .int 0, .int 0, .int 0])), (q8, .inl (cI, 4096, .inl zF))] := hD
  refine lv_aload_n hx hb d_D_init_13 rfl (lv_at hl 0 rfl) ?_
  refine lv_sipush (v := 4096) hx hb d_D_init_14 (by decide) ?_
  refine va_newa (atype := .int) hx hb (ht _ tw_109) (ty := .int) rfl hK hP hD hS hA (a0 := (4096, .inl zF)) (N' := 4096) (fun _ => rfl) (by decide +kernel) (by decide +kernel) (by decide) (Nat.le_of_ble_eq_true rfl) (Nat.le_of_ble_eq_true rfl) d_D_init_17 (fun q17 cA17 H hK hP hD hS => ?_)
  have e17 : cI = cA17 := k_same hK (i := 0) (j := 1) rfl rfl
  subst e17
  have hK : va_K (dC, dI) clX [(cI, .int)] s := hK.sub [0] rfl
  have hP : va_P (dC, dI) clX [(x, .inr (3, [.ref q8, .null, .null, .null, .null, .int 0, .int 0, .int 0])), (q8, .inl (cI, 4096, .inl zF)), (q17, .inl (cI, 4096, .inl zF))] H := hP
  have hD : va_D A [(x, .inr (3, [.ref q8, .null, .null, .null, .null, .int 0, .int 0, .int 0])), (q8, .inl (cI, 4096, .inl zF)), (q17, .inl (cI, 4096, .inl zF))] := hD
  refine W.widen (k := 2) (n := 8192) (Nat.le_of_ble_eq_true rfl) (Nat.le_of_ble_eq_true rfl) ?_
  refine va_putF (D := (dC, dI)) (ci := 3) (v := .ref q17) (ty := .array .int) (C := R_D) (T := F_D) (N := 8) hx hb ht tu_D ft_D ft_D_ok n_D hown hK hP hD hS 0 rfl rfl 1 (by decide) (ht _ tw_177) (fun _ h9 => h9) rfl hin rfl (by decide +kernel) rfl rfl (Nat.le_of_ble_eq_true rfl) d_D_init_19 (fun H locs hP hD hS => ?_)
  have hP : va_P (dC, dI) clX [(x, .inr (3, [.ref q8, .ref q17, .null, .null, .null, .int 0, .int 0, .int 0])), (q8, .inl (cI, 4096, .inl zF)), (q17, .inl (cI, 4096, .inl zF))] H := hP
  have hD : va_D A [(x, .inr (3, [.ref q8, .ref q17, .null, .null, .null, .int 0, .int 0, .int 0])), (q8, .inl (cI, 4096, .inl zF)), (q17, .inl (cI, 4096, .inl zF))] := hD
  refine lv_aload_n hx hb d_D_init_22 rfl (lv_at hl 0 rfl) ?_
  refine va_new (ci := 2) (fs := [.null, .null]) (C := R_T) (T := F_T) (N := 2) hx hb ht tu_T ft_T ft_T_ok hown (ht _ tw_50) (ht _ tw_51) (ht _ tw_29) hK hP hD hS hA rfl (fun j hj => by rcases (show j = 0 ∨ j = 1 by omega) with rfl | rfl <;> rfl) (Nat.le_of_ble_eq_true rfl) (Nat.le_of_ble_eq_true rfl) d_D_init_23 (fun q23 H hP hD hS => ?_)
  have hP : va_P (dC, dI) clX [(x, .inr (3, [.ref q8, .ref q17, .null, .null, .null, .int 0, .int 0, .int 0])), (q8, .inl (cI, 4096, .inl zF)), (q17, .inl (cI, 4096, .inl zF)), (q23, .inr (2, [.null, .null]))] H := hP
  have hD : va_D A [(x, .inr (3, [.ref q8, .ref q17, .null, .null, .null, .int 0, .int 0, .int 0])), (q8, .inl (cI, 4096, .inl zF)), (q17, .inl (cI, 4096, .inl zF)), (q23, .inr (2, [.null, .null]))] := hD
  refine W.widen (k := 3) (n := 8194) (Nat.le_of_ble_eq_true rfl) (Nat.le_of_ble_eq_true rfl) ?_
  refine lv_dup hx hb d_D_init_26 rfl ?_
  refine ncI (As := []) (rest := [.ref q23, .ref x]) (wr := [(x, .inr (3, [.ref q8, .ref q17, .null, .null, .null, .int 0, .int 0, .int 0])), (q8, .inl (cI, 4096, .inl zF)), (q17, .inl (cI, 4096, .inl zF))]) (c_T_init l dC dI tb q23) F tw_54 tw_29 tw_53 tw_52 rfl hP hD [3] [0, 1, 2] rfl rfl (by decide) (by decide) (by decide) hK [] rfl hE hS hA hd_T_init rfl rfl ⟨Nat.le_of_ble_eq_true rfl, Nat.le_of_ble_eq_true rfl⟩ ⟨Nat.le_of_ble_eq_true rfl, Nat.le_of_ble_eq_true rfl⟩ hl.1 rfl (Nat.le_of_ble_eq_true rfl) d_D_init_27 (fun u27 H locs hP hD hK hS => ?_)
  obtain ⟨sa_27, wa_27, cI_27⟩ := u27
  have e27 : cI = cI_27 := k_same hK (i := 0) (j := 1) rfl rfl
  subst e27
  have hK : va_K (dC, dI) clX [(cI, .int)] s := hK.sub [0] rfl
  have hP : va_P (dC, dI) clX [(x, .inr (3, [.ref q8, .ref q17, .null, .null, .null, .int 0, .int 0, .int 0])), (q8, .inl (cI, 4096, .inl zF)), (q17, .inl (cI, 4096, .inl zF)), (q23, .inr (2, [.ref sa_27, .ref wa_27])), (sa_27, .inl (cI, 26, .inl sfC)), (wa_27, .inl (cI, 303, .inl (fgA sfC zF)))] H := hP
  have hD : va_D A [(x, .inr (3, [.ref q8, .ref q17, .null, .null, .null, .int 0, .int 0, .int 0])), (q8, .inl (cI, 4096, .inl zF)), (q17, .inl (cI, 4096, .inl zF)), (q23, .inr (2, [.ref sa_27, .ref wa_27])), (sa_27, .inl (cI, 26, .inl sfC)), (wa_27, .inl (cI, 303, .inl (fgA sfC zF)))] := hD
  refine W.widen (k := 5) (n := 8523) (Nat.le_of_ble_eq_true rfl) (Nat.le_of_ble_eq_true rfl) ?_
  refine va_putF (D := (dC, dI)) (ci := 3) (v := .ref q23) (ty := .object "DrawCommands$Told") (C := R_D) (T := F_D) (N := 8) hx hb ht tu_D ft_D ft_D_ok n_D hown hK hP hD hS 0 rfl rfl 2 (by decide) (ht _ tw_178) (fun _ h9 => h9) rfl hin rfl (by decide +kernel) rfl rfl (Nat.le_of_ble_eq_true rfl) d_D_init_30 (fun H locs hP hD hS => ?_)
  have hP : va_P (dC, dI) clX [(x, .inr (3, [.ref q8, .ref q17, .ref q23, .null, .null, .int 0, .int 0, .int 0])), (q8, .inl (cI, 4096, .inl zF)), (q17, .inl (cI, 4096, .inl zF)), (q23, .inr (2, [.ref sa_27, .ref wa_27])), (sa_27, .inl (cI, 26, .inl sfC)), (wa_27, .inl (cI, 303, .inl (fgA sfC zF)))] H := hP
  have hD : va_D A [(x, .inr (3, [.ref q8, .ref q17, .ref q23, .null, .null, .int 0, .int 0, .int 0])), (q8, .inl (cI, 4096, .inl zF)), (q17, .inl (cI, 4096, .inl zF)), (q23, .inr (2, [.ref sa_27, .ref wa_27])), (sa_27, .inl (cI, 26, .inl sfC)), (wa_27, .inl (cI, 303, .inl (fgA sfC zF)))] := hD
  refine lv_aload_n hx hb d_D_init_33 rfl (lv_at hl 0 rfl) ?_
  refine va_new (ci := 0) (fs := [.null, .int 0, .int 0]) (C := R_C) (T := F_C) (N := 3) hx hb ht tu_C ft_C ft_C_ok hown (ht _ tw_110) (ht _ tw_111) (ht _ tw_32) hK hP hD hS hA rfl (fun j hj => by rcases (show j = 0 ∨ j = 1 ∨ j = 2 by omega) with rfl | rfl | rfl <;> rfl) (Nat.le_of_ble_eq_true rfl) (Nat.le_of_ble_eq_true rfl) d_D_init_34 (fun q34 H hP hD hS => ?_)
  have hP : va_P (dC, dI) clX [(x, .inr (3, [.ref q8, .ref q17, .ref q23, .null, .null, .int 0, .int 0, .int 0])), (q8, .inl (cI, 4096, .inl zF)), (q17, .inl (cI, 4096, .inl zF)), (q23, .inr (2, [.ref sa_27, .ref wa_27])), (sa_27, .inl (cI, 26, .inl sfC)), (wa_27, .inl (cI, 303, .inl (fgA sfC zF))), (q34, .inr (0, [.null, .int 0, .int 0]))] H := hP
  have hD : va_D A [(x, .inr (3, [.ref q8, .ref q17, .ref q23, .null, .null, .int 0, .int 0, .int 0])), (q8, .inl (cI, 4096, .inl zF)), (q17, .inl (cI, 4096, .inl zF)), (q23, .inr (2, [.ref sa_27, .ref wa_27])), (sa_27, .inl (cI, 26, .inl sfC)), (wa_27, .inl (cI, 303, .inl (fgA sfC zF))), (q34, .inr (0, [.null, .int 0, .int 0]))] := hD
  refine W.widen (k := 6) (n := 8526) (Nat.le_of_ble_eq_true rfl) (Nat.le_of_ble_eq_true rfl) ?_
  refine lv_dup hx hb d_D_init_37 rfl ?_
  refine ncI (As := []) (rest := [.ref q34, .ref x]) (wr := [(x, .inr (3, [.ref q8, .ref q17, .ref q23, .null, .null, .int 0, .int 0, .int 0])), (q8, .inl (cI, 4096, .inl zF)), (q17, .inl (cI, 4096, .inl zF)), (q23, .inr (2, [.ref sa_27, .ref wa_27])), (sa_27, .inl (cI, 26, .inl sfC)), (wa_27, .inl (cI, 303, .inl (fgA sfC zF)))]) (c_C_init l dC dI tb q34) F tw_114 tw_32 tw_113 tw_112 rfl hP hD [6] [0, 1, 2, 3, 4, 5] rfl rfl (by decide) (by decide) (by decide) hK [] rfl hE hS hA hd_C_init rfl rfl ⟨Nat.le_of_ble_eq_true rfl, Nat.le_of_ble_eq_true rfl⟩ ⟨Nat.le_of_ble_eq_true rfl, Nat.le_of_ble_eq_true rfl⟩ hl.1 rfl (Nat.le_of_ble_eq_true rfl) d_D_init_38 (fun u38 H locs hP hD hK hS => ?_)
  obtain ⟨cw_38, cI_38⟩ := u38
  have e38 : cI = cI_38 := k_same hK (i := 0) (j := 1) rfl rfl
  subst e38
  have hK : va_K (dC, dI) clX [(cI, .int)] s := hK.sub [0] rfl
  have hP : va_P (dC, dI) clX [(x, .inr (3, [.ref q8, .ref q17, .ref q23, .null, .null, .int 0, .int 0, .int 0])), (q8, .inl (cI, 4096, .inl zF)), (q17, .inl (cI, 4096, .inl zF)), (q23, .inr (2, [.ref sa_27, .ref wa_27])), (sa_27, .inl (cI, 26, .inl sfC)), (wa_27, .inl (cI, 303, .inl (fgA sfC zF))), (q34, .inr (0, [.ref cw_38, .int 0, .int 0])), (cw_38, .inl (cI, 258, .inl zF))] H := hP
  have hD : va_D A [(x, .inr (3, [.ref q8, .ref q17, .ref q23, .null, .null, .int 0, .int 0, .int 0])), (q8, .inl (cI, 4096, .inl zF)), (q17, .inl (cI, 4096, .inl zF)), (q23, .inr (2, [.ref sa_27, .ref wa_27])), (sa_27, .inl (cI, 26, .inl sfC)), (wa_27, .inl (cI, 303, .inl (fgA sfC zF))), (q34, .inr (0, [.ref cw_38, .int 0, .int 0])), (cw_38, .inl (cI, 258, .inl zF))] := hD
  refine W.widen (k := 7) (n := 8784) (Nat.le_of_ble_eq_true rfl) (Nat.le_of_ble_eq_true rfl) ?_
  refine va_putF (D := (dC, dI)) (ci := 3) (v := .ref q34) (ty := .object "DrawCommands$Command") (C := R_D) (T := F_D) (N := 8) hx hb ht tu_D ft_D ft_D_ok n_D hown hK hP hD hS 0 rfl rfl 3 (by decide) (ht _ tw_179) (fun _ h9 => h9) rfl hin rfl (by decide +kernel) rfl rfl (Nat.le_of_ble_eq_true rfl) d_D_init_41 (fun H locs hP hD hS => ?_)
  have hP : va_P (dC, dI) clX [(x, .inr (3, [.ref q8, .ref q17, .ref q23, .ref q34, .null, .int 0, .int 0, .int 0])), (q8, .inl (cI, 4096, .inl zF)), (q17, .inl (cI, 4096, .inl zF)), (q23, .inr (2, [.ref sa_27, .ref wa_27])), (sa_27, .inl (cI, 26, .inl sfC)), (wa_27, .inl (cI, 303, .inl (fgA sfC zF))), (q34, .inr (0, [.ref cw_38, .int 0, .int 0])), (cw_38, .inl (cI, 258, .inl zF))] H := hP
  have hD : va_D A [(x, .inr (3, [.ref q8, .ref q17, .ref q23, .ref q34, .null, .int 0, .int 0, .int 0])), (q8, .inl (cI, 4096, .inl zF)), (q17, .inl (cI, 4096, .inl zF)), (q23, .inr (2, [.ref sa_27, .ref wa_27])), (sa_27, .inl (cI, 26, .inl sfC)), (wa_27, .inl (cI, 303, .inl (fgA sfC zF))), (q34, .inr (0, [.ref cw_38, .int 0, .int 0])), (cw_38, .inl (cI, 258, .inl zF))] := hD
  refine lv_aload_n hx hb d_D_init_44 rfl (lv_at hl 0 rfl) ?_
  refine va_new (ci := 1) (fs := [.null, .int 0, .int 0, .int 0, .int 0, .int 0, .int 0, .int 0, .int 0]) (C := R_R) (T := F_R) (N := 9) hx hb ht tu_R ft_R ft_R_ok hown (ht _ tw_130) (ht _ tw_131) (ht _ tw_33) hK hP hD hS hA rfl (fun j hj => by rcases (show j = 0 ∨ j = 1 ∨ j = 2 ∨ j = 3 ∨ j = 4 ∨ j = 5 ∨ j = 6 ∨ j = 7 ∨ j = 8 by omega) with rfl | rfl | rfl | rfl | rfl | rfl | rfl | rfl | rfl <;> rfl) (Nat.le_of_ble_eq_true rfl) (Nat.le_of_ble_eq_true rfl) d_D_init_45 (fun q45 H hP hD hS => ?_)
  have hP : va_P (dC, dI) clX [(x, .inr (3, [.ref q8, .ref q17, .ref q23, .ref q34, .null, .int 0, .int 0, .int 0])), (q8, .inl (cI, 4096, .inl zF)), (q17, .inl (cI, 4096, .inl zF)), (q23, .inr (2, [.ref sa_27, .ref wa_27])), (sa_27, .inl (cI, 26, .inl sfC)), (wa_27, .inl (cI, 303, .inl (fgA sfC zF))), (q34, .inr (0, [.ref cw_38, .int 0, .int 0])), (cw_38, .inl (cI, 258, .inl zF)), (q45, .inr (1, [.null, .int 0, .int 0, .int 0, .int 0, .int 0, .int 0, .int 0, .int 0]))] H := hP
  have hD : va_D A [(x, .inr (3, [.ref q8, .ref q17, .ref q23, .ref q34, .null, .int 0, .int 0, .int 0])), (q8, .inl (cI, 4096, .inl zF)), (q17, .inl (cI, 4096, .inl zF)), (q23, .inr (2, [.ref sa_27, .ref wa_27])), (sa_27, .inl (cI, 26, .inl sfC)), (wa_27, .inl (cI, 303, .inl (fgA sfC zF))), (q34, .inr (0, [.ref cw_38, .int 0, .int 0])), (cw_38, .inl (cI, 258, .inl zF)), (q45, .inr (1, [.null, .int 0, .int 0, .int 0, .int 0, .int 0, .int 0, .int 0, .int 0]))] := hD
  refine W.widen (k := 8) (n := 8793) (Nat.le_of_ble_eq_true rfl) (Nat.le_of_ble_eq_true rfl) ?_
  refine lv_dup hx hb d_D_init_48 rfl ?_
  refine ncI (As := []) (rest := [.ref q45, .ref x]) (wr := [(x, .inr (3, [.ref q8, .ref q17, .ref q23, .ref q34, .null, .int 0, .int 0, .int 0])), (q8, .inl (cI, 4096, .inl zF)), (q17, .inl (cI, 4096, .inl zF)), (q23, .inr (2, [.ref sa_27, .ref wa_27])), (sa_27, .inl (cI, 26, .inl sfC)), (wa_27, .inl (cI, 303, .inl (fgA sfC zF))), (q34, .inr (0, [.ref cw_38, .int 0, .int 0])), (cw_38, .inl (cI, 258, .inl zF))]) (c_R_init l dC dI tb q45) F tw_134 tw_33 tw_133 tw_132 rfl hP hD [8] [0, 1, 2, 3, 4, 5, 6, 7] rfl rfl (by decide) (by decide) (by decide) hK [] rfl hE hS hA hd_R_init rfl rfl ⟨Nat.le_of_ble_eq_true rfl, Nat.le_of_ble_eq_true rfl⟩ ⟨Nat.le_of_ble_eq_true rfl, Nat.le_of_ble_eq_true rfl⟩ hl.1 rfl (Nat.le_of_ble_eq_true rfl) d_D_init_49 (fun u49 H locs hP hD hK hS => ?_)
  obtain ⟨bk_49, cI_49⟩ := u49
  have e49 : cI = cI_49 := k_same hK (i := 0) (j := 1) rfl rfl
  subst e49
  have hK : va_K (dC, dI) clX [(cI, .int)] s := hK.sub [0] rfl
  have hP : va_P (dC, dI) clX [(x, .inr (3, [.ref q8, .ref q17, .ref q23, .ref q34, .null, .int 0, .int 0, .int 0])), (q8, .inl (cI, 4096, .inl zF)), (q17, .inl (cI, 4096, .inl zF)), (q23, .inr (2, [.ref sa_27, .ref wa_27])), (sa_27, .inl (cI, 26, .inl sfC)), (wa_27, .inl (cI, 303, .inl (fgA sfC zF))), (q34, .inr (0, [.ref cw_38, .int 0, .int 0])), (cw_38, .inl (cI, 258, .inl zF)), (q45, .inr (1, [.ref bk_49, .int 0, .int 0, .int (-1), .int (-1), .int 0, .int 0, .int (-1), .int 0])), (bk_49, .inl (cI, 4, .inl zF))] H := hP
  have hD : va_D A [(x, .inr (3, [.ref q8, .ref q17, .ref q23, .ref q34, .null, .int 0, .int 0, .int 0])), (q8, .inl (cI, 4096, .inl zF)), (q17, .inl (cI, 4096, .inl zF)), (q23, .inr (2, [.ref sa_27, .ref wa_27])), (sa_27, .inl (cI, 26, .inl sfC)), (wa_27, .inl (cI, 303, .inl (fgA sfC zF))), (q34, .inr (0, [.ref cw_38, .int 0, .int 0])), (cw_38, .inl (cI, 258, .inl zF)), (q45, .inr (1, [.ref bk_49, .int 0, .int 0, .int (-1), .int (-1), .int 0, .int 0, .int (-1), .int 0])), (bk_49, .inl (cI, 4, .inl zF))] := hD
  refine W.widen (k := 9) (n := 8797) (Nat.le_of_ble_eq_true rfl) (Nat.le_of_ble_eq_true rfl) ?_
  refine va_putF (D := (dC, dI)) (ci := 3) (v := .ref q45) (ty := .object "DrawCommands$Run") (C := R_D) (T := F_D) (N := 8) hx hb ht tu_D ft_D ft_D_ok n_D hown hK hP hD hS 0 rfl rfl 4 (by decide) (ht _ tw_180) (fun _ h9 => h9) rfl hin rfl (by decide +kernel) rfl rfl (Nat.le_of_ble_eq_true rfl) d_D_init_52 (fun H locs hP hD hS => ?_)
  have hP : va_P (dC, dI) clX [(x, .inr (3, [.ref q8, .ref q17, .ref q23, .ref q34, .ref q45, .int 0, .int 0, .int 0])), (q8, .inl (cI, 4096, .inl zF)), (q17, .inl (cI, 4096, .inl zF)), (q23, .inr (2, [.ref sa_27, .ref wa_27])), (sa_27, .inl (cI, 26, .inl sfC)), (wa_27, .inl (cI, 303, .inl (fgA sfC zF))), (q34, .inr (0, [.ref cw_38, .int 0, .int 0])), (cw_38, .inl (cI, 258, .inl zF)), (q45, .inr (1, [.ref bk_49, .int 0, .int 0, .int (-1), .int (-1), .int 0, .int 0, .int (-1), .int 0])), (bk_49, .inl (cI, 4, .inl zF))] H := hP
  have hD : va_D A [(x, .inr (3, [.ref q8, .ref q17, .ref q23, .ref q34, .ref q45, .int 0, .int 0, .int 0])), (q8, .inl (cI, 4096, .inl zF)), (q17, .inl (cI, 4096, .inl zF)), (q23, .inr (2, [.ref sa_27, .ref wa_27])), (sa_27, .inl (cI, 26, .inl sfC)), (wa_27, .inl (cI, 303, .inl (fgA sfC zF))), (q34, .inr (0, [.ref cw_38, .int 0, .int 0])), (cw_38, .inl (cI, 258, .inl zF)), (q45, .inr (1, [.ref bk_49, .int 0, .int 0, .int (-1), .int (-1), .int 0, .int 0, .int (-1), .int 0])), (bk_49, .inl (cI, 4, .inl zF))] := hD
  refine lv_aload_n hx hb d_D_init_55 rfl (lv_at hl 0 rfl) ?_
  refine lv_iconst (v := 0) hx hb d_D_init_56 (by decide) ?_
  refine va_put (D := (dC, dI)) (ci := 3) (v := .int 0) (ty := .int) (C := R_D) (T := F_D) (N := 8) hx hb ht tu_D ft_D ft_D_ok n_D hown hK hP hD hS 0 rfl rfl 5 (by decide) (ht _ tw_181) (fun _ h9 => h9) rfl (by decide +kernel) rfl rfl (Nat.le_of_ble_eq_true rfl) d_D_init_57 (fun H locs hP hD hS => ?_)
  have hP : va_P (dC, dI) clX [(x, .inr (3, [.ref q8, .ref q17, .ref q23, .ref q34, .ref q45, .int 0, .int 0, .int 0])), (q8, .inl (cI, 4096, .inl zF)), (q17, .inl (cI, 4096, .inl zF)), (q23, .inr (2, [.ref sa_27, .ref wa_27])), (sa_27, .inl (cI, 26, .inl sfC)), (wa_27, .inl (cI, 303, .inl (fgA sfC zF))), (q34, .inr (0, [.ref cw_38, .int 0, .int 0])), (cw_38, .inl (cI, 258, .inl zF)), (q45, .inr (1, [.ref bk_49, .int 0, .int 0, .int (-1), .int (-1), .int 0, .int 0, .int (-1), .int 0])), (bk_49, .inl (cI, 4, .inl zF))] H := hP
  have hD : va_D A [(x, .inr (3, [.ref q8, .ref q17, .ref q23, .ref q34, .ref q45, .int 0, .int 0, .int 0])), (q8, .inl (cI, 4096, .inl zF)), (q17, .inl (cI, 4096, .inl zF)), (q23, .inr (2, [.ref sa_27, .ref wa_27])), (sa_27, .inl (cI, 26, .inl sfC)), (wa_27, .inl (cI, 303, .inl (fgA sfC zF))), (q34, .inr (0, [.ref cw_38, .int 0, .int 0])), (cw_38, .inl (cI, 258, .inl zF)), (q45, .inr (1, [.ref bk_49, .int 0, .int 0, .int (-1), .int (-1), .int 0, .int 0, .int (-1), .int 0])), (bk_49, .inl (cI, 4, .inl zF))] := hD
  refine lv_aload_n hx hb d_D_init_60 rfl (lv_at hl 0 rfl) ?_
  refine lv_iconst (v := 1) hx hb d_D_init_61 (by decide) ?_
  refine va_put (D := (dC, dI)) (ci := 3) (v := .int 1) (ty := .int) (C := R_D) (T := F_D) (N := 8) hx hb ht tu_D ft_D ft_D_ok n_D hown hK hP hD hS 0 rfl rfl 6 (by decide) (ht _ tw_182) (fun _ h9 => h9) rfl (by decide +kernel) rfl rfl (Nat.le_of_ble_eq_true rfl) d_D_init_62 (fun H locs hP hD hS => ?_)
  have hP : va_P (dC, dI) clX [(x, .inr (3, [.ref q8, .ref q17, .ref q23, .ref q34, .ref q45, .int 0, .int 1, .int 0])), (q8, .inl (cI, 4096, .inl zF)), (q17, .inl (cI, 4096, .inl zF)), (q23, .inr (2, [.ref sa_27, .ref wa_27])), (sa_27, .inl (cI, 26, .inl sfC)), (wa_27, .inl (cI, 303, .inl (fgA sfC zF))), (q34, .inr (0, [.ref cw_38, .int 0, .int 0])), (cw_38, .inl (cI, 258, .inl zF)), (q45, .inr (1, [.ref bk_49, .int 0, .int 0, .int (-1), .int (-1), .int 0, .int 0, .int (-1), .int 0])), (bk_49, .inl (cI, 4, .inl zF))] H := hP
  have hD : va_D A [(x, .inr (3, [.ref q8, .ref q17, .ref q23, .ref q34, .ref q45, .int 0, .int 1, .int 0])), (q8, .inl (cI, 4096, .inl zF)), (q17, .inl (cI, 4096, .inl zF)), (q23, .inr (2, [.ref sa_27, .ref wa_27])), (sa_27, .inl (cI, 26, .inl sfC)), (wa_27, .inl (cI, 303, .inl (fgA sfC zF))), (q34, .inr (0, [.ref cw_38, .int 0, .int 0])), (cw_38, .inl (cI, 258, .inl zF)), (q45, .inr (1, [.ref bk_49, .int 0, .int 0, .int (-1), .int (-1), .int 0, .int 0, .int (-1), .int 0])), (bk_49, .inl (cI, 4, .inl zF))] := hD
  refine lv_aload_n hx hb d_D_init_65 rfl (lv_at hl 0 rfl) ?_
  refine lv_iconst (v := 1) hx hb d_D_init_66 (by decide) ?_
  refine va_put (D := (dC, dI)) (ci := 3) (v := .int 1) (ty := .int) (C := R_D) (T := F_D) (N := 8) hx hb ht tu_D ft_D ft_D_ok n_D hown hK hP hD hS 0 rfl rfl 7 (by decide) (ht _ tw_183) (fun _ h9 => h9) rfl (by decide +kernel) rfl rfl (Nat.le_of_ble_eq_true rfl) d_D_init_67 (fun H locs hP hD hS => ?_)
  have hP : va_P (dC, dI) clX [(x, .inr (3, [.ref q8, .ref q17, .ref q23, .ref q34, .ref q45, .int 0, .int 1, .int 1])), (q8, .inl (cI, 4096, .inl zF)), (q17, .inl (cI, 4096, .inl zF)), (q23, .inr (2, [.ref sa_27, .ref wa_27])), (sa_27, .inl (cI, 26, .inl sfC)), (wa_27, .inl (cI, 303, .inl (fgA sfC zF))), (q34, .inr (0, [.ref cw_38, .int 0, .int 0])), (cw_38, .inl (cI, 258, .inl zF)), (q45, .inr (1, [.ref bk_49, .int 0, .int 0, .int (-1), .int (-1), .int 0, .int 0, .int (-1), .int 0])), (bk_49, .inl (cI, 4, .inl zF))] H := hP
  have hD : va_D A [(x, .inr (3, [.ref q8, .ref q17, .ref q23, .ref q34, .ref q45, .int 0, .int 1, .int 1])), (q8, .inl (cI, 4096, .inl zF)), (q17, .inl (cI, 4096, .inl zF)), (q23, .inr (2, [.ref sa_27, .ref wa_27])), (sa_27, .inl (cI, 26, .inl sfC)), (wa_27, .inl (cI, 303, .inl (fgA sfC zF))), (q34, .inr (0, [.ref cw_38, .int 0, .int 0])), (cw_38, .inl (cI, 258, .inl zF)), (q45, .inr (1, [.ref bk_49, .int 0, .int 0, .int (-1), .int (-1), .int 0, .int 0, .int (-1), .int 0])), (bk_49, .inl (cI, 4, .inl zF))] := hD
  have hP9 := hP.sub (ws' := [(x, .inr (3, [.ref q8, .ref q17, .ref q23, .ref q34, .ref q45, .int 0, .int 1, .int 1])), (q8, .inl (cI, 4096, .inl zF)), (q17, .inl (cI, 4096, .inl zF)), (q23, .inr (2, [.ref sa_27, .ref wa_27])), (sa_27, .inl (cI, 26, .inl sfC)), (wa_27, .inl (cI, 303, .inl (fgA sfC zF))), (q34, .inr (0, [.ref cw_38, .int 0, .int 0])), (cw_38, .inl (cI, 258, .inl zF)), (q45, .inr (1, [.ref bk_49, .int 0, .int 0, .int (-1), .int (-1), .int 0, .int 0, .int (-1), .int 0])), (bk_49, .inl (cI, 4, .inl zF))]) [0, 1, 2, 3, 4, 5, 6, 7, 8, 9] rfl
  have hD9 := hD.sub (ws' := [(x, .inr (3, [.ref q8, .ref q17, .ref q23, .ref q34, .ref q45, .int 0, .int 1, .int 1])), (q8, .inl (cI, 4096, .inl zF)), (q17, .inl (cI, 4096, .inl zF)), (q23, .inr (2, [.ref sa_27, .ref wa_27])), (sa_27, .inl (cI, 26, .inl sfC)), (wa_27, .inl (cI, 303, .inl (fgA sfC zF))), (q34, .inr (0, [.ref cw_38, .int 0, .int 0])), (cw_38, .inl (cI, 258, .inl zF)), (q45, .inr (1, [.ref bk_49, .int 0, .int 0, .int (-1), .int (-1), .int 0, .int 0, .int (-1), .int 0])), (bk_49, .inl (cI, 4, .inl zF))]) [0, 1, 2, 3, 4, 5, 6, 7, 8, 9] (by decide) rfl
  exact W.vret hx hb hr (fun t ht9 hW => ⟨⟨(q8, q17, q23, sa_27, wa_27, q34, cw_38, q45, bk_49, cI), rfl, trivial, by rw [ht9]; exact hP9, va_K.moved hW.alike hK, hD9⟩, hS.F ht9⟩) hS.2.2 d_D_init_70
set_option maxHeartbeats 4000000 in
set_option maxRecDepth 100000 in
theorem c_M_init (l : Launch) (dC : Nat → ClassId) (dI : Nat → Nat → Nat) (tb : tbT) (y : Nat) (sz : Nat) : MN l y_M_init (Cond.code y_M_init b_M_init 1 none :: TB) ({ frames := 3, cells := 5, slots := 12656, locals := 63 }) tb (dC, dI) [.ref y] [(y, .inr (4, [.int 0, .null, .int 0, .int 0, .null, .int 0, .int 0, .int 0, .null, .int 0, .int 0, .int 0, .int 0, .int 0, .int 0, .int 0, .null, .null]))] [] (fun u : Nat × Nat × Nat × Nat × Nat × ClassId => [(y, .inr (4, [.int 0, .ref u.1, .int 1, .int 1, .ref u.2.1, .int 0, .int 0, .int 0, .ref u.2.2.1, .int 0, .int 0, .int (-1), .int (-1), .int 0, .int (-1), .int 0, .ref u.2.2.2.1, .ref u.2.2.2.2.1])), (u.1, .inl (u.2.2.2.2.2, 4096, .inl zF)), (u.2.1, .inl (u.2.2.2.2.2, 4096, .inl zF)), (u.2.2.1, .inl (u.2.2.2.2.2, 4, .inl zF)), (u.2.2.2.1, .inl (u.2.2.2.2.2, 300, .inl zF)), (u.2.2.2.2.1, .inl (u.2.2.2.2.2, 4160, .inl (noT zF)))]) (fun u : Nat × Nat × Nat × Nat × Nat × ClassId => [(u.2.2.2.2.2, .int)]) 5 12656 sz := by
  refine Met.ofW (cc := b_M_init) (maxL := 1) (ret := none) (by decide) rfl ?_
  intro p e s m args below meth c s₁ B hml hv
  obtain ⟨rfl, hsz, hP, hK, hD0, hE⟩ := hv
  have hx := B.exec
  have hb := B.bytes
  have hr := B.returns
  have ht := fun w (h : w ∈ TB) => atoms_spec (ws := Cond.code y_M_init b_M_init 1 none :: TB) B.pre w (List.mem_cons_of_mem _ h)
  have hown : s.vm.findClass R_M = some m.cls := findClass_of_methodNamed B.named
  have hlocks := B.notSynchronized
  have hin : meth.name = "<init>" := (name_of_methodNamed B.named B.method).1
  subst hsz
  have hD := hD0.self (sz := s.heap.size)
  generalize hAe : va_A [(y, .inr (4, [.int 0, .null, .int 0, .int 0, .null, .int 0, .int 0, .int 0, .null, .int 0, .int 0, .int 0, .int 0, .int 0, .int 0, .int 0, .null, .null]))] s.heap.size = A at hD hE ⊢
  have hA : ∀ q : Nat, s.heap.size ≤ q → A q := fun q h => by rw [← hAe]; exact Or.inr h
  have hS : va_S A s.heap s.heap [] := va_S.rf
  have F : CallFix p m c b_M_init 1 s _ TB R_M := ⟨hx, hb, hml, hown, ht⟩
  have hl := lv_entry ([.ref y]) (n := 1) (Nat.le_of_ble_eq_true rfl)
  rw [lg_entry_eq]
  generalize (lg_sl ([.ref y]) ++ List.replicate (1 - (lg_sl ([.ref y])).length) Slot.unset).toArray = ls at hl ⊢
  have hl : lv_has ls 1 [(0, .ref y)] := hl
  refine lv_aload_n hx hb d_M_init_0 rfl (lv_at hl 0 rfl) ?_
  refine W.objInit hx hb hown (ht _ tw_517) (ht _ tw_48) (ht _ tw_49) rfl (by rw [hml]; exact hl.1) rfl d_M_init_1 (Nat.le_of_ble_eq_true rfl) (Nat.le_of_ble_eq_true rfl) ?_
  refine W.eq (g2 := F0 m 4 ls []) rfl ?_
  refine lv_aload_n hx hb d_M_init_4 rfl (lv_at hl 0 rfl) ?_
  refine lv_sipush (v := 4096) hx hb d_M_init_5 (by decide) ?_
  refine va_newa (atype := .int) hx hb (ht _ tw_109) (ty := .int) rfl hK hP hD hS hA (a0 := (4096, .inl zF)) (N' := 4096) (fun _ => rfl) (by decide +kernel) (by decide +kernel) (by decide) (Nat.le_of_ble_eq_true rfl) (Nat.le_of_ble_eq_true rfl) d_M_init_8 (fun q8 cA8 H hK hP hD hS => ?_)
  obtain ⟨cI, rfl⟩ : ∃ z, z = cA8 := ⟨_, rfl⟩
  have hK : va_K (dC, dI) clX [(cI, .int)] s := hK
  have hP : va_P (dC, dI) clX [(y, .inr (4, [.int 0, .null, .int 0, .int 0, .null, .int 0, .int 0, .int 0, .null, .int 0, .int 0, .int 0, .int 0, .int 0, .int 0, .int 0, .null, .null])), (q8, .inl (cI, 4096, .inl zF))] H := hP
  have hD : va_D A [(y, .inr (4, [.int 0, .null, .int 0, .int 0, .null, .int 0, .int 0, .int 0, .null, .int 0, .int 0, .int 0, .int 0, .int 0, .int 0, .int 0, .null, .null])), (q8, .inl (cI, 4096, .inl zF))] := hD
  refine W.widen (k := 1) (n := 4096) (Nat.le_of_ble_eq_true rfl) (Nat.le_of_ble_eq_true rfl) ?_
  refine va_putF (D := (dC, dI)) (ci := 4) (v := .ref q8) (ty := .array .int) (C := R_M) (T := F_M) (N := 18) hx hb ht tu_M ft_M ft_M_ok n_M hown hK hP hD hS 0 rfl rfl 1 (by decide) (ht _ tw_533) (fun _ h9 => h9) rfl hin rfl (by decide +kernel) rfl rfl (Nat.le_of_ble_eq_true rfl) d_M_init_10 (fun H locs hP hD hS => ?_)
  have hP : va_P (dC, dI) clX [(y, .inr (4, [.int 0, .ref q8, .int 0, .int 0, .null, .int 0, .int 0, .int 0, .null, .int 0, .int 0, .int 0, .int 0, .int 0, .int 0, .int 0, .null, .null])), (q8, .inl (cI, 4096, .inl zF))] H := hP
  have hD : va_D A [(y, .inr (4, [.int 0, .ref q8, .int 0, .int 0, .null, .int 0, .int 0, .int 0, .null, .int 0, .int 0, .int 0, .int 0, .int 0, .int 0, .int 0, .null, .null])), (q8, .inl (cI, 4096, .inl zF))] := hD
  refine lv_aload_n hx hb d_M_init_13 rfl (lv_at hl 0 rfl) ?_
  refine lv_iconst (v := 1) hx hb d_M_init_14 (by decide) ?_
  refine va_put (D := (dC, dI)) (ci := 4) (v := .int 1) (ty := .int) (C := R_M) (T := F_M) (N := 18) hx hb ht tu_M ft_M ft_M_ok n_M hown hK hP hD hS 0 rfl rfl 2 (by decide) (ht _ tw_534) (fun _ h9 => h9) rfl (by decide +kernel) rfl rfl (Nat.le_of_ble_eq_true rfl) d_M_init_15 (fun H locs hP hD hS => ?_)
  have hP : va_P (dC, dI) clX [(y, .inr (4, [.int 0, .ref q8, .int 1, .int 0, .null, .int 0, .int 0, .int 0, .null, .int 0, .int 0, .int 0, .int 0, .int 0, .int 0, .int 0, .null, .null])), (q8, .inl (cI, 4096, .inl zF))] H := hP
  have hD : va_D A [(y, .inr (4, [.int 0, .ref q8, .int 1, .int 0, .null, .int 0, .int 0, .int 0, .null, .int 0, .int 0, .int 0, .int 0, .int 0, .int 0, .int 0, .null, .null])), (q8, .inl (cI, 4096, .inl zF))] := hD
  refine lv_aload_n hx hb d_M_init_18 rfl (lv_at hl 0 rfl) ?_
  refine lv_iconst (v := 1) hx hb d_M_init_19 (by decide) ?_
  refine va_put (D := (dC, dI)) (ci := 4) (v := .int 1) (ty := .int) (C := R_M) (T := F_M) (N := 18) hx hb ht tu_M ft_M ft_M_ok n_M hown hK hP hD hS 0 rfl rfl 3 (by decide) (ht _ tw_535) (fun _ h9 => h9) rfl (by decide +kernel) rfl rfl (Nat.le_of_ble_eq_true rfl) d_M_init_20 (fun H locs hP hD hS => ?_)
  have hP : va_P (dC, dI) clX [(y, .inr (4, [.int 0, .ref q8, .int 1, .int 1, .null, .int 0, .int 0, .int 0, .null, .int 0, .int 0, .int 0, .int 0, .int 0, .int 0, .int 0, .null, .null])), (q8, .inl (cI, 4096, .inl zF))] H := hP
  have hD : va_D A [(y, .inr (4, [.int 0, .ref q8, .int 1, .int 1, .null, .int 0, .int 0, .int 0, .null, .int 0, .int 0, .int 0, .int 0, .int 0, .int 0, .int 0, .null, .null])), (q8, .inl (cI, 4096, .inl zF))] := hD
  refine lv_aload_n hx hb d_M_init_23 rfl (lv_at hl 0 rfl) ?_
  refine lv_sipush (v := 4096) hx hb d_M_init_24 (by decide) ?_
  refine va_newa (atype := .int) hx hb (ht _ tw_109) (ty := .int) rfl hK hP hD hS hA (a0 := (4096, .inl zF)) (N' := 4096) (fun _ => rfl) (by decide +kernel) (by decide +kernel) (by decide) (Nat.le_of_ble_eq_true rfl) (Nat.le_of_ble_eq_true rfl) d_M_init_27 (fun q27 cA27 H hK hP hD hS => ?_)
  have e27 : cI = cA27 := k_same hK (i := 0) (j := 1) rfl rfl
  subst e27
  have hK : va_K (dC, dI) clX [(cI, .int)] s := hK.sub [0] rfl
  have hP : va_P (dC, dI) clX [(y, .inr (4, [.int 0, .ref q8, .int 1, .int 1, .null, .int 0, .int 0, .int 0, .null, .int 0, .int 0, .int 0, .int 0, .int 0, .int 0, .int 0, .null, .null])), (q8, .inl (cI, 4096, .inl zF)), (q27, .inl (cI, 4096, .inl zF))] H := hP
  have hD : va_D A [(y, .inr (4, [.int 0, .ref q8, .int 1, .int 1, .null, .int 0, .int 0, .int 0, .null, .int 0, .int 0, .int 0, .int 0, .int 0, .int 0, .int 0, .null, .null])), (q8, .inl (cI, 4096, .inl zF)), (q27, .inl (cI, 4096, .inl zF))] := hD
  refine W.widen (k := 2) (n := 8192) (Nat.le_of_ble_eq_true rfl) (Nat.le_of_ble_eq_true rfl) ?_
  refine va_putF (D := (dC, dI)) (ci := 4) (v := .ref q27) (ty := .array .int) (C := R_M) (T := F_M) (N := 18) hx hb ht tu_M ft_M ft_M_ok n_M hown hK hP hD hS 0 rfl rfl 4 (by decide) (ht _ tw_536) (fun _ h9 => h9) rfl hin rfl (by decide +kernel) rfl rfl (Nat.le_of_ble_eq_true rfl) d_M_init_29 (fun H locs hP hD hS => ?_)
  have hP : va_P (dC, dI) clX [(y, .inr (4, [.int 0, .ref q8, .int 1, .int 1, .ref q27, .int 0, .int 0, .int 0, .null, .int 0, .int 0, .int 0, .int 0, .int 0, .int 0, .int 0, .null, .null])), (q8, .inl (cI, 4096, .inl zF)), (q27, .inl (cI, 4096, .inl zF))] H := hP
  have hD : va_D A [(y, .inr (4, [.int 0, .ref q8, .int 1, .int 1, .ref q27, .int 0, .int 0, .int 0, .null, .int 0, .int 0, .int 0, .int 0, .int 0, .int 0, .int 0, .null, .null])), (q8, .inl (cI, 4096, .inl zF)), (q27, .inl (cI, 4096, .inl zF))] := hD
  refine lv_aload_n hx hb d_M_init_32 rfl (lv_at hl 0 rfl) ?_
  refine lv_iconst (v := 4) hx hb d_M_init_33 (by decide) ?_
  refine va_newa (atype := .int) hx hb (ht _ tw_109) (ty := .int) rfl hK hP hD hS hA (a0 := (4, .inl zF)) (N' := 4) (fun _ => rfl) (by decide +kernel) (by decide +kernel) (by decide) (Nat.le_of_ble_eq_true rfl) (Nat.le_of_ble_eq_true rfl) d_M_init_34 (fun q34 cA34 H hK hP hD hS => ?_)
  have e34 : cI = cA34 := k_same hK (i := 0) (j := 1) rfl rfl
  subst e34
  have hK : va_K (dC, dI) clX [(cI, .int)] s := hK.sub [0] rfl
  have hP : va_P (dC, dI) clX [(y, .inr (4, [.int 0, .ref q8, .int 1, .int 1, .ref q27, .int 0, .int 0, .int 0, .null, .int 0, .int 0, .int 0, .int 0, .int 0, .int 0, .int 0, .null, .null])), (q8, .inl (cI, 4096, .inl zF)), (q27, .inl (cI, 4096, .inl zF)), (q34, .inl (cI, 4, .inl zF))] H := hP
  have hD : va_D A [(y, .inr (4, [.int 0, .ref q8, .int 1, .int 1, .ref q27, .int 0, .int 0, .int 0, .null, .int 0, .int 0, .int 0, .int 0, .int 0, .int 0, .int 0, .null, .null])), (q8, .inl (cI, 4096, .inl zF)), (q27, .inl (cI, 4096, .inl zF)), (q34, .inl (cI, 4, .inl zF))] := hD
  refine W.widen (k := 3) (n := 8196) (Nat.le_of_ble_eq_true rfl) (Nat.le_of_ble_eq_true rfl) ?_
  refine va_putF (D := (dC, dI)) (ci := 4) (v := .ref q34) (ty := .array .int) (C := R_M) (T := F_M) (N := 18) hx hb ht tu_M ft_M ft_M_ok n_M hown hK hP hD hS 0 rfl rfl 8 (by decide) (ht _ tw_540) (fun _ h9 => h9) rfl hin rfl (by decide +kernel) rfl rfl (Nat.le_of_ble_eq_true rfl) d_M_init_36 (fun H locs hP hD hS => ?_)
  have hP : va_P (dC, dI) clX [(y, .inr (4, [.int 0, .ref q8, .int 1, .int 1, .ref q27, .int 0, .int 0, .int 0, .ref q34, .int 0, .int 0, .int 0, .int 0, .int 0, .int 0, .int 0, .null, .null])), (q8, .inl (cI, 4096, .inl zF)), (q27, .inl (cI, 4096, .inl zF)), (q34, .inl (cI, 4, .inl zF))] H := hP
  have hD : va_D A [(y, .inr (4, [.int 0, .ref q8, .int 1, .int 1, .ref q27, .int 0, .int 0, .int 0, .ref q34, .int 0, .int 0, .int 0, .int 0, .int 0, .int 0, .int 0, .null, .null])), (q8, .inl (cI, 4096, .inl zF)), (q27, .inl (cI, 4096, .inl zF)), (q34, .inl (cI, 4, .inl zF))] := hD
  refine lv_aload_n hx hb d_M_init_39 rfl (lv_at hl 0 rfl) ?_
  refine lv_iconst (v := (-1)) hx hb d_M_init_40 (by decide) ?_
  refine va_put (D := (dC, dI)) (ci := 4) (v := .int (-1)) (ty := .int) (C := R_M) (T := F_M) (N := 18) hx hb ht tu_M ft_M ft_M_ok n_M hown hK hP hD hS 0 rfl rfl 11 (by decide) (ht _ tw_543) (fun _ h9 => h9) rfl (by decide +kernel) rfl rfl (Nat.le_of_ble_eq_true rfl) d_M_init_41 (fun H locs hP hD hS => ?_)
  have hP : va_P (dC, dI) clX [(y, .inr (4, [.int 0, .ref q8, .int 1, .int 1, .ref q27, .int 0, .int 0, .int 0, .ref q34, .int 0, .int 0, .int (-1), .int 0, .int 0, .int 0, .int 0, .null, .null])), (q8, .inl (cI, 4096, .inl zF)), (q27, .inl (cI, 4096, .inl zF)), (q34, .inl (cI, 4, .inl zF))] H := hP
  have hD : va_D A [(y, .inr (4, [.int 0, .ref q8, .int 1, .int 1, .ref q27, .int 0, .int 0, .int 0, .ref q34, .int 0, .int 0, .int (-1), .int 0, .int 0, .int 0, .int 0, .null, .null])), (q8, .inl (cI, 4096, .inl zF)), (q27, .inl (cI, 4096, .inl zF)), (q34, .inl (cI, 4, .inl zF))] := hD
  refine lv_aload_n hx hb d_M_init_44 rfl (lv_at hl 0 rfl) ?_
  refine lv_iconst (v := (-1)) hx hb d_M_init_45 (by decide) ?_
  refine va_put (D := (dC, dI)) (ci := 4) (v := .int (-1)) (ty := .int) (C := R_M) (T := F_M) (N := 18) hx hb ht tu_M ft_M ft_M_ok n_M hown hK hP hD hS 0 rfl rfl 12 (by decide) (ht _ tw_544) (fun _ h9 => h9) rfl (by decide +kernel) rfl rfl (Nat.le_of_ble_eq_true rfl) d_M_init_46 (fun H locs hP hD hS => ?_)
  have hP : va_P (dC, dI) clX [(y, .inr (4, [.int 0, .ref q8, .int 1, .int 1, .ref q27, .int 0, .int 0, .int 0, .ref q34, .int 0, .int 0, .int (-1), .int (-1), .int 0, .int 0, .int 0, .null, .null])), (q8, .inl (cI, 4096, .inl zF)), (q27, .inl (cI, 4096, .inl zF)), (q34, .inl (cI, 4, .inl zF))] H := hP
  have hD : va_D A [(y, .inr (4, [.int 0, .ref q8, .int 1, .int 1, .ref q27, .int 0, .int 0, .int 0, .ref q34, .int 0, .int 0, .int (-1), .int (-1), .int 0, .int 0, .int 0, .null, .null])), (q8, .inl (cI, 4096, .inl zF)), (q27, .inl (cI, 4096, .inl zF)), (q34, .inl (cI, 4, .inl zF))] := hD
  refine lv_aload_n hx hb d_M_init_49 rfl (lv_at hl 0 rfl) ?_
  refine lv_iconst (v := (-1)) hx hb d_M_init_50 (by decide) ?_
  refine va_put (D := (dC, dI)) (ci := 4) (v := .int (-1)) (ty := .int) (C := R_M) (T := F_M) (N := 18) hx hb ht tu_M ft_M ft_M_ok n_M hown hK hP hD hS 0 rfl rfl 14 (by decide) (ht _ tw_546) (fun _ h9 => h9) rfl (by decide +kernel) rfl rfl (Nat.le_of_ble_eq_true rfl) d_M_init_51 (fun H locs hP hD hS => ?_)
  have hP : va_P (dC, dI) clX [(y, .inr (4, [.int 0, .ref q8, .int 1, .int 1, .ref q27, .int 0, .int 0, .int 0, .ref q34, .int 0, .int 0, .int (-1), .int (-1), .int 0, .int (-1), .int 0, .null, .null])), (q8, .inl (cI, 4096, .inl zF)), (q27, .inl (cI, 4096, .inl zF)), (q34, .inl (cI, 4, .inl zF))] H := hP
  have hD : va_D A [(y, .inr (4, [.int 0, .ref q8, .int 1, .int 1, .ref q27, .int 0, .int 0, .int 0, .ref q34, .int 0, .int 0, .int (-1), .int (-1), .int 0, .int (-1), .int 0, .null, .null])), (q8, .inl (cI, 4096, .inl zF)), (q27, .inl (cI, 4096, .inl zF)), (q34, .inl (cI, 4, .inl zF))] := hD
  refine lv_aload_n hx hb d_M_init_54 rfl (lv_at hl 0 rfl) ?_
  refine lv_sipush (v := 300) hx hb d_M_init_55 (by decide) ?_
  refine va_newa (atype := .int) hx hb (ht _ tw_109) (ty := .int) rfl hK hP hD hS hA (a0 := (300, .inl zF)) (N' := 300) (fun _ => rfl) (by decide +kernel) (by decide +kernel) (by decide) (Nat.le_of_ble_eq_true rfl) (Nat.le_of_ble_eq_true rfl) d_M_init_58 (fun q58 cA58 H hK hP hD hS => ?_)
  have e58 : cI = cA58 := k_same hK (i := 0) (j := 1) rfl rfl
  subst e58
  have hK : va_K (dC, dI) clX [(cI, .int)] s := hK.sub [0] rfl
  have hP : va_P (dC, dI) clX [(y, .inr (4, [.int 0, .ref q8, .int 1, .int 1, .ref q27, .int 0, .int 0, .int 0, .ref q34, .int 0, .int 0, .int (-1), .int (-1), .int 0, .int (-1), .int 0, .null, .null])), (q8, .inl (cI, 4096, .inl zF)), (q27, .inl (cI, 4096, .inl zF)), (q34, .inl (cI, 4, .inl zF)), (q58, .inl (cI, 300, .inl zF))] H := hP
  have hD : va_D A [(y, .inr (4, [.int 0, .ref q8, .int 1, .int 1, .ref q27, .int 0, .int 0, .int 0, .ref q34, .int 0, .int 0, .int (-1), .int (-1), .int 0, .int (-1), .int 0, .null, .null])), (q8, .inl (cI, 4096, .inl zF)), (q27, .inl (cI, 4096, .inl zF)), (q34, .inl (cI, 4, .inl zF)), (q58, .inl (cI, 300, .inl zF))] := hD
  refine W.widen (k := 4) (n := 8496) (Nat.le_of_ble_eq_true rfl) (Nat.le_of_ble_eq_true rfl) ?_
  refine va_putF (D := (dC, dI)) (ci := 4) (v := .ref q58) (ty := .array .int) (C := R_M) (T := F_M) (N := 18) hx hb ht tu_M ft_M ft_M_ok n_M hown hK hP hD hS 0 rfl rfl 16 (by decide) (ht _ tw_548) (fun _ h9 => h9) rfl hin rfl (by decide +kernel) rfl rfl (Nat.le_of_ble_eq_true rfl) d_M_init_60 (fun H locs hP hD hS => ?_)
  have hP : va_P (dC, dI) clX [(y, .inr (4, [.int 0, .ref q8, .int 1, .int 1, .ref q27, .int 0, .int 0, .int 0, .ref q34, .int 0, .int 0, .int (-1), .int (-1), .int 0, .int (-1), .int 0, .ref q58, .null])), (q8, .inl (cI, 4096, .inl zF)), (q27, .inl (cI, 4096, .inl zF)), (q34, .inl (cI, 4, .inl zF)), (q58, .inl (cI, 300, .inl zF))] H := hP
  have hD : va_D A [(y, .inr (4, [.int 0, .ref q8, .int 1, .int 1, .ref q27, .int 0, .int 0, .int 0, .ref q34, .int 0, .int 0, .int (-1), .int (-1), .int 0, .int (-1), .int 0, .ref q58, .null])), (q8, .inl (cI, 4096, .inl zF)), (q27, .inl (cI, 4096, .inl zF)), (q34, .inl (cI, 4, .inl zF)), (q58, .inl (cI, 300, .inl zF))] := hD
  refine lv_aload_n hx hb d_M_init_63 rfl (lv_at hl 0 rfl) ?_
  refine lv_sipush (v := 4160) hx hb d_M_init_64 (by decide) ?_
  refine va_newa (atype := .int) hx hb (ht _ tw_109) (ty := .int) rfl hK hP hD hS hA (a0 := (4160, .inl zF)) (N' := 4160) (fun _ => rfl) (by decide +kernel) (by decide +kernel) (by decide) (Nat.le_of_ble_eq_true rfl) (Nat.le_of_ble_eq_true rfl) d_M_init_67 (fun q67 cA67 H hK hP hD hS => ?_)
  have e67 : cI = cA67 := k_same hK (i := 0) (j := 1) rfl rfl
  subst e67
  have hK : va_K (dC, dI) clX [(cI, .int)] s := hK.sub [0] rfl
  have hP : va_P (dC, dI) clX [(y, .inr (4, [.int 0, .ref q8, .int 1, .int 1, .ref q27, .int 0, .int 0, .int 0, .ref q34, .int 0, .int 0, .int (-1), .int (-1), .int 0, .int (-1), .int 0, .ref q58, .null])), (q8, .inl (cI, 4096, .inl zF)), (q27, .inl (cI, 4096, .inl zF)), (q34, .inl (cI, 4, .inl zF)), (q58, .inl (cI, 300, .inl zF)), (q67, .inl (cI, 4160, .inl zF))] H := hP
  have hD : va_D A [(y, .inr (4, [.int 0, .ref q8, .int 1, .int 1, .ref q27, .int 0, .int 0, .int 0, .ref q34, .int 0, .int 0, .int (-1), .int (-1), .int 0, .int (-1), .int 0, .ref q58, .null])), (q8, .inl (cI, 4096, .inl zF)), (q27, .inl (cI, 4096, .inl zF)), (q34, .inl (cI, 4, .inl zF)), (q58, .inl (cI, 300, .inl zF)), (q67, .inl (cI, 4160, .inl zF))] := hD
  refine W.widen (k := 5) (n := 12656) (Nat.le_of_ble_eq_true rfl) (Nat.le_of_ble_eq_true rfl) ?_
  refine va_putF (D := (dC, dI)) (ci := 4) (v := .ref q67) (ty := .array .int) (C := R_M) (T := F_M) (N := 18) hx hb ht tu_M ft_M ft_M_ok n_M hown hK hP hD hS 0 rfl rfl 17 (by decide) (ht _ tw_549) (fun _ h9 => h9) rfl hin rfl (by decide +kernel) rfl rfl (Nat.le_of_ble_eq_true rfl) d_M_init_69 (fun H locs hP hD hS => ?_)
  have hP : va_P (dC, dI) clX [(y, .inr (4, [.int 0, .ref q8, .int 1, .int 1, .ref q27, .int 0, .int 0, .int 0, .ref q34, .int 0, .int 0, .int (-1), .int (-1), .int 0, .int (-1), .int 0, .ref q58, .ref q67])), (q8, .inl (cI, 4096, .inl zF)), (q27, .inl (cI, 4096, .inl zF)), (q34, .inl (cI, 4, .inl zF)), (q58, .inl (cI, 300, .inl zF)), (q67, .inl (cI, 4160, .inl zF))] H := hP
  have hD : va_D A [(y, .inr (4, [.int 0, .ref q8, .int 1, .int 1, .ref q27, .int 0, .int 0, .int 0, .ref q34, .int 0, .int 0, .int (-1), .int (-1), .int 0, .int (-1), .int 0, .ref q58, .ref q67])), (q8, .inl (cI, 4096, .inl zF)), (q27, .inl (cI, 4096, .inl zF)), (q34, .inl (cI, 4, .inl zF)), (q58, .inl (cI, 300, .inl zF)), (q67, .inl (cI, 4160, .inl zF))] := hD
  refine lv_aload_n hx hb d_M_init_72 rfl (lv_at hl 0 rfl) ?_
  refine mcVv (As := []) (rest := []) (wr := [(q8, .inl (cI, 4096, .inl zF)), (q27, .inl (cI, 4096, .inl zF)), (q34, .inl (cI, 4, .inl zF)), (q58, .inl (cI, 300, .inl zF))]) (c_M_nothingTold l dC dI tb y q8 q27 q34 q58 q67 0 1 1 0 0 0 0 0 (-1) (-1) 0 (-1) 0 zF cI ) F tw_521 tw_34 tw_520 tw_15 tw_518 hP hD [0, 5] [1, 2, 3, 4] rfl rfl (by decide) (by decide) (by decide) hK [0] rfl hE hS hA (q0 := 0) rfl rfl hd_M_nothingTold rfl rfl ⟨Nat.le_of_ble_eq_true rfl, Nat.le_of_ble_eq_true rfl⟩ ⟨Nat.le_of_ble_eq_true rfl, Nat.le_of_ble_eq_true rfl⟩ hl.1 rfl (Nat.le_of_ble_eq_true rfl) d_M_init_73 (fun H locs hP hD hS => ?_)
  have hP : va_P (dC, dI) clX [(q8, .inl (cI, 4096, .inl zF)), (q27, .inl (cI, 4096, .inl zF)), (q34, .inl (cI, 4, .inl zF)), (q58, .inl (cI, 300, .inl zF)), (y, .inr (4, [.int 0, .ref q8, .int 1, .int 1, .ref q27, .int 0, .int 0, .int 0, .ref q34, .int 0, .int 0, .int (-1), .int (-1), .int 0, .int (-1), .int 0, .ref q58, .ref q67])), (q67, .inl (cI, 4160, .inl (noT zF)))] H := hP
  have hD : va_D A [(q8, .inl (cI, 4096, .inl zF)), (q27, .inl (cI, 4096, .inl zF)), (q34, .inl (cI, 4, .inl zF)), (q58, .inl (cI, 300, .inl zF)), (y, .inr (4, [.int 0, .ref q8, .int 1, .int 1, .ref q27, .int 0, .int 0, .int 0, .ref q34, .int 0, .int 0, .int (-1), .int (-1), .int 0, .int (-1), .int 0, .ref q58, .ref q67])), (q67, .inl (cI, 4160, .inl (noT zF)))] := hD
  have hP9 := hP.sub (ws' := [(y, .inr (4, [.int 0, .ref q8, .int 1, .int 1, .ref q27, .int 0, .int 0, .int 0, .ref q34, .int 0, .int 0, .int (-1), .int (-1), .int 0, .int (-1), .int 0, .ref q58, .ref q67])), (q8, .inl (cI, 4096, .inl zF)), (q27, .inl (cI, 4096, .inl zF)), (q34, .inl (cI, 4, .inl zF)), (q58, .inl (cI, 300, .inl zF)), (q67, .inl (cI, 4160, .inl (noT zF)))]) [4, 0, 1, 2, 3, 5] rfl
  have hD9 := hD.sub (ws' := [(y, .inr (4, [.int 0, .ref q8, .int 1, .int 1, .ref q27, .int 0, .int 0, .int 0, .ref q34, .int 0, .int 0, .int (-1), .int (-1), .int 0, .int (-1), .int 0, .ref q58, .ref q67])), (q8, .inl (cI, 4096, .inl zF)), (q27, .inl (cI, 4096, .inl zF)), (q34, .inl (cI, 4, .inl zF)), (q58, .inl (cI, 300, .inl zF)), (q67, .inl (cI, 4160, .inl (noT zF)))]) [4, 0, 1, 2, 3, 5] (by decide) rfl
  exact W.vret hx hb hr (fun t ht9 hW => ⟨⟨(q8, q27, q34, q58, q67, cI), rfl, trivial, by rw [ht9]; exact hP9, va_K.moved hW.alike hK, hD9⟩, hS.F ht9⟩) hS.2.2 d_M_init_76
