abbrev LW (l : Launch) (y : MethodName) (w : List Cond) (rm : Room) (tb : tbT) (xs : Nat → Nat) (D : va_G) (av : List Value) (ws ws' : va_W) (tys : List (ClassId × FieldType)) (sz : Nat) (res : Int32) : Prop := Met l y w rm (va_Pc av (xP tb xs D ws tys sz)) (va_Qi (fun r (_ : Unit) => r = res) (mB D ws ws' tys sz) (va_A ws sz)) 1 6 (va_A ws sz)
theorem wdC_01 (mf : IF) (k9 v9 : Int32) : (wdC mf k9 v9).1 = 0 ∨ (wdC mf k9 v9).1 = 1 := by
  unfold wdC
  repeat' split
  all_goals first | exact Or.inl rfl | exact Or.inr rfl
theorem wdC_bad (mf : IF) (k9 v9 : Int32) (h : (wdC mf k9 v9).1 = 1) : wdC mf k9 v9 = (1, 0, mf) := by
  revert h
  unfold wdC
  repeat' split
  all_goals (intro h; first | rfl | exact absurd h ne01)
set_option maxHeartbeats 4000000 in
set_option maxRecDepth 100000 in
theorem c_L_word (l : Launch) (dC : Nat → ClassId) (dI : Nat → Nat → Nat) (tb : tbT) (hfl : l.stackTraces = false) (xs : Nat → Nat) (x me sm to co ru : Nat) (sl fw fh : Int32) (mf : IF) (cI : ClassId) (k9 v9 : Int32) (o : Nat) (of : Nat → Int64) (cJ : ClassId) (sz : Nat) : LW l y_L_word (Cond.codeWith y_L_word b_L_word 5 (some .int) [(0, 10, 13, 13)] :: TB) ({ frames := 7, cells := 1, slots := 6, locals := 113 }) tb xs (dC, dI) [.ref x, .int k9, .int v9, .ref o] [(x, .inr (3, [.ref me, .ref sm, .ref to, .ref co, .ref ru, .int sl, .int fw, .int fh])), (me, .inl (cI, 4096, .inl mf)), (o, .inl (cJ, 1, .inr (.inl of)))] [(x, .inr (3, [.ref me, .ref sm, .ref to, .ref co, .ref ru, .int sl, .int fw, .int fh])), (me, .inl (cI, 4096, .inl ((wdC mf k9 v9).2.2))), (o, .inl (cJ, 1, .inr (.inl (if (wdC mf k9 v9).1 = 1 then of else vp_updL of (0 : Int32).toNatClampNeg ((wdC mf k9 v9).2.1).toInt64))))] [(cI, .int), (cJ, .long)] sz ((wdC mf k9 v9).1) := by
  refine va_MetW (hh := [(0, 10, 13, 13)]) (cc := b_L_word) (maxL := 5) (ret := (some .int)) (by decide) rfl ?_
  intro p e s m args below meth c s₁ B hml hv
  obtain ⟨rfl, ⟨hsz, hP, hK, hD0, hE⟩, hX⟩ := hv
  have hx := B.exec
  have hb := B.bytes
  have hr := B.returns
  have ht := fun w (h : w ∈ TB) => atoms_spec (ws := Cond.codeWith y_L_word b_L_word 5 (some .int) [(0, 10, 13, 13)] :: TB) B.pre w (List.mem_cons_of_mem _ h)
  have hex := vx_table (x := y_L_word) B (atoms_spec (ws := Cond.codeWith y_L_word b_L_word 5 (some .int) [(0, 10, 13, 13)] :: TB) B.pre _ List.mem_cons_self)
  have hown : s.vm.findClass R_L = some m.cls := findClass_of_methodNamed B.named
  have hlocks := B.notSynchronized
  subst hsz
  have hD := hD0.self (sz := s.heap.size)
  generalize hAe : va_A [(x, .inr (3, [.ref me, .ref sm, .ref to, .ref co, .ref ru, .int sl, .int fw, .int fh])), (me, .inl (cI, 4096, .inl mf)), (o, .inl (cJ, 1, .inr (.inl of)))] s.heap.size = A at hD hE hX ⊢
  have hA : ∀ q : Nat, s.heap.size ≤ q → A q := fun q h => by rw [← hAe]; exact Or.inr h
  have hS : va_S A s.heap s.heap [] := va_S.rf
  have F : CallFix p m c b_L_word 5 s _ TB R_L := ⟨hx, hb, hml, hown, ht⟩
  have hl := lv_entry ([.ref x, .int k9, .int v9, .ref o]) (n := 5) (Nat.le_of_ble_eq_true rfl)
  rw [lg_entry_eq]
  generalize (lg_sl ([.ref x, .int k9, .int v9, .ref o]) ++ List.replicate (5 - (lg_sl ([.ref x, .int k9, .int v9, .ref o])).length) Slot.unset).toArray = ls at hl ⊢
  have hl : lv_has ls 5 [(0, .ref x), (1, .int k9), (2, .int v9), (3, .ref o)] := hl
  refine lv_aload_n hx hb d_L_word_0 rfl (lv_at hl 3 rfl) ?_
  refine lv_iconst (v := 0) hx hb d_L_word_1 (by decide) ?_
  refine lv_aload_n hx hb d_L_word_2 rfl (lv_at hl 0 rfl) ?_
  refine lv_iload_n hx hb d_L_word_3 rfl (lv_at hl 1 rfl) ?_
  refine lv_iload_n hx hb d_L_word_4 rfl (lv_at hl 2 rfl) ?_
  refine xcVi (As := [.int k9, .int v9]) (rest := [.int 0, .ref o]) (wr := [(o, .inl (cJ, 1, .inr (.inl of)))]) (c_D_word l dC dI tb hfl xs x me sm to co ru sl fw fh mf cI k9 v9) F tw_230 tw_28 tw_228 tw_229 tw_227 hP hD [0, 1] [2] rfl rfl (by decide) (by decide) (by decide) hK [0] rfl hE hX hS hA (q0 := 0) rfl rfl hd_D_word rfl rfl ⟨Nat.le_of_ble_eq_true rfl, Nat.le_of_ble_eq_true rfl⟩ ⟨Nat.le_of_ble_eq_true rfl, Nat.le_of_ble_eq_true rfl⟩ hl.1 rfl (Nat.le_of_ble_eq_true rfl) d_L_word_5 (fun hnb H locs hP hD hS => ?_) (fun hbd ce q9 H locs hP hD hS g1 g2 g3 => ?_)
  · have hP : va_P (dC, dI) clX [(o, .inl (cJ, 1, .inr (.inl of))), (x, .inr (3, [.ref me, .ref sm, .ref to, .ref co, .ref ru, .int sl, .int fw, .int fh])), (me, .inl (cI, 4096, .inl ((wdC mf k9 v9).2.2)))] H := hP
    have hD : va_D A [(o, .inl (cJ, 1, .inr (.inl of))), (x, .inr (3, [.ref me, .ref sm, .ref to, .ref co, .ref ru, .int sl, .int fw, .int fh])), (me, .inl (cI, 4096, .inl ((wdC mf k9 v9).2.2)))] := hD
    refine W.widen (k := 1) (n := 6) (Nat.le_of_ble_eq_true rfl) (Nat.le_of_ble_eq_true rfl) ?_
    refine lv_i2l (v := ((wdC mf k9 v9).2.1).toInt64) hx hb d_L_word_8 rfl ?_
    refine va_last hx hb hK hP hD hS 0 1 rfl rfl (by unfold vp_in; decide) d_L_word_9 (fun H locs hP hD hS => ?_)
    have hP : va_P (dC, dI) clX [(o, .inl (cJ, 1, .inr (.inl (vp_updL of (0 : Int32).toNatClampNeg (((wdC mf k9 v9).2.1).toInt64))))), (x, .inr (3, [.ref me, .ref sm, .ref to, .ref co, .ref ru, .int sl, .int fw, .int fh])), (me, .inl (cI, 4096, .inl ((wdC mf k9 v9).2.2)))] H := hP
    have hD : va_D A [(o, .inl (cJ, 1, .inr (.inl (vp_updL of (0 : Int32).toNatClampNeg (((wdC mf k9 v9).2.1).toInt64))))), (x, .inr (3, [.ref me, .ref sm, .ref to, .ref co, .ref ru, .int sl, .int fw, .int fh])), (me, .inl (cI, 4096, .inl ((wdC mf k9 v9).2.2)))] := hD
    refine lv_goto (tgt := 17) hx hb d_L_word_10 (by decide) ?_
    refine lv_iconst (v := 0) hx hb d_L_word_17 (by decide) ?_
    have hP9 := hP.sub (ws' := [(x, .inr (3, [.ref me, .ref sm, .ref to, .ref co, .ref ru, .int sl, .int fw, .int fh])), (me, .inl (cI, 4096, .inl ((wdC mf k9 v9).2.2))), (o, .inl (cJ, 1, .inr (.inl (vp_updL of (0 : Int32).toNatClampNeg (((wdC mf k9 v9).2.1).toInt64)))))]) [1, 2, 0] rfl
    have hD9 := hD.sub (ws' := [(x, .inr (3, [.ref me, .ref sm, .ref to, .ref co, .ref ru, .int sl, .int fw, .int fh])), (me, .inl (cI, 4096, .inl ((wdC mf k9 v9).2.2))), (o, .inl (cJ, 1, .inr (.inl (vp_updL of (0 : Int32).toNatClampNeg (((wdC mf k9 v9).2.1).toInt64)))))]) [1, 2, 0] (by decide) rfl
    exact W.iret hx hb hr (fun t ht9 hW => ⟨⟨_, (), rfl, ((wdC_01 mf k9 v9).resolve_right hnb).symm, by rw [ht9]; rw [if_neg hnb]; exact hP9, va_K.moved hW.alike hK, by rw [hAe]; rw [if_neg hnb]; exact hD9⟩, hS.F ht9⟩) hS.2.2 d_L_word_18
  · have hP : va_P (dC, dI) clX [(o, .inl (cJ, 1, .inr (.inl of))), (x, .inr (3, [.ref me, .ref sm, .ref to, .ref co, .ref ru, .int sl, .int fw, .int fh])), (me, .inl (cI, 4096, .inl mf))] H := hP
    have hD : va_D A [(o, .inl (cJ, 1, .inr (.inl of))), (x, .inr (3, [.ref me, .ref sm, .ref to, .ref co, .ref ru, .int sl, .int fw, .int fh])), (me, .inl (cI, 4096, .inl mf))] := hD
    refine vx_catch (own := R_L) (name := "java/lang/IndexOutOfBoundsException") hown [] ⟨0, 10, 13, 13⟩ [] (hex.trans rfl) (fun _ h => nomatch h) (by decide) (by decide) (ht _ tw_226) (cast_warm (Vm.Alike.refl _) (hX.1 _ (List.mem_of_getElem? (i := 0) rfl))) g1 g2 g3 ?_
    refine W.widen (k := 1) (n := 6) (Nat.le_of_ble_eq_true rfl) (Nat.le_of_ble_eq_true rfl) ?_
    refine lv_astore (lv' := [(4, .ref q9), (0, .ref x), (1, .int k9), (2, .int v9), (3, .ref o)]) hx hb d_L_word_13 hl (by decide) rfl (fun ls hl => ?_)
    refine lv_iconst (v := 1) hx hb d_L_word_15 (by decide) ?_
    have hP9 := hP.sub (ws' := [(x, .inr (3, [.ref me, .ref sm, .ref to, .ref co, .ref ru, .int sl, .int fw, .int fh])), (me, .inl (cI, 4096, .inl mf)), (o, .inl (cJ, 1, .inr (.inl of)))]) [1, 2, 0] rfl
    have hD9 := hD.sub (ws' := [(x, .inr (3, [.ref me, .ref sm, .ref to, .ref co, .ref ru, .int sl, .int fw, .int fh])), (me, .inl (cI, 4096, .inl mf)), (o, .inl (cJ, 1, .inr (.inl of)))]) [1, 2, 0] (by decide) rfl
    exact W.iret hx hb hr (fun t ht9 hW => ⟨⟨_, (), rfl, hbd.symm, by rw [ht9]; rw [if_pos hbd]; rw [wdC_bad _ _ _ hbd]; exact hP9, va_K.moved hW.alike hK, by rw [hAe]; rw [if_pos hbd]; rw [wdC_bad _ _ _ hbd]; exact hD9⟩, hS.F ht9⟩) hS.2.2 d_L_word_16
theorem frC_01 (fw fh k9 v9 : Int32) : (frC fw fh k9 v9).1 = 0 ∨ (frC fw fh k9 v9).1 = 1 := by
  unfold frC
  repeat' split
  all_goals first | exact Or.inl rfl | exact Or.inr rfl
theorem frC_bad (fw fh k9 v9 : Int32) (h : (frC fw fh k9 v9).1 = 1) : frC fw fh k9 v9 = (1, fw, fh) := by
  revert h
  unfold frC
  repeat' split
  all_goals (intro h; first | rfl | exact absurd h ne01)
set_option maxHeartbeats 4000000 in
set_option maxRecDepth 100000 in
theorem c_L_frame (l : Launch) (dC : Nat → ClassId) (dI : Nat → Nat → Nat) (tb : tbT) (hfl : l.stackTraces = false) (xs : Nat → Nat) (x me sm to co ru : Nat) (sl fw fh : Int32) (k9 v9 : Int32) (sz : Nat) : LW l y_L_frame (Cond.codeWith y_L_frame b_L_frame 4 (some .int) [(0, 6, 9, 19)] :: TB) ({ frames := 7, cells := 1, slots := 6, locals := 112 }) tb xs (dC, dI) [.ref x, .int k9, .int v9] [(x, .inr (3, [.ref me, .ref sm, .ref to, .ref co, .ref ru, .int sl, .int fw, .int fh]))] [(x, .inr (3, [.ref me, .ref sm, .ref to, .ref co, .ref ru, .int sl, .int ((frC fw fh k9 v9).2.1), .int ((frC fw fh k9 v9).2.2)]))] [] sz ((frC fw fh k9 v9).1) := by
  refine va_MetW (hh := [(0, 6, 9, 19)]) (cc := b_L_frame) (maxL := 4) (ret := (some .int)) (by decide) rfl ?_
  intro p e s m args below meth c s₁ B hml hv
  obtain ⟨rfl, ⟨hsz, hP, hK, hD0, hE⟩, hX⟩ := hv
  have hx := B.exec
  have hb := B.bytes
  have hr := B.returns
  have ht := fun w (h : w ∈ TB) => atoms_spec (ws := Cond.codeWith y_L_frame b_L_frame 4 (some .int) [(0, 6, 9, 19)] :: TB) B.pre w (List.mem_cons_of_mem _ h)
  have hex := vx_table (x := y_L_frame) B (atoms_spec (ws := Cond.codeWith y_L_frame b_L_frame 4 (some .int) [(0, 6, 9, 19)] :: TB) B.pre _ List.mem_cons_self)
  have hown : s.vm.findClass R_L = some m.cls := findClass_of_methodNamed B.named
  have hlocks := B.notSynchronized
  subst hsz
  have hD := hD0.self (sz := s.heap.size)
  generalize hAe : va_A [(x, .inr (3, [.ref me, .ref sm, .ref to, .ref co, .ref ru, .int sl, .int fw, .int fh]))] s.heap.size = A at hD hE hX ⊢
  have hA : ∀ q : Nat, s.heap.size ≤ q → A q := fun q h => by rw [← hAe]; exact Or.inr h
  have hS : va_S A s.heap s.heap [] := va_S.rf
  have F : CallFix p m c b_L_frame 4 s _ TB R_L := ⟨hx, hb, hml, hown, ht⟩
  have hl := lv_entry ([.ref x, .int k9, .int v9]) (n := 4) (Nat.le_of_ble_eq_true rfl)
  rw [lg_entry_eq]
  generalize (lg_sl ([.ref x, .int k9, .int v9]) ++ List.replicate (4 - (lg_sl ([.ref x, .int k9, .int v9])).length) Slot.unset).toArray = ls at hl ⊢
  have hl : lv_has ls 4 [(0, .ref x), (1, .int k9), (2, .int v9)] := hl
  refine lv_aload_n hx hb d_L_frame_0 rfl (lv_at hl 0 rfl) ?_
  refine lv_iload_n hx hb d_L_frame_1 rfl (lv_at hl 1 rfl) ?_
  refine lv_iload_n hx hb d_L_frame_2 rfl (lv_at hl 2 rfl) ?_
  refine xcVv (As := [.int k9, .int v9]) (rest := []) (wr := []) (c_D_frame l dC dI tb hfl xs x me sm to co ru sl fw fh k9 v9) F tw_309 tw_28 tw_307 tw_308 tw_306 hP hD [0] [] rfl rfl (by decide) (by decide) (by decide) hK [] rfl hE hX hS hA (q0 := 0) rfl rfl hd_D_frame rfl rfl ⟨Nat.le_of_ble_eq_true rfl, Nat.le_of_ble_eq_true rfl⟩ ⟨Nat.le_of_ble_eq_true rfl, Nat.le_of_ble_eq_true rfl⟩ hl.1 rfl (Nat.le_of_ble_eq_true rfl) d_L_frame_3 (fun hnb H locs hP hD hS => ?_) (fun hbd ce q9 H locs hP hD hS g1 g2 g3 => ?_)
  · have hP : va_P (dC, dI) clX [(x, .inr (3, [.ref me, .ref sm, .ref to, .ref co, .ref ru, .int sl, .int ((frC fw fh k9 v9).2.1), .int ((frC fw fh k9 v9).2.2)]))] H := hP
    have hD : va_D A [(x, .inr (3, [.ref me, .ref sm, .ref to, .ref co, .ref ru, .int sl, .int ((frC fw fh k9 v9).2.1), .int ((frC fw fh k9 v9).2.2)]))] := hD
    refine W.widen (k := 1) (n := 6) (Nat.le_of_ble_eq_true rfl) (Nat.le_of_ble_eq_true rfl) ?_
    refine lv_goto (tgt := 12) hx hb d_L_frame_6 (by decide) ?_
    refine lv_iconst (v := 0) hx hb d_L_frame_12 (by decide) ?_
    have hP9 := hP.sub (ws' := [(x, .inr (3, [.ref me, .ref sm, .ref to, .ref co, .ref ru, .int sl, .int ((frC fw fh k9 v9).2.1), .int ((frC fw fh k9 v9).2.2)]))]) [0] rfl
    have hD9 := hD.sub (ws' := [(x, .inr (3, [.ref me, .ref sm, .ref to, .ref co, .ref ru, .int sl, .int ((frC fw fh k9 v9).2.1), .int ((frC fw fh k9 v9).2.2)]))]) [0] (by decide) rfl
    exact W.iret hx hb hr (fun t ht9 hW => ⟨⟨_, (), rfl, ((frC_01 fw fh k9 v9).resolve_right hnb).symm, by rw [ht9]; exact hP9, va_K.moved hW.alike hK, by rw [hAe]; exact hD9⟩, hS.F ht9⟩) hS.2.2 d_L_frame_13
  · have hP : va_P (dC, dI) clX [(x, .inr (3, [.ref me, .ref sm, .ref to, .ref co, .ref ru, .int sl, .int fw, .int fh]))] H := hP
    have hD : va_D A [(x, .inr (3, [.ref me, .ref sm, .ref to, .ref co, .ref ru, .int sl, .int fw, .int fh]))] := hD
    refine vx_catch (own := R_L) (name := "java/lang/IllegalArgumentException") hown [] ⟨0, 6, 9, 19⟩ [] (hex.trans rfl) (fun _ h => nomatch h) (by decide) (by decide) (ht _ tw_305) (cast_warm (Vm.Alike.refl _) (hX.1 _ (List.mem_of_getElem? (i := 1) rfl))) g1 g2 g3 ?_
    refine W.widen (k := 1) (n := 6) (Nat.le_of_ble_eq_true rfl) (Nat.le_of_ble_eq_true rfl) ?_
    refine lv_astore_n (lv' := [(3, .ref q9), (0, .ref x), (1, .int k9), (2, .int v9)]) hx hb d_L_frame_9 rfl hl (by decide) rfl (fun ls hl => ?_)
    refine lv_iconst (v := 1) hx hb d_L_frame_10 (by decide) ?_
    have hP9 := hP.sub (ws' := [(x, .inr (3, [.ref me, .ref sm, .ref to, .ref co, .ref ru, .int sl, .int fw, .int fh]))]) [0] rfl
    have hD9 := hD.sub (ws' := [(x, .inr (3, [.ref me, .ref sm, .ref to, .ref co, .ref ru, .int sl, .int fw, .int fh]))]) [0] (by decide) rfl
    exact W.iret hx hb hr (fun t ht9 hW => ⟨⟨_, (), rfl, hbd.symm, by rw [ht9]; rw [frC_bad _ _ _ _ hbd]; exact hP9, va_K.moved hW.alike hK, by rw [hAe]; rw [frC_bad _ _ _ _ hbd]; exact hD9⟩, hS.F ht9⟩) hS.2.2 d_L_frame_11
theorem ptC_01 (sl : Int32) (qf : IF) (v9 : Int32) : (ptC sl qf v9).1 = 0 ∨ (ptC sl qf v9).1 = 1 := by
  unfold ptC
  repeat' split
  all_goals first | exact Or.inl rfl | exact Or.inr rfl
theorem ptC_bad (sl : Int32) (qf : IF) (v9 : Int32) (h : (ptC sl qf v9).1 = 1) : ptC sl qf v9 = (1, 0, sl, qf) := by
  revert h
  unfold ptC
  repeat' split
  all_goals (intro h; first | rfl | exact absurd h ne01)
set_option maxHeartbeats 4000000 in
set_option maxRecDepth 100000 in
theorem c_L_put (l : Launch) (dC : Nat → ClassId) (dI : Nat → Nat → Nat) (tb : tbT) (hfl : l.stackTraces = false) (xs : Nat → Nat) (x me sm to co ru : Nat) (sl fw fh : Int32) (qf : IF) (cI : ClassId) (v9 : Int32) (o : Nat) (of : Nat → Int64) (cJ : ClassId) (sz : Nat) : LW l y_L_put (Cond.codeWith y_L_put b_L_put 4 (some .int) [(0, 9, 12, 25)] :: TB) ({ frames := 7, cells := 1, slots := 6, locals := 111 }) tb xs (dC, dI) [.ref x, .int v9, .ref o] [(x, .inr (3, [.ref me, .ref sm, .ref to, .ref co, .ref ru, .int sl, .int fw, .int fh])), (sm, .inl (cI, 4096, .inl qf)), (o, .inl (cJ, 1, .inr (.inl of)))] [(x, .inr (3, [.ref me, .ref sm, .ref to, .ref co, .ref ru, .int ((ptC sl qf v9).2.2.1), .int fw, .int fh])), (sm, .inl (cI, 4096, .inl ((ptC sl qf v9).2.2.2))), (o, .inl (cJ, 1, .inr (.inl (if (ptC sl qf v9).1 = 1 then of else vp_updL of (0 : Int32).toNatClampNeg ((ptC sl qf v9).2.1).toInt64))))] [(cI, .int), (cJ, .long)] sz ((ptC sl qf v9).1) := by
  refine va_MetW (hh := [(0, 9, 12, 25)]) (cc := b_L_put) (maxL := 4) (ret := (some .int)) (by decide) rfl ?_
  intro p e s m args below meth c s₁ B hml hv
  obtain ⟨rfl, ⟨hsz, hP, hK, hD0, hE⟩, hX⟩ := hv
  have hx := B.exec
  have hb := B.bytes
  have hr := B.returns
  have ht := fun w (h : w ∈ TB) => atoms_spec (ws := Cond.codeWith y_L_put b_L_put 4 (some .int) [(0, 9, 12, 25)] :: TB) B.pre w (List.mem_cons_of_mem _ h)
  have hex := vx_table (x := y_L_put) B (atoms_spec (ws := Cond.codeWith y_L_put b_L_put 4 (some .int) [(0, 9, 12, 25)] :: TB) B.pre _ List.mem_cons_self)
  have hown : s.vm.findClass R_L = some m.cls := findClass_of_methodNamed B.named
  have hlocks := B.notSynchronized
  subst hsz
  have hD := hD0.self (sz := s.heap.size)
  generalize hAe : va_A [(x, .inr (3, [.ref me, .ref sm, .ref to, .ref co, .ref ru, .int sl, .int fw, .int fh])), (sm, .inl (cI, 4096, .inl qf)), (o, .inl (cJ, 1, .inr (.inl of)))] s.heap.size = A at hD hE hX ⊢
  have hA : ∀ q : Nat, s.heap.size ≤ q → A q := fun q h => by rw [← hAe]; exact Or.inr h
  have hS : va_S A s.heap s.heap [] := va_S.rf
  have F : CallFix p m c b_L_put 4 s _ TB R_L := ⟨hx, hb, hml, hown, ht⟩
  have hl := lv_entry ([.ref x, .int v9, .ref o]) (n := 4) (Nat.le_of_ble_eq_true rfl)
  rw [lg_entry_eq]
  generalize (lg_sl ([.ref x, .int v9, .ref o]) ++ List.replicate (4 - (lg_sl ([.ref x, .int v9, .ref o])).length) Slot.unset).toArray = ls at hl ⊢
  have hl : lv_has ls 4 [(0, .ref x), (1, .int v9), (2, .ref o)] := hl
  refine lv_aload_n hx hb d_L_put_0 rfl (lv_at hl 2 rfl) ?_
  refine lv_iconst (v := 0) hx hb d_L_put_1 (by decide) ?_
  refine lv_aload_n hx hb d_L_put_2 rfl (lv_at hl 0 rfl) ?_
  refine lv_iload_n hx hb d_L_put_3 rfl (lv_at hl 1 rfl) ?_
  refine xcVi (As := [.int v9]) (rest := [.int 0, .ref o]) (wr := [(o, .inl (cJ, 1, .inr (.inl of)))]) (c_D_put l dC dI tb hfl xs x me sm to co ru sl fw fh qf cI v9) F tw_333 tw_28 tw_331 tw_332 tw_330 hP hD [0, 1] [2] rfl rfl (by decide) (by decide) (by decide) hK [0] rfl hE hX hS hA (q0 := 0) rfl rfl hd_D_put rfl rfl ⟨Nat.le_of_ble_eq_true rfl, Nat.le_of_ble_eq_true rfl⟩ ⟨Nat.le_of_ble_eq_true rfl, Nat.le_of_ble_eq_true rfl⟩ hl.1 rfl (Nat.le_of_ble_eq_true rfl) d_L_put_4 (fun hnb H locs hP hD hS => ?_) (fun hbd ce q9 H locs hP hD hS g1 g2 g3 => ?_)
  · have hP : va_P (dC, dI) clX [(o, .inl (cJ, 1, .inr (.inl of))), (x, .inr (3, [.ref me, .ref sm, .ref to, .ref co, .ref ru, .int ((ptC sl qf v9).2.2.1), .int fw, .int fh])), (sm, .inl (cI, 4096, .inl ((ptC sl qf v9).2.2.2)))] H := hP
    have hD : va_D A [(o, .inl (cJ, 1, .inr (.inl of))), (x, .inr (3, [.ref me, .ref sm, .ref to, .ref co, .ref ru, .int ((ptC sl qf v9).2.2.1), .int fw, .int fh])), (sm, .inl (cI, 4096, .inl ((ptC sl qf v9).2.2.2)))] := hD
    refine W.widen (k := 1) (n := 6) (Nat.le_of_ble_eq_true rfl) (Nat.le_of_ble_eq_true rfl) ?_
    refine lv_i2l (v := ((ptC sl qf v9).2.1).toInt64) hx hb d_L_put_7 rfl ?_
    refine va_last hx hb hK hP hD hS 0 1 rfl rfl (by unfold vp_in; decide) d_L_put_8 (fun H locs hP hD hS => ?_)
    have hP : va_P (dC, dI) clX [(o, .inl (cJ, 1, .inr (.inl (vp_updL of (0 : Int32).toNatClampNeg (((ptC sl qf v9).2.1).toInt64))))), (x, .inr (3, [.ref me, .ref sm, .ref to, .ref co, .ref ru, .int ((ptC sl qf v9).2.2.1), .int fw, .int fh])), (sm, .inl (cI, 4096, .inl ((ptC sl qf v9).2.2.2)))] H := hP
    have hD : va_D A [(o, .inl (cJ, 1, .inr (.inl (vp_updL of (0 : Int32).toNatClampNeg (((ptC sl qf v9).2.1).toInt64))))), (x, .inr (3, [.ref me, .ref sm, .ref to, .ref co, .ref ru, .int ((ptC sl qf v9).2.2.1), .int fw, .int fh])), (sm, .inl (cI, 4096, .inl ((ptC sl qf v9).2.2.2)))] := hD
    refine lv_goto (tgt := 15) hx hb d_L_put_9 (by decide) ?_
    refine lv_iconst (v := 0) hx hb d_L_put_15 (by decide) ?_
    have hP9 := hP.sub (ws' := [(x, .inr (3, [.ref me, .ref sm, .ref to, .ref co, .ref ru, .int ((ptC sl qf v9).2.2.1), .int fw, .int fh])), (sm, .inl (cI, 4096, .inl ((ptC sl qf v9).2.2.2))), (o, .inl (cJ, 1, .inr (.inl (vp_updL of (0 : Int32).toNatClampNeg (((ptC sl qf v9).2.1).toInt64)))))]) [1, 2, 0] rfl
    have hD9 := hD.sub (ws' := [(x, .inr (3, [.ref me, .ref sm, .ref to, .ref co, .ref ru, .int ((ptC sl qf v9).2.2.1), .int fw, .int fh])), (sm, .inl (cI, 4096, .inl ((ptC sl qf v9).2.2.2))), (o, .inl (cJ, 1, .inr (.inl (vp_updL of (0 : Int32).toNatClampNeg (((ptC sl qf v9).2.1).toInt64)))))]) [1, 2, 0] (by decide) rfl
    exact W.iret hx hb hr (fun t ht9 hW => ⟨⟨_, (), rfl, ((ptC_01 sl qf v9).resolve_right hnb).symm, by rw [ht9]; rw [if_neg hnb]; exact hP9, va_K.moved hW.alike hK, by rw [hAe]; rw [if_neg hnb]; exact hD9⟩, hS.F ht9⟩) hS.2.2 d_L_put_16
  · have hP : va_P (dC, dI) clX [(o, .inl (cJ, 1, .inr (.inl of))), (x, .inr (3, [.ref me, .ref sm, .ref to, .ref co, .ref ru, .int sl, .int fw, .int fh])), (sm, .inl (cI, 4096, .inl qf))] H := hP
    have hD : va_D A [(o, .inl (cJ, 1, .inr (.inl of))), (x, .inr (3, [.ref me, .ref sm, .ref to, .ref co, .ref ru, .int sl, .int fw, .int fh])), (sm, .inl (cI, 4096, .inl qf))] := hD
    refine vx_catch (own := R_L) (name := "java/lang/UnsupportedOperationException") hown [] ⟨0, 9, 12, 25⟩ [] (hex.trans rfl) (fun _ h => nomatch h) (by decide) (by decide) (ht _ tw_329) (cast_warm (Vm.Alike.refl _) (hX.1 _ (List.mem_of_getElem? (i := 2) rfl))) g1 g2 g3 ?_
    refine W.widen (k := 1) (n := 6) (Nat.le_of_ble_eq_true rfl) (Nat.le_of_ble_eq_true rfl) ?_
    refine lv_astore_n (lv' := [(3, .ref q9), (0, .ref x), (1, .int v9), (2, .ref o)]) hx hb d_L_put_12 rfl hl (by decide) rfl (fun ls hl => ?_)
    refine lv_iconst (v := 1) hx hb d_L_put_13 (by decide) ?_
    have hP9 := hP.sub (ws' := [(x, .inr (3, [.ref me, .ref sm, .ref to, .ref co, .ref ru, .int sl, .int fw, .int fh])), (sm, .inl (cI, 4096, .inl qf)), (o, .inl (cJ, 1, .inr (.inl of)))]) [1, 2, 0] rfl
    have hD9 := hD.sub (ws' := [(x, .inr (3, [.ref me, .ref sm, .ref to, .ref co, .ref ru, .int sl, .int fw, .int fh])), (sm, .inl (cI, 4096, .inl qf)), (o, .inl (cJ, 1, .inr (.inl of)))]) [1, 2, 0] (by decide) rfl
    exact W.iret hx hb hr (fun t ht9 hW => ⟨⟨_, (), rfl, hbd.symm, by rw [ht9]; rw [if_pos hbd]; rw [ptC_bad _ _ _ hbd]; exact hP9, va_K.moved hW.alike hK, by rw [hAe]; rw [if_pos hbd]; rw [ptC_bad _ _ _ hbd]; exact hD9⟩, hS.F ht9⟩) hS.2.2 d_L_put_14
theorem nxC_01 (sl fw fh pl dp lp ld dn rf qu ov kd mn : Int32) (bf cf mf qf sf wf : IF) : (nxC sl fw fh pl dp lp ld dn rf qu ov kd mn bf cf mf qf sf wf).1 = 0 ∨ (nxC sl fw fh pl dp lp ld dn rf qu ov kd mn bf cf mf qf sf wf).1 = 1 := by
  unfold nxC
  repeat' split
  all_goals first | exact Or.inl rfl | exact Or.inr rfl
theorem nxC_bad (sl fw fh pl dp lp ld dn rf qu ov kd mn : Int32) (bf cf mf qf sf wf : IF) (h : (nxC sl fw fh pl dp lp ld dn rf qu ov kd mn bf cf mf qf sf wf).1 = 1) : nxC sl fw fh pl dp lp ld dn rf qu ov kd mn bf cf mf qf sf wf = (1, 0, kd, mn, pl, dp, lp, ld, dn, rf, qu, ov, bf, cf, wf, mf) := by
  revert h
  unfold nxC
  repeat' split
  all_goals (intro h; first | rfl | exact absurd h ne01)
set_option maxHeartbeats 4000000 in
set_option maxRecDepth 100000 in
theorem c_L_next (l : Launch) (dC : Nat → ClassId) (dI : Nat → Nat → Nat) (tb : tbT) (hfl : l.stackTraces = false) (xs : Nat → Nat) (x me sm to co ru : Nat) (sl fw fh : Int32) (bk : Nat) (pl dp lp ld dn rf qu ov : Int32) (bf : IF) (cw : Nat) (kd mn : Int32) (cf : IF) (cI : ClassId) (mf qf : IF) (sa wa : Nat) (sf wf : IF) (o : Nat) (of : Nat → Int64) (cJ : ClassId) (sz : Nat) : LW l y_L_next (Cond.codeWith y_L_next b_L_next 3 (some .int) [(0, 8, 11, 31)] :: TB) ({ frames := 8, cells := 1, slots := 6, locals := 170 }) tb xs (dC, dI) [.ref x, .ref o] [(x, .inr (3, [.ref me, .ref sm, .ref to, .ref co, .ref ru, .int sl, .int fw, .int fh])), (ru, .inr (1, [.ref bk, .int pl, .int dp, .int lp, .int ld, .int dn, .int rf, .int qu, .int ov])), (bk, .inl (cI, 4, .inl bf)), (co, .inr (0, [.ref cw, .int kd, .int mn])), (cw, .inl (cI, 258, .inl cf)), (to, .inr (2, [.ref sa, .ref wa])), (sa, .inl (cI, 26, .inl sf)), (wa, .inl (cI, 303, .inl wf)), (me, .inl (cI, 4096, .inl mf)), (sm, .inl (cI, 4096, .inl qf)), (o, .inl (cJ, 1, .inr (.inl of)))] [(x, .inr (3, [.ref me, .ref sm, .ref to, .ref co, .ref ru, .int sl, .int fw, .int fh])), (ru, .inr (1, [.ref bk, .int ((nxC sl fw fh pl dp lp ld dn rf qu ov kd mn bf cf mf qf sf wf).2.2.2.2.1), .int ((nxC sl fw fh pl dp lp ld dn rf qu ov kd mn bf cf mf qf sf wf).2.2.2.2.2.1), .int ((nxC sl fw fh pl dp lp ld dn rf qu ov kd mn bf cf mf qf sf wf).2.2.2.2.2.2.1), .int ((nxC sl fw fh pl dp lp ld dn rf qu ov kd mn bf cf mf qf sf wf).2.2.2.2.2.2.2.1), .int ((nxC sl fw fh pl dp lp ld dn rf qu ov kd mn bf cf mf qf sf wf).2.2.2.2.2.2.2.2.1), .int ((nxC sl fw fh pl dp lp ld dn rf qu ov kd mn bf cf mf qf sf wf).2.2.2.2.2.2.2.2.2.1), .int ((nxC sl fw fh pl dp lp ld dn rf qu ov kd mn bf cf mf qf sf wf).2.2.2.2.2.2.2.2.2.2.1), .int ((nxC sl fw fh pl dp lp ld dn rf qu ov kd mn bf cf mf qf sf wf).2.2.2.2.2.2.2.2.2.2.2.1)])), (bk, .inl (cI, 4, .inl ((nxC sl fw fh pl dp lp ld dn rf qu ov kd mn bf cf mf qf sf wf).2.2.2.2.2.2.2.2.2.2.2.2.1))), (co, .inr (0, [.ref cw, .int ((nxC sl fw fh pl dp lp ld dn rf qu ov kd mn bf cf mf qf sf wf).2.2.1), .int ((nxC sl fw fh pl dp lp ld dn rf qu ov kd mn bf cf mf qf sf wf).2.2.2.1)])), (cw, .inl (cI, 258, .inl ((nxC sl fw fh pl dp lp ld dn rf qu ov kd mn bf cf mf qf sf wf).2.2.2.2.2.2.2.2.2.2.2.2.2.1))), (to, .inr (2, [.ref sa, .ref wa])), (sa, .inl (cI, 26, .inl sf)), (wa, .inl (cI, 303, .inl ((nxC sl fw fh pl dp lp ld dn rf qu ov kd mn bf cf mf qf sf wf).2.2.2.2.2.2.2.2.2.2.2.2.2.2.1))), (me, .inl (cI, 4096, .inl ((nxC sl fw fh pl dp lp ld dn rf qu ov kd mn bf cf mf qf sf wf).2.2.2.2.2.2.2.2.2.2.2.2.2.2.2))), (sm, .inl (cI, 4096, .inl qf)), (o, .inl (cJ, 1, .inr (.inl (if (nxC sl fw fh pl dp lp ld dn rf qu ov kd mn bf cf mf qf sf wf).1 = 1 then of else vp_updL of (0 : Int32).toNatClampNeg ((nxC sl fw fh pl dp lp ld dn rf qu ov kd mn bf cf mf qf sf wf).2.1).toInt64))))] [(cI, .int), (cJ, .long)] sz ((nxC sl fw fh pl dp lp ld dn rf qu ov kd mn bf cf mf qf sf wf).1) := by
  refine va_MetW (hh := [(0, 8, 11, 31)]) (cc := b_L_next) (maxL := 3) (ret := (some .int)) (by decide) rfl ?_
  intro p e s m args below meth c s₁ B hml hv
  obtain ⟨rfl, ⟨hsz, hP, hK, hD0, hE⟩, hX⟩ := hv
  have hx := B.exec
  have hb := B.bytes
  have hr := B.returns
  have ht := fun w (h : w ∈ TB) => atoms_spec (ws := Cond.codeWith y_L_next b_L_next 3 (some .int) [(0, 8, 11, 31)] :: TB) B.pre w (List.mem_cons_of_mem _ h)
  have hex := vx_table (x := y_L_next) B (atoms_spec (ws := Cond.codeWith y_L_next b_L_next 3 (some .int) [(0, 8, 11, 31)] :: TB) B.pre _ List.mem_cons_self)
  have hown : s.vm.findClass R_L = some m.cls := findClass_of_methodNamed B.named
  have hlocks := B.notSynchronized
  subst hsz
  have hD := hD0.self (sz := s.heap.size)
  generalize hAe : va_A [(x, .inr (3, [.ref me, .ref sm, .ref to, .ref co, .ref ru, .int sl, .int fw, .int fh])), (ru, .inr (1, [.ref bk, .int pl, .int dp, .int lp, .int ld, .int dn, .int rf, .int qu, .int ov])), (bk, .inl (cI, 4, .inl bf)), (co, .inr (0, [.ref cw, .int kd, .int mn])), (cw, .inl (cI, 258, .inl cf)), (to, .inr (2, [.ref sa, .ref wa])), (sa, .inl (cI, 26, .inl sf)), (wa, .inl (cI, 303, .inl wf)), (me, .inl (cI, 4096, .inl mf)), (sm, .inl (cI, 4096, .inl qf)), (o, .inl (cJ, 1, .inr (.inl of)))] s.heap.size = A at hD hE hX ⊢
  have hA : ∀ q : Nat, s.heap.size ≤ q → A q := fun q h => by rw [← hAe]; exact Or.inr h
  have hS : va_S A s.heap s.heap [] := va_S.rf
  have F : CallFix p m c b_L_next 3 s _ TB R_L := ⟨hx, hb, hml, hown, ht⟩
  have hl := lv_entry ([.ref x, .ref o]) (n := 3) (Nat.le_of_ble_eq_true rfl)
  rw [lg_entry_eq]
  generalize (lg_sl ([.ref x, .ref o]) ++ List.replicate (3 - (lg_sl ([.ref x, .ref o])).length) Slot.unset).toArray = ls at hl ⊢
  have hl : lv_has ls 3 [(0, .ref x), (1, .ref o)] := hl
  refine lv_aload_n hx hb d_L_next_0 rfl (lv_at hl 1 rfl) ?_
  refine lv_iconst (v := 0) hx hb d_L_next_1 (by decide) ?_
  refine lv_aload_n hx hb d_L_next_2 rfl (lv_at hl 0 rfl) ?_
  refine xcVi (As := []) (rest := [.int 0, .ref o]) (wr := [(o, .inl (cJ, 1, .inr (.inl of)))]) (c_D_next l dC dI tb hfl xs x me sm to co ru sl fw fh bk pl dp lp ld dn rf qu ov bf cw kd mn cf cI mf qf sa wa sf wf) F tw_357 tw_28 tw_355 tw_356 tw_354 hP hD [0, 1, 2, 3, 4, 5, 6, 7, 8, 9] [10] rfl rfl (by decide) (by decide) (by decide) hK [0] rfl hE hX hS hA (q0 := 0) rfl rfl hd_D_next rfl rfl ⟨Nat.le_of_ble_eq_true rfl, Nat.le_of_ble_eq_true rfl⟩ ⟨Nat.le_of_ble_eq_true rfl, Nat.le_of_ble_eq_true rfl⟩ hl.1 rfl (Nat.le_of_ble_eq_true rfl) d_L_next_3 (fun hnb H locs hP hD hS => ?_) (fun hbd ce q9 H locs hP hD hS g1 g2 g3 => ?_)
  · have hP : va_P (dC, dI) clX [(o, .inl (cJ, 1, .inr (.inl of))), (x, .inr (3, [.ref me, .ref sm, .ref to, .ref co, .ref ru, .int sl, .int fw, .int fh])), (ru, .inr (1, [.ref bk, .int ((nxC sl fw fh pl dp lp ld dn rf qu ov kd mn bf cf mf qf sf wf).2.2.2.2.1), .int ((nxC sl fw fh pl dp lp ld dn rf qu ov kd mn bf cf mf qf sf wf).2.2.2.2.2.1), .int ((nxC sl fw fh pl dp lp ld dn rf qu ov kd mn bf cf mf qf sf wf).2.2.2.2.2.2.1), .int ((nxC sl fw fh pl dp lp ld dn rf qu ov kd mn bf cf mf qf sf wf).2.2.2.2.2.2.2.1), .int ((nxC sl fw fh pl dp lp ld dn rf qu ov kd mn bf cf mf qf sf wf).2.2.2.2.2.2.2.2.1), .int ((nxC sl fw fh pl dp lp ld dn rf qu ov kd mn bf cf mf qf sf wf).2.2.2.2.2.2.2.2.2.1), .int ((nxC sl fw fh pl dp lp ld dn rf qu ov kd mn bf cf mf qf sf wf).2.2.2.2.2.2.2.2.2.2.1), .int ((nxC sl fw fh pl dp lp ld dn rf qu ov kd mn bf cf mf qf sf wf).2.2.2.2.2.2.2.2.2.2.2.1)])), (bk, .inl (cI, 4, .inl ((nxC sl fw fh pl dp lp ld dn rf qu ov kd mn bf cf mf qf sf wf).2.2.2.2.2.2.2.2.2.2.2.2.1))), (co, .inr (0, [.ref cw, .int ((nxC sl fw fh pl dp lp ld dn rf qu ov kd mn bf cf mf qf sf wf).2.2.1), .int ((nxC sl fw fh pl dp lp ld dn rf qu ov kd mn bf cf mf qf sf wf).2.2.2.1)])), (cw, .inl (cI, 258, .inl ((nxC sl fw fh pl dp lp ld dn rf qu ov kd mn bf cf mf qf sf wf).2.2.2.2.2.2.2.2.2.2.2.2.2.1))), (to, .inr (2, [.ref sa, .ref wa])), (sa, .inl (cI, 26, .inl sf)), (wa, .inl (cI, 303, .inl ((nxC sl fw fh pl dp lp ld dn rf qu ov kd mn bf cf mf qf sf wf).2.2.2.2.2.2.2.2.2.2.2.2.2.2.1))), (me, .inl (cI, 4096, .inl ((nxC sl fw fh pl dp lp ld dn rf qu ov kd mn bf cf mf qf sf wf).2.2.2.2.2.2.2.2.2.2.2.2.2.2.2))), (sm, .inl (cI, 4096, .inl qf))] H := hP
    have hD : va_D A [(o, .inl (cJ, 1, .inr (.inl of))), (x, .inr (3, [.ref me, .ref sm, .ref to, .ref co, .ref ru, .int sl, .int fw, .int fh])), (ru, .inr (1, [.ref bk, .int ((nxC sl fw fh pl dp lp ld dn rf qu ov kd mn bf cf mf qf sf wf).2.2.2.2.1), .int ((nxC sl fw fh pl dp lp ld dn rf qu ov kd mn bf cf mf qf sf wf).2.2.2.2.2.1), .int ((nxC sl fw fh pl dp lp ld dn rf qu ov kd mn bf cf mf qf sf wf).2.2.2.2.2.2.1), .int ((nxC sl fw fh pl dp lp ld dn rf qu ov kd mn bf cf mf qf sf wf).2.2.2.2.2.2.2.1), .int ((nxC sl fw fh pl dp lp ld dn rf qu ov kd mn bf cf mf qf sf wf).2.2.2.2.2.2.2.2.1), .int ((nxC sl fw fh pl dp lp ld dn rf qu ov kd mn bf cf mf qf sf wf).2.2.2.2.2.2.2.2.2.1), .int ((nxC sl fw fh pl dp lp ld dn rf qu ov kd mn bf cf mf qf sf wf).2.2.2.2.2.2.2.2.2.2.1), .int ((nxC sl fw fh pl dp lp ld dn rf qu ov kd mn bf cf mf qf sf wf).2.2.2.2.2.2.2.2.2.2.2.1)])), (bk, .inl (cI, 4, .inl ((nxC sl fw fh pl dp lp ld dn rf qu ov kd mn bf cf mf qf sf wf).2.2.2.2.2.2.2.2.2.2.2.2.1))), (co, .inr (0, [.ref cw, .int ((nxC sl fw fh pl dp lp ld dn rf qu ov kd mn bf cf mf qf sf wf).2.2.1), .int ((nxC sl fw fh pl dp lp ld dn rf qu ov kd mn bf cf mf qf sf wf).2.2.2.1)])), (cw, .inl (cI, 258, .inl ((nxC sl fw fh pl dp lp ld dn rf qu ov kd mn bf cf mf qf sf wf).2.2.2.2.2.2.2.2.2.2.2.2.2.1))), (to, .inr (2, [.ref sa, .ref wa])), (sa, .inl (cI, 26, .inl sf)), (wa, .inl (cI, 303, .inl ((nxC sl fw fh pl dp lp ld dn rf qu ov kd mn bf cf mf qf sf wf).2.2.2.2.2.2.2.2.2.2.2.2.2.2.1))), (me, .inl (cI, 4096, .inl ((nxC sl fw fh pl dp lp ld dn rf qu ov kd mn bf cf mf qf sf wf).2.2.2.2.2.2.2.2.2.2.2.2.2.2.2))), (sm, .inl (cI, 4096, .inl qf))] := hD
    refine W.widen (k := 1) (n := 6) (Nat.le_of_ble_eq_true rfl) (Nat.le_of_ble_eq_true rfl) ?_
    refine lv_i2l (v := ((nxC sl fw fh pl dp lp ld dn rf qu ov kd mn bf cf mf qf sf wf).2.1).toInt64) hx hb d_L_next_6 rfl ?_
    refine va_last hx hb hK hP hD hS 0 1 rfl rfl (by unfold vp_in; decide) d_L_next_7 (fun H locs hP hD hS => ?_)
    have hP : va_P (dC, dI) clX [(o, .inl (cJ, 1, .inr (.inl (vp_updL of (0 : Int32).toNatClampNeg (((nxC sl fw fh pl dp lp ld dn rf qu ov kd mn bf cf mf qf sf wf).2.1).toInt64))))), (x, .inr (3, [.ref me, .ref sm, .ref to, .ref co, .ref ru, .int sl, .int fw, .int fh])), (ru, .inr (1, [.ref bk, .int ((nxC sl fw fh pl dp lp ld dn rf qu ov kd mn bf cf mf qf sf wf).2.2.2.2.1), .int ((nxC sl fw fh pl dp lp ld dn rf qu ov kd mn bf cf mf qf sf wf).2.2.2.2.2.1), .int ((nxC sl fw fh pl dp lp ld dn rf qu ov kd mn bf cf mf qf sf wf).2.2.2.2.2.2.1), .int ((nxC sl fw fh pl dp lp ld dn rf qu ov kd mn bf cf mf qf sf wf).2.2.2.2.2.2.2.1), .int ((nxC sl fw fh pl dp lp ld dn rf qu ov kd mn bf cf mf qf sf wf).2.2.2.2.2.2.2.2.1), .int ((nxC sl fw fh pl dp lp ld dn rf qu ov kd mn bf cf mf qf sf wf).2.2.2.2.2.2.2.2.2.1), .int ((nxC sl fw fh pl dp lp ld dn rf qu ov kd mn bf cf mf qf sf wf).2.2.2.2.2.2.2.2.2.2.1), .int ((nxC sl fw fh pl dp lp ld dn rf qu ov kd mn bf cf mf qf sf wf).2.2.2.2.2.2.2.2.2.2.2.1)])), (bk, .inl (cI, 4, .inl ((nxC sl fw fh pl dp lp ld dn rf qu ov kd mn bf cf mf qf sf wf).2.2.2.2.2.2.2.2.2.2.2.2.1))), (co, .inr (0, [.ref cw, .int ((nxC sl fw fh pl dp lp ld dn rf qu ov kd mn bf cf mf qf sf wf).2.2.1), .int ((nxC sl fw fh pl dp lp ld dn rf qu ov kd mn bf cf mf qf sf wf).2.2.2.1)])), (cw, .inl (cI, 258, .inl ((nxC sl fw fh pl dp lp ld dn rf qu ov kd mn bf cf mf qf sf wf).2.2.2.2.2.2.2.2.2.2.2.2.2.1))), (to, .inr (2, [.ref sa, .ref wa])), (sa, .inl (cI, 26, .inl sf)), (wa, .inl (cI, 303, .inl ((nxC sl fw fh pl dp lp ld dn rf qu ov kd mn bf cf mf qf sf wf).2.2.2.2.2.2.2.2.2.2.2.2.2.2.1))), (me, .inl (cI, 4096, .inl ((nxC sl fw fh pl dp lp ld dn rf qu ov kd mn bf cf mf qf sf wf).2.2.2.2.2.2.2.2.2.2.2.2.2.2.2))), (sm, .inl (cI, 4096, .inl qf))] H := hP
    have hD : va_D A [(o, .inl (cJ, 1, .inr (.inl (vp_updL of (0 : Int32).toNatClampNeg (((nxC sl fw fh pl dp lp ld dn rf qu ov kd mn bf cf mf qf sf wf).2.1).toInt64))))), (x, .inr (3, [.ref me, .ref sm, .ref to, .ref co, .ref ru, .int sl, .int fw, .int fh])), (ru, .inr (1, [.ref bk, .int ((nxC sl fw fh pl dp lp ld dn rf qu ov kd mn bf cf mf qf sf wf).2.2.2.2.1), .int ((nxC sl fw fh pl dp lp ld dn rf qu ov kd mn bf cf mf qf sf wf).2.2.2.2.2.1), .int ((nxC sl fw fh pl dp lp ld dn rf qu ov kd mn bf cf mf qf sf wf).2.2.2.2.2.2.1), .int ((nxC sl fw fh pl dp lp ld dn rf qu ov kd mn bf cf mf qf sf wf).2.2.2.2.2.2.2.1), .int ((nxC sl fw fh pl dp lp ld dn rf qu ov kd mn bf cf mf qf sf wf).2.2.2.2.2.2.2.2.1), .int ((nxC sl fw fh pl dp lp ld dn rf qu ov kd mn bf cf mf qf sf wf).2.2.2.2.2.2.2.2.2.1), .int ((nxC sl fw fh pl dp lp ld dn rf qu ov kd mn bf cf mf qf sf wf).2.2.2.2.2.2.2.2.2.2.1), .int ((nxC sl fw fh pl dp lp ld dn rf qu ov kd mn bf cf mf qf sf wf).2.2.2.2.2.2.2.2.2.2.2.1)])), (bk, .inl (cI, 4, .inl ((nxC sl fw fh pl dp lp ld dn rf qu ov kd mn bf cf mf qf sf wf).2.2.2.2.2.2.2.2.2.2.2.2.1))), (co, .inr (0, [.ref cw, .int ((nxC sl fw fh pl dp lp ld dn rf qu ov kd mn bf cf mf qf sf wf).2.2.1), .int ((nxC sl fw fh pl dp lp ld dn rf qu ov kd mn bf cf mf qf sf wf).2.2.2.1)])), (cw, .inl (cI, 258, .inl ((nxC sl fw fh pl dp lp ld dn rf qu ov kd mn bf cf mf qf sf wf).2.2.2.2.2.2.2.2.2.2.2.2.2.1))), (to, .inr (2, [.ref sa, .ref wa])), (sa, .inl (cI, 26, .inl sf)), (wa, .inl (cI, 303, .inl ((nxC sl fw fh pl dp lp ld dn rf qu ov kd mn bf cf mf qf sf wf).2.2.2.2.2.2.2.2.2.2.2.2.2.2.1))), (me, .inl (cI, 4096, .inl ((nxC sl fw fh pl dp lp ld dn rf qu ov kd mn bf cf mf qf sf wf).2.2.2.2.2.2.2.2.2.2.2.2.2.2.2))), (sm, .inl (cI, 4096, .inl qf))] := hD
    refine lv_goto (tgt := 14) hx hb d_L_next_8 (by decide) ?_
    refine lv_iconst (v := 0) hx hb d_L_next_14 (by decide) ?_
    have hP9 := hP.sub (ws' := [(x, .inr (3, [.ref me, .ref sm, .ref to, .ref co, .ref ru, .int sl, .int fw, .int fh])), (ru, .inr (1, [.ref bk, .int ((nxC sl fw fh pl dp lp ld dn rf qu ov kd mn bf cf mf qf sf wf).2.2.2.2.1), .int ((nxC sl fw fh pl dp lp ld dn rf qu ov kd mn bf cf mf qf sf wf).2.2.2.2.2.1), .int ((nxC sl fw fh pl dp lp ld dn rf qu ov kd mn bf cf mf qf sf wf).2.2.2.2.2.2.1), .int ((nxC sl fw fh pl dp lp ld dn rf qu ov kd mn bf cf mf qf sf wf).2.2.2.2.2.2.2.1), .int ((nxC sl fw fh pl dp lp ld dn rf qu ov kd mn bf cf mf qf sf wf).2.2.2.2.2.2.2.2.1), .int ((nxC sl fw fh pl dp lp ld dn rf qu ov kd mn bf cf mf qf sf wf).2.2.2.2.2.2.2.2.2.1), .int ((nxC sl fw fh pl dp lp ld dn rf qu ov kd mn bf cf mf qf sf wf).2.2.2.2.2.2.2.2.2.2.1), .int ((nxC sl fw fh pl dp lp ld dn rf qu ov kd mn bf cf mf qf sf wf).2.2.2.2.2.2.2.2.2.2.2.1)])), (bk, .inl (cI, 4, .inl ((nxC sl fw fh pl dp lp ld dn rf qu ov kd mn bf cf mf qf sf wf).2.2.2.2.2.2.2.2.2.2.2.2.1))), (co, .inr (0, [.ref cw, .int ((nxC sl fw fh pl dp lp ld dn rf qu ov kd mn bf cf mf qf sf wf).2.2.1), .int ((nxC sl fw fh pl dp lp ld dn rf qu ov kd mn bf cf mf qf sf wf).2.2.2.1)])), (cw, .inl (cI, 258, .inl ((nxC sl fw fh pl dp lp ld dn rf qu ov kd mn bf cf mf qf sf wf).2.2.2.2.2.2.2.2.2.2.2.2.2.1))), (to, .inr (2, [.ref sa, .ref wa])), (sa, .inl (cI, 26, .inl sf)), (wa, .inl (cI, 303, .inl ((nxC sl fw fh pl dp lp ld dn rf qu ov kd mn bf cf mf qf sf wf).2.2.2.2.2.2.2.2.2.2.2.2.2.2.1))), (me, .inl (cI, 4096, .inl ((nxC sl fw fh pl dp lp ld dn rf qu ov kd mn bf cf mf qf sf wf).2.2.2.2.2.2.2.2.2.2.2.2.2.2.2))), (sm, .inl (cI, 4096, .inl qf)), (o, .inl (cJ, 1, .inr (.inl (vp_updL of (0 : Int32).toNatClampNeg (((nxC sl fw fh pl dp lp ld dn rf qu ov kd mn bf cf mf qf sf wf).2.1).toInt64)))))]) [1, 2, 3, 4, 5, 6, 7, 8, 9, 10, 0] rfl
    have hD9 := hD.sub (ws' := [(x, .inr (3, [.ref me, .ref sm, .ref to, .ref co, .ref ru, .int sl, .int fw, .int fh])), (ru, .inr (1, [.ref bk, .int ((nxC sl fw fh pl dp lp ld dn rf qu ov kd mn bf cf mf qf sf wf).2.2.2.2.1), .int ((nxC sl fw fh pl dp lp ld dn rf qu ov kd mn bf cf mf qf sf wf).2.2.2.2.2.1), .int ((nxC sl fw fh pl dp lp ld dn rf qu ov kd mn bf cf mf qf sf wf).2.2.2.2.2.2.1), .int ((nxC sl fw fh pl dp lp ld dn rf qu ov kd mn bf cf mf qf sf wf).2.2.2.2.2.2.2.1), .int ((nxC sl fw fh pl dp lp ld dn rf qu ov kd mn bf cf mf qf sf wf).2.2.2.2.2.2.2.2.1), .int ((nxC sl fw fh pl dp lp ld dn rf qu ov kd mn bf cf mf qf sf wf).2.2.2.2.2.2.2.2.2.1), .int ((nxC sl fw fh pl dp lp ld dn rf qu ov kd mn bf cf mf qf sf wf).2.2.2.2.2.2.2.2.2.2.1), .int ((nxC sl fw fh pl dp lp ld dn rf qu ov kd mn bf cf mf qf sf wf).2.2.2.2.2.2.2.2.2.2.2.1)])), (bk, .inl (cI, 4, .inl ((nxC sl fw fh pl dp lp ld dn rf qu ov kd mn bf cf mf qf sf wf).2.2.2.2.2.2.2.2.2.2.2.2.1))), (co, .inr (0, [.ref cw, .int ((nxC sl fw fh pl dp lp ld dn rf qu ov kd mn bf cf mf qf sf wf).2.2.1), .int ((nxC sl fw fh pl dp lp ld dn rf qu ov kd mn bf cf mf qf sf wf).2.2.2.1)])), (cw, .inl (cI, 258, .inl ((nxC sl fw fh pl dp lp ld dn rf qu ov kd mn bf cf mf qf sf wf).2.2.2.2.2.2.2.2.2.2.2.2.2.1))), (to, .inr (2, [.ref sa, .ref wa])), (sa, .inl (cI, 26, .inl sf)), (wa, .inl (cI, 303, .inl ((nxC sl fw fh pl dp lp ld dn rf qu ov kd mn bf cf mf qf sf wf).2.2.2.2.2.2.2.2.2.2.2.2.2.2.1))), (me, .inl (cI, 4096, .inl ((nxC sl fw fh pl dp lp ld dn rf qu ov kd mn bf cf mf qf sf wf).2.2.2.2.2.2.2.2.2.2.2.2.2.2.2))), (sm, .inl (cI, 4096, .inl qf)), (o, .inl (cJ, 1, .inr (.inl (vp_updL of (0 : Int32).toNatClampNeg (((nxC sl fw fh pl dp lp ld dn rf qu ov kd mn bf cf mf qf sf wf).2.1).toInt64)))))]) [1, 2, 3, 4, 5, 6, 7, 8, 9, 10, 0] (by decide) rfl
    exact W.iret hx hb hr (fun t ht9 hW => ⟨⟨_, (), rfl, ((nxC_01 sl fw fh pl dp lp ld dn rf qu ov kd mn bf cf mf qf sf wf).resolve_right hnb).symm, by rw [ht9]; rw [if_neg hnb]; exact hP9, va_K.moved hW.alike hK, by rw [hAe]; rw [if_neg hnb]; exact hD9⟩, hS.F ht9⟩) hS.2.2 d_L_next_15
  · have hP : va_P (dC, dI) clX [(o, .inl (cJ, 1, .inr (.inl of))), (x, .inr (3, [.ref me, .ref sm, .ref to, .ref co, .ref ru, .int sl, .int fw, .int fh])), (ru, .inr (1, [.ref bk, .int pl, .int dp, .int lp, .int ld, .int dn, .int rf, .int qu, .int ov])), (bk, .inl (cI, 4, .inl bf)), (co, .inr (0, [.ref cw, .int kd, .int mn])), (cw, .inl (cI, 258, .inl cf)), (to, .inr (2, [.ref sa, .ref wa])), (sa, .inl (cI, 26, .inl sf)), (wa, .inl (cI, 303, .inl wf)), (me, .inl (cI, 4096, .inl mf)), (sm, .inl (cI, 4096, .inl qf))] H := hP
    have hD : va_D A [(o, .inl (cJ, 1, .inr (.inl of))), (x, .inr (3, [.ref me, .ref sm, .ref to, .ref co, .ref ru, .int sl, .int fw, .int fh])), (ru, .inr (1, [.ref bk, .int pl, .int dp, .int lp, .int ld, .int dn, .int rf, .int qu, .int ov])), (bk, .inl (cI, 4, .inl bf)), (co, .inr (0, [.ref cw, .int kd, .int mn])), (cw, .inl (cI, 258, .inl cf)), (to, .inr (2, [.ref sa, .ref wa])), (sa, .inl (cI, 26, .inl sf)), (wa, .inl (cI, 303, .inl wf)), (me, .inl (cI, 4096, .inl mf)), (sm, .inl (cI, 4096, .inl qf))] := hD
    refine vx_catch (own := R_L) (name := "java/lang/IllegalStateException") hown [] ⟨0, 8, 11, 31⟩ [] (hex.trans rfl) (fun _ h => nomatch h) (by decide) (by decide) (ht _ tw_353) (cast_warm (Vm.Alike.refl _) (hX.1 _ (List.mem_of_getElem? (i := 3) rfl))) g1 g2 g3 ?_
    refine W.widen (k := 1) (n := 6) (Nat.le_of_ble_eq_true rfl) (Nat.le_of_ble_eq_true rfl) ?_
    refine lv_astore_n (lv' := [(2, .ref q9), (0, .ref x), (1, .ref o)]) hx hb d_L_next_11 rfl hl (by decide) rfl (fun ls hl => ?_)
    refine lv_iconst (v := 1) hx hb d_L_next_12 (by decide) ?_
    have hP9 := hP.sub (ws' := [(x, .inr (3, [.ref me, .ref sm, .ref to, .ref co, .ref ru, .int sl, .int fw, .int fh])), (ru, .inr (1, [.ref bk, .int pl, .int dp, .int lp, .int ld, .int dn, .int rf, .int qu, .int ov])), (bk, .inl (cI, 4, .inl bf)), (co, .inr (0, [.ref cw, .int kd, .int mn])), (cw, .inl (cI, 258, .inl cf)), (to, .inr (2, [.ref sa, .ref wa])), (sa, .inl (cI, 26, .inl sf)), (wa, .inl (cI, 303, .inl wf)), (me, .inl (cI, 4096, .inl mf)), (sm, .inl (cI, 4096, .inl qf)), (o, .inl (cJ, 1, .inr (.inl of)))]) [1, 2, 3, 4, 5, 6, 7, 8, 9, 10, 0] rfl
    have hD9 := hD.sub (ws' := [(x, .inr (3, [.ref me, .ref sm, .ref to, .ref co, .ref ru, .int sl, .int fw, .int fh])), (ru, .inr (1, [.ref bk, .int pl, .int dp, .int lp, .int ld, .int dn, .int rf, .int qu, .int ov])), (bk, .inl (cI, 4, .inl bf)), (co, .inr (0, [.ref cw, .int kd, .int mn])), (cw, .inl (cI, 258, .inl cf)), (to, .inr (2, [.ref sa, .ref wa])), (sa, .inl (cI, 26, .inl sf)), (wa, .inl (cI, 303, .inl wf)), (me, .inl (cI, 4096, .inl mf)), (sm, .inl (cI, 4096, .inl qf)), (o, .inl (cJ, 1, .inr (.inl of)))]) [1, 2, 3, 4, 5, 6, 7, 8, 9, 10, 0] (by decide) rfl
    exact W.iret hx hb hr (fun t ht9 hW => ⟨⟨_, (), rfl, hbd.symm, by rw [ht9]; rw [if_pos hbd]; rw [nxC_bad _ _ _ _ _ _ _ _ _ _ _ _ _ _ _ _ _ _ _ hbd]; exact hP9, va_K.moved hW.alike hK, by rw [hAe]; rw [if_pos hbd]; rw [nxC_bad _ _ _ _ _ _ _ _ _ _ _ _ _ _ _ _ _ _ _ hbd]; exact hD9⟩, hS.F ht9⟩) hS.2.2 d_L_next_13
theorem arC_01 (mn : Int32) (cf : IF) (k9 : Int32) : (arC mn cf k9).1 = 0 ∨ (arC mn cf k9).1 = 1 := by
  unfold arC
  repeat' split
  all_goals first | exact Or.inl rfl | exact Or.inr rfl
theorem arC_bad (mn : Int32) (cf : IF) (k9 : Int32) (h : (arC mn cf k9).1 = 1) : arC mn cf k9 = (1, 0) := by
  revert h
  unfold arC
  repeat' split
  all_goals (intro h; first | rfl | exact absurd h ne01)
set_option maxHeartbeats 4000000 in
set_option maxRecDepth 100000 in
theorem c_L_argument (l : Launch) (dC : Nat → ClassId) (dI : Nat → Nat → Nat) (tb : tbT) (hfl : l.stackTraces = false) (xs : Nat → Nat) (x me sm to co ru : Nat) (sl fw fh : Int32) (cw : Nat) (kd mn : Int32) (cf : IF) (cI : ClassId) (k9 : Int32) (o : Nat) (of : Nat → Int64) (cJ : ClassId) (sz : Nat) : LW l y_L_argument (Cond.codeWith y_L_argument b_L_argument 4 (some .int) [(0, 9, 12, 13)] :: TB) ({ frames := 7, cells := 1, slots := 6, locals := 111 }) tb xs (dC, dI) [.ref x, .int k9, .ref o] [(x, .inr (3, [.ref me, .ref sm, .ref to, .ref co, .ref ru, .int sl, .int fw, .int fh])), (co, .inr (0, [.ref cw, .int kd, .int mn])), (cw, .inl (cI, 258, .inl cf)), (o, .inl (cJ, 1, .inr (.inl of)))] [(x, .inr (3, [.ref me, .ref sm, .ref to, .ref co, .ref ru, .int sl, .int fw, .int fh])), (co, .inr (0, [.ref cw, .int kd, .int mn])), (cw, .inl (cI, 258, .inl cf)), (o, .inl (cJ, 1, .inr (.inl (if (arC mn cf k9).1 = 1 then of else vp_updL of (0 : Int32).toNatClampNeg ((arC mn cf k9).2).toInt64))))] [(cI, .int), (cJ, .long)] sz ((arC mn cf k9).1) := by
  refine va_MetW (hh := [(0, 9, 12, 13)]) (cc := b_L_argument) (maxL := 4) (ret := (some .int)) (by decide) rfl ?_
  intro p e s m args below meth c s₁ B hml hv
  obtain ⟨rfl, ⟨hsz, hP, hK, hD0, hE⟩, hX⟩ := hv
  have hx := B.exec
  have hb := B.bytes
  have hr := B.returns
  have ht := fun w (h : w ∈ TB) => atoms_spec (ws := Cond.codeWith y_L_argument b_L_argument 4 (some .int) [(0, 9, 12, 13)] :: TB) B.pre w (List.mem_cons_of_mem _ h)
  have hex := vx_table (x := y_L_argument) B (atoms_spec (ws := Cond.codeWith y_L_argument b_L_argument 4 (some .int) [(0, 9, 12, 13)] :: TB) B.pre _ List.mem_cons_self)
  have hown : s.vm.findClass R_L = some m.cls := findClass_of_methodNamed B.named
  have hlocks := B.notSynchronized
  subst hsz
  have hD := hD0.self (sz := s.heap.size)
  generalize hAe : va_A [(x, .inr (3, [.ref me, .ref sm, .ref to, .ref co, .ref ru, .int sl, .int fw, .int fh])), (co, .inr (0, [.ref cw, .int kd, .int mn])), (cw, .inl (cI, 258, .inl cf)), (o, .inl (cJ, 1, .inr (.inl of)))] s.heap.size = A at hD hE hX ⊢
  have hA : ∀ q : Nat, s.heap.size ≤ q → A q := fun q h => by rw [← hAe]; exact Or.inr h
  have hS : va_S A s.heap s.heap [] := va_S.rf
  have F : CallFix p m c b_L_argument 4 s _ TB R_L := ⟨hx, hb, hml, hown, ht⟩
  have hl := lv_entry ([.ref x, .int k9, .ref o]) (n := 4) (Nat.le_of_ble_eq_true rfl)
  rw [lg_entry_eq]
  generalize (lg_sl ([.ref x, .int k9, .ref o]) ++ List.replicate (4 - (lg_sl ([.ref x, .int k9, .ref o])).length) Slot.unset).toArray = ls at hl ⊢
  have hl : lv_has ls 4 [(0, .ref x), (1, .int k9), (2, .ref o)] := hl
  refine lv_aload_n hx hb d_L_argument_0 rfl (lv_at hl 2 rfl) ?_
  refine lv_iconst (v := 0) hx hb d_L_argument_1 (by decide) ?_
  refine lv_aload_n hx hb d_L_argument_2 rfl (lv_at hl 0 rfl) ?_
  refine lv_iload_n hx hb d_L_argument_3 rfl (lv_at hl 1 rfl) ?_
  refine xcVi (As := [.int k9]) (rest := [.int 0, .ref o]) (wr := [(o, .inl (cJ, 1, .inr (.inl of)))]) (c_D_argument l dC dI tb hfl xs x me sm to co ru sl fw fh cw kd mn cf cI k9) F tw_492 tw_28 tw_490 tw_491 tw_489 hP hD [0, 1, 2] [3] rfl rfl (by decide) (by decide) (by decide) hK [0] rfl hE hX hS hA (q0 := 0) rfl rfl hd_D_argument rfl rfl ⟨Nat.le_of_ble_eq_true rfl, Nat.le_of_ble_eq_true rfl⟩ ⟨Nat.le_of_ble_eq_true rfl, Nat.le_of_ble_eq_true rfl⟩ hl.1 rfl (Nat.le_of_ble_eq_true rfl) d_L_argument_4 (fun hnb H locs hP hD hS => ?_) (fun hbd ce q9 H locs hP hD hS g1 g2 g3 => ?_)
  · have hP : va_P (dC, dI) clX [(o, .inl (cJ, 1, .inr (.inl of))), (x, .inr (3, [.ref me, .ref sm, .ref to, .ref co, .ref ru, .int sl, .int fw, .int fh])), (co, .inr (0, [.ref cw, .int kd, .int mn])), (cw, .inl (cI, 258, .inl cf))] H := hP
    have hD : va_D A [(o, .inl (cJ, 1, .inr (.inl of))), (x, .inr (3, [.ref me, .ref sm, .ref to, .ref co, .ref ru, .int sl, .int fw, .int fh])), (co, .inr (0, [.ref cw, .int kd, .int mn])), (cw, .inl (cI, 258, .inl cf))] := hD
    refine W.widen (k := 1) (n := 6) (Nat.le_of_ble_eq_true rfl) (Nat.le_of_ble_eq_true rfl) ?_
    refine lv_i2l (v := ((arC mn cf k9).2).toInt64) hx hb d_L_argument_7 rfl ?_
    refine va_last hx hb hK hP hD hS 0 1 rfl rfl (by unfold vp_in; decide) d_L_argument_8 (fun H locs hP hD hS => ?_)
    have hP : va_P (dC, dI) clX [(o, .inl (cJ, 1, .inr (.inl (vp_updL of (0 : Int32).toNatClampNeg (((arC mn cf k9).2).toInt64))))), (x, .inr (3, [.ref me, .ref sm, .ref to, .ref co, .ref ru, .int sl, .int fw, .int fh])), (co, .inr (0, [.ref cw, .int kd, .int mn])), (cw, .inl (cI, 258, .inl cf))] H := hP
    have hD : va_D A [(o, .inl (cJ, 1, .inr (.inl (vp_updL of (0 : Int32).toNatClampNeg (((arC mn cf k9).2).toInt64))))), (x, .inr (3, [.ref me, .ref sm, .ref to, .ref co, .ref ru, .int sl, .int fw, .int fh])), (co, .inr (0, [.ref cw, .int kd, .int mn])), (cw, .inl (cI, 258, .inl cf))] := hD
    refine lv_goto (tgt := 15) hx hb d_L_argument_9 (by decide) ?_
    refine lv_iconst (v := 0) hx hb d_L_argument_15 (by decide) ?_
    have hP9 := hP.sub (ws' := [(x, .inr (3, [.ref me, .ref sm, .ref to, .ref co, .ref ru, .int sl, .int fw, .int fh])), (co, .inr (0, [.ref cw, .int kd, .int mn])), (cw, .inl (cI, 258, .inl cf)), (o, .inl (cJ, 1, .inr (.inl (vp_updL of (0 : Int32).toNatClampNeg (((arC mn cf k9).2).toInt64)))))]) [1, 2, 3, 0] rfl
    have hD9 := hD.sub (ws' := [(x, .inr (3, [.ref me, .ref sm, .ref to, .ref co, .ref ru, .int sl, .int fw, .int fh])), (co, .inr (0, [.ref cw, .int kd, .int mn])), (cw, .inl (cI, 258, .inl cf)), (o, .inl (cJ, 1, .inr (.inl (vp_updL of (0 : Int32).toNatClampNeg (((arC mn cf k9).2).toInt64)))))]) [1, 2, 3, 0] (by decide) rfl
    exact W.iret hx hb hr (fun t ht9 hW => ⟨⟨_, (), rfl, ((arC_01 mn cf k9).resolve_right hnb).symm, by rw [ht9]; rw [if_neg hnb]; exact hP9, va_K.moved hW.alike hK, by rw [hAe]; rw [if_neg hnb]; exact hD9⟩, hS.F ht9⟩) hS.2.2 d_L_argument_16
  · have hP : va_P (dC, dI) clX [(o, .inl (cJ, 1, .inr (.inl of))), (x, .inr (3, [.ref me, .ref sm, .ref to, .ref co, .ref ru, .int sl, .int fw, .int fh])), (co, .inr (0, [.ref cw, .int kd, .int mn])), (cw, .inl (cI, 258, .inl cf))] H := hP
    have hD : va_D A [(o, .inl (cJ, 1, .inr (.inl of))), (x, .inr (3, [.ref me, .ref sm, .ref to, .ref co, .ref ru, .int sl, .int fw, .int fh])), (co, .inr (0, [.ref cw, .int kd, .int mn])), (cw, .inl (cI, 258, .inl cf))] := hD
    refine vx_catch (own := R_L) (name := "java/lang/IndexOutOfBoundsException") hown [] ⟨0, 9, 12, 13⟩ [] (hex.trans rfl) (fun _ h => nomatch h) (by decide) (by decide) (ht _ tw_226) (cast_warm (Vm.Alike.refl _) (hX.1 _ (List.mem_of_getElem? (i := 0) rfl))) g1 g2 g3 ?_
    refine W.widen (k := 1) (n := 6) (Nat.le_of_ble_eq_true rfl) (Nat.le_of_ble_eq_true rfl) ?_
    refine lv_astore_n (lv' := [(3, .ref q9), (0, .ref x), (1, .int k9), (2, .ref o)]) hx hb d_L_argument_12 rfl hl (by decide) rfl (fun ls hl => ?_)
    refine lv_iconst (v := 1) hx hb d_L_argument_13 (by decide) ?_
    have hP9 := hP.sub (ws' := [(x, .inr (3, [.ref me, .ref sm, .ref to, .ref co, .ref ru, .int sl, .int fw, .int fh])), (co, .inr (0, [.ref cw, .int kd, .int mn])), (cw, .inl (cI, 258, .inl cf)), (o, .inl (cJ, 1, .inr (.inl of)))]) [1, 2, 3, 0] rfl
    have hD9 := hD.sub (ws' := [(x, .inr (3, [.ref me, .ref sm, .ref to, .ref co, .ref ru, .int sl, .int fw, .int fh])), (co, .inr (0, [.ref cw, .int kd, .int mn])), (cw, .inl (cI, 258, .inl cf)), (o, .inl (cJ, 1, .inr (.inl of)))]) [1, 2, 3, 0] (by decide) rfl
    exact W.iret hx hb hr (fun t ht9 hW => ⟨⟨_, (), rfl, hbd.symm, by rw [ht9]; rw [if_pos hbd]; exact hP9, va_K.moved hW.alike hK, by rw [hAe]; rw [if_pos hbd]; exact hD9⟩, hS.F ht9⟩) hS.2.2 d_L_argument_14
theorem kpC_01 (sf wf : IF) (d9 n9 k9 : Int32) : (kpC sf wf d9 n9 k9).1 = 0 ∨ (kpC sf wf d9 n9 k9).1 = 1 := by
  unfold kpC
  repeat' split
  all_goals first | exact Or.inl rfl | exact Or.inr rfl
theorem kpC_bad (sf wf : IF) (d9 n9 k9 : Int32) (h : (kpC sf wf d9 n9 k9).1 = 1) : kpC sf wf d9 n9 k9 = (1, 0) := by
  revert h
  unfold kpC
  repeat' split
  all_goals (intro h; first | rfl | exact absurd h ne01)
set_option maxHeartbeats 4000000 in
set_option maxRecDepth 100000 in
theorem c_L_kept (l : Launch) (dC : Nat → ClassId) (dI : Nat → Nat → Nat) (tb : tbT) (hfl : l.stackTraces = false) (xs : Nat → Nat) (x me sm to co ru : Nat) (sl fw fh : Int32) (sa wa : Nat) (sf wf : IF) (cI : ClassId) (d9 n9 k9 : Int32) (o : Nat) (of : Nat → Int64) (cJ : ClassId) (sz : Nat) : LW l y_L_kept (Cond.codeWith y_L_kept b_L_kept 6 (some .int) [(0, 12, 15, 19)] :: TB) ({ frames := 7, cells := 1, slots := 6, locals := 113 }) tb xs (dC, dI) [.ref x, .int d9, .int n9, .int k9, .ref o] [(x, .inr (3, [.ref me, .ref sm, .ref to, .ref co, .ref ru, .int sl, .int fw, .int fh])), (to, .inr (2, [.ref sa, .ref wa])), (sa, .inl (cI, 26, .inl sf)), (wa, .inl (cI, 303, .inl wf)), (o, .inl (cJ, 1, .inr (.inl of)))] [(x, .inr (3, [.ref me, .ref sm, .ref to, .ref co, .ref ru, .int sl, .int fw, .int fh])), (to, .inr (2, [.ref sa, .ref wa])), (sa, .inl (cI, 26, .inl sf)), (wa, .inl (cI, 303, .inl wf)), (o, .inl (cJ, 1, .inr (.inl (if (kpC sf wf d9 n9 k9).1 = 1 then of else vp_updL of (0 : Int32).toNatClampNeg ((kpC sf wf d9 n9 k9).2).toInt64))))] [(cI, .int), (cJ, .long)] sz ((kpC sf wf d9 n9 k9).1) := by
  refine va_MetW (hh := [(0, 12, 15, 19)]) (cc := b_L_kept) (maxL := 6) (ret := (some .int)) (by decide) rfl ?_
  intro p e s m args below meth c s₁ B hml hv
  obtain ⟨rfl, ⟨hsz, hP, hK, hD0, hE⟩, hX⟩ := hv
  have hx := B.exec
  have hb := B.bytes
  have hr := B.returns
  have ht := fun w (h : w ∈ TB) => atoms_spec (ws := Cond.codeWith y_L_kept b_L_kept 6 (some .int) [(0, 12, 15, 19)] :: TB) B.pre w (List.mem_cons_of_mem _ h)
  have hex := vx_table (x := y_L_kept) B (atoms_spec (ws := Cond.codeWith y_L_kept b_L_kept 6 (some .int) [(0, 12, 15, 19)] :: TB) B.pre _ List.mem_cons_self)
  have hown : s.vm.findClass R_L = some m.cls := findClass_of_methodNamed B.named
  have hlocks := B.notSynchronized
  subst hsz
  have hD := hD0.self (sz := s.heap.size)
  generalize hAe : va_A [(x, .inr (3, [.ref me, .ref sm, .ref to, .ref co, .ref ru, .int sl, .int fw, .int fh])), (to, .inr (2, [.ref sa, .ref wa])), (sa, .inl (cI, 26, .inl sf)), (wa, .inl (cI, 303, .inl wf)), (o, .inl (cJ, 1, .inr (.inl of)))] s.heap.size = A at hD hE hX ⊢
  have hA : ∀ q : Nat, s.heap.size ≤ q → A q := fun q h => by rw [← hAe]; exact Or.inr h
  have hS : va_S A s.heap s.heap [] := va_S.rf
  have F : CallFix p m c b_L_kept 6 s _ TB R_L := ⟨hx, hb, hml, hown, ht⟩
  have hl := lv_entry ([.ref x, .int d9, .int n9, .int k9, .ref o]) (n := 6) (Nat.le_of_ble_eq_true rfl)
  rw [lg_entry_eq]
  generalize (lg_sl ([.ref x, .int d9, .int n9, .int k9, .ref o]) ++ List.replicate (6 - (lg_sl ([.ref x, .int d9, .int n9, .int k9, .ref o])).length) Slot.unset).toArray = ls at hl ⊢
  have hl : lv_has ls 6 [(0, .ref x), (1, .int d9), (2, .int n9), (3, .int k9), (4, .ref o)] := hl
  refine lv_aload hx hb d_L_kept_0 (lv_at hl 4 rfl) ?_
  refine lv_iconst (v := 0) hx hb d_L_kept_2 (by decide) ?_
  refine lv_aload_n hx hb d_L_kept_3 rfl (lv_at hl 0 rfl) ?_
  refine lv_iload_n hx hb d_L_kept_4 rfl (lv_at hl 1 rfl) ?_
  refine lv_iload_n hx hb d_L_kept_5 rfl (lv_at hl 2 rfl) ?_
  refine lv_iload_n hx hb d_L_kept_6 rfl (lv_at hl 3 rfl) ?_
  refine xcVi (As := [.int d9, .int n9, .int k9]) (rest := [.int 0, .ref o]) (wr := [(o, .inl (cJ, 1, .inr (.inl of)))]) (c_D_kept l dC dI tb hfl xs x me sm to co ru sl fw fh sa wa sf wf cI d9 n9 k9) F tw_500 tw_28 tw_498 tw_499 tw_497 hP hD [0, 1, 2, 3] [4] rfl rfl (by decide) (by decide) (by decide) hK [0] rfl hE hX hS hA (q0 := 0) rfl rfl hd_D_kept rfl rfl ⟨Nat.le_of_ble_eq_true rfl, Nat.le_of_ble_eq_true rfl⟩ ⟨Nat.le_of_ble_eq_true rfl, Nat.le_of_ble_eq_true rfl⟩ hl.1 rfl (Nat.le_of_ble_eq_true rfl) d_L_kept_7 (fun hnb H locs hP hD hS => ?_) (fun hbd ce q9 H locs hP hD hS g1 g2 g3 => ?_)
  · have hP : va_P (dC, dI) clX [(o, .inl (cJ, 1, .inr (.inl of))), (x, .inr (3, [.ref me, .ref sm, .ref to, .ref co, .ref ru, .int sl, .int fw, .int fh])), (to, .inr (2, [.ref sa, .ref wa])), (sa, .inl (cI, 26, .inl sf)), (wa, .inl (cI, 303, .inl wf))] H := hP
    have hD : va_D A [(o, .inl (cJ, 1, .inr (.inl of))), (x, .inr (3, [.ref me, .ref sm, .ref to, .ref co, .ref ru, .int sl, .int fw, .int fh])), (to, .inr (2, [.ref sa, .ref wa])), (sa, .inl (cI, 26, .inl sf)), (wa, .inl (cI, 303, .inl wf))] := hD
    refine W.widen (k := 1) (n := 6) (Nat.le_of_ble_eq_true rfl) (Nat.le_of_ble_eq_true rfl) ?_
    refine lv_i2l (v := ((kpC sf wf d9 n9 k9).2).toInt64) hx hb d_L_kept_10 rfl ?_
    refine va_last hx hb hK hP hD hS 0 1 rfl rfl (by unfold vp_in; decide) d_L_kept_11 (fun H locs hP hD hS => ?_)
    have hP : va_P (dC, dI) clX [(o, .inl (cJ, 1, .inr (.inl (vp_updL of (0 : Int32).toNatClampNeg (((kpC sf wf d9 n9 k9).2).toInt64))))), (x, .inr (3, [.ref me, .ref sm, .ref to, .ref co, .ref ru, .int sl, .int fw, .int fh])), (to, .inr (2, [.ref sa, .ref wa])), (sa, .inl (cI, 26, .inl sf)), (wa, .inl (cI, 303, .inl wf))] H := hP
    have hD : va_D A [(o, .inl (cJ, 1, .inr (.inl (vp_updL of (0 : Int32).toNatClampNeg (((kpC sf wf d9 n9 k9).2).toInt64))))), (x, .inr (3, [.ref me, .ref sm, .ref to, .ref co, .ref ru, .int sl, .int fw, .int fh])), (to, .inr (2, [.ref sa, .ref wa])), (sa, .inl (cI, 26, .inl sf)), (wa, .inl (cI, 303, .inl wf))] := hD
    refine lv_goto (tgt := 19) hx hb d_L_kept_12 (by decide) ?_
    refine lv_iconst (v := 0) hx hb d_L_kept_19 (by decide) ?_
    have hP9 := hP.sub (ws' := [(x, .inr (3, [.ref me, .ref sm, .ref to, .ref co, .ref ru, .int sl, .int fw, .int fh])), (to, .inr (2, [.ref sa, .ref wa])), (sa, .inl (cI, 26, .inl sf)), (wa, .inl (cI, 303, .inl wf)), (o, .inl (cJ, 1, .inr (.inl (vp_updL of (0 : Int32).toNatClampNeg (((kpC sf wf d9 n9 k9).2).toInt64)))))]) [1, 2, 3, 4, 0] rfl
    have hD9 := hD.sub (ws' := [(x, .inr (3, [.ref me, .ref sm, .ref to, .ref co, .ref ru, .int sl, .int fw, .int fh])), (to, .inr (2, [.ref sa, .ref wa])), (sa, .inl (cI, 26, .inl sf)), (wa, .inl (cI, 303, .inl wf)), (o, .inl (cJ, 1, .inr (.inl (vp_updL of (0 : Int32).toNatClampNeg (((kpC sf wf d9 n9 k9).2).toInt64)))))]) [1, 2, 3, 4, 0] (by decide) rfl
    exact W.iret hx hb hr (fun t ht9 hW => ⟨⟨_, (), rfl, ((kpC_01 sf wf d9 n9 k9).resolve_right hnb).symm, by rw [ht9]; rw [if_neg hnb]; exact hP9, va_K.moved hW.alike hK, by rw [hAe]; rw [if_neg hnb]; exact hD9⟩, hS.F ht9⟩) hS.2.2 d_L_kept_20
  · have hP : va_P (dC, dI) clX [(o, .inl (cJ, 1, .inr (.inl of))), (x, .inr (3, [.ref me, .ref sm, .ref to, .ref co, .ref ru, .int sl, .int fw, .int fh])), (to, .inr (2, [.ref sa, .ref wa])), (sa, .inl (cI, 26, .inl sf)), (wa, .inl (cI, 303, .inl wf))] H := hP
    have hD : va_D A [(o, .inl (cJ, 1, .inr (.inl of))), (x, .inr (3, [.ref me, .ref sm, .ref to, .ref co, .ref ru, .int sl, .int fw, .int fh])), (to, .inr (2, [.ref sa, .ref wa])), (sa, .inl (cI, 26, .inl sf)), (wa, .inl (cI, 303, .inl wf))] := hD
    refine vx_catch (own := R_L) (name := "java/lang/IllegalArgumentException") hown [] ⟨0, 12, 15, 19⟩ [] (hex.trans rfl) (fun _ h => nomatch h) (by decide) (by decide) (ht _ tw_305) (cast_warm (Vm.Alike.refl _) (hX.1 _ (List.mem_of_getElem? (i := 1) rfl))) g1 g2 g3 ?_
    refine W.widen (k := 1) (n := 6) (Nat.le_of_ble_eq_true rfl) (Nat.le_of_ble_eq_true rfl) ?_
    refine lv_astore (lv' := [(5, .ref q9), (0, .ref x), (1, .int d9), (2, .int n9), (3, .int k9), (4, .ref o)]) hx hb d_L_kept_15 hl (by decide) rfl (fun ls hl => ?_)
    refine lv_iconst (v := 1) hx hb d_L_kept_17 (by decide) ?_
    have hP9 := hP.sub (ws' := [(x, .inr (3, [.ref me, .ref sm, .ref to, .ref co, .ref ru, .int sl, .int fw, .int fh])), (to, .inr (2, [.ref sa, .ref wa])), (sa, .inl (cI, 26, .inl sf)), (wa, .inl (cI, 303, .inl wf)), (o, .inl (cJ, 1, .inr (.inl of)))]) [1, 2, 3, 4, 0] rfl
    have hD9 := hD.sub (ws' := [(x, .inr (3, [.ref me, .ref sm, .ref to, .ref co, .ref ru, .int sl, .int fw, .int fh])), (to, .inr (2, [.ref sa, .ref wa])), (sa, .inl (cI, 26, .inl sf)), (wa, .inl (cI, 303, .inl wf)), (o, .inl (cJ, 1, .inr (.inl of)))]) [1, 2, 3, 4, 0] (by decide) rfl
    exact W.iret hx hb hr (fun t ht9 hW => ⟨⟨_, (), rfl, hbd.symm, by rw [ht9]; rw [if_pos hbd]; exact hP9, va_K.moved hW.alike hK, by rw [hAe]; rw [if_pos hbd]; exact hD9⟩, hS.F ht9⟩) hS.2.2 d_L_kept_18
theorem abC_01 (sl lp ld dn rf qu ov k9 : Int32) : (abC sl lp ld dn rf qu ov k9).1 = 0 ∨ (abC sl lp ld dn rf qu ov k9).1 = 1 := by
  unfold abC
  repeat' split
  all_goals first | exact Or.inl rfl | exact Or.inr rfl
theorem abC_bad (sl lp ld dn rf qu ov k9 : Int32) (h : (abC sl lp ld dn rf qu ov k9).1 = 1) : abC sl lp ld dn rf qu ov k9 = (1, 0) := by
  revert h
  unfold abC
  repeat' split
  all_goals (intro h; first | rfl | exact absurd h ne01)
set_option maxHeartbeats 4000000 in
set_option maxRecDepth 100000 in
theorem c_L_about (l : Launch) (dC : Nat → ClassId) (dI : Nat → Nat → Nat) (tb : tbT) (hfl : l.stackTraces = false) (xs : Nat → Nat) (x me sm to co ru : Nat) (sl fw fh : Int32) (bk : Nat) (pl dp lp ld dn rf qu ov : Int32) (k9 : Int32) (o : Nat) (of : Nat → Int64) (cJ : ClassId) (sz : Nat) : LW l y_L_about (Cond.codeWith y_L_about b_L_about 4 (some .int) [(0, 9, 12, 19)] :: TB) ({ frames := 7, cells := 1, slots := 6, locals := 111 }) tb xs (dC, dI) [.ref x, .int k9, .ref o] [(x, .inr (3, [.ref me, .ref sm, .ref to, .ref co, .ref ru, .int sl, .int fw, .int fh])), (ru, .inr (1, [.ref bk, .int pl, .int dp, .int lp, .int ld, .int dn, .int rf, .int qu, .int ov])), (o, .inl (cJ, 1, .inr (.inl of)))] [(x, .inr (3, [.ref me, .ref sm, .ref to, .ref co, .ref ru, .int sl, .int fw, .int fh])), (ru, .inr (1, [.ref bk, .int pl, .int dp, .int lp, .int ld, .int dn, .int rf, .int qu, .int ov])), (o, .inl (cJ, 1, .inr (.inl (if (abC sl lp ld dn rf qu ov k9).1 = 1 then of else vp_updL of (0 : Int32).toNatClampNeg ((abC sl lp ld dn rf qu ov k9).2).toInt64))))] [(cJ, .long)] sz ((abC sl lp ld dn rf qu ov k9).1) := by
  refine va_MetW (hh := [(0, 9, 12, 19)]) (cc := b_L_about) (maxL := 4) (ret := (some .int)) (by decide) rfl ?_
  intro p e s m args below meth c s₁ B hml hv
  obtain ⟨rfl, ⟨hsz, hP, hK, hD0, hE⟩, hX⟩ := hv
  have hx := B.exec
  have hb := B.bytes
  have hr := B.returns
  have ht := fun w (h : w ∈ TB) => atoms_spec (ws := Cond.codeWith y_L_about b_L_about 4 (some .int) [(0, 9, 12, 19)] :: TB) B.pre w (List.mem_cons_of_mem _ h)
  have hex := vx_table (x := y_L_about) B (atoms_spec (ws := Cond.codeWith y_L_about b_L_about 4 (some .int) [(0, 9, 12, 19)] :: TB) B.pre _ List.mem_cons_self)
  have hown : s.vm.findClass R_L = some m.cls := findClass_of_methodNamed B.named
  have hlocks := B.notSynchronized
  subst hsz
  have hD := hD0.self (sz := s.heap.size)
  generalize hAe : va_A [(x, .inr (3, [.ref me, .ref sm, .ref to, .ref co, .ref ru, .int sl, .int fw, .int fh])), (ru, .inr (1, [.ref bk, .int pl, .int dp, .int lp, .int ld, .int dn, .int rf, .int qu, .int ov])), (o, .inl (cJ, 1, .inr (.inl of)))] s.heap.size = A at hD hE hX ⊢
  have hA : ∀ q : Nat, s.heap.size ≤ q → A q := fun q h => by rw [← hAe]; exact Or.inr h
  have hS : va_S A s.heap s.heap [] := va_S.rf
  have F : CallFix p m c b_L_about 4 s _ TB R_L := ⟨hx, hb, hml, hown, ht⟩
  have hl := lv_entry ([.ref x, .int k9, .ref o]) (n := 4) (Nat.le_of_ble_eq_true rfl)
  rw [lg_entry_eq]
  generalize (lg_sl ([.ref x, .int k9, .ref o]) ++ List.replicate (4 - (lg_sl ([.ref x, .int k9, .ref o])).length) Slot.unset).toArray = ls at hl ⊢
  have hl : lv_has ls 4 [(0, .ref x), (1, .int k9), (2, .ref o)] := hl
  refine lv_aload_n hx hb d_L_about_0 rfl (lv_at hl 2 rfl) ?_
  refine lv_iconst (v := 0) hx hb d_L_about_1 (by decide) ?_
  refine lv_aload_n hx hb d_L_about_2 rfl (lv_at hl 0 rfl) ?_
  refine lv_iload_n hx hb d_L_about_3 rfl (lv_at hl 1 rfl) ?_
  refine xcVi (As := [.int k9]) (rest := [.int 0, .ref o]) (wr := [(o, .inl (cJ, 1, .inr (.inl of)))]) (c_D_about l dC dI tb hfl xs x me sm to co ru sl fw fh bk pl dp lp ld dn rf qu ov k9) F tw_510 tw_28 tw_508 tw_509 tw_507 hP hD [0, 1] [2] rfl rfl (by decide) (by decide) (by decide) hK [] rfl hE hX hS hA (q0 := 0) rfl rfl hd_D_about rfl rfl ⟨Nat.le_of_ble_eq_true rfl, Nat.le_of_ble_eq_true rfl⟩ ⟨Nat.le_of_ble_eq_true rfl, Nat.le_of_ble_eq_true rfl⟩ hl.1 rfl (Nat.le_of_ble_eq_true rfl) d_L_about_4 (fun hnb H locs hP hD hS => ?_) (fun hbd ce q9 H locs hP hD hS g1 g2 g3 => ?_)
  · have hP : va_P (dC, dI) clX [(o, .inl (cJ, 1, .inr (.inl of))), (x, .inr (3, [.ref me, .ref sm, .ref to, .ref co, .ref ru, .int sl, .int fw, .int fh])), (ru, .inr (1, [.ref bk, .int pl, .int dp, .int lp, .int ld, .int dn, .int rf, .int qu, .int ov]))] H := hP
    have hD : va_D A [(o, .inl (cJ, 1, .inr (.inl of))), (x, .inr (3, [.ref me, .ref sm, .ref to, .ref co, .ref ru, .int sl, .int fw, .int fh])), (ru, .inr (1, [.ref bk, .int pl, .int dp, .int lp, .int ld, .int dn, .int rf, .int qu, .int ov]))] := hD
    refine W.widen (k := 1) (n := 6) (Nat.le_of_ble_eq_true rfl) (Nat.le_of_ble_eq_true rfl) ?_
    refine lv_i2l (v := ((abC sl lp ld dn rf qu ov k9).2).toInt64) hx hb d_L_about_7 rfl ?_
    refine va_last hx hb hK hP hD hS 0 0 rfl rfl (by unfold vp_in; decide) d_L_about_8 (fun H locs hP hD hS => ?_)
    have hP : va_P (dC, dI) clX [(o, .inl (cJ, 1, .inr (.inl (vp_updL of (0 : Int32).toNatClampNeg (((abC sl lp ld dn rf qu ov k9).2).toInt64))))), (x, .inr (3, [.ref me, .ref sm, .ref to, .ref co, .ref ru, .int sl, .int fw, .int fh])), (ru, .inr (1, [.ref bk, .int pl, .int dp, .int lp, .int ld, .int dn, .int rf, .int qu, .int ov]))] H := hP
    have hD : va_D A [(o, .inl (cJ, 1, .inr (.inl (vp_updL of (0 : Int32).toNatClampNeg (((abC sl lp ld dn rf qu ov k9).2).toInt64))))), (x, .inr (3, [.ref me, .ref sm, .ref to, .ref co, .ref ru, .int sl, .int fw, .int fh])), (ru, .inr (1, [.ref bk, .int pl, .int dp, .int lp, .int ld, .int dn, .int rf, .int qu, .int ov]))] := hD
    refine lv_goto (tgt := 15) hx hb d_L_about_9 (by decide) ?_
    refine lv_iconst (v := 0) hx hb d_L_about_15 (by decide) ?_
    have hP9 := hP.sub (ws' := [(x, .inr (3, [.ref me, .ref sm, .ref to, .ref co, .ref ru, .int sl, .int fw, .int fh])), (ru, .inr (1, [.ref bk, .int pl, .int dp, .int lp, .int ld, .int dn, .int rf, .int qu, .int ov])), (o, .inl (cJ, 1, .inr (.inl (vp_updL of (0 : Int32).toNatClampNeg (((abC sl lp ld dn rf qu ov k9).2).toInt64)))))]) [1, 2, 0] rfl
    have hD9 := hD.sub (ws' := [(x, .inr (3, [.ref me, .ref sm, .ref to, .ref co, .ref ru, .int sl, .int fw, .int fh])), (ru, .inr (1, [.ref bk, .int pl, .int dp, .int lp, .int ld, .int dn, .int rf, .int qu, .int ov])), (o, .inl (cJ, 1, .inr (.inl (vp_updL of (0 : Int32).toNatClampNeg (((abC sl lp ld dn rf qu ov k9).2).toInt64)))))]) [1, 2, 0] (by decide) rfl
    exact W.iret hx hb hr (fun t ht9 hW => ⟨⟨_, (), rfl, ((abC_01 sl lp ld dn rf qu ov k9).resolve_right hnb).symm, by rw [ht9]; rw [if_neg hnb]; exact hP9, va_K.moved hW.alike hK, by rw [hAe]; rw [if_neg hnb]; exact hD9⟩, hS.F ht9⟩) hS.2.2 d_L_about_16
  · have hP : va_P (dC, dI) clX [(o, .inl (cJ, 1, .inr (.inl of))), (x, .inr (3, [.ref me, .ref sm, .ref to, .ref co, .ref ru, .int sl, .int fw, .int fh])), (ru, .inr (1, [.ref bk, .int pl, .int dp, .int lp, .int ld, .int dn, .int rf, .int qu, .int ov]))] H := hP
    have hD : va_D A [(o, .inl (cJ, 1, .inr (.inl of))), (x, .inr (3, [.ref me, .ref sm, .ref to, .ref co, .ref ru, .int sl, .int fw, .int fh])), (ru, .inr (1, [.ref bk, .int pl, .int dp, .int lp, .int ld, .int dn, .int rf, .int qu, .int ov]))] := hD
    refine vx_catch (own := R_L) (name := "java/lang/IllegalArgumentException") hown [] ⟨0, 9, 12, 19⟩ [] (hex.trans rfl) (fun _ h => nomatch h) (by decide) (by decide) (ht _ tw_305) (cast_warm (Vm.Alike.refl _) (hX.1 _ (List.mem_of_getElem? (i := 1) rfl))) g1 g2 g3 ?_
    refine W.widen (k := 1) (n := 6) (Nat.le_of_ble_eq_true rfl) (Nat.le_of_ble_eq_true rfl) ?_
    refine lv_astore_n (lv' := [(3, .ref q9), (0, .ref x), (1, .int k9), (2, .ref o)]) hx hb d_L_about_12 rfl hl (by decide) rfl (fun ls hl => ?_)
    refine lv_iconst (v := 1) hx hb d_L_about_13 (by decide) ?_
    have hP9 := hP.sub (ws' := [(x, .inr (3, [.ref me, .ref sm, .ref to, .ref co, .ref ru, .int sl, .int fw, .int fh])), (ru, .inr (1, [.ref bk, .int pl, .int dp, .int lp, .int ld, .int dn, .int rf, .int qu, .int ov])), (o, .inl (cJ, 1, .inr (.inl of)))]) [1, 2, 0] rfl
    have hD9 := hD.sub (ws' := [(x, .inr (3, [.ref me, .ref sm, .ref to, .ref co, .ref ru, .int sl, .int fw, .int fh])), (ru, .inr (1, [.ref bk, .int pl, .int dp, .int lp, .int ld, .int dn, .int rf, .int qu, .int ov])), (o, .inl (cJ, 1, .inr (.inl of)))]) [1, 2, 0] (by decide) rfl
    exact W.iret hx hb hr (fun t ht9 hW => ⟨⟨_, (), rfl, hbd.symm, by rw [ht9]; rw [if_pos hbd]; exact hP9, va_K.moved hW.alike hK, by rw [hAe]; rw [if_pos hbd]; exact hD9⟩, hS.F ht9⟩) hS.2.2 d_L_about_14
