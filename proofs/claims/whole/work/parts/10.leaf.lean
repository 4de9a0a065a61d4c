set_option maxHeartbeats 4000000 in
set_option maxRecDepth 100000 in
theorem c_D_read (l : Launch) (dC : Nat → ClassId) (dI : Nat → Nat → Nat) (tb : tbT) (a n : Nat) (f : IF) (cI : ClassId) (i : Int32) (hn : n < 2147483648) : RM l y_D_read (Cond.code y_D_read b_D_read 2 (some .int) :: TB) ({ frames := 0, cells := 0, slots := 0, locals := 0 }) tb (dC, dI) [.ref a, .int i] [(a, .inl (cI, n, .inl f))] [(cI, .int)] (rdA n f i) := by
  refine Met.ofW (cc := b_D_read) (maxL := 2) (ret := (some .int)) (by decide) rfl ?_
  intro p e s m args below meth c s₁ B hml hv
  obtain ⟨rfl, hP, hK, hE⟩ := hv
  have hx := B.exec
  have hb := B.bytes
  have hr := B.returns
  have ht := fun w (h : w ∈ TB) => atoms_spec (ws := Cond.code y_D_read b_D_read 2 (some .int) :: TB) B.pre w (List.mem_cons_of_mem _ h)
  have hown : s.vm.findClass R_D = some m.cls := findClass_of_methodNamed B.named
  have hlocks := B.notSynchronized
  have hS : va_S (fun _ => False) s.heap s.heap [] := va_S.rf
  have F : CallFix p m c b_D_read 2 s _ TB R_D := ⟨hx, hb, hml, hown, ht⟩
  have hl := lv_entry ([.ref a, .int i]) (n := 2) (Nat.le_of_ble_eq_true rfl)
  rw [lg_entry_eq]
  generalize (lg_sl ([.ref a, .int i]) ++ List.replicate (2 - (lg_sl ([.ref a, .int i])).length) Slot.unset).toArray = ls at hl ⊢
  have hl : lv_has ls 2 [(0, .ref a), (1, .int i)] := hl
  refine lv_iload_n hx hb d_D_read_0 rfl (lv_at hl 1 rfl) ?_
  refine lv_if_lt (tgt := 16) hx hb d_D_read_1 (by decide) (fun c_1 => ?_) (fun c_1 => ?_)
  · refine lv_iconst (v := 0) hx hb d_D_read_16 (by decide) ?_
    exact W.iret hx hb hr (fun t ht9 hW => ⟨_, rfl, by simp only [rdA, if_pos c_1], ht9⟩) hS.2.2 d_D_read_17
  · refine lv_iload_n hx hb d_D_read_4 rfl (lv_at hl 1 rfl) ?_
    refine lv_aload_n hx hb d_D_read_5 rfl (lv_at hl 0 rfl) ?_
    refine va_alen hx hb hK hP 0 0 rfl rfl (v := (nI n)) rfl d_D_read_6 ?_
    refine lv_icmp_ge (tgt := 16) hx hb d_D_read_7 (by decide) (fun c_2 => ?_) (fun c_2 => ?_)
    · refine lv_iconst (v := 0) hx hb d_D_read_16 (by decide) ?_
      exact W.iret hx hb hr (fun t ht9 hW => ⟨_, rfl, by simp only [rdA, if_neg c_1, if_pos c_2], ht9⟩) hS.2.2 d_D_read_17
    · refine lv_aload_n hx hb d_D_read_10 rfl (lv_at hl 0 rfl) ?_
      refine lv_iload_n hx hb d_D_read_11 rfl (lv_at hl 1 rfl) ?_
      refine va_iald hx hb hK hP 0 0 rfl rfl (in_of c_1 c_2 hn) d_D_read_12 ?_
      refine lv_goto (tgt := 17) hx hb d_D_read_13 (by decide) ?_
      exact W.iret hx hb hr (fun t ht9 hW => ⟨_, rfl, by simp only [rdA, if_neg c_1, if_neg c_2], ht9⟩) hS.2.2 d_D_read_17
set_option maxHeartbeats 4000000 in
set_option maxRecDepth 100000 in
theorem c_D_readF (l : Launch) (dC : Nat → ClassId) (dI : Nat → Nat → Nat) (tb : tbT) (i : Int32) : RM l y_D_read (Cond.code y_D_read b_D_read 2 (some .int) :: TB) ({ frames := 0, cells := 0, slots := 0, locals := 0 }) tb (dC, dI) [.ref tb.1, .int i] [] [] (rdA 27 tbF i) := by
  refine Met.ofW (cc := b_D_read) (maxL := 2) (ret := (some .int)) (by decide) rfl ?_
  intro p e s m args below meth c s₁ B hml hv
  obtain ⟨rfl, hP, hK, hE⟩ := hv
  have hx := B.exec
  have hb := B.bytes
  have hr := B.returns
  have ht := fun w (h : w ∈ TB) => atoms_spec (ws := Cond.code y_D_read b_D_read 2 (some .int) :: TB) B.pre w (List.mem_cons_of_mem _ h)
  have hown : s.vm.findClass R_D = some m.cls := findClass_of_methodNamed B.named
  have hlocks := B.notSynchronized
  have hS : va_S (fun _ => False) s.heap s.heap [] := va_S.rf
  have F : CallFix p m c b_D_read 2 s _ TB R_D := ⟨hx, hb, hml, hown, ht⟩
  have hl := lv_entry ([.ref tb.1, .int i]) (n := 2) (Nat.le_of_ble_eq_true rfl)
  rw [lg_entry_eq]
  generalize (lg_sl ([.ref tb.1, .int i]) ++ List.replicate (2 - (lg_sl ([.ref tb.1, .int i])).length) Slot.unset).toArray = ls at hl ⊢
  have hT := hE.2.1.2
  have hl : lv_has ls 2 [(0, .ref tb.1), (1, .int i)] := hl
  refine lv_iload_n hx hb d_D_read_0 rfl (lv_at hl 1 rfl) ?_
  refine lv_if_lt (tgt := 16) hx hb d_D_read_1 (by decide) (fun c_3 => ?_) (fun c_3 => ?_)
  · refine lv_iconst (v := 0) hx hb d_D_read_16 (by decide) ?_
    exact W.iret hx hb hr (fun t ht9 hW => ⟨_, rfl, by simp only [rdA, if_pos c_3], ht9⟩) hS.2.2 d_D_read_17
  · refine lv_iload_n hx hb d_D_read_4 rfl (lv_at hl 1 rfl) ?_
    refine lv_aload_n hx hb d_D_read_5 rfl (lv_at hl 0 rfl) ?_
    refine va_tlen hx hb hT hS (v := (nI 27)) rfl d_D_read_6 ?_
    refine lv_icmp_ge (tgt := 16) hx hb d_D_read_7 (by decide) (fun c_4 => ?_) (fun c_4 => ?_)
    · refine lv_iconst (v := 0) hx hb d_D_read_16 (by decide) ?_
      exact W.iret hx hb hr (fun t ht9 hW => ⟨_, rfl, by simp only [rdA, if_neg c_3, if_pos c_4], ht9⟩) hS.2.2 d_D_read_17
    · refine lv_aload_n hx hb d_D_read_10 rfl (lv_at hl 0 rfl) ?_
      refine lv_iload_n hx hb d_D_read_11 rfl (lv_at hl 1 rfl) ?_
      refine va_ti hx hb hT hS (in_of c_3 c_4 (by decide)) rfl d_D_read_12 ?_
      refine lv_goto (tgt := 17) hx hb d_D_read_13 (by decide) ?_
      exact W.iret hx hb hr (fun t ht9 hW => ⟨_, rfl, by simp only [rdA, if_neg c_3, if_neg c_4], ht9⟩) hS.2.2 d_D_read_17
set_option maxHeartbeats 4000000 in
set_option maxRecDepth 100000 in
theorem c_D_readH (l : Launch) (dC : Nat → ClassId) (dI : Nat → Nat → Nat) (tb : tbT) (i : Int32) : RM l y_D_read (Cond.code y_D_read b_D_read 2 (some .int) :: TB) ({ frames := 0, cells := 0, slots := 0, locals := 0 }) tb (dC, dI) [.ref tb.2.1, .int i] [] [] (rdA 26 tbH i) := by
  refine Met.ofW (cc := b_D_read) (maxL := 2) (ret := (some .int)) (by decide) rfl ?_
  intro p e s m args below meth c s₁ B hml hv
  obtain ⟨rfl, hP, hK, hE⟩ := hv
  have hx := B.exec
  have hb := B.bytes
  have hr := B.returns
  have ht := fun w (h : w ∈ TB) => atoms_spec (ws := Cond.code y_D_read b_D_read 2 (some .int) :: TB) B.pre w (List.mem_cons_of_mem _ h)
  have hown : s.vm.findClass R_D = some m.cls := findClass_of_methodNamed B.named
  have hlocks := B.notSynchronized
  have hS : va_S (fun _ => False) s.heap s.heap [] := va_S.rf
  have F : CallFix p m c b_D_read 2 s _ TB R_D := ⟨hx, hb, hml, hown, ht⟩
  have hl := lv_entry ([.ref tb.2.1, .int i]) (n := 2) (Nat.le_of_ble_eq_true rfl)
  rw [lg_entry_eq]
  generalize (lg_sl ([.ref tb.2.1, .int i]) ++ List.replicate (2 - (lg_sl ([.ref tb.2.1, .int i])).length) Slot.unset).toArray = ls at hl ⊢
  have hT := hE.2.2.1.2
  have hl : lv_has ls 2 [(0, .ref tb.2.1), (1, .int i)] := hl
  refine lv_iload_n hx hb d_D_read_0 rfl (lv_at hl 1 rfl) ?_
  refine lv_if_lt (tgt := 16) hx hb d_D_read_1 (by decide) (fun c_5 => ?_) (fun c_5 => ?_)
  · refine lv_iconst (v := 0) hx hb d_D_read_16 (by decide) ?_
    exact W.iret hx hb hr (fun t ht9 hW => ⟨_, rfl, by simp only [rdA, if_pos c_5], ht9⟩) hS.2.2 d_D_read_17
  · refine lv_iload_n hx hb d_D_read_4 rfl (lv_at hl 1 rfl) ?_
    refine lv_aload_n hx hb d_D_read_5 rfl (lv_at hl 0 rfl) ?_
    refine va_tlen hx hb hT hS (v := (nI 26)) rfl d_D_read_6 ?_
    refine lv_icmp_ge (tgt := 16) hx hb d_D_read_7 (by decide) (fun c_6 => ?_) (fun c_6 => ?_)
    · refine lv_iconst (v := 0) hx hb d_D_read_16 (by decide) ?_
      exact W.iret hx hb hr (fun t ht9 hW => ⟨_, rfl, by simp only [rdA, if_neg c_5, if_pos c_6], ht9⟩) hS.2.2 d_D_read_17
    · refine lv_aload_n hx hb d_D_read_10 rfl (lv_at hl 0 rfl) ?_
      refine lv_iload_n hx hb d_D_read_11 rfl (lv_at hl 1 rfl) ?_
      refine va_ti hx hb hT hS (in_of c_5 c_6 (by decide)) rfl d_D_read_12 ?_
      refine lv_goto (tgt := 17) hx hb d_D_read_13 (by decide) ?_
      exact W.iret hx hb hr (fun t ht9 hW => ⟨_, rfl, by simp only [rdA, if_neg c_5, if_neg c_6], ht9⟩) hS.2.2 d_D_read_17
set_option maxHeartbeats 4000000 in
set_option maxRecDepth 100000 in
theorem c_D_readA (l : Launch) (dC : Nat → ClassId) (dI : Nat → Nat → Nat) (tb : tbT) (i : Int32) : RM l y_D_read (Cond.code y_D_read b_D_read 2 (some .int) :: TB) ({ frames := 0, cells := 0, slots := 0, locals := 0 }) tb (dC, dI) [.ref tb.2.2, .int i] [] [] (rdA 258 tbA i) := by
  refine Met.ofW (cc := b_D_read) (maxL := 2) (ret := (some .int)) (by decide) rfl ?_
  intro p e s m args below meth c s₁ B hml hv
  obtain ⟨rfl, hP, hK, hE⟩ := hv
  have hx := B.exec
  have hb := B.bytes
  have hr := B.returns
  have ht := fun w (h : w ∈ TB) => atoms_spec (ws := Cond.code y_D_read b_D_read 2 (some .int) :: TB) B.pre w (List.mem_cons_of_mem _ h)
  have hown : s.vm.findClass R_D = some m.cls := findClass_of_methodNamed B.named
  have hlocks := B.notSynchronized
  have hS : va_S (fun _ => False) s.heap s.heap [] := va_S.rf
  have F : CallFix p m c b_D_read 2 s _ TB R_D := ⟨hx, hb, hml, hown, ht⟩
  have hl := lv_entry ([.ref tb.2.2, .int i]) (n := 2) (Nat.le_of_ble_eq_true rfl)
  rw [lg_entry_eq]
  generalize (lg_sl ([.ref tb.2.2, .int i]) ++ List.replicate (2 - (lg_sl ([.ref tb.2.2, .int i])).length) Slot.unset).toArray = ls at hl ⊢
  have hT := hE.2.2.2.2
  have hl : lv_has ls 2 [(0, .ref tb.2.2), (1, .int i)] := hl
  refine lv_iload_n hx hb d_D_read_0 rfl (lv_at hl 1 rfl) ?_
  refine lv_if_lt (tgt := 16) hx hb d_D_read_1 (by decide) (fun c_7 => ?_) (fun c_7 => ?_)
  · refine lv_iconst (v := 0) hx hb d_D_read_16 (by decide) ?_
    exact W.iret hx hb hr (fun t ht9 hW => ⟨_, rfl, by simp only [rdA, if_pos c_7], ht9⟩) hS.2.2 d_D_read_17
  · refine lv_iload_n hx hb d_D_read_4 rfl (lv_at hl 1 rfl) ?_
    refine lv_aload_n hx hb d_D_read_5 rfl (lv_at hl 0 rfl) ?_
    refine va_tlen hx hb hT hS (v := (nI 258)) rfl d_D_read_6 ?_
    refine lv_icmp_ge (tgt := 16) hx hb d_D_read_7 (by decide) (fun c_8 => ?_) (fun c_8 => ?_)
    · refine lv_iconst (v := 0) hx hb d_D_read_16 (by decide) ?_
      exact W.iret hx hb hr (fun t ht9 hW => ⟨_, rfl, by simp only [rdA, if_neg c_7, if_pos c_8], ht9⟩) hS.2.2 d_D_read_17
    · refine lv_aload_n hx hb d_D_read_10 rfl (lv_at hl 0 rfl) ?_
      refine lv_iload_n hx hb d_D_read_11 rfl (lv_at hl 1 rfl) ?_
      refine va_ti hx hb hT hS (in_of c_7 c_8 (by decide)) rfl d_D_read_12 ?_
      refine lv_goto (tgt := 17) hx hb d_D_read_13 (by decide) ?_
      exact W.iret hx hb hr (fun t ht9 hW => ⟨_, rfl, by simp only [rdA, if_neg c_7, if_neg c_8], ht9⟩) hS.2.2 d_D_read_17
set_option maxHeartbeats 4000000 in
set_option maxRecDepth 100000 in
theorem c_D_write (l : Launch) (dC : Nat → ClassId) (dI : Nat → Nat → Nat) (tb : tbT) (a n : Nat) (f : IF) (cI : ClassId) (i v : Int32) (hn : n < 2147483648) (sz : Nat) : MV l y_D_write (Cond.code y_D_write b_D_write 3 none :: TB) ({ frames := 0, cells := 0, slots := 0, locals := 0 }) tb (dC, dI) [.ref a, .int i, .int v] [(a, .inl (cI, n, .inl f))] [(a, .inl (cI, n, .inl (wrA n f i v)))] [(cI, .int)] sz := by
  refine Met.ofW (cc := b_D_write) (maxL := 3) (ret := none) (by decide) rfl ?_
  intro p e s m args below meth c s₁ B hml hv
  obtain ⟨rfl, hsz, hP, hK, hD0, hE⟩ := hv
  have hx := B.exec
  have hb := B.bytes
  have hr := B.returns
  have ht := fun w (h : w ∈ TB) => atoms_spec (ws := Cond.code y_D_write b_D_write 3 none :: TB) B.pre w (List.mem_cons_of_mem _ h)
  have hown : s.vm.findClass R_D = some m.cls := findClass_of_methodNamed B.named
  have hlocks := B.notSynchronized
  subst hsz
  have hD := hD0.self (sz := s.heap.size)
  generalize hAe : va_A [(a, .inl (cI, n, .inl f))] s.heap.size = A at hD hE ⊢
  have hA : ∀ q : Nat, s.heap.size ≤ q → A q := fun q h => by rw [← hAe]; exact Or.inr h
  have hS : va_S A s.heap s.heap [] := va_S.rf
  have F : CallFix p m c b_D_write 3 s _ TB R_D := ⟨hx, hb, hml, hown, ht⟩
  have hl := lv_entry ([.ref a, .int i, .int v]) (n := 3) (Nat.le_of_ble_eq_true rfl)
  rw [lg_entry_eq]
  generalize (lg_sl ([.ref a, .int i, .int v]) ++ List.replicate (3 - (lg_sl ([.ref a, .int i, .int v])).length) Slot.unset).toArray = ls at hl ⊢
  have hl : lv_has ls 3 [(0, .ref a), (1, .int i), (2, .int v)] := hl
  refine lv_iload_n hx hb d_D_write_0 rfl (lv_at hl 1 rfl) ?_
  refine lv_if_lt (tgt := 14) hx hb d_D_write_1 (by decide) (fun c_9 => ?_) (fun c_9 => ?_)
  · have hP9 := hP.sub (ws' := [(a, .inl (cI, n, .inl f))]) [0] rfl
    have hD9 := hD.sub (ws' := [(a, .inl (cI, n, .inl f))]) [0] (by decide) rfl
    exact W.vret hx hb hr (fun t ht9 hW => ⟨⟨(), rfl, trivial, by rw [ht9]; rw [show wrA n f i v = f from by simp only [wrA, if_pos c_9]]; exact hP9, va_K.moved hW.alike hK, by rw [hAe]; rw [show wrA n f i v = f from by simp only [wrA, if_pos c_9]]; exact hD9⟩, hS.F ht9⟩) hS.2.2 d_D_write_14
  · refine lv_iload_n hx hb d_D_write_4 rfl (lv_at hl 1 rfl) ?_
    refine lv_aload_n hx hb d_D_write_5 rfl (lv_at hl 0 rfl) ?_
    refine va_alen hx hb hK hP 0 0 rfl rfl (v := (nI n)) rfl d_D_write_6 ?_
    refine lv_icmp_ge (tgt := 14) hx hb d_D_write_7 (by decide) (fun c_10 => ?_) (fun c_10 => ?_)
    · have hP9 := hP.sub (ws' := [(a, .inl (cI, n, .inl f))]) [0] rfl
      have hD9 := hD.sub (ws' := [(a, .inl (cI, n, .inl f))]) [0] (by decide) rfl
      exact W.vret hx hb hr (fun t ht9 hW => ⟨⟨(), rfl, trivial, by rw [ht9]; rw [show wrA n f i v = f from by simp only [wrA, if_neg c_9, if_pos c_10]]; exact hP9, va_K.moved hW.alike hK, by rw [hAe]; rw [show wrA n f i v = f from by simp only [wrA, if_neg c_9, if_pos c_10]]; exact hD9⟩, hS.F ht9⟩) hS.2.2 d_D_write_14
    · refine lv_aload_n hx hb d_D_write_10 rfl (lv_at hl 0 rfl) ?_
      refine lv_iload_n hx hb d_D_write_11 rfl (lv_at hl 1 rfl) ?_
      refine lv_iload_n hx hb d_D_write_12 rfl (lv_at hl 2 rfl) ?_
      refine va_iast hx hb hK hP hD hS 0 0 rfl rfl (in_of c_9 c_10 hn) d_D_write_13 (fun H locs hP hD hS => ?_)
      have hP : va_P (dC, dI) clX [(a, .inl (cI, n, .inl (upd f i.toNatClampNeg v)))] H := hP
      have hD : va_D A [(a, .inl (cI, n, .inl (upd f i.toNatClampNeg v)))] := hD
      have hP9 := hP.sub (ws' := [(a, .inl (cI, n, .inl (upd f i.toNatClampNeg v)))]) [0] rfl
      have hD9 := hD.sub (ws' := [(a, .inl (cI, n, .inl (upd f i.toNatClampNeg v)))]) [0] (by decide) rfl
      exact W.vret hx hb hr (fun t ht9 hW => ⟨⟨(), rfl, trivial, by rw [ht9]; rw [show wrA n f i v = (upd f i.toNatClampNeg v) from by simp only [wrA, if_neg c_9, if_neg c_10]]; exact hP9, va_K.moved hW.alike hK, by rw [hAe]; rw [show wrA n f i v = (upd f i.toNatClampNeg v) from by simp only [wrA, if_neg c_9, if_neg c_10]]; exact hD9⟩, hS.F ht9⟩) hS.2.2 d_D_write_14
set_option maxHeartbeats 4000000 in
set_option maxRecDepth 100000 in
theorem c_S_isKind (l : Launch) (dC : Nat → ClassId) (dI : Nat → Nat → Nat) (tb : tbT) (k : Int32) : RM l y_S_isKind (Cond.code y_S_isKind b_S_isKind 1 (some .boolean) :: TB) ({ frames := 0, cells := 0, slots := 0, locals := 0 }) tb (dC, dI) [.int k] [] [] (isKd k) := by
  refine Met.ofW (cc := b_S_isKind) (maxL := 1) (ret := (some .boolean)) (by decide) rfl ?_
  intro p e s m args below meth c s₁ B hml hv
  obtain ⟨rfl, hP, hK, hE⟩ := hv
  have hx := B.exec
  have hb := B.bytes
  have hr := B.returns
  have ht := fun w (h : w ∈ TB) => atoms_spec (ws := Cond.code y_S_isKind b_S_isKind 1 (some .boolean) :: TB) B.pre w (List.mem_cons_of_mem _ h)
  have hown : s.vm.findClass R_S = some m.cls := findClass_of_methodNamed B.named
  have hlocks := B.notSynchronized
  have hS : va_S (fun _ => False) s.heap s.heap [] := va_S.rf
  have F : CallFix p m c b_S_isKind 1 s _ TB R_S := ⟨hx, hb, hml, hown, ht⟩
  have hl := lv_entry ([.int k]) (n := 1) (Nat.le_of_ble_eq_true rfl)
  rw [lg_entry_eq]
  generalize (lg_sl ([.int k]) ++ List.replicate (1 - (lg_sl ([.int k])).length) Slot.unset).toArray = ls at hl ⊢
  have hl : lv_has ls 1 [(0, .int k)] := hl
  refine lv_iload_n hx hb d_S_isKind_0 rfl (lv_at hl 0 rfl) ?_
  refine lv_if_lt (tgt := 14) hx hb d_S_isKind_1 (by decide) (fun c_11 => ?_) (fun c_11 => ?_)
  · refine lv_iconst (v := 0) hx hb d_S_isKind_14 (by decide) ?_
    exact W.zret hx hb hr (rfl) (fun t ht9 hW => ⟨_, rfl, by simp only [isKd, if_pos c_11], ht9⟩) hS.2.2 d_S_isKind_15
  · refine lv_iload_n hx hb d_S_isKind_4 rfl (lv_at hl 0 rfl) ?_
    refine lv_bipush (v := 26) hx hb d_S_isKind_5 (by decide) ?_
    refine lv_icmp_ge (tgt := 14) hx hb d_S_isKind_7 (by decide) (fun c_12 => ?_) (fun c_12 => ?_)
    · refine lv_iconst (v := 0) hx hb d_S_isKind_14 (by decide) ?_
      exact W.zret hx hb hr (rfl) (fun t ht9 hW => ⟨_, rfl, by simp only [isKd, if_neg c_11, if_pos c_12], ht9⟩) hS.2.2 d_S_isKind_15
    · refine lv_iconst (v := 1) hx hb d_S_isKind_10 (by decide) ?_
      refine lv_goto (tgt := 15) hx hb d_S_isKind_11 (by decide) ?_
      exact W.zret hx hb hr (rfl) (fun t ht9 hW => ⟨_, rfl, by simp only [isKd, if_neg c_11, if_neg c_12], ht9⟩) hS.2.2 d_S_isKind_15
set_option maxHeartbeats 4000000 in
set_option maxRecDepth 100000 in
theorem c_S_fixed (l : Launch) (dC : Nat → ClassId) (dI : Nat → Nat → Nat) (tb : tbT) (k : Int32) : RM l y_S_fixed (Cond.code y_S_fixed b_S_fixed 1 (some .int) :: TB) ({ frames := 1, cells := 0, slots := 0, locals := 21 }) tb (dC, dI) [.int k] [] [] (fxd k) := by
  refine Met.ofW (cc := b_S_fixed) (maxL := 1) (ret := (some .int)) (by decide) rfl ?_
  intro p e s m args below meth c s₁ B hml hv
  obtain ⟨rfl, hP, hK, hE⟩ := hv
  have hx := B.exec
  have hb := B.bytes
  have hr := B.returns
  have ht := fun w (h : w ∈ TB) => atoms_spec (ws := Cond.code y_S_fixed b_S_fixed 1 (some .int) :: TB) B.pre w (List.mem_cons_of_mem _ h)
  have hown : s.vm.findClass R_S = some m.cls := findClass_of_methodNamed B.named
  have hlocks := B.notSynchronized
  have hS : va_S (fun _ => False) s.heap s.heap [] := va_S.rf
  have F : CallFix p m c b_S_fixed 1 s _ TB R_S := ⟨hx, hb, hml, hown, ht⟩
  have hl := lv_entry ([.int k]) (n := 1) (Nat.le_of_ble_eq_true rfl)
  rw [lg_entry_eq]
  generalize (lg_sl ([.int k]) ++ List.replicate (1 - (lg_sl ([.int k])).length) Slot.unset).toArray = ls at hl ⊢
  have hl : lv_has ls 1 [(0, .int k)] := hl
  refine lv_iload_n hx hb d_S_fixed_0 rfl (lv_at hl 0 rfl) ?_
  refine rcS (As := [.int k]) (rest := []) (c_S_isKind l dC dI tb k ) F tw_72 tw_30 tw_71 tw_70 hP [] rfl hK [] rfl hE hS hd_S_isKind rfl rfl ⟨Nat.le_of_ble_eq_true rfl, Nat.le_of_ble_eq_true rfl⟩ ⟨Nat.le_of_ble_eq_true rfl, Nat.le_of_ble_eq_true rfl⟩ hl.1 rfl (Nat.le_of_ble_eq_true rfl) d_S_fixed_1 ?_
  refine lv_if_eq (tgt := 27) hx hb d_S_fixed_4 (by decide) (fun c_13 => ?_) (fun c_13 => ?_)
  · refine lv_iconst (v := 0) hx hb d_S_fixed_27 (by decide) ?_
    exact W.iret hx hb hr (fun t ht9 hW => ⟨_, rfl, by simp only [fxd, if_pos c_13], ht9⟩) hS.2.2 d_S_fixed_28
  · refine va_gets hx hb hE.2.1.1 hS hown (ht _ tw_73) (fun _ h9 => h9) d_S_fixed_7 ?_
    refine lv_iload_n hx hb d_S_fixed_10 rfl (lv_at hl 0 rfl) ?_
    refine lv_iconst (v := 1) hx hb d_S_fixed_11 (by decide) ?_
    refine lv_iadd hx hb d_S_fixed_12 ?_
    refine rcSN (As := [.ref tb.1, .int (k + 1)]) (rest := []) (c_D_readF l dC dI tb (k + 1) ) F tw_66 tw_28 tw_65 nw_1 hP [] rfl hK [] rfl hE hS hd_D_read rfl rfl ⟨Nat.le_of_ble_eq_true rfl, Nat.le_of_ble_eq_true rfl⟩ ⟨Nat.le_of_ble_eq_true rfl, Nat.le_of_ble_eq_true rfl⟩ hl.1 rfl (Nat.le_of_ble_eq_true rfl) d_S_fixed_13 ?_
    refine va_gets hx hb hE.2.1.1 hS hown (ht _ tw_73) (fun _ h9 => h9) d_S_fixed_16 ?_
    refine lv_iload_n hx hb d_S_fixed_19 rfl (lv_at hl 0 rfl) ?_
    refine rcSN (As := [.ref tb.1, .int k]) (rest := [.int (rdA 27 tbF (k + 1))]) (c_D_readF l dC dI tb k ) F tw_66 tw_28 tw_65 nw_1 hP [] rfl hK [] rfl hE hS hd_D_read rfl rfl ⟨Nat.le_of_ble_eq_true rfl, Nat.le_of_ble_eq_true rfl⟩ ⟨Nat.le_of_ble_eq_true rfl, Nat.le_of_ble_eq_true rfl⟩ hl.1 rfl (Nat.le_of_ble_eq_true rfl) d_S_fixed_20 ?_
    refine lv_isub hx hb d_S_fixed_23 ?_
    refine lv_goto (tgt := 28) hx hb d_S_fixed_24 (by decide) ?_
    exact W.iret hx hb hr (fun t ht9 hW => ⟨_, rfl, by simp only [fxd, if_neg c_13], ht9⟩) hS.2.2 d_S_fixed_28
set_option maxHeartbeats 4000000 in
set_option maxRecDepth 100000 in
theorem c_S_holders (l : Launch) (dC : Nat → ClassId) (dI : Nat → Nat → Nat) (tb : tbT) (k : Int32) : RM l y_S_holders (Cond.code y_S_holders b_S_holders 1 (some .int) :: TB) ({ frames := 1, cells := 0, slots := 0, locals := 21 }) tb (dC, dI) [.int k] [] [] (hld k) := by
  refine Met.ofW (cc := b_S_holders) (maxL := 1) (ret := (some .int)) (by decide) rfl ?_
  intro p e s m args below meth c s₁ B hml hv
  obtain ⟨rfl, hP, hK, hE⟩ := hv
  have hx := B.exec
  have hb := B.bytes
  have hr := B.returns
  have ht := fun w (h : w ∈ TB) => atoms_spec (ws := Cond.code y_S_holders b_S_holders 1 (some .int) :: TB) B.pre w (List.mem_cons_of_mem _ h)
  have hown : s.vm.findClass R_S = some m.cls := findClass_of_methodNamed B.named
  have hlocks := B.notSynchronized
  have hS : va_S (fun _ => False) s.heap s.heap [] := va_S.rf
  have F : CallFix p m c b_S_holders 1 s _ TB R_S := ⟨hx, hb, hml, hown, ht⟩
  have hl := lv_entry ([.int k]) (n := 1) (Nat.le_of_ble_eq_true rfl)
  rw [lg_entry_eq]
  generalize (lg_sl ([.int k]) ++ List.replicate (1 - (lg_sl ([.int k])).length) Slot.unset).toArray = ls at hl ⊢
  have hl : lv_has ls 1 [(0, .int k)] := hl
  refine va_gets hx hb hE.2.2.1.1 hS hown (ht _ tw_62) (fun _ h9 => h9) d_S_holders_0 ?_
  refine lv_iload_n hx hb d_S_holders_3 rfl (lv_at hl 0 rfl) ?_
  refine rcSN (As := [.ref tb.2.1, .int k]) (rest := []) (c_D_readH l dC dI tb k ) F tw_66 tw_28 tw_65 nw_1 hP [] rfl hK [] rfl hE hS hd_D_read rfl rfl ⟨Nat.le_of_ble_eq_true rfl, Nat.le_of_ble_eq_true rfl⟩ ⟨Nat.le_of_ble_eq_true rfl, Nat.le_of_ble_eq_true rfl⟩ hl.1 rfl (Nat.le_of_ble_eq_true rfl) d_S_holders_4 ?_
  exact W.iret hx hb hr (fun t ht9 hW => ⟨_, rfl, rfl, ht9⟩) hS.2.2 d_S_holders_7
set_option maxHeartbeats 4000000 in
set_option maxRecDepth 100000 in
theorem c_S_column (l : Launch) (dC : Nat → ClassId) (dI : Nat → Nat → Nat) (tb : tbT) (k j c9 : Int32) : RM l y_S_column (Cond.code y_S_column b_S_column 3 (some .int) :: TB) ({ frames := 1, cells := 0, slots := 0, locals := 21 }) tb (dC, dI) [.int k, .int j, .int c9] [] [] (colm k j c9) := by
  refine Met.ofW (cc := b_S_column) (maxL := 3) (ret := (some .int)) (by decide) rfl ?_
  intro p e s m args below meth c s₁ B hml hv
  obtain ⟨rfl, hP, hK, hE⟩ := hv
  have hx := B.exec
  have hb := B.bytes
  have hr := B.returns
  have ht := fun w (h : w ∈ TB) => atoms_spec (ws := Cond.code y_S_column b_S_column 3 (some .int) :: TB) B.pre w (List.mem_cons_of_mem _ h)
  have hown : s.vm.findClass R_S = some m.cls := findClass_of_methodNamed B.named
  have hlocks := B.notSynchronized
  have hS : va_S (fun _ => False) s.heap s.heap [] := va_S.rf
  have F : CallFix p m c b_S_column 3 s _ TB R_S := ⟨hx, hb, hml, hown, ht⟩
  have hl := lv_entry ([.int k, .int j, .int c9]) (n := 3) (Nat.le_of_ble_eq_true rfl)
  rw [lg_entry_eq]
  generalize (lg_sl ([.int k, .int j, .int c9]) ++ List.replicate (3 - (lg_sl ([.int k, .int j, .int c9])).length) Slot.unset).toArray = ls at hl ⊢
  have hl : lv_has ls 3 [(0, .int k), (1, .int j), (2, .int c9)] := hl
  refine va_gets hx hb hE.2.2.2.1 hS hown (ht _ tw_97) (fun _ h9 => h9) d_S_column_0 ?_
  refine lv_iconst (v := 3) hx hb d_S_column_3 (by decide) ?_
  refine va_gets hx hb hE.2.1.1 hS hown (ht _ tw_73) (fun _ h9 => h9) d_S_column_4 ?_
  refine lv_iload_n hx hb d_S_column_7 rfl (lv_at hl 0 rfl) ?_
  refine rcSN (As := [.ref tb.1, .int k]) (rest := [.int 3, .ref tb.2.2]) (c_D_readF l dC dI tb k ) F tw_66 tw_28 tw_65 nw_1 hP [] rfl hK [] rfl hE hS hd_D_read rfl rfl ⟨Nat.le_of_ble_eq_true rfl, Nat.le_of_ble_eq_true rfl⟩ ⟨Nat.le_of_ble_eq_true rfl, Nat.le_of_ble_eq_true rfl⟩ hl.1 rfl (Nat.le_of_ble_eq_true rfl) d_S_column_8 ?_
  refine lv_iload_n hx hb d_S_column_11 rfl (lv_at hl 1 rfl) ?_
  refine lv_iadd hx hb d_S_column_12 ?_
  refine lv_imul hx hb d_S_column_13 ?_
  refine lv_iload_n hx hb d_S_column_14 rfl (lv_at hl 2 rfl) ?_
  refine lv_iadd hx hb d_S_column_15 ?_
  refine rcSN (As := [.ref tb.2.2, .int ((3 * ((rdA 27 tbF k) + j)) + c9)]) (rest := []) (c_D_readA l dC dI tb ((3 * ((rdA 27 tbF k) + j)) + c9) ) F tw_66 tw_28 tw_65 nw_1 hP [] rfl hK [] rfl hE hS hd_D_read rfl rfl ⟨Nat.le_of_ble_eq_true rfl, Nat.le_of_ble_eq_true rfl⟩ ⟨Nat.le_of_ble_eq_true rfl, Nat.le_of_ble_eq_true rfl⟩ hl.1 rfl (Nat.le_of_ble_eq_true rfl) d_S_column_16 ?_
  exact W.iret hx hb hr (fun t ht9 hW => ⟨_, rfl, rfl, ht9⟩) hS.2.2 d_S_column_19
set_option maxHeartbeats 4000000 in
set_option maxRecDepth 100000 in
theorem c_S_mayBe (l : Launch) (dC : Nat → ClassId) (dI : Nat → Nat → Nat) (tb : tbT) (k j v : Int32) : RM l y_S_mayBe (Cond.code y_S_mayBe b_S_mayBe 3 (some .boolean) :: TB) ({ frames := 2, cells := 0, slots := 0, locals := 43 }) tb (dC, dI) [.int k, .int j, .int v] [] [] (myB k j v) := by
  refine Met.ofW (cc := b_S_mayBe) (maxL := 3) (ret := (some .boolean)) (by decide) rfl ?_
  intro p e s m args below meth c s₁ B hml hv
  obtain ⟨rfl, hP, hK, hE⟩ := hv
  have hx := B.exec
  have hb := B.bytes
  have hr := B.returns
  have ht := fun w (h : w ∈ TB) => atoms_spec (ws := Cond.code y_S_mayBe b_S_mayBe 3 (some .boolean) :: TB) B.pre w (List.mem_cons_of_mem _ h)
  have hown : s.vm.findClass R_S = some m.cls := findClass_of_methodNamed B.named
  have hlocks := B.notSynchronized
  have hS : va_S (fun _ => False) s.heap s.heap [] := va_S.rf
  have F : CallFix p m c b_S_mayBe 3 s _ TB R_S := ⟨hx, hb, hml, hown, ht⟩
  have hl := lv_entry ([.int k, .int j, .int v]) (n := 3) (Nat.le_of_ble_eq_true rfl)
  rw [lg_entry_eq]
  generalize (lg_sl ([.int k, .int j, .int v]) ++ List.replicate (3 - (lg_sl ([.int k, .int j, .int v])).length) Slot.unset).toArray = ls at hl ⊢
  have hl : lv_has ls 3 [(0, .int k), (1, .int j), (2, .int v)] := hl
  refine lv_iload_n hx hb d_S_mayBe_0 rfl (lv_at hl 2 rfl) ?_
  refine lv_iload_n hx hb d_S_mayBe_1 rfl (lv_at hl 0 rfl) ?_
  refine lv_iload_n hx hb d_S_mayBe_2 rfl (lv_at hl 1 rfl) ?_
  refine lv_iconst (v := 0) hx hb d_S_mayBe_3 (by decide) ?_
  refine rcS (As := [.int k, .int j, .int 0]) (rest := [.int v]) (c_S_column l dC dI tb k j 0 ) F tw_96 tw_30 tw_95 tw_94 hP [] rfl hK [] rfl hE hS hd_S_column rfl rfl ⟨Nat.le_of_ble_eq_true rfl, Nat.le_of_ble_eq_true rfl⟩ ⟨Nat.le_of_ble_eq_true rfl, Nat.le_of_ble_eq_true rfl⟩ hl.1 rfl (Nat.le_of_ble_eq_true rfl) d_S_mayBe_4 ?_
  refine lv_icmp_lt (tgt := 24) hx hb d_S_mayBe_7 (by decide) (fun c_14 => ?_) (fun c_14 => ?_)
  · refine lv_iconst (v := 0) hx hb d_S_mayBe_24 (by decide) ?_
    exact W.zret hx hb hr (rfl) (fun t ht9 hW => ⟨_, rfl, by simp only [myB, if_pos c_14], ht9⟩) hS.2.2 d_S_mayBe_25
  · refine lv_iload_n hx hb d_S_mayBe_10 rfl (lv_at hl 2 rfl) ?_
    refine lv_iload_n hx hb d_S_mayBe_11 rfl (lv_at hl 0 rfl) ?_
    refine lv_iload_n hx hb d_S_mayBe_12 rfl (lv_at hl 1 rfl) ?_
    refine lv_iconst (v := 1) hx hb d_S_mayBe_13 (by decide) ?_
    refine rcS (As := [.int k, .int j, .int 1]) (rest := [.int v]) (c_S_column l dC dI tb k j 1 ) F tw_96 tw_30 tw_95 tw_94 hP [] rfl hK [] rfl hE hS hd_S_column rfl rfl ⟨Nat.le_of_ble_eq_true rfl, Nat.le_of_ble_eq_true rfl⟩ ⟨Nat.le_of_ble_eq_true rfl, Nat.le_of_ble_eq_true rfl⟩ hl.1 rfl (Nat.le_of_ble_eq_true rfl) d_S_mayBe_14 ?_
    refine lv_icmp_gt (tgt := 24) hx hb d_S_mayBe_17 (by decide) (fun c_15 => ?_) (fun c_15 => ?_)
    · refine lv_iconst (v := 0) hx hb d_S_mayBe_24 (by decide) ?_
      exact W.zret hx hb hr (rfl) (fun t ht9 hW => ⟨_, rfl, by simp only [myB, if_neg c_14, if_pos c_15], ht9⟩) hS.2.2 d_S_mayBe_25
    · refine lv_iconst (v := 1) hx hb d_S_mayBe_20 (by decide) ?_
      refine lv_goto (tgt := 25) hx hb d_S_mayBe_21 (by decide) ?_
      exact W.zret hx hb hr (rfl) (fun t ht9 hW => ⟨_, rfl, by simp only [myB, if_neg c_14, if_neg c_15], ht9⟩) hS.2.2 d_S_mayBe_25
set_option maxHeartbeats 4000000 in
set_option maxRecDepth 100000 in
theorem c_S_untold (l : Launch) (dC : Nat → ClassId) (dI : Nat → Nat → Nat) (tb : tbT) (k j : Int32) : RM l y_S_untold (Cond.code y_S_untold b_S_untold 2 (some .int) :: TB) ({ frames := 2, cells := 0, slots := 0, locals := 43 }) tb (dC, dI) [.int k, .int j] [] [] (colm k j 2) := by
  refine Met.ofW (cc := b_S_untold) (maxL := 2) (ret := (some .int)) (by decide) rfl ?_
  intro p e s m args below meth c s₁ B hml hv
  obtain ⟨rfl, hP, hK, hE⟩ := hv
  have hx := B.exec
  have hb := B.bytes
  have hr := B.returns
  have ht := fun w (h : w ∈ TB) => atoms_spec (ws := Cond.code y_S_untold b_S_untold 2 (some .int) :: TB) B.pre w (List.mem_cons_of_mem _ h)
  have hown : s.vm.findClass R_S = some m.cls := findClass_of_methodNamed B.named
  have hlocks := B.notSynchronized
  have hS : va_S (fun _ => False) s.heap s.heap [] := va_S.rf
  have F : CallFix p m c b_S_untold 2 s _ TB R_S := ⟨hx, hb, hml, hown, ht⟩
  have hl := lv_entry ([.int k, .int j]) (n := 2) (Nat.le_of_ble_eq_true rfl)
  rw [lg_entry_eq]
  generalize (lg_sl ([.int k, .int j]) ++ List.replicate (2 - (lg_sl ([.int k, .int j])).length) Slot.unset).toArray = ls at hl ⊢
  have hl : lv_has ls 2 [(0, .int k), (1, .int j)] := hl
  refine lv_iload_n hx hb d_S_untold_0 rfl (lv_at hl 0 rfl) ?_
  refine lv_iload_n hx hb d_S_untold_1 rfl (lv_at hl 1 rfl) ?_
  refine lv_iconst (v := 2) hx hb d_S_untold_2 (by decide) ?_
  refine rcS (As := [.int k, .int j, .int 2]) (rest := []) (c_S_column l dC dI tb k j 2 ) F tw_96 tw_30 tw_95 tw_94 hP [] rfl hK [] rfl hE hS hd_S_column rfl rfl ⟨Nat.le_of_ble_eq_true rfl, Nat.le_of_ble_eq_true rfl⟩ ⟨Nat.le_of_ble_eq_true rfl, Nat.le_of_ble_eq_true rfl⟩ hl.1 rfl (Nat.le_of_ble_eq_true rfl) d_S_untold_3 ?_
  exact W.iret hx hb hr (fun t ht9 hW => ⟨_, rfl, rfl, ht9⟩) hS.2.2 d_S_untold_6
