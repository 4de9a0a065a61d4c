theorem inL_iff (v lo hi : Int64) : inL v lo hi = 0 ↔ ¬ (lo ≤ v ∧ v ≤ hi) := by
  have h1 : lg_cmp v lo < 0 ↔ v < lo := by
    unfold lg_cmp
    split
    · rename_i h; constructor
      · intro q; exact absurd q (by decide)
      · intro q; exact absurd (Int64.lt_trans h q) (Int64.lt_irrefl)
    · split
      · rename_i h1 h; subst h; constructor
        · intro q; exact absurd q (by decide)
        · intro q; exact absurd q Int64.lt_irrefl
      · rename_i h1 h2
        constructor
        · intro _
          have h1 : ¬ lo < v := h1
          rw [Int64.lt_iff_toInt_lt] at h1 ⊢
          have h3 : v.toInt ≠ lo.toInt := fun q => h2 (Int64.toInt_inj.mp q)
          omega
        · intro _; decide
  have h2 : 0 < lg_cmp v hi ↔ hi < v := by
    unfold lg_cmp
    split
    · rename_i h; exact ⟨fun _ => h, fun _ => by decide⟩
    · rename_i h
      split
      · exact ⟨fun q => absurd q (by decide), fun q => absurd q h⟩
      · exact ⟨fun q => absurd q (by decide), fun q => absurd q h⟩
  unfold inL
  split
  · rename_i h; rw [h1] at h
    refine ⟨fun _ q => ?_, fun _ => rfl⟩
    rw [Int64.le_iff_toInt_le] at q; rw [Int64.lt_iff_toInt_lt] at h; omega
  · rename_i h; rw [h1] at h
    split
    · rename_i h9; rw [h2] at h9
      refine ⟨fun _ q => ?_, fun _ => rfl⟩
      rw [Int64.le_iff_toInt_le, Int64.le_iff_toInt_le] at q; rw [Int64.lt_iff_toInt_lt] at h9; omega
    · rename_i h9; rw [h2] at h9
      refine ⟨fun q => absurd q (by decide), fun q => absurd ?_ q⟩
      rw [Int64.lt_iff_toInt_lt] at h h9; rw [Int64.le_iff_toInt_le, Int64.le_iff_toInt_le]; omega
theorem inL_in {k : Int32} {m : Int64} {n : Nat} (hm : m.toInt + 1 = n) (h : ¬ inL k.toInt64 0 m = 0) : vp_in k n := by
  rw [inL_iff, Decidable.not_not, Int64.le_iff_toInt_le, Int64.le_iff_toInt_le, Int32.toInt_toInt64] at h
  have h0 : (0 : Int64).toInt = 0 := by decide
  rw [h0] at h
  rw [vp_in_iff]; omega
set_option maxHeartbeats 4000000 in
set_option maxRecDepth 100000 in
theorem c_M_refuse0 (l : Launch) (dC : Nat → ClassId) (dI : Nat → Nat → Nat) (tb : tbT) (y ma qa ba aa ka : Nat) (th wi hg zs ta de oe re pa ee dq qe ag : Int32) (sz : Nat) : MI l y_M_refuse (Cond.code y_M_refuse b_M_refuse 2 (some .boolean) :: TB) ({ frames := 0, cells := 0, slots := 0, locals := 0 }) tb (dC, dI) [.ref y, .int 0] [(y, .inr (4, [.int th, .ref ma, .int wi, .int hg, .ref qa, .int zs, .int ta, .int de, .ref ba, .int oe, .int re, .int pa, .int ee, .int dq, .int qe, .int ag, .ref aa, .ref ka]))] [(y, .inr (4, [.int 0, .ref ma, .int wi, .int hg, .ref qa, .int zs, .int ta, .int de, .ref ba, .int oe, .int re, .int pa, .int ee, .int dq, .int qe, .int ag, .ref aa, .ref ka]))] [] sz 0 := by
  refine Met.ofW (cc := b_M_refuse) (maxL := 2) (ret := (some .boolean)) (by decide) rfl ?_
  intro p e s m args below meth c s₁ B hml hv
  obtain ⟨rfl, hsz, hP, hK, hD0, hE⟩ := hv
  have hx := B.exec
  have hb := B.bytes
  have hr := B.returns
  have ht := fun w (h : w ∈ TB) => atoms_spec (ws := Cond.code y_M_refuse b_M_refuse 2 (some .boolean) :: TB) B.pre w (List.mem_cons_of_mem _ h)
  have hown : s.vm.findClass R_M = some m.cls := findClass_of_methodNamed B.named
  have hlocks := B.notSynchronized
  subst hsz
  have hD := hD0.self (sz := s.heap.size)
  generalize hAe : va_A [(y, .inr (4, [.int th, .ref ma, .int wi, .int hg, .ref qa, .int zs, .int ta, .int de, .ref ba, .int oe, .int re, .int pa, .int ee, .int dq, .int qe, .int ag, .ref aa, .ref ka]))] s.heap.size = A at hD hE ⊢
  have hA : ∀ q : Nat, s.heap.size ≤ q → A q := fun q h => by rw [← hAe]; exact Or.inr h
  have hS : va_S A s.heap s.heap [] := va_S.rf
  have F : CallFix p m c b_M_refuse 2 s _ TB R_M := ⟨hx, hb, hml, hown, ht⟩
  have hl := lv_entry ([.ref y, .int 0]) (n := 2) (Nat.le_of_ble_eq_true rfl)
  rw [lg_entry_eq]
  generalize (lg_sl ([.ref y, .int 0]) ++ List.replicate (2 - (lg_sl ([.ref y, .int 0])).length) Slot.unset).toArray = ls at hl ⊢
  have hl : lv_has ls 2 [(0, .ref y), (1, .int 0)] := hl
  refine lv_aload_n hx hb d_M_refuse_0 rfl (lv_at hl 0 rfl) ?_
  refine lv_iload_n hx hb d_M_refuse_1 rfl (lv_at hl 1 rfl) ?_
  refine lv_if_eq (tgt := 9) hx hb d_M_refuse_2 (by decide) (fun c_113 => ?_) (fun c_113 => ?_)
  · refine lv_iconst (v := 0) hx hb d_M_refuse_9 (by decide) ?_
    refine va_put (D := (dC, dI)) (ci := 4) (v := .int 0) (ty := .int) (C := R_M) (T := F_M) (N := 18) hx hb ht tu_M ft_M ft_M_ok n_M hown hK hP hD hS 0 rfl rfl 0 (by decide) (ht _ tw_532) (fun _ h9 => h9) rfl (by decide +kernel) rfl rfl (Nat.le_of_ble_eq_true rfl) d_M_refuse_10 (fun H locs hP hD hS => ?_)
    have hP : va_P (dC, dI) clX [(y, .inr (4, [.int 0, .ref ma, .int wi, .int hg, .ref qa, .int zs, .int ta, .int de, .ref ba, .int oe, .int re, .int pa, .int ee, .int dq, .int qe, .int ag, .ref aa, .ref ka]))] H := hP
    have hD : va_D A [(y, .inr (4, [.int 0, .ref ma, .int wi, .int hg, .ref qa, .int zs, .int ta, .int de, .ref ba, .int oe, .int re, .int pa, .int ee, .int dq, .int qe, .int ag, .ref aa, .ref ka]))] := hD
    refine lv_iload_n hx hb d_M_refuse_13 rfl (lv_at hl 1 rfl) ?_
    have hP9 := hP.sub (ws' := [(y, .inr (4, [.int 0, .ref ma, .int wi, .int hg, .ref qa, .int zs, .int ta, .int de, .ref ba, .int oe, .int re, .int pa, .int ee, .int dq, .int qe, .int ag, .ref aa, .ref ka]))]) [0] rfl
    have hD9 := hD.sub (ws' := [(y, .inr (4, [.int 0, .ref ma, .int wi, .int hg, .ref qa, .int zs, .int ta, .int de, .ref ba, .int oe, .int re, .int pa, .int ee, .int dq, .int qe, .int ag, .ref aa, .ref ka]))]) [0] (by decide) rfl
    exact W.zret hx hb hr rfl (fun t ht9 hW => ⟨⟨_, (), rfl, rfl, by rw [ht9]; exact hP9, va_K.moved hW.alike hK, by rw [hAe]; exact hD9⟩, hS.F ht9⟩) hS.2.2 d_M_refuse_14
  · exact absurd (by decide) c_113
set_option maxHeartbeats 4000000 in
set_option maxRecDepth 100000 in
theorem c_M_refuse1 (l : Launch) (dC : Nat → ClassId) (dI : Nat → Nat → Nat) (tb : tbT) (y ma qa ba aa ka : Nat) (th wi hg zs ta de oe re pa ee dq qe ag : Int32) (sz : Nat) : MI l y_M_refuse (Cond.code y_M_refuse b_M_refuse 2 (some .boolean) :: TB) ({ frames := 0, cells := 0, slots := 0, locals := 0 }) tb (dC, dI) [.ref y, .int 1] [(y, .inr (4, [.int th, .ref ma, .int wi, .int hg, .ref qa, .int zs, .int ta, .int de, .ref ba, .int oe, .int re, .int pa, .int ee, .int dq, .int qe, .int ag, .ref aa, .ref ka]))] [(y, .inr (4, [.int 1, .ref ma, .int wi, .int hg, .ref qa, .int zs, .int ta, .int de, .ref ba, .int oe, .int re, .int pa, .int ee, .int dq, .int qe, .int ag, .ref aa, .ref ka]))] [] sz 1 := by
  refine Met.ofW (cc := b_M_refuse) (maxL := 2) (ret := (some .boolean)) (by decide) rfl ?_
  intro p e s m args below meth c s₁ B hml hv
  obtain ⟨rfl, hsz, hP, hK, hD0, hE⟩ := hv
  have hx := B.exec
  have hb := B.bytes
  have hr := B.returns
  have ht := fun w (h : w ∈ TB) => atoms_spec (ws := Cond.code y_M_refuse b_M_refuse 2 (some .boolean) :: TB) B.pre w (List.mem_cons_of_mem _ h)
  have hown : s.vm.findClass R_M = some m.cls := findClass_of_methodNamed B.named
  have hlocks := B.notSynchronized
  subst hsz
  have hD := hD0.self (sz := s.heap.size)
  generalize hAe : va_A [(y, .inr (4, [.int th, .ref ma, .int wi, .int hg, .ref qa, .int zs, .int ta, .int de, .ref ba, .int oe, .int re, .int pa, .int ee, .int dq, .int qe, .int ag, .ref aa, .ref ka]))] s.heap.size = A at hD hE ⊢
  have hA : ∀ q : Nat, s.heap.size ≤ q → A q := fun q h => by rw [← hAe]; exact Or.inr h
  have hS : va_S A s.heap s.heap [] := va_S.rf
  have F : CallFix p m c b_M_refuse 2 s _ TB R_M := ⟨hx, hb, hml, hown, ht⟩
  have hl := lv_entry ([.ref y, .int 1]) (n := 2) (Nat.le_of_ble_eq_true rfl)
  rw [lg_entry_eq]
  generalize (lg_sl ([.ref y, .int 1]) ++ List.replicate (2 - (lg_sl ([.ref y, .int 1])).length) Slot.unset).toArray = ls at hl ⊢
  have hl : lv_has ls 2 [(0, .ref y), (1, .int 1)] := hl
  refine lv_aload_n hx hb d_M_refuse_0 rfl (lv_at hl 0 rfl) ?_
  refine lv_iload_n hx hb d_M_refuse_1 rfl (lv_at hl 1 rfl) ?_
  refine lv_if_eq (tgt := 9) hx hb d_M_refuse_2 (by decide) (fun c_114 => ?_) (fun c_114 => ?_)
  · exact absurd c_114 (by decide)
  · refine lv_iconst (v := 1) hx hb d_M_refuse_5 (by decide) ?_
    refine lv_goto (tgt := 10) hx hb d_M_refuse_6 (by decide) ?_
    refine va_put (D := (dC, dI)) (ci := 4) (v := .int 1) (ty := .int) (C := R_M) (T := F_M) (N := 18) hx hb ht tu_M ft_M ft_M_ok n_M hown hK hP hD hS 0 rfl rfl 0 (by decide) (ht _ tw_532) (fun _ h9 => h9) rfl (by decide +kernel) rfl rfl (Nat.le_of_ble_eq_true rfl) d_M_refuse_10 (fun H locs hP hD hS => ?_)
    have hP : va_P (dC, dI) clX [(y, .inr (4, [.int 1, .ref ma, .int wi, .int hg, .ref qa, .int zs, .int ta, .int de, .ref ba, .int oe, .int re, .int pa, .int ee, .int dq, .int qe, .int ag, .ref aa, .ref ka]))] H := hP
    have hD : va_D A [(y, .inr (4, [.int 1, .ref ma, .int wi, .int hg, .ref qa, .int zs, .int ta, .int de, .ref ba, .int oe, .int re, .int pa, .int ee, .int dq, .int qe, .int ag, .ref aa, .ref ka]))] := hD
    refine lv_iload_n hx hb d_M_refuse_13 rfl (lv_at hl 1 rfl) ?_
    have hP9 := hP.sub (ws' := [(y, .inr (4, [.int 1, .ref ma, .int wi, .int hg, .ref qa, .int zs, .int ta, .int de, .ref ba, .int oe, .int re, .int pa, .int ee, .int dq, .int qe, .int ag, .ref aa, .ref ka]))]) [0] rfl
    have hD9 := hD.sub (ws' := [(y, .inr (4, [.int 1, .ref ma, .int wi, .int hg, .ref qa, .int zs, .int ta, .int de, .ref ba, .int oe, .int re, .int pa, .int ee, .int dq, .int qe, .int ag, .ref aa, .ref ka]))]) [0] (by decide) rfl
    exact W.zret hx hb hr rfl (fun t ht9 hW => ⟨⟨_, (), rfl, rfl, by rw [ht9]; exact hP9, va_K.moved hW.alike hK, by rw [hAe]; exact hD9⟩, hS.F ht9⟩) hS.2.2 d_M_refuse_14
set_option maxHeartbeats 4000000 in
set_option maxRecDepth 100000 in
theorem c_M_refuse (l : Launch) (dC : Nat → ClassId) (dI : Nat → Nat → Nat) (tb : tbT) (y ma qa ba aa ka : Nat) (th wi hg zs ta de oe re pa ee dq qe ag : Int32) (b9 : Int32) (hb9 : narrow .boolean (.int b9) = .int b9) (sz : Nat) : MI l y_M_refuse (Cond.code y_M_refuse b_M_refuse 2 (some .boolean) :: TB) ({ frames := 0, cells := 0, slots := 0, locals := 0 }) tb (dC, dI) [.ref y, .int b9] [(y, .inr (4, [.int th, .ref ma, .int wi, .int hg, .ref qa, .int zs, .int ta, .int de, .ref ba, .int oe, .int re, .int pa, .int ee, .int dq, .int qe, .int ag, .ref aa, .ref ka]))] [(y, .inr (4, [.int (if b9 = 0 then 0 else 1), .ref ma, .int wi, .int hg, .ref qa, .int zs, .int ta, .int de, .ref ba, .int oe, .int re, .int pa, .int ee, .int dq, .int qe, .int ag, .ref aa, .ref ka]))] [] sz b9 := by
  refine Met.ofW (cc := b_M_refuse) (maxL := 2) (ret := (some .boolean)) (by decide) rfl ?_
  intro p e s m args below meth c s₁ B hml hv
  obtain ⟨rfl, hsz, hP, hK, hD0, hE⟩ := hv
  have hx := B.exec
  have hb := B.bytes
  have hr := B.returns
  have ht := fun w (h : w ∈ TB) => atoms_spec (ws := Cond.code y_M_refuse b_M_refuse 2 (some .boolean) :: TB) B.pre w (List.mem_cons_of_mem _ h)
  have hown : s.vm.findClass R_M = some m.cls := findClass_of_methodNamed B.named
  have hlocks := B.notSynchronized
  subst hsz
  have hD := hD0.self (sz := s.heap.size)
  generalize hAe : va_A [(y, .inr (4, [.int th, .ref ma, .int wi, .int hg, .ref qa, .int zs, .int ta, .int de, .ref ba, .int oe, .int re, .int pa, .int ee, .int dq, .int qe, .int ag, .ref aa, .ref ka]))] s.heap.size = A at hD hE ⊢
  have hA : ∀ q : Nat, s.heap.size ≤ q → A q := fun q h => by rw [← hAe]; exact Or.inr h
  have hS : va_S A s.heap s.heap [] := va_S.rf
  have F : CallFix p m c b_M_refuse 2 s _ TB R_M := ⟨hx, hb, hml, hown, ht⟩
  have hl := lv_entry ([.ref y, .int b9]) (n := 2) (Nat.le_of_ble_eq_true rfl)
  rw [lg_entry_eq]
  generalize (lg_sl ([.ref y, .int b9]) ++ List.replicate (2 - (lg_sl ([.ref y, .int b9])).length) Slot.unset).toArray = ls at hl ⊢
  have hl : lv_has ls 2 [(0, .ref y), (1, .int b9)] := hl
  refine lv_aload_n hx hb d_M_refuse_0 rfl (lv_at hl 0 rfl) ?_
  refine lv_iload_n hx hb d_M_refuse_1 rfl (lv_at hl 1 rfl) ?_
  refine lv_if_eq (tgt := 9) hx hb d_M_refuse_2 (by decide) (fun c_115 => ?_) (fun c_115 => ?_)
  · refine lv_iconst (v := 0) hx hb d_M_refuse_9 (by decide) ?_
    refine va_put (D := (dC, dI)) (ci := 4) (v := .int 0) (ty := .int) (C := R_M) (T := F_M) (N := 18) hx hb ht tu_M ft_M ft_M_ok n_M hown hK hP hD hS 0 rfl rfl 0 (by decide) (ht _ tw_532) (fun _ h9 => h9) rfl (by decide +kernel) rfl rfl (Nat.le_of_ble_eq_true rfl) d_M_refuse_10 (fun H locs hP hD hS => ?_)
    have hP : va_P (dC, dI) clX [(y, .inr (4, [.int 0, .ref ma, .int wi, .int hg, .ref qa, .int zs, .int ta, .int de, .ref ba, .int oe, .int re, .int pa, .int ee, .int dq, .int qe, .int ag, .ref aa, .ref ka]))] H := hP
    have hD : va_D A [(y, .inr (4, [.int 0, .ref ma, .int wi, .int hg, .ref qa, .int zs, .int ta, .int de, .ref ba, .int oe, .int re, .int pa, .int ee, .int dq, .int qe, .int ag, .ref aa, .ref ka]))] := hD
    refine lv_iload_n hx hb d_M_refuse_13 rfl (lv_at hl 1 rfl) ?_
    have hP9 := hP.sub (ws' := [(y, .inr (4, [.int 0, .ref ma, .int wi, .int hg, .ref qa, .int zs, .int ta, .int de, .ref ba, .int oe, .int re, .int pa, .int ee, .int dq, .int qe, .int ag, .ref aa, .ref ka]))]) [0] rfl
    have hD9 := hD.sub (ws' := [(y, .inr (4, [.int 0, .ref ma, .int wi, .int hg, .ref qa, .int zs, .int ta, .int de, .ref ba, .int oe, .int re, .int pa, .int ee, .int dq, .int qe, .int ag, .ref aa, .ref ka]))]) [0] (by decide) rfl
    exact W.zret hx hb hr hb9 (fun t ht9 hW => ⟨⟨_, (), rfl, rfl, by rw [ht9]; simp only [if_pos c_115]; exact hP9, va_K.moved hW.alike hK, by rw [hAe]; simp only [if_pos c_115]; exact hD9⟩, hS.F ht9⟩) hS.2.2 d_M_refuse_14
  · refine lv_iconst (v := 1) hx hb d_M_refuse_5 (by decide) ?_
    refine lv_goto (tgt := 10) hx hb d_M_refuse_6 (by decide) ?_
    refine va_put (D := (dC, dI)) (ci := 4) (v := .int 1) (ty := .int) (C := R_M) (T := F_M) (N := 18) hx hb ht tu_M ft_M ft_M_ok n_M hown hK hP hD hS 0 rfl rfl 0 (by decide) (ht _ tw_532) (fun _ h9 => h9) rfl (by decide +kernel) rfl rfl (Nat.le_of_ble_eq_true rfl) d_M_refuse_10 (fun H locs hP hD hS => ?_)
    have hP : va_P (dC, dI) clX [(y, .inr (4, [.int 1, .ref ma, .int wi, .int hg, .ref qa, .int zs, .int ta, .int de, .ref ba, .int oe, .int re, .int pa, .int ee, .int dq, .int qe, .int ag, .ref aa, .ref ka]))] H := hP
    have hD : va_D A [(y, .inr (4, [.int 1, .ref ma, .int wi, .int hg, .ref qa, .int zs, .int ta, .int de, .ref ba, .int oe, .int re, .int pa, .int ee, .int dq, .int qe, .int ag, .ref aa, .ref ka]))] := hD
    refine lv_iload_n hx hb d_M_refuse_13 rfl (lv_at hl 1 rfl) ?_
    have hP9 := hP.sub (ws' := [(y, .inr (4, [.int 1, .ref ma, .int wi, .int hg, .ref qa, .int zs, .int ta, .int de, .ref ba, .int oe, .int re, .int pa, .int ee, .int dq, .int qe, .int ag, .ref aa, .ref ka]))]) [0] rfl
    have hD9 := hD.sub (ws' := [(y, .inr (4, [.int 1, .ref ma, .int wi, .int hg, .ref qa, .int zs, .int ta, .int de, .ref ba, .int oe, .int re, .int pa, .int ee, .int dq, .int qe, .int ag, .ref aa, .ref ka]))]) [0] (by decide) rfl
    exact W.zret hx hb hr hb9 (fun t ht9 hW => ⟨⟨_, (), rfl, rfl, by rw [ht9]; simp only [if_neg c_115]; exact hP9, va_K.moved hW.alike hK, by rw [hAe]; simp only [if_neg c_115]; exact hD9⟩, hS.F ht9⟩) hS.2.2 d_M_refuse_14
set_option maxHeartbeats 4000000 in
set_option maxRecDepth 100000 in
theorem c_M_anew (l : Launch) (dC : Nat → ClassId) (dI : Nat → Nat → Nat) (tb : tbT) (y ma qa ba aa ka : Nat) (th wi hg zs ta de oe re pa ee dq qe ag : Int32) (sz : Nat) : MV l y_M_anew (Cond.code y_M_anew b_M_anew 1 none :: TB) ({ frames := 0, cells := 0, slots := 0, locals := 0 }) tb (dC, dI) [.ref y] [(y, .inr (4, [.int th, .ref ma, .int wi, .int hg, .ref qa, .int zs, .int ta, .int de, .ref ba, .int oe, .int re, .int pa, .int ee, .int dq, .int qe, .int ag, .ref aa, .ref ka]))] [(y, .inr (4, [.int th, .ref ma, .int wi, .int hg, .ref qa, .int zs, .int 0, .int 0, .ref ba, .int 0, .int 0, .int (-1), .int (-1), .int 0, .int (-1), .int 0, .ref aa, .ref ka]))] [] sz := by
  refine Met.ofW (cc := b_M_anew) (maxL := 1) (ret := none) (by decide) rfl ?_
  intro p e s m args below meth c s₁ B hml hv
  obtain ⟨rfl, hsz, hP, hK, hD0, hE⟩ := hv
  have hx := B.exec
  have hb := B.bytes
  have hr := B.returns
  have ht := fun w (h : w ∈ TB) => atoms_spec (ws := Cond.code y_M_anew b_M_anew 1 none :: TB) B.pre w (List.mem_cons_of_mem _ h)
  have hown : s.vm.findClass R_M = some m.cls := findClass_of_methodNamed B.named
  have hlocks := B.notSynchronized
  subst hsz
  have hD := hD0.self (sz := s.heap.size)
  generalize hAe : va_A [(y, .inr (4, [.int th, .ref ma, .int wi, .int hg, .ref qa, .int zs, .int ta, .int de, .ref ba, .int oe, .int re, .int pa, .int ee, .int dq, .int qe, .int ag, .ref aa, .ref ka]))] s.heap.size = A at hD hE ⊢
  have hA : ∀ q : Nat, s.heap.size ≤ q → A q := fun q h => by rw [← hAe]; exact Or.inr h
  have hS : va_S A s.heap s.heap [] := va_S.rf
  have F : CallFix p m c b_M_anew 1 s _ TB R_M := ⟨hx, hb, hml, hown, ht⟩
  have hl := lv_entry ([.ref y]) (n := 1) (Nat.le_of_ble_eq_true rfl)
  rw [lg_entry_eq]
  generalize (lg_sl ([.ref y]) ++ List.replicate (1 - (lg_sl ([.ref y])).length) Slot.unset).toArray = ls at hl ⊢
  have hl : lv_has ls 1 [(0, .ref y)] := hl
  refine lv_aload_n hx hb d_M_anew_0 rfl (lv_at hl 0 rfl) ?_
  refine lv_iconst (v := 0) hx hb d_M_anew_1 (by decide) ?_
  refine va_put (D := (dC, dI)) (ci := 4) (v := .int 0) (ty := .int) (C := R_M) (T := F_M) (N := 18) hx hb ht tu_M ft_M ft_M_ok n_M hown hK hP hD hS 0 rfl rfl 6 (by decide) (ht _ tw_538) (fun _ h9 => h9) rfl (by decide +kernel) rfl rfl (Nat.le_of_ble_eq_true rfl) d_M_anew_2 (fun H locs hP hD hS => ?_)
  have hP : va_P (dC, dI) clX [(y, .inr (4, [.int th, .ref ma, .int wi, .int hg, .ref qa, .int zs, .int 0, .int de, .ref ba, .int oe, .int re, .int pa, .int ee, .int dq, .int qe, .int ag, .ref aa, .ref ka]))] H := hP
  have hD : va_D A [(y, .inr (4, [.int th, .ref ma, .int wi, .int hg, .ref qa, .int zs, .int 0, .int de, .ref ba, .int oe, .int re, .int pa, .int ee, .int dq, .int qe, .int ag, .ref aa, .ref ka]))] := hD
  refine lv_aload_n hx hb d_M_anew_5 rfl (lv_at hl 0 rfl) ?_
  refine lv_iconst (v := 0) hx hb d_M_anew_6 (by decide) ?_
  refine va_put (D := (dC, dI)) (ci := 4) (v := .int 0) (ty := .int) (C := R_M) (T := F_M) (N := 18) hx hb ht tu_M ft_M ft_M_ok n_M hown hK hP hD hS 0 rfl rfl 7 (by decide) (ht _ tw_539) (fun _ h9 => h9) rfl (by decide +kernel) rfl rfl (Nat.le_of_ble_eq_true rfl) d_M_anew_7 (fun H locs hP hD hS => ?_)
  have hP : va_P (dC, dI) clX [(y, .inr (4, [.int th, .ref ma, .int wi, .int hg, .ref qa, .int zs, .int 0, .int 0, .ref ba, .int oe, .int re, .int pa, .int ee, .int dq, .int qe, .int ag, .ref aa, .ref ka]))] H := hP
  have hD : va_D A [(y, .inr (4, [.int th, .ref ma, .int wi, .int hg, .ref qa, .int zs, .int 0, .int 0, .ref ba, .int oe, .int re, .int pa, .int ee, .int dq, .int qe, .int ag, .ref aa, .ref ka]))] := hD
  refine lv_aload_n hx hb d_M_anew_10 rfl (lv_at hl 0 rfl) ?_
  refine lv_iconst (v := 0) hx hb d_M_anew_11 (by decide) ?_
  refine va_put (D := (dC, dI)) (ci := 4) (v := .int 0) (ty := .boolean) (C := R_M) (T := F_M) (N := 18) hx hb ht tu_M ft_M ft_M_ok n_M hown hK hP hD hS 0 rfl rfl 9 (by decide) (ht _ tw_541) (fun _ h9 => h9) rfl (by decide +kernel) (by rfl) rfl (Nat.le_of_ble_eq_true rfl) d_M_anew_12 (fun H locs hP hD hS => ?_)
  have hP : va_P (dC, dI) clX [(y, .inr (4, [.int th, .ref ma, .int wi, .int hg, .ref qa, .int zs, .int 0, .int 0, .ref ba, .int 0, .int re, .int pa, .int ee, .int dq, .int qe, .int ag, .ref aa, .ref ka]))] H := hP
  have hD : va_D A [(y, .inr (4, [.int th, .ref ma, .int wi, .int hg, .ref qa, .int zs, .int 0, .int 0, .ref ba, .int 0, .int re, .int pa, .int ee, .int dq, .int qe, .int ag, .ref aa, .ref ka]))] := hD
  refine lv_aload_n hx hb d_M_anew_15 rfl (lv_at hl 0 rfl) ?_
  refine lv_iconst (v := 0) hx hb d_M_anew_16 (by decide) ?_
  refine va_put (D := (dC, dI)) (ci := 4) (v := .int 0) (ty := .int) (C := R_M) (T := F_M) (N := 18) hx hb ht tu_M ft_M ft_M_ok n_M hown hK hP hD hS 0 rfl rfl 10 (by decide) (ht _ tw_542) (fun _ h9 => h9) rfl (by decide +kernel) rfl rfl (Nat.le_of_ble_eq_true rfl) d_M_anew_17 (fun H locs hP hD hS => ?_)
  have hP : va_P (dC, dI) clX [(y, .inr (4, [.int th, .ref ma, .int wi, .int hg, .ref qa, .int zs, .int 0, .int 0, .ref ba, .int 0, .int 0, .int pa, .int ee, .int dq, .int qe, .int ag, .ref aa, .ref ka]))] H := hP
  have hD : va_D A [(y, .inr (4, [.int th, .ref ma, .int wi, .int hg, .ref qa, .int zs, .int 0, .int 0, .ref ba, .int 0, .int 0, .int pa, .int ee, .int dq, .int qe, .int ag, .ref aa, .ref ka]))] := hD
  refine lv_aload_n hx hb d_M_anew_20 rfl (lv_at hl 0 rfl) ?_
  refine lv_iconst (v := (-1)) hx hb d_M_anew_21 (by decide) ?_
  refine va_put (D := (dC, dI)) (ci := 4) (v := .int (-1)) (ty := .int) (C := R_M) (T := F_M) (N := 18) hx hb ht tu_M ft_M ft_M_ok n_M hown hK hP hD hS 0 rfl rfl 11 (by decide) (ht _ tw_543) (fun _ h9 => h9) rfl (by decide +kernel) rfl rfl (Nat.le_of_ble_eq_true rfl) d_M_anew_22 (fun H locs hP hD hS => ?_)
  have hP : va_P (dC, dI) clX [(y, .inr (4, [.int th, .ref ma, .int wi, .int hg, .ref qa, .int zs, .int 0, .int 0, .ref ba, .int 0, .int 0, .int (-1), .int ee, .int dq, .int qe, .int ag, .ref aa, .ref ka]))] H := hP
  have hD : va_D A [(y, .inr (4, [.int th, .ref ma, .int wi, .int hg, .ref qa, .int zs, .int 0, .int 0, .ref ba, .int 0, .int 0, .int (-1), .int ee, .int dq, .int qe, .int ag, .ref aa, .ref ka]))] := hD
  refine lv_aload_n hx hb d_M_anew_25 rfl (lv_at hl 0 rfl) ?_
  refine lv_iconst (v := (-1)) hx hb d_M_anew_26 (by decide) ?_
  refine va_put (D := (dC, dI)) (ci := 4) (v := .int (-1)) (ty := .int) (C := R_M) (T := F_M) (N := 18) hx hb ht tu_M ft_M ft_M_ok n_M hown hK hP hD hS 0 rfl rfl 12 (by decide) (ht _ tw_544) (fun _ h9 => h9) rfl (by decide +kernel) rfl rfl (Nat.le_of_ble_eq_true rfl) d_M_anew_27 (fun H locs hP hD hS => ?_)
  have hP : va_P (dC, dI) clX [(y, .inr (4, [.int th, .ref ma, .int wi, .int hg, .ref qa, .int zs, .int 0, .int 0, .ref ba, .int 0, .int 0, .int (-1), .int (-1), .int dq, .int qe, .int ag, .ref aa, .ref ka]))] H := hP
  have hD : va_D A [(y, .inr (4, [.int th, .ref ma, .int wi, .int hg, .ref qa, .int zs, .int 0, .int 0, .ref ba, .int 0, .int 0, .int (-1), .int (-1), .int dq, .int qe, .int ag, .ref aa, .ref ka]))] := hD
  refine lv_aload_n hx hb d_M_anew_30 rfl (lv_at hl 0 rfl) ?_
  refine lv_iconst (v := 0) hx hb d_M_anew_31 (by decide) ?_
  refine va_put (D := (dC, dI)) (ci := 4) (v := .int 0) (ty := .int) (C := R_M) (T := F_M) (N := 18) hx hb ht tu_M ft_M ft_M_ok n_M hown hK hP hD hS 0 rfl rfl 13 (by decide) (ht _ tw_545) (fun _ h9 => h9) rfl (by decide +kernel) rfl rfl (Nat.le_of_ble_eq_true rfl) d_M_anew_32 (fun H locs hP hD hS => ?_)
  have hP : va_P (dC, dI) clX [(y, .inr (4, [.int th, .ref ma, .int wi, .int hg, .ref qa, .int zs, .int 0, .int 0, .ref ba, .int 0, .int 0, .int (-1), .int (-1), .int 0, .int qe, .int ag, .ref aa, .ref ka]))] H := hP
  have hD : va_D A [(y, .inr (4, [.int th, .ref ma, .int wi, .int hg, .ref qa, .int zs, .int 0, .int 0, .ref ba, .int 0, .int 0, .int (-1), .int (-1), .int 0, .int qe, .int ag, .ref aa, .ref ka]))] := hD
  refine lv_aload_n hx hb d_M_anew_35 rfl (lv_at hl 0 rfl) ?_
  refine lv_iconst (v := (-1)) hx hb d_M_anew_36 (by decide) ?_
  refine va_put (D := (dC, dI)) (ci := 4) (v := .int (-1)) (ty := .int) (C := R_M) (T := F_M) (N := 18) hx hb ht tu_M ft_M ft_M_ok n_M hown hK hP hD hS 0 rfl rfl 14 (by decide) (ht _ tw_546) (fun _ h9 => h9) rfl (by decide +kernel) rfl rfl (Nat.le_of_ble_eq_true rfl) d_M_anew_37 (fun H locs hP hD hS => ?_)
  have hP : va_P (dC, dI) clX [(y, .inr (4, [.int th, .ref ma, .int wi, .int hg, .ref qa, .int zs, .int 0, .int 0, .ref ba, .int 0, .int 0, .int (-1), .int (-1), .int 0, .int (-1), .int ag, .ref aa, .ref ka]))] H := hP
  have hD : va_D A [(y, .inr (4, [.int th, .ref ma, .int wi, .int hg, .ref qa, .int zs, .int 0, .int 0, .ref ba, .int 0, .int 0, .int (-1), .int (-1), .int 0, .int (-1), .int ag, .ref aa, .ref ka]))] := hD
  refine lv_aload_n hx hb d_M_anew_40 rfl (lv_at hl 0 rfl) ?_
  refine lv_iconst (v := 0) hx hb d_M_anew_41 (by decide) ?_
  refine va_put (D := (dC, dI)) (ci := 4) (v := .int 0) (ty := .int) (C := R_M) (T := F_M) (N := 18) hx hb ht tu_M ft_M ft_M_ok n_M hown hK hP hD hS 0 rfl rfl 15 (by decide) (ht _ tw_547) (fun _ h9 => h9) rfl (by decide +kernel) rfl rfl (Nat.le_of_ble_eq_true rfl) d_M_anew_42 (fun H locs hP hD hS => ?_)
  have hP : va_P (dC, dI) clX [(y, .inr (4, [.int th, .ref ma, .int wi, .int hg, .ref qa, .int zs, .int 0, .int 0, .ref ba, .int 0, .int 0, .int (-1), .int (-1), .int 0, .int (-1), .int 0, .ref aa, .ref ka]))] H := hP
  have hD : va_D A [(y, .inr (4, [.int th, .ref ma, .int wi, .int hg, .ref qa, .int zs, .int 0, .int 0, .ref ba, .int 0, .int 0, .int (-1), .int (-1), .int 0, .int (-1), .int 0, .ref aa, .ref ka]))] := hD
  have hP9 := hP.sub (ws' := [(y, .inr (4, [.int th, .ref ma, .int wi, .int hg, .ref qa, .int zs, .int 0, .int 0, .ref ba, .int 0, .int 0, .int (-1), .int (-1), .int 0, .int (-1), .int 0, .ref aa, .ref ka]))]) [0] rfl
  have hD9 := hD.sub (ws' := [(y, .inr (4, [.int th, .ref ma, .int wi, .int hg, .ref qa, .int zs, .int 0, .int 0, .ref ba, .int 0, .int 0, .int (-1), .int (-1), .int 0, .int (-1), .int 0, .ref aa, .ref ka]))]) [0] (by decide) rfl
  exact W.vret hx hb hr (fun t ht9 hW => ⟨⟨(), rfl, trivial, by rw [ht9]; exact hP9, va_K.moved hW.alike hK, by rw [hAe]; exact hD9⟩, hS.F ht9⟩) hS.2.2 d_M_anew_45
set_option maxHeartbeats 4000000 in
set_option maxRecDepth 100000 in
theorem c_M_clear (l : Launch) (dC : Nat → ClassId) (dI : Nat → Nat → Nat) (tb : tbT) (y ma qa ba aa ka : Nat) (th wi hg zs ta de oe re pa ee dq qe ag : Int32) (sz : Nat) : MV l y_M_clear (Cond.code y_M_clear b_M_clear 1 none :: TB) ({ frames := 1, cells := 0, slots := 0, locals := 20 }) tb (dC, dI) [.ref y] [(y, .inr (4, [.int th, .ref ma, .int wi, .int hg, .ref qa, .int zs, .int ta, .int de, .ref ba, .int oe, .int re, .int pa, .int ee, .int dq, .int qe, .int ag, .ref aa, .ref ka]))] [(y, .inr (4, [.int 0, .ref ma, .int wi, .int hg, .ref qa, .int 0, .int 0, .int 0, .ref ba, .int 0, .int 0, .int (-1), .int (-1), .int 0, .int (-1), .int 0, .ref aa, .ref ka]))] [] sz := by
  refine Met.ofW (cc := b_M_clear) (maxL := 1) (ret := none) (by decide) rfl ?_
  intro p e s m args below meth c s₁ B hml hv
  obtain ⟨rfl, hsz, hP, hK, hD0, hE⟩ := hv
  have hx := B.exec
  have hb := B.bytes
  have hr := B.returns
  have ht := fun w (h : w ∈ TB) => atoms_spec (ws := Cond.code y_M_clear b_M_clear 1 none :: TB) B.pre w (List.mem_cons_of_mem _ h)
  have hown : s.vm.findClass R_M = some m.cls := findClass_of_methodNamed B.named
  have hlocks := B.notSynchronized
  subst hsz
  have hD := hD0.self (sz := s.heap.size)
  generalize hAe : va_A [(y, .inr (4, [.int th, .ref ma, .int wi, .int hg, .ref qa, .int zs, .int ta, .int de, .ref ba, .int oe, .int re, .int pa, .int ee, .int dq, .int qe, .int ag, .ref aa, .ref ka]))] s.heap.size = A at hD hE ⊢
  have hA : ∀ q : Nat, s.heap.size ≤ q → A q := fun q h => by rw [← hAe]; exact Or.inr h
  have hS : va_S A s.heap s.heap [] := va_S.rf
  have F : CallFix p m c b_M_clear 1 s _ TB R_M := ⟨hx, hb, hml, hown, ht⟩
  have hl := lv_entry ([.ref y]) (n := 1) (Nat.le_of_ble_eq_true rfl)
  rw [lg_entry_eq]
  generalize (lg_sl ([.ref y]) ++ List.replicate (1 - (lg_sl ([.ref y])).length) Slot.unset).toArray = ls at hl ⊢
  have hl : lv_has ls 1 [(0, .ref y)] := hl
  refine lv_aload_n hx hb d_M_clear_0 rfl (lv_at hl 0 rfl) ?_
  refine lv_iconst (v := 0) hx hb d_M_clear_1 (by decide) ?_
  refine va_put (D := (dC, dI)) (ci := 4) (v := .int 0) (ty := .int) (C := R_M) (T := F_M) (N := 18) hx hb ht tu_M ft_M ft_M_ok n_M hown hK hP hD hS 0 rfl rfl 0 (by decide) (ht _ tw_532) (fun _ h9 => h9) rfl (by decide +kernel) rfl rfl (Nat.le_of_ble_eq_true rfl) d_M_clear_2 (fun H locs hP hD hS => ?_)
  have hP : va_P (dC, dI) clX [(y, .inr (4, [.int 0, .ref ma, .int wi, .int hg, .ref qa, .int zs, .int ta, .int de, .ref ba, .int oe, .int re, .int pa, .int ee, .int dq, .int qe, .int ag, .ref aa, .ref ka]))] H := hP
  have hD : va_D A [(y, .inr (4, [.int 0, .ref ma, .int wi, .int hg, .ref qa, .int zs, .int ta, .int de, .ref ba, .int oe, .int re, .int pa, .int ee, .int dq, .int qe, .int ag, .ref aa, .ref ka]))] := hD
  refine lv_aload_n hx hb d_M_clear_5 rfl (lv_at hl 0 rfl) ?_
  refine lv_iconst (v := 0) hx hb d_M_clear_6 (by decide) ?_
  refine va_put (D := (dC, dI)) (ci := 4) (v := .int 0) (ty := .int) (C := R_M) (T := F_M) (N := 18) hx hb ht tu_M ft_M ft_M_ok n_M hown hK hP hD hS 0 rfl rfl 5 (by decide) (ht _ tw_537) (fun _ h9 => h9) rfl (by decide +kernel) rfl rfl (Nat.le_of_ble_eq_true rfl) d_M_clear_7 (fun H locs hP hD hS => ?_)
  have hP : va_P (dC, dI) clX [(y, .inr (4, [.int 0, .ref ma, .int wi, .int hg, .ref qa, .int 0, .int ta, .int de, .ref ba, .int oe, .int re, .int pa, .int ee, .int dq, .int qe, .int ag, .ref aa, .ref ka]))] H := hP
  have hD : va_D A [(y, .inr (4, [.int 0, .ref ma, .int wi, .int hg, .ref qa, .int 0, .int ta, .int de, .ref ba, .int oe, .int re, .int pa, .int ee, .int dq, .int qe, .int ag, .ref aa, .ref ka]))] := hD
  refine lv_aload_n hx hb d_M_clear_10 rfl (lv_at hl 0 rfl) ?_
  refine mcVv (As := []) (rest := []) (wr := []) (c_M_anew l dC dI tb y ma qa ba aa ka 0 wi hg 0 ta de oe re pa ee dq qe ag ) F tw_619 tw_34 tw_618 tw_17 tw_616 hP hD [0] [] rfl rfl (by decide) (by decide) (by decide) hK [] rfl hE hS hA (q0 := 0) rfl rfl hd_M_anew rfl rfl ⟨Nat.le_of_ble_eq_true rfl, Nat.le_of_ble_eq_true rfl⟩ ⟨Nat.le_of_ble_eq_true rfl, Nat.le_of_ble_eq_true rfl⟩ hl.1 rfl (Nat.le_of_ble_eq_true rfl) d_M_clear_11 (fun H locs hP hD hS => ?_)
  have hP : va_P (dC, dI) clX [(y, .inr (4, [.int 0, .ref ma, .int wi, .int hg, .ref qa, .int 0, .int 0, .int 0, .ref ba, .int 0, .int 0, .int (-1), .int (-1), .int 0, .int (-1), .int 0, .ref aa, .ref ka]))] H := hP
  have hD : va_D A [(y, .inr (4, [.int 0, .ref ma, .int wi, .int hg, .ref qa, .int 0, .int 0, .int 0, .ref ba, .int 0, .int 0, .int (-1), .int (-1), .int 0, .int (-1), .int 0, .ref aa, .ref ka]))] := hD
  have hP9 := hP.sub (ws' := [(y, .inr (4, [.int 0, .ref ma, .int wi, .int hg, .ref qa, .int 0, .int 0, .int 0, .ref ba, .int 0, .int 0, .int (-1), .int (-1), .int 0, .int (-1), .int 0, .ref aa, .ref ka]))]) [0] rfl
  have hD9 := hD.sub (ws' := [(y, .inr (4, [.int 0, .ref ma, .int wi, .int hg, .ref qa, .int 0, .int 0, .int 0, .ref ba, .int 0, .int 0, .int (-1), .int (-1), .int 0, .int (-1), .int 0, .ref aa, .ref ka]))]) [0] (by decide) rfl
  exact W.vret hx hb hr (fun t ht9 hW => ⟨⟨(), rfl, trivial, by rw [ht9]; exact hP9, va_K.moved hW.alike hK, by rw [hAe]; exact hD9⟩, hS.F ht9⟩) hS.2.2 d_M_clear_14
def wdM (mF : IF) (k9 v9 : Int32) : Int32 × Int32 × IF := (if (inL k9.toInt64 0 4095) = 0 then (0, 1, mF) else ((mF k9.toNatClampNeg), 0, (upd mF k9.toNatClampNeg v9)))
set_option maxHeartbeats 4000000 in
set_option maxRecDepth 100000 in
theorem c_M_word (l : Launch) (dC : Nat → ClassId) (dI : Nat → Nat → Nat) (tb : tbT) (y ma qa ba aa ka : Nat) (th wi hg zs ta de oe re pa ee dq qe ag : Int32) (mF : IF) (cI : ClassId) (k9 v9 : Int32) (sz : Nat) : MI l y_M_word (Cond.code y_M_word b_M_word 4 (some .int) :: TB) ({ frames := 1, cells := 0, slots := 0, locals := 25 }) tb (dC, dI) [.ref y, .int k9, .int v9] [(y, .inr (4, [.int th, .ref ma, .int wi, .int hg, .ref qa, .int zs, .int ta, .int de, .ref ba, .int oe, .int re, .int pa, .int ee, .int dq, .int qe, .int ag, .ref aa, .ref ka])), (ma, .inl (cI, 4096, .inl mF))] [(y, .inr (4, [.int ((wdM mF k9 v9).2.1), .ref ma, .int wi, .int hg, .ref qa, .int zs, .int ta, .int de, .ref ba, .int oe, .int re, .int pa, .int ee, .int dq, .int qe, .int ag, .ref aa, .ref ka])), (ma, .inl (cI, 4096, .inl ((wdM mF k9 v9).2.2)))] [(cI, .int)] sz ((wdM mF k9 v9).1) := by
  refine Met.ofW (cc := b_M_word) (maxL := 4) (ret := (some .int)) (by decide) rfl ?_
  intro p e s m args below meth c s₁ B hml hv
  obtain ⟨rfl, hsz, hP, hK, hD0, hE⟩ := hv
  have hx := B.exec
  have hb := B.bytes
  have hr := B.returns
  have ht := fun w (h : w ∈ TB) => atoms_spec (ws := Cond.code y_M_word b_M_word 4 (some .int) :: TB) B.pre w (List.mem_cons_of_mem _ h)
  have hown : s.vm.findClass R_M = some m.cls := findClass_of_methodNamed B.named
  have hlocks := B.notSynchronized
  subst hsz
  have hD := hD0.self (sz := s.heap.size)
  generalize hAe : va_A [(y, .inr (4, [.int th, .ref ma, .int wi, .int hg, .ref qa, .int zs, .int ta, .int de, .ref ba, .int oe, .int re, .int pa, .int ee, .int dq, .int qe, .int ag, .ref aa, .ref ka])), (ma, .inl (cI, 4096, .inl mF))] s.heap.size = A at hD hE ⊢
  have hA : ∀ q : Nat, s.heap.size ≤ q → A q := fun q h => by rw [← hAe]; exact Or.inr h
  have hS : va_S A s.heap s.heap [] := va_S.rf
  have F : CallFix p m c b_M_word 4 s _ TB R_M := ⟨hx, hb, hml, hown, ht⟩
  have hl := lv_entry ([.ref y, .int k9, .int v9]) (n := 4) (Nat.le_of_ble_eq_true rfl)
  rw [lg_entry_eq]
  generalize (lg_sl ([.ref y, .int k9, .int v9]) ++ List.replicate (4 - (lg_sl ([.ref y, .int k9, .int v9])).length) Slot.unset).toArray = ls at hl ⊢
  have hl : lv_has ls 4 [(0, .ref y), (1, .int k9), (2, .int v9)] := hl
  refine lv_aload_n hx hb d_M_word_0 rfl (lv_at hl 0 rfl) ?_
  refine lv_iload_n hx hb d_M_word_1 rfl (lv_at hl 1 rfl) ?_
  refine lv_i2l (v := k9.toInt64) hx hb d_M_word_2 rfl ?_
  refine lv_lconst (v := 0) hx hb d_M_word_3 (by decide) ?_
  refine lv_ldc2 hx hb hown (ht _ tw_595) d_M_word_4 ?_
  refine rcS (As := [.long k9.toInt64, .long 0, .long 4095]) (rest := [.ref y]) (c_M_in l dC dI tb k9.toInt64 0 4095 ) F tw_598 tw_34 tw_597 tw_596 hP [] rfl hK [] rfl hE hS hd_M_in rfl rfl ⟨Nat.le_of_ble_eq_true rfl, Nat.le_of_ble_eq_true rfl⟩ ⟨Nat.le_of_ble_eq_true rfl, Nat.le_of_ble_eq_true rfl⟩ hl.1 rfl (Nat.le_of_ble_eq_true rfl) d_M_word_7 ?_
  refine lv_if_ne (tgt := 17) hx hb d_M_word_10 (by decide) (fun c_116 => ?_) (fun c_116 => ?_)
  · refine lv_iconst (v := 0) hx hb d_M_word_17 (by decide) ?_
    refine mcVi (As := [.int 0]) (rest := []) (wr := [(ma, .inl (cI, 4096, .inl mF))]) (c_M_refuse0 l dC dI tb y ma qa ba aa ka th wi hg zs ta de oe re pa ee dq qe ag ) F tw_602 tw_34 tw_601 tw_16 tw_599 hP hD [0] [1] rfl rfl (by decide) (by decide) (by decide) hK [] rfl hE hS hA (q0 := 0) rfl rfl hd_M_refuse rfl rfl ⟨Nat.le_of_ble_eq_true rfl, Nat.le_of_ble_eq_true rfl⟩ ⟨Nat.le_of_ble_eq_true rfl, Nat.le_of_ble_eq_true rfl⟩ hl.1 rfl (Nat.le_of_ble_eq_true rfl) d_M_word_18 (fun H locs hP hD hS => ?_)
    have hP : va_P (dC, dI) clX [(ma, .inl (cI, 4096, .inl mF)), (y, .inr (4, [.int 0, .ref ma, .int wi, .int hg, .ref qa, .int zs, .int ta, .int de, .ref ba, .int oe, .int re, .int pa, .int ee, .int dq, .int qe, .int ag, .ref aa, .ref ka]))] H := hP
    have hD : va_D A [(ma, .inl (cI, 4096, .inl mF)), (y, .inr (4, [.int 0, .ref ma, .int wi, .int hg, .ref qa, .int zs, .int ta, .int de, .ref ba, .int oe, .int re, .int pa, .int ee, .int dq, .int qe, .int ag, .ref aa, .ref ka]))] := hD
    refine lv_if_eq (tgt := 26) hx hb d_M_word_21 (by decide) (fun c_117 => ?_) (fun c_117 => ?_)
    · refine lv_aload_n hx hb d_M_word_26 rfl (lv_at hl 0 rfl) ?_
      refine va_get (D := (dC, dI)) (ci := 4) (v := .ref ma) (C := R_M) (T := F_M) (N := 18) hx hb ht tu_M hown hK hP 1 rfl rfl 1 (by decide) (ht _ tw_533) (fun _ h9 => h9) rfl d_M_word_27 ?_
      refine lv_iload_n hx hb d_M_word_30 rfl (lv_at hl 1 rfl) ?_
      refine va_iald hx hb hK hP 0 0 rfl rfl (inL_in (by decide) c_116) d_M_word_31 ?_
      refine lv_istore_n (lv' := [(3, .int (mF k9.toNatClampNeg)), (0, .ref y), (1, .int k9), (2, .int v9)]) hx hb d_M_word_32 rfl hl (by decide) rfl (fun ls hl => ?_)
      refine lv_aload_n hx hb d_M_word_33 rfl (lv_at hl 1 rfl) ?_
      refine va_get (D := (dC, dI)) (ci := 4) (v := .ref ma) (C := R_M) (T := F_M) (N := 18) hx hb ht tu_M hown hK hP 1 rfl rfl 1 (by decide) (ht _ tw_533) (fun _ h9 => h9) rfl d_M_word_34 ?_
      refine lv_iload_n hx hb d_M_word_37 rfl (lv_at hl 2 rfl) ?_
      refine lv_iload_n hx hb d_M_word_38 rfl (lv_at hl 3 rfl) ?_
      refine va_iast hx hb hK hP hD hS 0 0 rfl rfl (inL_in (by decide) c_116) d_M_word_39 (fun H locs hP hD hS => ?_)
      have hP : va_P (dC, dI) clX [(ma, .inl (cI, 4096, .inl (upd mF k9.toNatClampNeg v9))), (y, .inr (4, [.int 0, .ref ma, .int wi, .int hg, .ref qa, .int zs, .int ta, .int de, .ref ba, .int oe, .int re, .int pa, .int ee, .int dq, .int qe, .int ag, .ref aa, .ref ka]))] H := hP
      have hD : va_D A [(ma, .inl (cI, 4096, .inl (upd mF k9.toNatClampNeg v9))), (y, .inr (4, [.int 0, .ref ma, .int wi, .int hg, .ref qa, .int zs, .int ta, .int de, .ref ba, .int oe, .int re, .int pa, .int ee, .int dq, .int qe, .int ag, .ref aa, .ref ka]))] := hD
      refine lv_iload_n hx hb d_M_word_40 rfl (lv_at hl 0 rfl) ?_
      have hP9 := hP.sub (ws' := [(y, .inr (4, [.int 0, .ref ma, .int wi, .int hg, .ref qa, .int zs, .int ta, .int de, .ref ba, .int oe, .int re, .int pa, .int ee, .int dq, .int qe, .int ag, .ref aa, .ref ka])), (ma, .inl (cI, 4096, .inl (upd mF k9.toNatClampNeg v9)))]) [1, 0] rfl
      have hD9 := hD.sub (ws' := [(y, .inr (4, [.int 0, .ref ma, .int wi, .int hg, .ref qa, .int zs, .int ta, .int de, .ref ba, .int oe, .int re, .int pa, .int ee, .int dq, .int qe, .int ag, .ref aa, .ref ka])), (ma, .inl (cI, 4096, .inl (upd mF k9.toNatClampNeg v9)))]) [1, 0] (by decide) rfl
      exact W.iret hx hb hr (fun t ht9 hW => ⟨⟨_, (), rfl, by rw [show wdM mF k9 v9 = ((mF k9.toNatClampNeg), 0, (upd mF k9.toNatClampNeg v9)) from by simp only [wdM, if_neg c_116]], by rw [ht9]; rw [show wdM mF k9 v9 = ((mF k9.toNatClampNeg), 0, (upd mF k9.toNatClampNeg v9)) from by simp only [wdM, if_neg c_116]]; exact hP9, va_K.moved hW.alike hK, by rw [hAe]; rw [show wdM mF k9 v9 = ((mF k9.toNatClampNeg), 0, (upd mF k9.toNatClampNeg v9)) from by simp only [wdM, if_neg c_116]]; exact hD9⟩, hS.F ht9⟩) hS.2.2 d_M_word_41
    · exact absurd (by decide) c_117
  · refine lv_iconst (v := 1) hx hb d_M_word_13 (by decide) ?_
    refine lv_goto (tgt := 18) hx hb d_M_word_14 (by decide) ?_
    refine mcVi (As := [.int 1]) (rest := []) (wr := [(ma, .inl (cI, 4096, .inl mF))]) (c_M_refuse1 l dC dI tb y ma qa ba aa ka th wi hg zs ta de oe re pa ee dq qe ag ) F tw_602 tw_34 tw_601 tw_16 tw_599 hP hD [0] [1] rfl rfl (by decide) (by decide) (by decide) hK [] rfl hE hS hA (q0 := 0) rfl rfl hd_M_refuse rfl rfl ⟨Nat.le_of_ble_eq_true rfl, Nat.le_of_ble_eq_true rfl⟩ ⟨Nat.le_of_ble_eq_true rfl, Nat.le_of_ble_eq_true rfl⟩ hl.1 rfl (Nat.le_of_ble_eq_true rfl) d_M_word_18 (fun H locs hP hD hS => ?_)
    have hP : va_P (dC, dI) clX [(ma, .inl (cI, 4096, .inl mF)), (y, .inr (4, [.int 1, .ref ma, .int wi, .int hg, .ref qa, .int zs, .int ta, .int de, .ref ba, .int oe, .int re, .int pa, .int ee, .int dq, .int qe, .int ag, .ref aa, .ref ka]))] H := hP
    have hD : va_D A [(ma, .inl (cI, 4096, .inl mF)), (y, .inr (4, [.int 1, .ref ma, .int wi, .int hg, .ref qa, .int zs, .int ta, .int de, .ref ba, .int oe, .int re, .int pa, .int ee, .int dq, .int qe, .int ag, .ref aa, .ref ka]))] := hD
    refine lv_if_eq (tgt := 26) hx hb d_M_word_21 (by decide) (fun c_118 => ?_) (fun c_118 => ?_)
    · exact absurd c_118 (by decide)
    · refine lv_iconst (v := 0) hx hb d_M_word_24 (by decide) ?_
      have hP9 := hP.sub (ws' := [(y, .inr (4, [.int 1, .ref ma, .int wi, .int hg, .ref qa, .int zs, .int ta, .int de, .ref ba, .int oe, .int re, .int pa, .int ee, .int dq, .int qe, .int ag, .ref aa, .ref ka])), (ma, .inl (cI, 4096, .inl mF))]) [1, 0] rfl
      have hD9 := hD.sub (ws' := [(y, .inr (4, [.int 1, .ref ma, .int wi, .int hg, .ref qa, .int zs, .int ta, .int de, .ref ba, .int oe, .int re, .int pa, .int ee, .int dq, .int qe, .int ag, .ref aa, .ref ka])), (ma, .inl (cI, 4096, .inl mF))]) [1, 0] (by decide) rfl
      exact W.iret hx hb hr (fun t ht9 hW => ⟨⟨_, (), rfl, by rw [show wdM mF k9 v9 = (0, 1, mF) from by simp only [wdM, if_pos c_116]], by rw [ht9]; rw [show wdM mF k9 v9 = (0, 1, mF) from by simp only [wdM, if_pos c_116]]; exact hP9, va_K.moved hW.alike hK, by rw [hAe]; rw [show wdM mF k9 v9 = (0, 1, mF) from by simp only [wdM, if_pos c_116]]; exact hD9⟩, hS.F ht9⟩) hS.2.2 d_M_word_25
def frM (wi hg k9 v9 : Int32) : Int32 × Int32 × Int32 := (if (inL k9.toInt64 1 128) = 0 then (1, wi, hg) else (if (inL v9.toInt64 1 128) = 0 then (1, wi, hg) else (0, k9, v9)))
set_option maxHeartbeats 4000000 in
set_option maxRecDepth 100000 in
theorem c_M_frame (l : Launch) (dC : Nat → ClassId) (dI : Nat → Nat → Nat) (tb : tbT) (y ma qa ba aa ka : Nat) (th wi hg zs ta de oe re pa ee dq qe ag : Int32) (k9 v9 : Int32) (sz : Nat) : MV l y_M_frame (Cond.code y_M_frame b_M_frame 3 none :: TB) ({ frames := 1, cells := 0, slots := 0, locals := 25 }) tb (dC, dI) [.ref y, .int k9, .int v9] [(y, .inr (4, [.int th, .ref ma, .int wi, .int hg, .ref qa, .int zs, .int ta, .int de, .ref ba, .int oe, .int re, .int pa, .int ee, .int dq, .int qe, .int ag, .ref aa, .ref ka]))] [(y, .inr (4, [.int ((frM wi hg k9 v9).1), .ref ma, .int ((frM wi hg k9 v9).2.1), .int ((frM wi hg k9 v9).2.2), .ref qa, .int zs, .int ta, .int de, .ref ba, .int oe, .int re, .int pa, .int ee, .int dq, .int qe, .int ag, .ref aa, .ref ka]))] [] sz := by
  refine Met.ofW (cc := b_M_frame) (maxL := 3) (ret := none) (by decide) rfl ?_
  intro p e s m args below meth c s₁ B hml hv
  obtain ⟨rfl, hsz, hP, hK, hD0, hE⟩ := hv
  have hx := B.exec
  have hb := B.bytes
  have hr := B.returns
  have ht := fun w (h : w ∈ TB) => atoms_spec (ws := Cond.code y_M_frame b_M_frame 3 none :: TB) B.pre w (List.mem_cons_of_mem _ h)
  have hown : s.vm.findClass R_M = some m.cls := findClass_of_methodNamed B.named
  have hlocks := B.notSynchronized
  subst hsz
  have hD := hD0.self (sz := s.heap.size)
  generalize hAe : va_A [(y, .inr (4, [.int th, .ref ma, .int wi, .int hg, .ref qa, .int zs, .int ta, .int de, .ref ba, .int oe, .int re, .int pa, .int ee, .int dq, .int qe, .int ag, .ref aa, .ref ka]))] s.heap.size = A at hD hE ⊢
  have hA : ∀ q : Nat, s.heap.size ≤ q → A q := fun q h => by rw [← hAe]; exact Or.inr h
  have hS : va_S A s.heap s.heap [] := va_S.rf
  have F : CallFix p m c b_M_frame 3 s _ TB R_M := ⟨hx, hb, hml, hown, ht⟩
  have hl := lv_entry ([.ref y, .int k9, .int v9]) (n := 3) (Nat.le_of_ble_eq_true rfl)
  rw [lg_entry_eq]
  generalize (lg_sl ([.ref y, .int k9, .int v9]) ++ List.replicate (3 - (lg_sl ([.ref y, .int k9, .int v9])).length) Slot.unset).toArray = ls at hl ⊢
  have hl : lv_has ls 3 [(0, .ref y), (1, .int k9), (2, .int v9)] := hl
  refine lv_aload_n hx hb d_M_frame_0 rfl (lv_at hl 0 rfl) ?_
  refine lv_iload_n hx hb d_M_frame_1 rfl (lv_at hl 1 rfl) ?_
  refine lv_i2l (v := k9.toInt64) hx hb d_M_frame_2 rfl ?_
  refine lv_lconst (v := 1) hx hb d_M_frame_3 (by decide) ?_
  refine lv_ldc2 hx hb hown (ht _ tw_607) d_M_frame_4 ?_
  refine rcS (As := [.long k9.toInt64, .long 1, .long 128]) (rest := [.ref y]) (c_M_in l dC dI tb k9.toInt64 1 128 ) F tw_598 tw_34 tw_597 tw_596 hP [] rfl hK [] rfl hE hS hd_M_in rfl rfl ⟨Nat.le_of_ble_eq_true rfl, Nat.le_of_ble_eq_true rfl⟩ ⟨Nat.le_of_ble_eq_true rfl, Nat.le_of_ble_eq_true rfl⟩ hl.1 rfl (Nat.le_of_ble_eq_true rfl) d_M_frame_7 ?_
  refine lv_if_eq (tgt := 25) hx hb d_M_frame_10 (by decide) (fun c_119 => ?_) (fun c_119 => ?_)
  · refine lv_iconst (v := 1) hx hb d_M_frame_25 (by decide) ?_
    refine lv_goto (tgt := 30) hx hb d_M_frame_26 (by decide) ?_
    refine mcVi (As := [.int 1]) (rest := []) (wr := []) (c_M_refuse1 l dC dI tb y ma qa ba aa ka th wi hg zs ta de oe re pa ee dq qe ag ) F tw_602 tw_34 tw_601 tw_16 tw_599 hP hD [0] [] rfl rfl (by decide) (by decide) (by decide) hK [] rfl hE hS hA (q0 := 0) rfl rfl hd_M_refuse rfl rfl ⟨Nat.le_of_ble_eq_true rfl, Nat.le_of_ble_eq_true rfl⟩ ⟨Nat.le_of_ble_eq_true rfl, Nat.le_of_ble_eq_true rfl⟩ hl.1 rfl (Nat.le_of_ble_eq_true rfl) d_M_frame_30 (fun H locs hP hD hS => ?_)
    have hP : va_P (dC, dI) clX [(y, .inr (4, [.int 1, .ref ma, .int wi, .int hg, .ref qa, .int zs, .int ta, .int de, .ref ba, .int oe, .int re, .int pa, .int ee, .int dq, .int qe, .int ag, .ref aa, .ref ka]))] H := hP
    have hD : va_D A [(y, .inr (4, [.int 1, .ref ma, .int wi, .int hg, .ref qa, .int zs, .int ta, .int de, .ref ba, .int oe, .int re, .int pa, .int ee, .int dq, .int qe, .int ag, .ref aa, .ref ka]))] := hD
    refine lv_if_eq (tgt := 37) hx hb d_M_frame_33 (by decide) (fun c_120 => ?_) (fun c_120 => ?_)
    · exact absurd c_120 (by decide)
    · have hP9 := hP.sub (ws' := [(y, .inr (4, [.int 1, .ref ma, .int wi, .int hg, .ref qa, .int zs, .int ta, .int de, .ref ba, .int oe, .int re, .int pa, .int ee, .int dq, .int qe, .int ag, .ref aa, .ref ka]))]) [0] rfl
      have hD9 := hD.sub (ws' := [(y, .inr (4, [.int 1, .ref ma, .int wi, .int hg, .ref qa, .int zs, .int ta, .int de, .ref ba, .int oe, .int re, .int pa, .int ee, .int dq, .int qe, .int ag, .ref aa, .ref ka]))]) [0] (by decide) rfl
      exact W.vret hx hb hr (fun t ht9 hW => ⟨⟨(), rfl, trivial, by rw [ht9]; rw [show frM wi hg k9 v9 = (1, wi, hg) from by simp only [frM, if_pos c_119]]; exact hP9, va_K.moved hW.alike hK, by rw [hAe]; rw [show frM wi hg k9 v9 = (1, wi, hg) from by simp only [frM, if_pos c_119]]; exact hD9⟩, hS.F ht9⟩) hS.2.2 d_M_frame_36
  · refine lv_iload_n hx hb d_M_frame_13 rfl (lv_at hl 2 rfl) ?_
    refine lv_i2l (v := v9.toInt64) hx hb d_M_frame_14 rfl ?_
    refine lv_lconst (v := 1) hx hb d_M_frame_15 (by decide) ?_
    refine lv_ldc2 hx hb hown (ht _ tw_607) d_M_frame_16 ?_
    refine rcS (As := [.long v9.toInt64, .long 1, .long 128]) (rest := [.ref y]) (c_M_in l dC dI tb v9.toInt64 1 128 ) F tw_598 tw_34 tw_597 tw_596 hP [] rfl hK [] rfl hE hS hd_M_in rfl rfl ⟨Nat.le_of_ble_eq_true rfl, Nat.le_of_ble_eq_true rfl⟩ ⟨Nat.le_of_ble_eq_true rfl, Nat.le_of_ble_eq_true rfl⟩ hl.1 rfl (Nat.le_of_ble_eq_true rfl) d_M_frame_19 ?_
    refine lv_if_ne (tgt := 29) hx hb d_M_frame_22 (by decide) (fun c_121 => ?_) (fun c_121 => ?_)
    · refine lv_iconst (v := 0) hx hb d_M_frame_29 (by decide) ?_
      refine mcVi (As := [.int 0]) (rest := []) (wr := []) (c_M_refuse0 l dC dI tb y ma qa ba aa ka th wi hg zs ta de oe re pa ee dq qe ag ) F tw_602 tw_34 tw_601 tw_16 tw_599 hP hD [0] [] rfl rfl (by decide) (by decide) (by decide) hK [] rfl hE hS hA (q0 := 0) rfl rfl hd_M_refuse rfl rfl ⟨Nat.le_of_ble_eq_true rfl, Nat.le_of_ble_eq_true rfl⟩ ⟨Nat.le_of_ble_eq_true rfl, Nat.le_of_ble_eq_true rfl⟩ hl.1 rfl (Nat.le_of_ble_eq_true rfl) d_M_frame_30 (fun H locs hP hD hS => ?_)
      have hP : va_P (dC, dI) clX [(y, .inr (4, [.int 0, .ref ma, .int wi, .int hg, .ref qa, .int zs, .int ta, .int de, .ref ba, .int oe, .int re, .int pa, .int ee, .int dq, .int qe, .int ag, .ref aa, .ref ka]))] H := hP
      have hD : va_D A [(y, .inr (4, [.int 0, .ref ma, .int wi, .int hg, .ref qa, .int zs, .int ta, .int de, .ref ba, .int oe, .int re, .int pa, .int ee, .int dq, .int qe, .int ag, .ref aa, .ref ka]))] := hD
      refine lv_if_eq (tgt := 37) hx hb d_M_frame_33 (by decide) (fun c_122 => ?_) (fun c_122 => ?_)
      · refine lv_aload_n hx hb d_M_frame_37 rfl (lv_at hl 0 rfl) ?_
        refine lv_iload_n hx hb d_M_frame_38 rfl (lv_at hl 1 rfl) ?_
        refine va_put (D := (dC, dI)) (ci := 4) (v := .int k9) (ty := .int) (C := R_M) (T := F_M) (N := 18) hx hb ht tu_M ft_M ft_M_ok n_M hown hK hP hD hS 0 rfl rfl 2 (by decide) (ht _ tw_534) (fun _ h9 => h9) rfl (by decide +kernel) rfl rfl (Nat.le_of_ble_eq_true rfl) d_M_frame_39 (fun H locs hP hD hS => ?_)
        have hP : va_P (dC, dI) clX [(y, .inr (4, [.int 0, .ref ma, .int k9, .int hg, .ref qa, .int zs, .int ta, .int de, .ref ba, .int oe, .int re, .int pa, .int ee, .int dq, .int qe, .int ag, .ref aa, .ref ka]))] H := hP
        have hD : va_D A [(y, .inr (4, [.int 0, .ref ma, .int k9, .int hg, .ref qa, .int zs, .int ta, .int de, .ref ba, .int oe, .int re, .int pa, .int ee, .int dq, .int qe, .int ag, .ref aa, .ref ka]))] := hD
        refine lv_aload_n hx hb d_M_frame_42 rfl (lv_at hl 0 rfl) ?_
        refine lv_iload_n hx hb d_M_frame_43 rfl (lv_at hl 2 rfl) ?_
        refine va_put (D := (dC, dI)) (ci := 4) (v := .int v9) (ty := .int) (C := R_M) (T := F_M) (N := 18) hx hb ht tu_M ft_M ft_M_ok n_M hown hK hP hD hS 0 rfl rfl 3 (by decide) (ht _ tw_535) (fun _ h9 => h9) rfl (by decide +kernel) rfl rfl (Nat.le_of_ble_eq_true rfl) d_M_frame_44 (fun H locs hP hD hS => ?_)
        have hP : va_P (dC, dI) clX [(y, .inr (4, [.int 0, .ref ma, .int k9, .int v9, .ref qa, .int zs, .int ta, .int de, .ref ba, .int oe, .int re, .int pa, .int ee, .int dq, .int qe, .int ag, .ref aa, .ref ka]))] H := hP
        have hD : va_D A [(y, .inr (4, [.int 0, .ref ma, .int k9, .int v9, .ref qa, .int zs, .int ta, .int de, .ref ba, .int oe, .int re, .int pa, .int ee, .int dq, .int qe, .int ag, .ref aa, .ref ka]))] := hD
        have hP9 := hP.sub (ws' := [(y, .inr (4, [.int 0, .ref ma, .int k9, .int v9, .ref qa, .int zs, .int ta, .int de, .ref ba, .int oe, .int re, .int pa, .int ee, .int dq, .int qe, .int ag, .ref aa, .ref ka]))]) [0] rfl
        have hD9 := hD.sub (ws' := [(y, .inr (4, [.int 0, .ref ma, .int k9, .int v9, .ref qa, .int zs, .int ta, .int de, .ref ba, .int oe, .int re, .int pa, .int ee, .int dq, .int qe, .int ag, .ref aa, .ref ka]))]) [0] (by decide) rfl
        exact W.vret hx hb hr (fun t ht9 hW => ⟨⟨(), rfl, trivial, by rw [ht9]; rw [show frM wi hg k9 v9 = (0, k9, v9) from by simp only [frM, if_neg c_119, if_neg c_121]]; exact hP9, va_K.moved hW.alike hK, by rw [hAe]; rw [show frM wi hg k9 v9 = (0, k9, v9) from by simp only [frM, if_neg c_119, if_neg c_121]]; exact hD9⟩, hS.F ht9⟩) hS.2.2 d_M_frame_47
      · exact absurd (by decide) c_122
    · refine lv_iconst (v := 1) hx hb d_M_frame_25 (by decide) ?_
      refine lv_goto (tgt := 30) hx hb d_M_frame_26 (by decide) ?_
      refine mcVi (As := [.int 1]) (rest := []) (wr := []) (c_M_refuse1 l dC dI tb y ma qa ba aa ka th wi hg zs ta de oe re pa ee dq qe ag ) F tw_602 tw_34 tw_601 tw_16 tw_599 hP hD [0] [] rfl rfl (by decide) (by decide) (by decide) hK [] rfl hE hS hA (q0 := 0) rfl rfl hd_M_refuse rfl rfl ⟨Nat.le_of_ble_eq_true rfl, Nat.le_of_ble_eq_true rfl⟩ ⟨Nat.le_of_ble_eq_true rfl, Nat.le_of_ble_eq_true rfl⟩ hl.1 rfl (Nat.le_of_ble_eq_true rfl) d_M_frame_30 (fun H locs hP hD hS => ?_)
      have hP : va_P (dC, dI) clX [(y, .inr (4, [.int 1, .ref ma, .int wi, .int hg, .ref qa, .int zs, .int ta, .int de, .ref ba, .int oe, .int re, .int pa, .int ee, .int dq, .int qe, .int ag, .ref aa, .ref ka]))] H := hP
      have hD : va_D A [(y, .inr (4, [.int 1, .ref ma, .int wi, .int hg, .ref qa, .int zs, .int ta, .int de, .ref ba, .int oe, .int re, .int pa, .int ee, .int dq, .int qe, .int ag, .ref aa, .ref ka]))] := hD
      refine lv_if_eq (tgt := 37) hx hb d_M_frame_33 (by decide) (fun c_123 => ?_) (fun c_123 => ?_)
      · exact absurd c_123 (by decide)
      · have hP9 := hP.sub (ws' := [(y, .inr (4, [.int 1, .ref ma, .int wi, .int hg, .ref qa, .int zs, .int ta, .int de, .ref ba, .int oe, .int re, .int pa, .int ee, .int dq, .int qe, .int ag, .ref aa, .ref ka]))]) [0] rfl
        have hD9 := hD.sub (ws' := [(y, .inr (4, [.int 1, .ref ma, .int wi, .int hg, .ref qa, .int zs, .int ta, .int de, .ref ba, .int oe, .int re, .int pa, .int ee, .int dq, .int qe, .int ag, .ref aa, .ref ka]))]) [0] (by decide) rfl
        exact W.vret hx hb hr (fun t ht9 hW => ⟨⟨(), rfl, trivial, by rw [ht9]; rw [show frM wi hg k9 v9 = (1, wi, hg) from by simp only [frM, if_neg c_119, if_pos c_121]]; exact hP9, va_K.moved hW.alike hK, by rw [hAe]; rw [show frM wi hg k9 v9 = (1, wi, hg) from by simp only [frM, if_neg c_119, if_pos c_121]]; exact hD9⟩, hS.F ht9⟩) hS.2.2 d_M_frame_36
def ptM (zs : Int32) (qF : IF) (v9 : Int32) : Int32 × Int32 × Int32 × IF := (if zs = 4096 then (0, 1, zs, qF) else ((zs + 1), 0, (zs + 1), (upd qF zs.toNatClampNeg v9)))
set_option maxHeartbeats 4000000 in
set_option maxRecDepth 100000 in
theorem c_M_put (l : Launch) (dC : Nat → ClassId) (dI : Nat → Nat → Nat) (tb : tbT) (y ma qa ba aa ka : Nat) (th wi hg zs ta de oe re pa ee dq qe ag : Int32) (qF : IF) (cI : ClassId) (v9 : Int32) (hz : ¬ zs = 4096 → vp_in zs 4096) (sz : Nat) : MI l y_M_put (Cond.code y_M_put b_M_put 2 (some .int) :: TB) ({ frames := 1, cells := 0, slots := 0, locals := 21 }) tb (dC, dI) [.ref y, .int v9] [(y, .inr (4, [.int th, .ref ma, .int wi, .int hg, .ref qa, .int zs, .int ta, .int de, .ref ba, .int oe, .int re, .int pa, .int ee, .int dq, .int qe, .int ag, .ref aa, .ref ka])), (qa, .inl (cI, 4096, .inl qF))] [(y, .inr (4, [.int ((ptM zs qF v9).2.1), .ref ma, .int wi, .int hg, .ref qa, .int ((ptM zs qF v9).2.2.1), .int ta, .int de, .ref ba, .int oe, .int re, .int pa, .int ee, .int dq, .int qe, .int ag, .ref aa, .ref ka])), (qa, .inl (cI, 4096, .inl ((ptM zs qF v9).2.2.2)))] [(cI, .int)] sz ((ptM zs qF v9).1) := by
  refine Met.ofW (cc := b_M_put) (maxL := 2) (ret := (some .int)) (by decide) rfl ?_
  intro p e s m args below meth c s₁ B hml hv
  obtain ⟨rfl, hsz, hP, hK, hD0, hE⟩ := hv
  have hx := B.exec
  have hb := B.bytes
  have hr := B.returns
  have ht := fun w (h : w ∈ TB) => atoms_spec (ws := Cond.code y_M_put b_M_put 2 (some .int) :: TB) B.pre w (List.mem_cons_of_mem _ h)
  have hown : s.vm.findClass R_M = some m.cls := findClass_of_methodNamed B.named
  have hlocks := B.notSynchronized
  subst hsz
  have hD := hD0.self (sz := s.heap.size)
  generalize hAe : va_A [(y, .inr (4, [.int th, .ref ma, .int wi, .int hg, .ref qa, .int zs, .int ta, .int de, .ref ba, .int oe, .int re, .int pa, .int ee, .int dq, .int qe, .int ag, .ref aa, .ref ka])), (qa, .inl (cI, 4096, .inl qF))] s.heap.size = A at hD hE ⊢
  have hA : ∀ q : Nat, s.heap.size ≤ q → A q := fun q h => by rw [← hAe]; exact Or.inr h
  have hS : va_S A s.heap s.heap [] := va_S.rf
  have F : CallFix p m c b_M_put 2 s _ TB R_M := ⟨hx, hb, hml, hown, ht⟩
  have hl := lv_entry ([.ref y, .int v9]) (n := 2) (Nat.le_of_ble_eq_true rfl)
  rw [lg_entry_eq]
  generalize (lg_sl ([.ref y, .int v9]) ++ List.replicate (2 - (lg_sl ([.ref y, .int v9])).length) Slot.unset).toArray = ls at hl ⊢
  have hl : lv_has ls 2 [(0, .ref y), (1, .int v9)] := hl
  refine lv_aload_n hx hb d_M_put_0 rfl (lv_at hl 0 rfl) ?_
  refine lv_aload_n hx hb d_M_put_1 rfl (lv_at hl 0 rfl) ?_
  refine va_get (D := (dC, dI)) (ci := 4) (v := .int zs) (C := R_M) (T := F_M) (N := 18) hx hb ht tu_M hown hK hP 0 rfl rfl 5 (by decide) (ht _ tw_537) (fun _ h9 => h9) rfl d_M_put_2 ?_
  refine lv_sipush (v := 4096) hx hb d_M_put_5 (by decide) ?_
  refine lv_icmp_ne (tgt := 15) hx hb d_M_put_8 (by decide) (fun c_124 => ?_) (fun c_124 => ?_)
  · refine lv_iconst (v := 0) hx hb d_M_put_15 (by decide) ?_
    refine mcVi (As := [.int 0]) (rest := []) (wr := [(qa, .inl (cI, 4096, .inl qF))]) (c_M_refuse0 l dC dI tb y ma qa ba aa ka th wi hg zs ta de oe re pa ee dq qe ag ) F tw_602 tw_34 tw_601 tw_16 tw_599 hP hD [0] [1] rfl rfl (by decide) (by decide) (by decide) hK [] rfl hE hS hA (q0 := 0) rfl rfl hd_M_refuse rfl rfl ⟨Nat.le_of_ble_eq_true rfl, Nat.le_of_ble_eq_true rfl⟩ ⟨Nat.le_of_ble_eq_true rfl, Nat.le_of_ble_eq_true rfl⟩ hl.1 rfl (Nat.le_of_ble_eq_true rfl) d_M_put_16 (fun H locs hP hD hS => ?_)
    have hP : va_P (dC, dI) clX [(qa, .inl (cI, 4096, .inl qF)), (y, .inr (4, [.int 0, .ref ma, .int wi, .int hg, .ref qa, .int zs, .int ta, .int de, .ref ba, .int oe, .int re, .int pa, .int ee, .int dq, .int qe, .int ag, .ref aa, .ref ka]))] H := hP
    have hD : va_D A [(qa, .inl (cI, 4096, .inl qF)), (y, .inr (4, [.int 0, .ref ma, .int wi, .int hg, .ref qa, .int zs, .int ta, .int de, .ref ba, .int oe, .int re, .int pa, .int ee, .int dq, .int qe, .int ag, .ref aa, .ref ka]))] := hD
    refine lv_if_eq (tgt := 24) hx hb d_M_put_19 (by decide) (fun c_125 => ?_) (fun c_125 => ?_)
    · refine lv_aload_n hx hb d_M_put_24 rfl (lv_at hl 0 rfl) ?_
      refine va_get (D := (dC, dI)) (ci := 4) (v := .ref qa) (C := R_M) (T := F_M) (N := 18) hx hb ht tu_M hown hK hP 1 rfl rfl 4 (by decide) (ht _ tw_536) (fun _ h9 => h9) rfl d_M_put_25 ?_
      refine lv_aload_n hx hb d_M_put_28 rfl (lv_at hl 0 rfl) ?_
      refine va_get (D := (dC, dI)) (ci := 4) (v := .int zs) (C := R_M) (T := F_M) (N := 18) hx hb ht tu_M hown hK hP 1 rfl rfl 5 (by decide) (ht _ tw_537) (fun _ h9 => h9) rfl d_M_put_29 ?_
      refine lv_iload_n hx hb d_M_put_32 rfl (lv_at hl 1 rfl) ?_
      refine va_iast hx hb hK hP hD hS 0 0 rfl rfl (hz c_124) d_M_put_33 (fun H locs hP hD hS => ?_)
      have hP : va_P (dC, dI) clX [(qa, .inl (cI, 4096, .inl (upd qF zs.toNatClampNeg v9))), (y, .inr (4, [.int 0, .ref ma, .int wi, .int hg, .ref qa, .int zs, .int ta, .int de, .ref ba, .int oe, .int re, .int pa, .int ee, .int dq, .int qe, .int ag, .ref aa, .ref ka]))] H := hP
      have hD : va_D A [(qa, .inl (cI, 4096, .inl (upd qF zs.toNatClampNeg v9))), (y, .inr (4, [.int 0, .ref ma, .int wi, .int hg, .ref qa, .int zs, .int ta, .int de, .ref ba, .int oe, .int re, .int pa, .int ee, .int dq, .int qe, .int ag, .ref aa, .ref ka]))] := hD
      refine lv_aload_n hx hb d_M_put_34 rfl (lv_at hl 0 rfl) ?_
      refine lv_dup hx hb d_M_put_35 rfl ?_
      refine va_get (D := (dC, dI)) (ci := 4) (v := .int zs) (C := R_M) (T := F_M) (N := 18) hx hb ht tu_M hown hK hP 1 rfl rfl 5 (by decide) (ht _ tw_537) (fun _ h9 => h9) rfl d_M_put_36 ?_
      refine lv_iconst (v := 1) hx hb d_M_put_39 (by decide) ?_
      refine lv_iadd hx hb d_M_put_40 ?_
      refine va_put (D := (dC, dI)) (ci := 4) (v := .int (zs + 1)) (ty := .int) (C := R_M) (T := F_M) (N := 18) hx hb ht tu_M ft_M ft_M_ok n_M hown hK hP hD hS 1 rfl rfl 5 (by decide) (ht _ tw_537) (fun _ h9 => h9) rfl (by decide +kernel) rfl rfl (Nat.le_of_ble_eq_true rfl) d_M_put_41 (fun H locs hP hD hS => ?_)
      have hP : va_P (dC, dI) clX [(qa, .inl (cI, 4096, .inl (upd qF zs.toNatClampNeg v9))), (y, .inr (4, [.int 0, .ref ma, .int wi, .int hg, .ref qa, .int (zs + 1), .int ta, .int de, .ref ba, .int oe, .int re, .int pa, .int ee, .int dq, .int qe, .int ag, .ref aa, .ref ka]))] H := hP
      have hD : va_D A [(qa, .inl (cI, 4096, .inl (upd qF zs.toNatClampNeg v9))), (y, .inr (4, [.int 0, .ref ma, .int wi, .int hg, .ref qa, .int (zs + 1), .int ta, .int de, .ref ba, .int oe, .int re, .int pa, .int ee, .int dq, .int qe, .int ag, .ref aa, .ref ka]))] := hD
      refine lv_aload_n hx hb d_M_put_44 rfl (lv_at hl 0 rfl) ?_
      refine va_get (D := (dC, dI)) (ci := 4) (v := .int (zs + 1)) (C := R_M) (T := F_M) (N := 18) hx hb ht tu_M hown hK hP 1 rfl rfl 5 (by decide) (ht _ tw_537) (fun _ h9 => h9) rfl d_M_put_45 ?_
      have hP9 := hP.sub (ws' := [(y, .inr (4, [.int 0, .ref ma, .int wi, .int hg, .ref qa, .int (zs + 1), .int ta, .int de, .ref ba, .int oe, .int re, .int pa, .int ee, .int dq, .int qe, .int ag, .ref aa, .ref ka])), (qa, .inl (cI, 4096, .inl (upd qF zs.toNatClampNeg v9)))]) [1, 0] rfl
      have hD9 := hD.sub (ws' := [(y, .inr (4, [.int 0, .ref ma, .int wi, .int hg, .ref qa, .int (zs + 1), .int ta, .int de, .ref ba, .int oe, .int re, .int pa, .int ee, .int dq, .int qe, .int ag, .ref aa, .ref ka])), (qa, .inl (cI, 4096, .inl (upd qF zs.toNatClampNeg v9)))]) [1, 0] (by decide) rfl
      exact W.iret hx hb hr (fun t ht9 hW => ⟨⟨_, (), rfl, by rw [show ptM zs qF v9 = ((zs + 1), 0, (zs + 1), (upd qF zs.toNatClampNeg v9)) from by simp only [ptM, if_neg c_124]], by rw [ht9]; rw [show ptM zs qF v9 = ((zs + 1), 0, (zs + 1), (upd qF zs.toNatClampNeg v9)) from by simp only [ptM, if_neg c_124]]; exact hP9, va_K.moved hW.alike hK, by rw [hAe]; rw [show ptM zs qF v9 = ((zs + 1), 0, (zs + 1), (upd qF zs.toNatClampNeg v9)) from by simp only [ptM, if_neg c_124]]; exact hD9⟩, hS.F ht9⟩) hS.2.2 d_M_put_48
    · exact absurd (by decide) c_125
  · refine lv_iconst (v := 1) hx hb d_M_put_11 (by decide) ?_
    refine lv_goto (tgt := 16) hx hb d_M_put_12 (by decide) ?_
    refine mcVi (As := [.int 1]) (rest := []) (wr := [(qa, .inl (cI, 4096, .inl qF))]) (c_M_refuse1 l dC dI tb y ma qa ba aa ka th wi hg zs ta de oe re pa ee dq qe ag ) F tw_602 tw_34 tw_601 tw_16 tw_599 hP hD [0] [1] rfl rfl (by decide) (by decide) (by decide) hK [] rfl hE hS hA (q0 := 0) rfl rfl hd_M_refuse rfl rfl ⟨Nat.le_of_ble_eq_true rfl, Nat.le_of_ble_eq_true rfl⟩ ⟨Nat.le_of_ble_eq_true rfl, Nat.le_of_ble_eq_true rfl⟩ hl.1 rfl (Nat.le_of_ble_eq_true rfl) d_M_put_16 (fun H locs hP hD hS => ?_)
    have hP : va_P (dC, dI) clX [(qa, .inl (cI, 4096, .inl qF)), (y, .inr (4, [.int 1, .ref ma, .int wi, .int hg, .ref qa, .int zs, .int ta, .int de, .ref ba, .int oe, .int re, .int pa, .int ee, .int dq, .int qe, .int ag, .ref aa, .ref ka]))] H := hP
    have hD : va_D A [(qa, .inl (cI, 4096, .inl qF)), (y, .inr (4, [.int 1, .ref ma, .int wi, .int hg, .ref qa, .int zs, .int ta, .int de, .ref ba, .int oe, .int re, .int pa, .int ee, .int dq, .int qe, .int ag, .ref aa, .ref ka]))] := hD
    refine lv_if_eq (tgt := 24) hx hb d_M_put_19 (by decide) (fun c_126 => ?_) (fun c_126 => ?_)
    · exact absurd c_126 (by decide)
    · refine lv_iconst (v := 0) hx hb d_M_put_22 (by decide) ?_
      have hP9 := hP.sub (ws' := [(y, .inr (4, [.int 1, .ref ma, .int wi, .int hg, .ref qa, .int zs, .int ta, .int de, .ref ba, .int oe, .int re, .int pa, .int ee, .int dq, .int qe, .int ag, .ref aa, .ref ka])), (qa, .inl (cI, 4096, .inl qF))]) [1, 0] rfl
      have hD9 := hD.sub (ws' := [(y, .inr (4, [.int 1, .ref ma, .int wi, .int hg, .ref qa, .int zs, .int ta, .int de, .ref ba, .int oe, .int re, .int pa, .int ee, .int dq, .int qe, .int ag, .ref aa, .ref ka])), (qa, .inl (cI, 4096, .inl qF))]) [1, 0] (by decide) rfl
      exact W.iret hx hb hr (fun t ht9 hW => ⟨⟨_, (), rfl, by rw [show ptM zs qF v9 = (0, 1, zs, qF) from by simp only [ptM, if_pos c_124]], by rw [ht9]; rw [show ptM zs qF v9 = (0, 1, zs, qF) from by simp only [ptM, if_pos c_124]]; exact hP9, va_K.moved hW.alike hK, by rw [hAe]; rw [show ptM zs qF v9 = (0, 1, zs, qF) from by simp only [ptM, if_pos c_124]]; exact hD9⟩, hS.F ht9⟩) hS.2.2 d_M_put_23
def arM (ag : Int32) (aF : IF) (k9 : Int32) : Int32 × Int32 := (if (inL k9.toInt64 0 ((ag - 1).toInt64)) = 0 then (0, 1) else ((aF k9.toNatClampNeg), 0))
set_option maxHeartbeats 4000000 in
set_option maxRecDepth 100000 in
theorem c_M_argument (l : Launch) (dC : Nat → ClassId) (dI : Nat → Nat → Nat) (tb : tbT) (y ma qa ba aa ka : Nat) (th wi hg zs ta de oe re pa ee dq qe ag : Int32) (aF : IF) (cI : ClassId) (k9 : Int32) (ha : ¬ inL k9.toInt64 0 (ag - 1).toInt64 = 0 → vp_in k9 300) (sz : Nat) : MI l y_M_argument (Cond.code y_M_argument b_M_argument 2 (some .int) :: TB) ({ frames := 1, cells := 0, slots := 0, locals := 25 }) tb (dC, dI) [.ref y, .int k9] [(y, .inr (4, [.int th, .ref ma, .int wi, .int hg, .ref qa, .int zs, .int ta, .int de, .ref ba, .int oe, .int re, .int pa, .int ee, .int dq, .int qe, .int ag, .ref aa, .ref ka])), (aa, .inl (cI, 300, .inl aF))] [(y, .inr (4, [.int ((arM ag aF k9).2), .ref ma, .int wi, .int hg, .ref qa, .int zs, .int ta, .int de, .ref ba, .int oe, .int re, .int pa, .int ee, .int dq, .int qe, .int ag, .ref aa, .ref ka])), (aa, .inl (cI, 300, .inl aF))] [(cI, .int)] sz ((arM ag aF k9).1) := by
  refine Met.ofW (cc := b_M_argument) (maxL := 2) (ret := (some .int)) (by decide) rfl ?_
  intro p e s m args below meth c s₁ B hml hv
  obtain ⟨rfl, hsz, hP, hK, hD0, hE⟩ := hv
  have hx := B.exec
  have hb := B.bytes
  have hr := B.returns
  have ht := fun w (h : w ∈ TB) => atoms_spec (ws := Cond.code y_M_argument b_M_argument 2 (some .int) :: TB) B.pre w (List.mem_cons_of_mem _ h)
  have hown : s.vm.findClass R_M = some m.cls := findClass_of_methodNamed B.named
  have hlocks := B.notSynchronized
  subst hsz
  have hD := hD0.self (sz := s.heap.size)
  generalize hAe : va_A [(y, .inr (4, [.int th, .ref ma, .int wi, .int hg, .ref qa, .int zs, .int ta, .int de, .ref ba, .int oe, .int re, .int pa, .int ee, .int dq, .int qe, .int ag, .ref aa, .ref ka])), (aa, .inl (cI, 300, .inl aF))] s.heap.size = A at hD hE ⊢
  have hA : ∀ q : Nat, s.heap.size ≤ q → A q := fun q h => by rw [← hAe]; exact Or.inr h
  have hS : va_S A s.heap s.heap [] := va_S.rf
  have F : CallFix p m c b_M_argument 2 s _ TB R_M := ⟨hx, hb, hml, hown, ht⟩
  have hl := lv_entry ([.ref y, .int k9]) (n := 2) (Nat.le_of_ble_eq_true rfl)
  rw [lg_entry_eq]
  generalize (lg_sl ([.ref y, .int k9]) ++ List.replicate (2 - (lg_sl ([.ref y, .int k9])).length) Slot.unset).toArray = ls at hl ⊢
  have hl : lv_has ls 2 [(0, .ref y), (1, .int k9)] := hl
  refine lv_aload_n hx hb d_M_argument_0 rfl (lv_at hl 0 rfl) ?_
  refine lv_iload_n hx hb d_M_argument_1 rfl (lv_at hl 1 rfl) ?_
  refine lv_i2l (v := k9.toInt64) hx hb d_M_argument_2 rfl ?_
  refine lv_lconst (v := 0) hx hb d_M_argument_3 (by decide) ?_
  refine lv_aload_n hx hb d_M_argument_4 rfl (lv_at hl 0 rfl) ?_
  refine va_get (D := (dC, dI)) (ci := 4) (v := .int ag) (C := R_M) (T := F_M) (N := 18) hx hb ht tu_M hown hK hP 0 rfl rfl 15 (by decide) (ht _ tw_547) (fun _ h9 => h9) rfl d_M_argument_5 ?_
  refine lv_iconst (v := 1) hx hb d_M_argument_8 (by decide) ?_
  refine lv_isub hx hb d_M_argument_9 ?_
  refine lv_i2l (v := (ag - 1).toInt64) hx hb d_M_argument_10 rfl ?_
  refine rcS (As := [.long k9.toInt64, .long 0, .long ((ag - 1).toInt64)]) (rest := [.ref y]) (c_M_in l dC dI tb k9.toInt64 0 ((ag - 1).toInt64) ) F tw_598 tw_34 tw_597 tw_596 hP [] rfl hK [] rfl hE hS hd_M_in rfl rfl ⟨Nat.le_of_ble_eq_true rfl, Nat.le_of_ble_eq_true rfl⟩ ⟨Nat.le_of_ble_eq_true rfl, Nat.le_of_ble_eq_true rfl⟩ hl.1 rfl (Nat.le_of_ble_eq_true rfl) d_M_argument_11 ?_
  refine lv_if_ne (tgt := 21) hx hb d_M_argument_14 (by decide) (fun c_127 => ?_) (fun c_127 => ?_)
  · refine lv_iconst (v := 0) hx hb d_M_argument_21 (by decide) ?_
    refine mcVi (As := [.int 0]) (rest := []) (wr := [(aa, .inl (cI, 300, .inl aF))]) (c_M_refuse0 l dC dI tb y ma qa ba aa ka th wi hg zs ta de oe re pa ee dq qe ag ) F tw_602 tw_34 tw_601 tw_16 tw_599 hP hD [0] [1] rfl rfl (by decide) (by decide) (by decide) hK [] rfl hE hS hA (q0 := 0) rfl rfl hd_M_refuse rfl rfl ⟨Nat.le_of_ble_eq_true rfl, Nat.le_of_ble_eq_true rfl⟩ ⟨Nat.le_of_ble_eq_true rfl, Nat.le_of_ble_eq_true rfl⟩ hl.1 rfl (Nat.le_of_ble_eq_true rfl) d_M_argument_22 (fun H locs hP hD hS => ?_)
    have hP : va_P (dC, dI) clX [(aa, .inl (cI, 300, .inl aF)), (y, .inr (4, [.int 0, .ref ma, .int wi, .int hg, .ref qa, .int zs, .int ta, .int de, .ref ba, .int oe, .int re, .int pa, .int ee, .int dq, .int qe, .int ag, .ref aa, .ref ka]))] H := hP
    have hD : va_D A [(aa, .inl (cI, 300, .inl aF)), (y, .inr (4, [.int 0, .ref ma, .int wi, .int hg, .ref qa, .int zs, .int ta, .int de, .ref ba, .int oe, .int re, .int pa, .int ee, .int dq, .int qe, .int ag, .ref aa, .ref ka]))] := hD
    refine lv_if_eq (tgt := 30) hx hb d_M_argument_25 (by decide) (fun c_128 => ?_) (fun c_128 => ?_)
    · refine lv_aload_n hx hb d_M_argument_30 rfl (lv_at hl 0 rfl) ?_
      refine va_get (D := (dC, dI)) (ci := 4) (v := .ref aa) (C := R_M) (T := F_M) (N := 18) hx hb ht tu_M hown hK hP 1 rfl rfl 16 (by decide) (ht _ tw_548) (fun _ h9 => h9) rfl d_M_argument_31 ?_
      refine lv_iload_n hx hb d_M_argument_34 rfl (lv_at hl 1 rfl) ?_
      refine va_iald hx hb hK hP 0 0 rfl rfl (ha c_127) d_M_argument_35 ?_
      have hP9 := hP.sub (ws' := [(y, .inr (4, [.int 0, .ref ma, .int wi, .int hg, .ref qa, .int zs, .int ta, .int de, .ref ba, .int oe, .int re, .int pa, .int ee, .int dq, .int qe, .int ag, .ref aa, .ref ka])), (aa, .inl (cI, 300, .inl aF))]) [1, 0] rfl
      have hD9 := hD.sub (ws' := [(y, .inr (4, [.int 0, .ref ma, .int wi, .int hg, .ref qa, .int zs, .int ta, .int de, .ref ba, .int oe, .int re, .int pa, .int ee, .int dq, .int qe, .int ag, .ref aa, .ref ka])), (aa, .inl (cI, 300, .inl aF))]) [1, 0] (by decide) rfl
      exact W.iret hx hb hr (fun t ht9 hW => ⟨⟨_, (), rfl, by rw [show arM ag aF k9 = ((aF k9.toNatClampNeg), 0) from by simp only [arM, if_neg c_127]], by rw [ht9]; rw [show arM ag aF k9 = ((aF k9.toNatClampNeg), 0) from by simp only [arM, if_neg c_127]]; exact hP9, va_K.moved hW.alike hK, by rw [hAe]; rw [show arM ag aF k9 = ((aF k9.toNatClampNeg), 0) from by simp only [arM, if_neg c_127]]; exact hD9⟩, hS.F ht9⟩) hS.2.2 d_M_argument_36
    · exact absurd (by decide) c_128
  · refine lv_iconst (v := 1) hx hb d_M_argument_17 (by decide) ?_
    refine lv_goto (tgt := 22) hx hb d_M_argument_18 (by decide) ?_
    refine mcVi (As := [.int 1]) (rest := []) (wr := [(aa, .inl (cI, 300, .inl aF))]) (c_M_refuse1 l dC dI tb y ma qa ba aa ka th wi hg zs ta de oe re pa ee dq qe ag ) F tw_602 tw_34 tw_601 tw_16 tw_599 hP hD [0] [1] rfl rfl (by decide) (by decide) (by decide) hK [] rfl hE hS hA (q0 := 0) rfl rfl hd_M_refuse rfl rfl ⟨Nat.le_of_ble_eq_true rfl, Nat.le_of_ble_eq_true rfl⟩ ⟨Nat.le_of_ble_eq_true rfl, Nat.le_of_ble_eq_true rfl⟩ hl.1 rfl (Nat.le_of_ble_eq_true rfl) d_M_argument_22 (fun H locs hP hD hS => ?_)
    have hP : va_P (dC, dI) clX [(aa, .inl (cI, 300, .inl aF)), (y, .inr (4, [.int 1, .ref ma, .int wi, .int hg, .ref qa, .int zs, .int ta, .int de, .ref ba, .int oe, .int re, .int pa, .int ee, .int dq, .int qe, .int ag, .ref aa, .ref ka]))] H := hP
    have hD : va_D A [(aa, .inl (cI, 300, .inl aF)), (y, .inr (4, [.int 1, .ref ma, .int wi, .int hg, .ref qa, .int zs, .int ta, .int de, .ref ba, .int oe, .int re, .int pa, .int ee, .int dq, .int qe, .int ag, .ref aa, .ref ka]))] := hD
    refine lv_if_eq (tgt := 30) hx hb d_M_argument_25 (by decide) (fun c_129 => ?_) (fun c_129 => ?_)
    · exact absurd c_129 (by decide)
    · refine lv_iconst (v := 0) hx hb d_M_argument_28 (by decide) ?_
      have hP9 := hP.sub (ws' := [(y, .inr (4, [.int 1, .ref ma, .int wi, .int hg, .ref qa, .int zs, .int ta, .int de, .ref ba, .int oe, .int re, .int pa, .int ee, .int dq, .int qe, .int ag, .ref aa, .ref ka])), (aa, .inl (cI, 300, .inl aF))]) [1, 0] rfl
      have hD9 := hD.sub (ws' := [(y, .inr (4, [.int 1, .ref ma, .int wi, .int hg, .ref qa, .int zs, .int ta, .int de, .ref ba, .int oe, .int re, .int pa, .int ee, .int dq, .int qe, .int ag, .ref aa, .ref ka])), (aa, .inl (cI, 300, .inl aF))]) [1, 0] (by decide) rfl
      exact W.iret hx hb hr (fun t ht9 hW => ⟨⟨_, (), rfl, by rw [show arM ag aF k9 = (0, 1) from by simp only [arM, if_pos c_127]], by rw [ht9]; rw [show arM ag aF k9 = (0, 1) from by simp only [arM, if_pos c_127]]; exact hP9, va_K.moved hW.alike hK, by rw [hAe]; rw [show arM ag aF k9 = (0, 1) from by simp only [arM, if_pos c_127]]; exact hD9⟩, hS.F ht9⟩) hS.2.2 d_M_argument_29
def kpM (kF : IF) (d9 n9 k9 : Int32) : Int32 × Int32 := (if (inL d9.toInt64 0 25) = 0 then (0, 1) else (if n9 < 0 then (0, 1) else (if (mny d9) ≤ n9 then (0, 1) else (if k9 < 0 then (0, 1) else (if (cnt d9) ≤ k9 then (0, 1) else ((kF ((rwO d9 n9) + k9).toNatClampNeg), 0))))))
set_option maxHeartbeats 4000000 in
set_option maxRecDepth 100000 in
theorem c_M_kept (l : Launch) (dC : Nat → ClassId) (dI : Nat → Nat → Nat) (tb : tbT) (y ma qa ba aa ka : Nat) (th wi hg zs ta de oe re pa ee dq qe ag : Int32) (kF : IF) (cI : ClassId) (d9 n9 k9 : Int32) (hk : ¬ inL d9.toInt64 0 25 = 0 → ¬ n9 < 0 → ¬ mny d9 ≤ n9 → ¬ k9 < 0 → ¬ cnt d9 ≤ k9 → vp_in (rwO d9 n9 + k9) 4160) (sz : Nat) : MI l y_M_kept (Cond.code y_M_kept b_M_kept 5 (some .int) :: TB) ({ frames := 2, cells := 0, slots := 0, locals := 41 }) tb (dC, dI) [.ref y, .int d9, .int n9, .int k9] [(y, .inr (4, [.int th, .ref ma, .int wi, .int hg, .ref qa, .int zs, .int ta, .int de, .ref ba, .int oe, .int re, .int pa, .int ee, .int dq, .int qe, .int ag, .ref aa, .ref ka])), (ka, .inl (cI, 4160, .inl kF))] [(y, .inr (4, [.int ((kpM kF d9 n9 k9).2), .ref ma, .int wi, .int hg, .ref qa, .int zs, .int ta, .int de, .ref ba, .int oe, .int re, .int pa, .int ee, .int dq, .int qe, .int ag, .ref aa, .ref ka])), (ka, .inl (cI, 4160, .inl kF))] [(cI, .int)] sz ((kpM kF d9 n9 k9).1) := by
  refine Met.ofW (cc := b_M_kept) (maxL := 5) (ret := (some .int)) (by decide) rfl ?_
  intro p e s m args below meth c s₁ B hml hv
  obtain ⟨rfl, hsz, hP, hK, hD0, hE⟩ := hv
  have hx := B.exec
  have hb := B.bytes
  have hr := B.returns
  have ht := fun w (h : w ∈ TB) => atoms_spec (ws := Cond.code y_M_kept b_M_kept 5 (some .int) :: TB) B.pre w (List.mem_cons_of_mem _ h)
  have hown : s.vm.findClass R_M = some m.cls := findClass_of_methodNamed B.named
  have hlocks := B.notSynchronized
  subst hsz
  have hD := hD0.self (sz := s.heap.size)
  generalize hAe : va_A [(y, .inr (4, [.int th, .ref ma, .int wi, .int hg, .ref qa, .int zs, .int ta, .int de, .ref ba, .int oe, .int re, .int pa, .int ee, .int dq, .int qe, .int ag, .ref aa, .ref ka])), (ka, .inl (cI, 4160, .inl kF))] s.heap.size = A at hD hE ⊢
  have hA : ∀ q : Nat, s.heap.size ≤ q → A q := fun q h => by rw [← hAe]; exact Or.inr h
  have hS : va_S A s.heap s.heap [] := va_S.rf
  have F : CallFix p m c b_M_kept 5 s _ TB R_M := ⟨hx, hb, hml, hown, ht⟩
  have hl := lv_entry ([.ref y, .int d9, .int n9, .int k9]) (n := 5) (Nat.le_of_ble_eq_true rfl)
  rw [lg_entry_eq]
  generalize (lg_sl ([.ref y, .int d9, .int n9, .int k9]) ++ List.replicate (5 - (lg_sl ([.ref y, .int d9, .int n9, .int k9])).length) Slot.unset).toArray = ls at hl ⊢
  have hl : lv_has ls 5 [(0, .ref y), (1, .int d9), (2, .int n9), (3, .int k9)] := hl
  refine lv_iload_n hx hb d_M_kept_0 rfl (lv_at hl 1 rfl) ?_
  refine lv_i2l (v := d9.toInt64) hx hb d_M_kept_1 rfl ?_
  refine lv_lconst (v := 0) hx hb d_M_kept_2 (by decide) ?_
  refine lv_ldc2 hx hb hown (ht _ tw_640) d_M_kept_3 ?_
  refine rcS (As := [.long d9.toInt64, .long 0, .long 25]) (rest := []) (c_M_in l dC dI tb d9.toInt64 0 25 ) F tw_598 tw_34 tw_597 tw_596 hP [] rfl hK [] rfl hE hS hd_M_in rfl rfl ⟨Nat.le_of_ble_eq_true rfl, Nat.le_of_ble_eq_true rfl⟩ ⟨Nat.le_of_ble_eq_true rfl, Nat.le_of_ble_eq_true rfl⟩ hl.1 rfl (Nat.le_of_ble_eq_true rfl) d_M_kept_6 ?_
  refine lv_if_eq (tgt := 40) hx hb d_M_kept_9 (by decide) (fun c_130 => ?_) (fun c_130 => ?_)
  · refine lv_iconst (v := 0) hx hb d_M_kept_40 (by decide) ?_
    refine lv_istore (lv' := [(4, .int 0), (0, .ref y), (1, .int d9), (2, .int n9), (3, .int k9)]) hx hb d_M_kept_41 hl (by decide) rfl (fun ls hl => ?_)
    refine lv_aload_n hx hb d_M_kept_43 rfl (lv_at hl 1 rfl) ?_
    refine lv_iload hx hb d_M_kept_44 (lv_at hl 0 rfl) ?_
    refine lv_if_ne (tgt := 53) hx hb d_M_kept_46 (by decide) (fun c_131 => ?_) (fun c_131 => ?_)
    · exact absurd (by decide) c_131
    · refine lv_iconst (v := 1) hx hb d_M_kept_49 (by decide) ?_
      refine lv_goto (tgt := 54) hx hb d_M_kept_50 (by decide) ?_
      refine mcVi (As := [.int 1]) (rest := []) (wr := [(ka, .inl (cI, 4160, .inl kF))]) (c_M_refuse1 l dC dI tb y ma qa ba aa ka th wi hg zs ta de oe re pa ee dq qe ag ) F tw_602 tw_34 tw_601 tw_16 tw_599 hP hD [0] [1] rfl rfl (by decide) (by decide) (by decide) hK [] rfl hE hS hA (q0 := 0) rfl rfl hd_M_refuse rfl rfl ⟨Nat.le_of_ble_eq_true rfl, Nat.le_of_ble_eq_true rfl⟩ ⟨Nat.le_of_ble_eq_true rfl, Nat.le_of_ble_eq_true rfl⟩ hl.1 rfl (Nat.le_of_ble_eq_true rfl) d_M_kept_54 (fun H locs hP hD hS => ?_)
      have hP : va_P (dC, dI) clX [(ka, .inl (cI, 4160, .inl kF)), (y, .inr (4, [.int 1, .ref ma, .int wi, .int hg, .ref qa, .int zs, .int ta, .int de, .ref ba, .int oe, .int re, .int pa, .int ee, .int dq, .int qe, .int ag, .ref aa, .ref ka]))] H := hP
      have hD : va_D A [(ka, .inl (cI, 4160, .inl kF)), (y, .inr (4, [.int 1, .ref ma, .int wi, .int hg, .ref qa, .int zs, .int ta, .int de, .ref ba, .int oe, .int re, .int pa, .int ee, .int dq, .int qe, .int ag, .ref aa, .ref ka]))] := hD
      refine lv_if_eq (tgt := 62) hx hb d_M_kept_57 (by decide) (fun c_132 => ?_) (fun c_132 => ?_)
      · exact absurd c_132 (by decide)
      · refine lv_iconst (v := 0) hx hb d_M_kept_60 (by decide) ?_
        have hP9 := hP.sub (ws' := [(y, .inr (4, [.int 1, .ref ma, .int wi, .int hg, .ref qa, .int zs, .int ta, .int de, .ref ba, .int oe, .int re, .int pa, .int ee, .int dq, .int qe, .int ag, .ref aa, .ref ka])), (ka, .inl (cI, 4160, .inl kF))]) [1, 0] rfl
        have hD9 := hD.sub (ws' := [(y, .inr (4, [.int 1, .ref ma, .int wi, .int hg, .ref qa, .int zs, .int ta, .int de, .ref ba, .int oe, .int re, .int pa, .int ee, .int dq, .int qe, .int ag, .ref aa, .ref ka])), (ka, .inl (cI, 4160, .inl kF))]) [1, 0] (by decide) rfl
        exact W.iret hx hb hr (fun t ht9 hW => ⟨⟨_, (), rfl, by rw [show kpM kF d9 n9 k9 = (0, 1) from by simp only [kpM, if_pos c_130]], by rw [ht9]; rw [show kpM kF d9 n9 k9 = (0, 1) from by simp only [kpM, if_pos c_130]]; exact hP9, va_K.moved hW.alike hK, by rw [hAe]; rw [show kpM kF d9 n9 k9 = (0, 1) from by simp only [kpM, if_pos c_130]]; exact hD9⟩, hS.F ht9⟩) hS.2.2 d_M_kept_61
  · refine lv_iload_n hx hb d_M_kept_12 rfl (lv_at hl 2 rfl) ?_
    refine lv_if_lt (tgt := 40) hx hb d_M_kept_13 (by decide) (fun c_133 => ?_) (fun c_133 => ?_)
    · refine lv_iconst (v := 0) hx hb d_M_kept_40 (by decide) ?_
      refine lv_istore (lv' := [(4, .int 0), (0, .ref y), (1, .int d9), (2, .int n9), (3, .int k9)]) hx hb d_M_kept_41 hl (by decide) rfl (fun ls hl => ?_)
      refine lv_aload_n hx hb d_M_kept_43 rfl (lv_at hl 1 rfl) ?_
      refine lv_iload hx hb d_M_kept_44 (lv_at hl 0 rfl) ?_
      refine lv_if_ne (tgt := 53) hx hb d_M_kept_46 (by decide) (fun c_134 => ?_) (fun c_134 => ?_)
      · exact absurd (by decide) c_134
      · refine lv_iconst (v := 1) hx hb d_M_kept_49 (by decide) ?_
        refine lv_goto (tgt := 54) hx hb d_M_kept_50 (by decide) ?_
        refine mcVi (As := [.int 1]) (rest := []) (wr := [(ka, .inl (cI, 4160, .inl kF))]) (c_M_refuse1 l dC dI tb y ma qa ba aa ka th wi hg zs ta de oe re pa ee dq qe ag ) F tw_602 tw_34 tw_601 tw_16 tw_599 hP hD [0] [1] rfl rfl (by decide) (by decide) (by decide) hK [] rfl hE hS hA (q0 := 0) rfl rfl hd_M_refuse rfl rfl ⟨Nat.le_of_ble_eq_true rfl, Nat.le_of_ble_eq_true rfl⟩ ⟨Nat.le_of_ble_eq_true rfl, Nat.le_of_ble_eq_true rfl⟩ hl.1 rfl (Nat.le_of_ble_eq_true rfl) d_M_kept_54 (fun H locs hP hD hS => ?_)
        have hP : va_P (dC, dI) clX [(ka, .inl (cI, 4160, .inl kF)), (y, .inr (4, [.int 1, .ref ma, .int wi, .int hg, .ref qa, .int zs, .int ta, .int de, .ref ba, .int oe, .int re, .int pa, .int ee, .int dq, .int qe, .int ag, .ref aa, .ref ka]))] H := hP
        have hD : va_D A [(ka, .inl (cI, 4160, .inl kF)), (y, .inr (4, [.int 1, .ref ma, .int wi, .int hg, .ref qa, .int zs, .int ta, .int de, .ref ba, .int oe, .int re, .int pa, .int ee, .int dq, .int qe, .int ag, .ref aa, .ref ka]))] := hD
        refine lv_if_eq (tgt := 62) hx hb d_M_kept_57 (by decide) (fun c_135 => ?_) (fun c_135 => ?_)
        · exact absurd c_135 (by decide)
        · refine lv_iconst (v := 0) hx hb d_M_kept_60 (by decide) ?_
          have hP9 := hP.sub (ws' := [(y, .inr (4, [.int 1, .ref ma, .int wi, .int hg, .ref qa, .int zs, .int ta, .int de, .ref ba, .int oe, .int re, .int pa, .int ee, .int dq, .int qe, .int ag, .ref aa, .ref ka])), (ka, .inl (cI, 4160, .inl kF))]) [1, 0] rfl
          have hD9 := hD.sub (ws' := [(y, .inr (4, [.int 1, .ref ma, .int wi, .int hg, .ref qa, .int zs, .int ta, .int de, .ref ba, .int oe, .int re, .int pa, .int ee, .int dq, .int qe, .int ag, .ref aa, .ref ka])), (ka, .inl (cI, 4160, .inl kF))]) [1, 0] (by decide) rfl
          exact W.iret hx hb hr (fun t ht9 hW => ⟨⟨_, (), rfl, by rw [show kpM kF d9 n9 k9 = (0, 1) from by simp only [kpM, if_neg c_130, if_pos c_133]], by rw [ht9]; rw [show kpM kF d9 n9 k9 = (0, 1) from by simp only [kpM, if_neg c_130, if_pos c_133]]; exact hP9, va_K.moved hW.alike hK, by rw [hAe]; rw [show kpM kF d9 n9 k9 = (0, 1) from by simp only [kpM, if_neg c_130, if_pos c_133]]; exact hD9⟩, hS.F ht9⟩) hS.2.2 d_M_kept_61
    · refine lv_iload_n hx hb d_M_kept_16 rfl (lv_at hl 2 rfl) ?_
      refine lv_iload_n hx hb d_M_kept_17 rfl (lv_at hl 1 rfl) ?_
      refine rcS (As := [.int d9]) (rest := [.int n9]) (c_M_many l dC dI tb d9 ) F tw_524 tw_34 tw_523 tw_522 hP [] rfl hK [] rfl hE hS hd_M_many rfl rfl ⟨Nat.le_of_ble_eq_true rfl, Nat.le_of_ble_eq_true rfl⟩ ⟨Nat.le_of_ble_eq_true rfl, Nat.le_of_ble_eq_true rfl⟩ hl.1 rfl (Nat.le_of_ble_eq_true rfl) d_M_kept_18 ?_
      refine lv_icmp_ge (tgt := 40) hx hb d_M_kept_21 (by decide) (fun c_136 => ?_) (fun c_136 => ?_)
      · refine lv_iconst (v := 0) hx hb d_M_kept_40 (by decide) ?_
        refine lv_istore (lv' := [(4, .int 0), (0, .ref y), (1, .int d9), (2, .int n9), (3, .int k9)]) hx hb d_M_kept_41 hl (by decide) rfl (fun ls hl => ?_)
        refine lv_aload_n hx hb d_M_kept_43 rfl (lv_at hl 1 rfl) ?_
        refine lv_iload hx hb d_M_kept_44 (lv_at hl 0 rfl) ?_
        refine lv_if_ne (tgt := 53) hx hb d_M_kept_46 (by decide) (fun c_137 => ?_) (fun c_137 => ?_)
        · exact absurd (by decide) c_137
        · refine lv_iconst (v := 1) hx hb d_M_kept_49 (by decide) ?_
          refine lv_goto (tgt := 54) hx hb d_M_kept_50 (by decide) ?_
          refine mcVi (As := [.int 1]) (rest := []) (wr := [(ka, .inl (cI, 4160, .inl kF))]) (c_M_refuse1 l dC dI tb y ma qa ba aa ka th wi hg zs ta de oe re pa ee dq qe ag ) F tw_602 tw_34 tw_601 tw_16 tw_599 hP hD [0] [1] rfl rfl (by decide) (by decide) (by decide) hK [] rfl hE hS hA (q0 := 0) rfl rfl hd_M_refuse rfl rfl ⟨Nat.le_of_ble_eq_true rfl, Nat.le_of_ble_eq_true rfl⟩ ⟨Nat.le_of_ble_eq_true rfl, Nat.le_of_ble_eq_true rfl⟩ hl.1 rfl (Nat.le_of_ble_eq_true rfl) d_M_kept_54 (fun H locs hP hD hS => ?_)
          have hP : va_P (dC, dI) clX [(ka, .inl (cI, 4160, .inl kF)), (y, .inr (4, [.int 1, .ref ma, .int wi, .int hg, .ref qa, .int zs, .int ta, .int de, .ref ba, .int oe, .int re, .int pa, .int ee, .int dq, .int qe, .int ag, .ref aa, .ref ka]))] H := hP
          have hD : va_D A [(ka, .inl (cI, 4160, .inl kF)), (y, .inr (4, [.int 1, .ref ma, .int wi, .int hg, .ref qa, .int zs, .int ta, .int de, .ref ba, .int oe, .int re, .int pa, .int ee, .int dq, .int qe, .int ag, .ref aa, .ref ka]))] := hD
          refine lv_if_eq (tgt := 62) hx hb d_M_kept_57 (by decide) (fun c_138 => ?_) (fun c_138 => ?_)
          · exact absurd c_138 (by decide)
          · refine lv_iconst (v := 0) hx hb d_M_kept_60 (by decide) ?_
            have hP9 := hP.sub (ws' := [(y, .inr (4, [.int 1, .ref ma, .int wi, .int hg, .ref qa, .int zs, .int ta, .int de, .ref ba, .int oe, .int re, .int pa, .int ee, .int dq, .int qe, .int ag, .ref aa, .ref ka])), (ka, .inl (cI, 4160, .inl kF))]) [1, 0] rfl
            have hD9 := hD.sub (ws' := [(y, .inr (4, [.int 1, .ref ma, .int wi, .int hg, .ref qa, .int zs, .int ta, .int de, .ref ba, .int oe, .int re, .int pa, .int ee, .int dq, .int qe, .int ag, .ref aa, .ref ka])), (ka, .inl (cI, 4160, .inl kF))]) [1, 0] (by decide) rfl
            exact W.iret hx hb hr (fun t ht9 hW => ⟨⟨_, (), rfl, by rw [show kpM kF d9 n9 k9 = (0, 1) from by simp only [kpM, if_neg c_130, if_neg c_133, if_pos c_136]], by rw [ht9]; rw [show kpM kF d9 n9 k9 = (0, 1) from by simp only [kpM, if_neg c_130, if_neg c_133, if_pos c_136]]; exact hP9, va_K.moved hW.alike hK, by rw [hAe]; rw [show kpM kF d9 n9 k9 = (0, 1) from by simp only [kpM, if_neg c_130, if_neg c_133, if_pos c_136]]; exact hD9⟩, hS.F ht9⟩) hS.2.2 d_M_kept_61
      · refine lv_iload_n hx hb d_M_kept_24 rfl (lv_at hl 3 rfl) ?_
        refine lv_if_lt (tgt := 40) hx hb d_M_kept_25 (by decide) (fun c_139 => ?_) (fun c_139 => ?_)
        · refine lv_iconst (v := 0) hx hb d_M_kept_40 (by decide) ?_
          refine lv_istore (lv' := [(4, .int 0), (0, .ref y), (1, .int d9), (2, .int n9), (3, .int k9)]) hx hb d_M_kept_41 hl (by decide) rfl (fun ls hl => ?_)
          refine lv_aload_n hx hb d_M_kept_43 rfl (lv_at hl 1 rfl) ?_
          refine lv_iload hx hb d_M_kept_44 (lv_at hl 0 rfl) ?_
          refine lv_if_ne (tgt := 53) hx hb d_M_kept_46 (by decide) (fun c_140 => ?_) (fun c_140 => ?_)
          · exact absurd (by decide) c_140
          · refine lv_iconst (v := 1) hx hb d_M_kept_49 (by decide) ?_
            refine lv_goto (tgt := 54) hx hb d_M_kept_50 (by decide) ?_
            refine mcVi (As := [.int 1]) (rest := []) (wr := [(ka, .inl (cI, 4160, .inl kF))]) (c_M_refuse1 l dC dI tb y ma qa ba aa ka th wi hg zs ta de oe re pa ee dq qe ag ) F tw_602 tw_34 tw_601 tw_16 tw_599 hP hD [0] [1] rfl rfl (by decide) (by decide) (by decide) hK [] rfl hE hS hA (q0 := 0) rfl rfl hd_M_refuse rfl rfl ⟨Nat.le_of_ble_eq_true rfl, Nat.le_of_ble_eq_true rfl⟩ ⟨Nat.le_of_ble_eq_true rfl, Nat.le_of_ble_eq_true rfl⟩ hl.1 rfl (Nat.le_of_ble_eq_true rfl) d_M_kept_54 (fun H locs hP hD hS => ?_)
            have hP : va_P (dC, dI) clX [(ka, .inl (cI, 4160, .inl kF)), (y, .inr (4, [.int 1, .ref ma, .int wi, .int hg, .ref qa, .int zs, .int ta, .int de, .ref ba, .int oe, .int re, .int pa, .int ee, .int dq, .int qe, .int ag, .ref aa, .ref ka]))] H := hP
            have hD : va_D A [(ka, .inl (cI, 4160, .inl kF)), (y, .inr (4, [.int 1, .ref ma, .int wi, .int hg, .ref qa, .int zs, .int ta, .int de, .ref ba, .int oe, .int re, .int pa, .int ee, .int dq, .int qe, .int ag, .ref aa, .ref ka]))] := hD
            refine lv_if_eq (tgt := 62) hx hb d_M_kept_57 (by decide) (fun c_141 => ?_) (fun c_141 => ?_)
            · exact absurd c_141 (by decide)
            · refine lv_iconst (v := 0) hx hb d_M_kept_60 (by decide) ?_
              have hP9 := hP.sub (ws' := [(y, .inr (4, [.int 1, .ref ma, .int wi, .int hg, .ref qa, .int zs, .int ta, .int de, .ref ba, .int oe, .int re, .int pa, .int ee, .int dq, .int qe, .int ag, .ref aa, .ref ka])), (ka, .inl (cI, 4160, .inl kF))]) [1, 0] rfl
              have hD9 := hD.sub (ws' := [(y, .inr (4, [.int 1, .ref ma, .int wi, .int hg, .ref qa, .int zs, .int ta, .int de, .ref ba, .int oe, .int re, .int pa, .int ee, .int dq, .int qe, .int ag, .ref aa, .ref ka])), (ka, .inl (cI, 4160, .inl kF))]) [1, 0] (by decide) rfl
              exact W.iret hx hb hr (fun t ht9 hW => ⟨⟨_, (), rfl, by rw [show kpM kF d9 n9 k9 = (0, 1) from by simp only [kpM, if_neg c_130, if_neg c_133, if_neg c_136, if_pos c_139]], by rw [ht9]; rw [show kpM kF d9 n9 k9 = (0, 1) from by simp only [kpM, if_neg c_130, if_neg c_133, if_neg c_136, if_pos c_139]]; exact hP9, va_K.moved hW.alike hK, by rw [hAe]; rw [show kpM kF d9 n9 k9 = (0, 1) from by simp only [kpM, if_neg c_130, if_neg c_133, if_neg c_136, if_pos c_139]]; exact hD9⟩, hS.F ht9⟩) hS.2.2 d_M_kept_61
        · refine lv_iload_n hx hb d_M_kept_28 rfl (lv_at hl 3 rfl) ?_
          refine lv_iload_n hx hb d_M_kept_29 rfl (lv_at hl 1 rfl) ?_
          refine rcS (As := [.int d9]) (rest := [.int k9]) (c_M_count l dC dI tb d9 ) F tw_530 tw_34 tw_529 tw_528 hP [] rfl hK [] rfl hE hS hd_M_count rfl rfl ⟨Nat.le_of_ble_eq_true rfl, Nat.le_of_ble_eq_true rfl⟩ ⟨Nat.le_of_ble_eq_true rfl, Nat.le_of_ble_eq_true rfl⟩ hl.1 rfl (Nat.le_of_ble_eq_true rfl) d_M_kept_30 ?_
          refine lv_icmp_ge (tgt := 40) hx hb d_M_kept_33 (by decide) (fun c_142 => ?_) (fun c_142 => ?_)
          · refine lv_iconst (v := 0) hx hb d_M_kept_40 (by decide) ?_
            refine lv_istore (lv' := [(4, .int 0), (0, .ref y), (1, .int d9), (2, .int n9), (3, .int k9)]) hx hb d_M_kept_41 hl (by decide) rfl (fun ls hl => ?_)
            refine lv_aload_n hx hb d_M_kept_43 rfl (lv_at hl 1 rfl) ?_
            refine lv_iload hx hb d_M_kept_44 (lv_at hl 0 rfl) ?_
            refine lv_if_ne (tgt := 53) hx hb d_M_kept_46 (by decide) (fun c_143 => ?_) (fun c_143 => ?_)
            · exact absurd (by decide) c_143
            · refine lv_iconst (v := 1) hx hb d_M_kept_49 (by decide) ?_
              refine lv_goto (tgt := 54) hx hb d_M_kept_50 (by decide) ?_
              refine mcVi (As := [.int 1]) (rest := []) (wr := [(ka, .inl (cI, 4160, .inl kF))]) (c_M_refuse1 l dC dI tb y ma qa ba aa ka th wi hg zs ta de oe re pa ee dq qe ag ) F tw_602 tw_34 tw_601 tw_16 tw_599 hP hD [0] [1] rfl rfl (by decide) (by decide) (by decide) hK [] rfl hE hS hA (q0 := 0) rfl rfl hd_M_refuse rfl rfl ⟨Nat.le_of_ble_eq_true rfl, Nat.le_of_ble_eq_true rfl⟩ ⟨Nat.le_of_ble_eq_true rfl, Nat.le_of_ble_eq_true rfl⟩ hl.1 rfl (Nat.le_of_ble_eq_true rfl) d_M_kept_54 (fun H locs hP hD hS => ?_)
              have hP : va_P (dC, dI) clX [(ka, .inl (cI, 4160, .inl kF)), (y, .inr (4, [.int 1, .ref ma, .int wi, .int hg, .ref qa, .int zs, .int ta, .int de, .ref ba, .int oe, .int re, .int pa, .int ee, .int dq, .int qe, .int ag, .ref aa, .ref ka]))] H := hP
              have hD : va_D A [(ka, .inl (cI, 4160, .inl kF)), (y, .inr (4, [.int 1, .ref ma, .int wi, .int hg, .ref qa, .int zs, .int ta, .int de, .ref ba, .int oe, .int re, .int pa, .int ee, .int dq, .int qe, .int ag, .ref aa, .ref ka]))] := hD
              refine lv_if_eq (tgt := 62) hx hb d_M_kept_57 (by decide) (fun c_144 => ?_) (fun c_144 => ?_)
              · exact absurd c_144 (by decide)
              · refine lv_iconst (v := 0) hx hb d_M_kept_60 (by decide) ?_
                have hP9 := hP.sub (ws' := [(y, .inr (4, [.int 1, .ref ma, .int wi, .int hg, .ref qa, .int zs, .int ta, .int de, .ref ba, .int oe, .int re, .int pa, .int ee, .int dq, .int qe, .int ag, .ref aa, .ref ka])), (ka, .inl (cI, 4160, .inl kF))]) [1, 0] rfl
                have hD9 := hD.sub (ws' := [(y, .inr (4, [.int 1, .ref ma, .int wi, .int hg, .ref qa, .int zs, .int ta, .int de, .ref ba, .int oe, .int re, .int pa, .int ee, .int dq, .int qe, .int ag, .ref aa, .ref ka])), (ka, .inl (cI, 4160, .inl kF))]) [1, 0] (by decide) rfl
                exact W.iret hx hb hr (fun t ht9 hW => ⟨⟨_, (), rfl, by rw [show kpM kF d9 n9 k9 = (0, 1) from by simp only [kpM, if_neg c_130, if_neg c_133, if_neg c_136, if_neg c_139, if_pos c_142]], by rw [ht9]; rw [show kpM kF d9 n9 k9 = (0, 1) from by simp only [kpM, if_neg c_130, if_neg c_133, if_neg c_136, if_neg c_139, if_pos c_142]]; exact hP9, va_K.moved hW.alike hK, by rw [hAe]; rw [show kpM kF d9 n9 k9 = (0, 1) from by simp only [kpM, if_neg c_130, if_neg c_133, if_neg c_136, if_neg c_139, if_pos c_142]]; exact hD9⟩, hS.F ht9⟩) hS.2.2 d_M_kept_61
          · refine lv_iconst (v := 1) hx hb d_M_kept_36 (by decide) ?_
            refine lv_goto (tgt := 41) hx hb d_M_kept_37 (by decide) ?_
            refine lv_istore (lv' := [(4, .int 1), (0, .ref y), (1, .int d9), (2, .int n9), (3, .int k9)]) hx hb d_M_kept_41 hl (by decide) rfl (fun ls hl => ?_)
            refine lv_aload_n hx hb d_M_kept_43 rfl (lv_at hl 1 rfl) ?_
            refine lv_iload hx hb d_M_kept_44 (lv_at hl 0 rfl) ?_
            refine lv_if_ne (tgt := 53) hx hb d_M_kept_46 (by decide) (fun c_145 => ?_) (fun c_145 => ?_)
            · refine lv_iconst (v := 0) hx hb d_M_kept_53 (by decide) ?_
              refine mcVi (As := [.int 0]) (rest := []) (wr := [(ka, .inl (cI, 4160, .inl kF))]) (c_M_refuse0 l dC dI tb y ma qa ba aa ka th wi hg zs ta de oe re pa ee dq qe ag ) F tw_602 tw_34 tw_601 tw_16 tw_599 hP hD [0] [1] rfl rfl (by decide) (by decide) (by decide) hK [] rfl hE hS hA (q0 := 0) rfl rfl hd_M_refuse rfl rfl ⟨Nat.le_of_ble_eq_true rfl, Nat.le_of_ble_eq_true rfl⟩ ⟨Nat.le_of_ble_eq_true rfl, Nat.le_of_ble_eq_true rfl⟩ hl.1 rfl (Nat.le_of_ble_eq_true rfl) d_M_kept_54 (fun H locs hP hD hS => ?_)
              have hP : va_P (dC, dI) clX [(ka, .inl (cI, 4160, .inl kF)), (y, .inr (4, [.int 0, .ref ma, .int wi, .int hg, .ref qa, .int zs, .int ta, .int de, .ref ba, .int oe, .int re, .int pa, .int ee, .int dq, .int qe, .int ag, .ref aa, .ref ka]))] H := hP
              have hD : va_D A [(ka, .inl (cI, 4160, .inl kF)), (y, .inr (4, [.int 0, .ref ma, .int wi, .int hg, .ref qa, .int zs, .int ta, .int de, .ref ba, .int oe, .int re, .int pa, .int ee, .int dq, .int qe, .int ag, .ref aa, .ref ka]))] := hD
              refine lv_if_eq (tgt := 62) hx hb d_M_kept_57 (by decide) (fun c_146 => ?_) (fun c_146 => ?_)
              · refine lv_aload_n hx hb d_M_kept_62 rfl (lv_at hl 1 rfl) ?_
                refine va_get (D := (dC, dI)) (ci := 4) (v := .ref ka) (C := R_M) (T := F_M) (N := 18) hx hb ht tu_M hown hK hP 1 rfl rfl 17 (by decide) (ht _ tw_549) (fun _ h9 => h9) rfl d_M_kept_63 ?_
                refine lv_iload_n hx hb d_M_kept_66 rfl (lv_at hl 2 rfl) ?_
                refine lv_iload_n hx hb d_M_kept_67 rfl (lv_at hl 3 rfl) ?_
                refine rcS (As := [.int d9, .int n9]) (rest := [.ref ka]) (c_M_rowOf l dC dI tb d9 n9 ) F tw_527 tw_34 tw_526 tw_525 hP [] rfl hK [] rfl hE hS hd_M_rowOf rfl rfl ⟨Nat.le_of_ble_eq_true rfl, Nat.le_of_ble_eq_true rfl⟩ ⟨Nat.le_of_ble_eq_true rfl, Nat.le_of_ble_eq_true rfl⟩ hl.1 rfl (Nat.le_of_ble_eq_true rfl) d_M_kept_68 ?_
                refine lv_iload_n hx hb d_M_kept_71 rfl (lv_at hl 4 rfl) ?_
                refine lv_iadd hx hb d_M_kept_72 ?_
                refine va_iald hx hb hK hP 0 0 rfl rfl (hk c_130 c_133 c_136 c_139 c_142) d_M_kept_73 ?_
                have hP9 := hP.sub (ws' := [(y, .inr (4, [.int 0, .ref ma, .int wi, .int hg, .ref qa, .int zs, .int ta, .int de, .ref ba, .int oe, .int re, .int pa, .int ee, .int dq, .int qe, .int ag, .ref aa, .ref ka])), (ka, .inl (cI, 4160, .inl kF))]) [1, 0] rfl
                have hD9 := hD.sub (ws' := [(y, .inr (4, [.int 0, .ref ma, .int wi, .int hg, .ref qa, .int zs, .int ta, .int de, .ref ba, .int oe, .int re, .int pa, .int ee, .int dq, .int qe, .int ag, .ref aa, .ref ka])), (ka, .inl (cI, 4160, .inl kF))]) [1, 0] (by decide) rfl
                exact W.iret hx hb hr (fun t ht9 hW => ⟨⟨_, (), rfl, by rw [show kpM kF d9 n9 k9 = ((kF ((rwO d9 n9) + k9).toNatClampNeg), 0) from by simp only [kpM, if_neg c_130, if_neg c_133, if_neg c_136, if_neg c_139, if_neg c_142]], by rw [ht9]; rw [show kpM kF d9 n9 k9 = ((kF ((rwO d9 n9) + k9).toNatClampNeg), 0) from by simp only [kpM, if_neg c_130, if_neg c_133, if_neg c_136, if_neg c_139, if_neg c_142]]; exact hP9, va_K.moved hW.alike hK, by rw [hAe]; rw [show kpM kF d9 n9 k9 = ((kF ((rwO d9 n9) + k9).toNatClampNeg), 0) from by simp only [kpM, if_neg c_130, if_neg c_133, if_neg c_136, if_neg c_139, if_neg c_142]]; exact hD9⟩, hS.F ht9⟩) hS.2.2 d_M_kept_74
              · exact absurd (by decide) c_146
            · exact absurd c_145 (by decide)
def abM (oe re pa ee dq qe zs k9 : Int32) : Int32 × Int32 := (if (inL k9.toInt64 0 6) = 0 then (0, 1) else (if k9 = 0 then (if oe = 0 then (0, 0) else (1, 0)) else (if k9 = 1 then (re, 0) else (if k9 = 2 then (pa, 0) else (if k9 = 3 then (ee, 0) else (if k9 = 4 then (dq, 0) else (if k9 = 5 then (qe, 0) else (zs, 0))))))))
set_option maxHeartbeats 4000000 in
set_option maxRecDepth 100000 in
theorem c_M_about (l : Launch) (dC : Nat → ClassId) (dI : Nat → Nat → Nat) (tb : tbT) (y ma qa ba aa ka : Nat) (th wi hg zs ta de oe re pa ee dq qe ag : Int32) (k9 : Int32) (sz : Nat) : MI l y_M_about (Cond.code y_M_about b_M_about 2 (some .int) :: TB) ({ frames := 1, cells := 0, slots := 0, locals := 25 }) tb (dC, dI) [.ref y, .int k9] [(y, .inr (4, [.int th, .ref ma, .int wi, .int hg, .ref qa, .int zs, .int ta, .int de, .ref ba, .int oe, .int re, .int pa, .int ee, .int dq, .int qe, .int ag, .ref aa, .ref ka]))] [(y, .inr (4, [.int ((abM oe re pa ee dq qe zs k9).2), .ref ma, .int wi, .int hg, .ref qa, .int zs, .int ta, .int de, .ref ba, .int oe, .int re, .int pa, .int ee, .int dq, .int qe, .int ag, .ref aa, .ref ka]))] [] sz ((abM oe re pa ee dq qe zs k9).1) := by
  refine Met.ofW (cc := b_M_about) (maxL := 2) (ret := (some .int)) (by decide) rfl ?_
  intro p e s m args below meth c s₁ B hml hv
  obtain ⟨rfl, hsz, hP, hK, hD0, hE⟩ := hv
  have hx := B.exec
  have hb := B.bytes
  have hr := B.returns
  have ht := fun w (h : w ∈ TB) => atoms_spec (ws := Cond.code y_M_about b_M_about 2 (some .int) :: TB) B.pre w (List.mem_cons_of_mem _ h)
  have hown : s.vm.findClass R_M = some m.cls := findClass_of_methodNamed B.named
  have hlocks := B.notSynchronized
  subst hsz
  have hD := hD0.self (sz := s.heap.size)
  generalize hAe : va_A [(y, .inr (4, [.int th, .ref ma, .int wi, .int hg, .ref qa, .int zs, .int ta, .int de, .ref ba, .int oe, .int re, .int pa, .int ee, .int dq, .int qe, .int ag, .ref aa, .ref ka]))] s.heap.size = A at hD hE ⊢
  have hA : ∀ q : Nat, s.heap.size ≤ q → A q := fun q h => by rw [← hAe]; exact Or.inr h
  have hS : va_S A s.heap s.heap [] := va_S.rf
  have F : CallFix p m c b_M_about 2 s _ TB R_M := ⟨hx, hb, hml, hown, ht⟩
  have hl := lv_entry ([.ref y, .int k9]) (n := 2) (Nat.le_of_ble_eq_true rfl)
  rw [lg_entry_eq]
  generalize (lg_sl ([.ref y, .int k9]) ++ List.replicate (2 - (lg_sl ([.ref y, .int k9])).length) Slot.unset).toArray = ls at hl ⊢
  have hl : lv_has ls 2 [(0, .ref y), (1, .int k9)] := hl
  refine lv_aload_n hx hb d_M_about_0 rfl (lv_at hl 0 rfl) ?_
  refine lv_iload_n hx hb d_M_about_1 rfl (lv_at hl 1 rfl) ?_
  refine lv_i2l (v := k9.toInt64) hx hb d_M_about_2 rfl ?_
  refine lv_lconst (v := 0) hx hb d_M_about_3 (by decide) ?_
  refine lv_ldc2 hx hb hown (ht _ tw_712) d_M_about_4 ?_
  refine rcS (As := [.long k9.toInt64, .long 0, .long 6]) (rest := [.ref y]) (c_M_in l dC dI tb k9.toInt64 0 6 ) F tw_598 tw_34 tw_597 tw_596 hP [] rfl hK [] rfl hE hS hd_M_in rfl rfl ⟨Nat.le_of_ble_eq_true rfl, Nat.le_of_ble_eq_true rfl⟩ ⟨Nat.le_of_ble_eq_true rfl, Nat.le_of_ble_eq_true rfl⟩ hl.1 rfl (Nat.le_of_ble_eq_true rfl) d_M_about_7 ?_
  refine lv_if_ne (tgt := 17) hx hb d_M_about_10 (by decide) (fun c_147 => ?_) (fun c_147 => ?_)
  · refine lv_iconst (v := 0) hx hb d_M_about_17 (by decide) ?_
    refine mcVi (As := [.int 0]) (rest := []) (wr := []) (c_M_refuse0 l dC dI tb y ma qa ba aa ka th wi hg zs ta de oe re pa ee dq qe ag ) F tw_602 tw_34 tw_601 tw_16 tw_599 hP hD [0] [] rfl rfl (by decide) (by decide) (by decide) hK [] rfl hE hS hA (q0 := 0) rfl rfl hd_M_refuse rfl rfl ⟨Nat.le_of_ble_eq_true rfl, Nat.le_of_ble_eq_true rfl⟩ ⟨Nat.le_of_ble_eq_true rfl, Nat.le_of_ble_eq_true rfl⟩ hl.1 rfl (Nat.le_of_ble_eq_true rfl) d_M_about_18 (fun H locs hP hD hS => ?_)
    have hP : va_P (dC, dI) clX [(y, .inr (4, [.int 0, .ref ma, .int wi, .int hg, .ref qa, .int zs, .int ta, .int de, .ref ba, .int oe, .int re, .int pa, .int ee, .int dq, .int qe, .int ag, .ref aa, .ref ka]))] H := hP
    have hD : va_D A [(y, .inr (4, [.int 0, .ref ma, .int wi, .int hg, .ref qa, .int zs, .int ta, .int de, .ref ba, .int oe, .int re, .int pa, .int ee, .int dq, .int qe, .int ag, .ref aa, .ref ka]))] := hD
    refine lv_if_eq (tgt := 26) hx hb d_M_about_21 (by decide) (fun c_148 => ?_) (fun c_148 => ?_)
    · refine lv_iload_n hx hb d_M_about_26 rfl (lv_at hl 1 rfl) ?_
      by_cases sv_149 : k9 = 0
      · refine lv_tab (off := 37) (tgt := 64) hx hb d_M_about_27 (by decide) (by rw [sv_149]; decide +kernel) (by decide) ?_
        refine lv_aload_n hx hb d_M_about_64 rfl (lv_at hl 0 rfl) ?_
        refine va_get (D := (dC, dI)) (ci := 4) (v := .int oe) (C := R_M) (T := F_M) (N := 18) hx hb ht tu_M hown hK hP 0 rfl rfl 9 (by decide) (ht _ tw_541) (fun _ h9 => h9) rfl d_M_about_65 ?_
        refine lv_if_eq (tgt := 75) hx hb d_M_about_68 (by decide) (fun c_150 => ?_) (fun c_150 => ?_)
        · refine lv_iconst (v := 0) hx hb d_M_about_75 (by decide) ?_
          have hP9 := hP.sub (ws' := [(y, .inr (4, [.int 0, .ref ma, .int wi, .int hg, .ref qa, .int zs, .int ta, .int de, .ref ba, .int oe, .int re, .int pa, .int ee, .int dq, .int qe, .int ag, .ref aa, .ref ka]))]) [0] rfl
          have hD9 := hD.sub (ws' := [(y, .inr (4, [.int 0, .ref ma, .int wi, .int hg, .ref qa, .int zs, .int ta, .int de, .ref ba, .int oe, .int re, .int pa, .int ee, .int dq, .int qe, .int ag, .ref aa, .ref ka]))]) [0] (by decide) rfl
          exact W.iret hx hb hr (fun t ht9 hW => ⟨⟨_, (), rfl, by rw [show abM oe re pa ee dq qe zs k9 = (0, 0) from by simp only [abM, if_neg c_147, if_pos sv_149, if_pos c_150]], by rw [ht9]; rw [show abM oe re pa ee dq qe zs k9 = (0, 0) from by simp only [abM, if_neg c_147, if_pos sv_149, if_pos c_150]]; exact hP9, va_K.moved hW.alike hK, by rw [hAe]; rw [show abM oe re pa ee dq qe zs k9 = (0, 0) from by simp only [abM, if_neg c_147, if_pos sv_149, if_pos c_150]]; exact hD9⟩, hS.F ht9⟩) hS.2.2 d_M_about_76
        · refine lv_iconst (v := 1) hx hb d_M_about_71 (by decide) ?_
          refine lv_goto (tgt := 76) hx hb d_M_about_72 (by decide) ?_
          have hP9 := hP.sub (ws' := [(y, .inr (4, [.int 0, .ref ma, .int wi, .int hg, .ref qa, .int zs, .int ta, .int de, .ref ba, .int oe, .int re, .int pa, .int ee, .int dq, .int qe, .int ag, .ref aa, .ref ka]))]) [0] rfl
          have hD9 := hD.sub (ws' := [(y, .inr (4, [.int 0, .ref ma, .int wi, .int hg, .ref qa, .int zs, .int ta, .int de, .ref ba, .int oe, .int re, .int pa, .int ee, .int dq, .int qe, .int ag, .ref aa, .ref ka]))]) [0] (by decide) rfl
          exact W.iret hx hb hr (fun t ht9 hW => ⟨⟨_, (), rfl, by rw [show abM oe re pa ee dq qe zs k9 = (1, 0) from by simp only [abM, if_neg c_147, if_pos sv_149, if_neg c_150]], by rw [ht9]; rw [show abM oe re pa ee dq qe zs k9 = (1, 0) from by simp only [abM, if_neg c_147, if_pos sv_149, if_neg c_150]]; exact hP9, va_K.moved hW.alike hK, by rw [hAe]; rw [show abM oe re pa ee dq qe zs k9 = (1, 0) from by simp only [abM, if_neg c_147, if_pos sv_149, if_neg c_150]]; exact hD9⟩, hS.F ht9⟩) hS.2.2 d_M_about_76
      · skip
        by_cases sv_151 : k9 = 1
        · refine lv_tab (off := 50) (tgt := 77) hx hb d_M_about_27 (by decide) (by rw [sv_151]; decide +kernel) (by decide) ?_
          refine lv_aload_n hx hb d_M_about_77 rfl (lv_at hl 0 rfl) ?_
          refine va_get (D := (dC, dI)) (ci := 4) (v := .int re) (C := R_M) (T := F_M) (N := 18) hx hb ht tu_M hown hK hP 0 rfl rfl 10 (by decide) (ht _ tw_542) (fun _ h9 => h9) rfl d_M_about_78 ?_
          have hP9 := hP.sub (ws' := [(y, .inr (4, [.int 0, .ref ma, .int wi, .int hg, .ref qa, .int zs, .int ta, .int de, .ref ba, .int oe, .int re, .int pa, .int ee, .int dq, .int qe, .int ag, .ref aa, .ref ka]))]) [0] rfl
          have hD9 := hD.sub (ws' := [(y, .inr (4, [.int 0, .ref ma, .int wi, .int hg, .ref qa, .int zs, .int ta, .int de, .ref ba, .int oe, .int re, .int pa, .int ee, .int dq, .int qe, .int ag, .ref aa, .ref ka]))]) [0] (by decide) rfl
          exact W.iret hx hb hr (fun t ht9 hW => ⟨⟨_, (), rfl, by rw [show abM oe re pa ee dq qe zs k9 = (re, 0) from by simp only [abM, if_neg c_147, if_neg sv_149, if_pos sv_151]], by rw [ht9]; rw [show abM oe re pa ee dq qe zs k9 = (re, 0) from by simp only [abM, if_neg c_147, if_neg sv_149, if_pos sv_151]]; exact hP9, va_K.moved hW.alike hK, by rw [hAe]; rw [show abM oe re pa ee dq qe zs k9 = (re, 0) from by simp only [abM, if_neg c_147, if_neg sv_149, if_pos sv_151]]; exact hD9⟩, hS.F ht9⟩) hS.2.2 d_M_about_81
        · skip
          by_cases sv_152 : k9 = 2
          · refine lv_tab (off := 55) (tgt := 82) hx hb d_M_about_27 (by decide) (by rw [sv_152]; decide +kernel) (by decide) ?_
            refine lv_aload_n hx hb d_M_about_82 rfl (lv_at hl 0 rfl) ?_
            refine va_get (D := (dC, dI)) (ci := 4) (v := .int pa) (C := R_M) (T := F_M) (N := 18) hx hb ht tu_M hown hK hP 0 rfl rfl 11 (by decide) (ht _ tw_543) (fun _ h9 => h9) rfl d_M_about_83 ?_
            have hP9 := hP.sub (ws' := [(y, .inr (4, [.int 0, .ref ma, .int wi, .int hg, .ref qa, .int zs, .int ta, .int de, .ref ba, .int oe, .int re, .int pa, .int ee, .int dq, .int qe, .int ag, .ref aa, .ref ka]))]) [0] rfl
            have hD9 := hD.sub (ws' := [(y, .inr (4, [.int 0, .ref ma, .int wi, .int hg, .ref qa, .int zs, .int ta, .int de, .ref ba, .int oe, .int re, .int pa, .int ee, .int dq, .int qe, .int ag, .ref aa, .ref ka]))]) [0] (by decide) rfl
            exact W.iret hx hb hr (fun t ht9 hW => ⟨⟨_, (), rfl, by rw [show abM oe re pa ee dq qe zs k9 = (pa, 0) from by simp only [abM, if_neg c_147, if_neg sv_149, if_neg sv_151, if_pos sv_152]], by rw [ht9]; rw [show abM oe re pa ee dq qe zs k9 = (pa, 0) from by simp only [abM, if_neg c_147, if_neg sv_149, if_neg sv_151, if_pos sv_152]]; exact hP9, va_K.moved hW.alike hK, by rw [hAe]; rw [show abM oe re pa ee dq qe zs k9 = (pa, 0) from by simp only [abM, if_neg c_147, if_neg sv_149, if_neg sv_151, if_pos sv_152]]; exact hD9⟩, hS.F ht9⟩) hS.2.2 d_M_about_86
          · skip
            by_cases sv_153 : k9 = 3
            · refine lv_tab (off := 60) (tgt := 87) hx hb d_M_about_27 (by decide) (by rw [sv_153]; decide +kernel) (by decide) ?_
              refine lv_aload_n hx hb d_M_about_87 rfl (lv_at hl 0 rfl) ?_
              refine va_get (D := (dC, dI)) (ci := 4) (v := .int ee) (C := R_M) (T := F_M) (N := 18) hx hb ht tu_M hown hK hP 0 rfl rfl 12 (by decide) (ht _ tw_544) (fun _ h9 => h9) rfl d_M_about_88 ?_
              have hP9 := hP.sub (ws' := [(y, .inr (4, [.int 0, .ref ma, .int wi, .int hg, .ref qa, .int zs, .int ta, .int de, .ref ba, .int oe, .int re, .int pa, .int ee, .int dq, .int qe, .int ag, .ref aa, .ref ka]))]) [0] rfl
              have hD9 := hD.sub (ws' := [(y, .inr (4, [.int 0, .ref ma, .int wi, .int hg, .ref qa, .int zs, .int ta, .int de, .ref ba, .int oe, .int re, .int pa, .int ee, .int dq, .int qe, .int ag, .ref aa, .ref ka]))]) [0] (by decide) rfl
              exact W.iret hx hb hr (fun t ht9 hW => ⟨⟨_, (), rfl, by rw [show abM oe re pa ee dq qe zs k9 = (ee, 0) from by simp only [abM, if_neg c_147, if_neg sv_149, if_neg sv_151, if_neg sv_152, if_pos sv_153]], by rw [ht9]; rw [show abM oe re pa ee dq qe zs k9 = (ee, 0) from by simp only [abM, if_neg c_147, if_neg sv_149, if_neg sv_151, if_neg sv_152, if_pos sv_153]]; exact hP9, va_K.moved hW.alike hK, by rw [hAe]; rw [show abM oe re pa ee dq qe zs k9 = (ee, 0) from by simp only [abM, if_neg c_147, if_neg sv_149, if_neg sv_151, if_neg sv_152, if_pos sv_153]]; exact hD9⟩, hS.F ht9⟩) hS.2.2 d_M_about_91
            · skip
              by_cases sv_154 : k9 = 4
              · refine lv_tab (off := 65) (tgt := 92) hx hb d_M_about_27 (by decide) (by rw [sv_154]; decide +kernel) (by decide) ?_
                refine lv_aload_n hx hb d_M_about_92 rfl (lv_at hl 0 rfl) ?_
                refine va_get (D := (dC, dI)) (ci := 4) (v := .int dq) (C := R_M) (T := F_M) (N := 18) hx hb ht tu_M hown hK hP 0 rfl rfl 13 (by decide) (ht _ tw_545) (fun _ h9 => h9) rfl d_M_about_93 ?_
                have hP9 := hP.sub (ws' := [(y, .inr (4, [.int 0, .ref ma, .int wi, .int hg, .ref qa, .int zs, .int ta, .int de, .ref ba, .int oe, .int re, .int pa, .int ee, .int dq, .int qe, .int ag, .ref aa, .ref ka]))]) [0] rfl
                have hD9 := hD.sub (ws' := [(y, .inr (4, [.int 0, .ref ma, .int wi, .int hg, .ref qa, .int zs, .int ta, .int de, .ref ba, .int oe, .int re, .int pa, .int ee, .int dq, .int qe, .int ag, .ref aa, .ref ka]))]) [0] (by decide) rfl
                exact W.iret hx hb hr (fun t ht9 hW => ⟨⟨_, (), rfl, by rw [show abM oe re pa ee dq qe zs k9 = (dq, 0) from by simp only [abM, if_neg c_147, if_neg sv_149, if_neg sv_151, if_neg sv_152, if_neg sv_153, if_pos sv_154]], by rw [ht9]; rw [show abM oe re pa ee dq qe zs k9 = (dq, 0) from by simp only [abM, if_neg c_147, if_neg sv_149, if_neg sv_151, if_neg sv_152, if_neg sv_153, if_pos sv_154]]; exact hP9, va_K.moved hW.alike hK, by rw [hAe]; rw [show abM oe re pa ee dq qe zs k9 = (dq, 0) from by simp only [abM, if_neg c_147, if_neg sv_149, if_neg sv_151, if_neg sv_152, if_neg sv_153, if_pos sv_154]]; exact hD9⟩, hS.F ht9⟩) hS.2.2 d_M_about_96
              · skip
                by_cases sv_155 : k9 = 5
                · refine lv_tab (off := 70) (tgt := 97) hx hb d_M_about_27 (by decide) (by rw [sv_155]; decide +kernel) (by decide) ?_
                  refine lv_aload_n hx hb d_M_about_97 rfl (lv_at hl 0 rfl) ?_
                  refine va_get (D := (dC, dI)) (ci := 4) (v := .int qe) (C := R_M) (T := F_M) (N := 18) hx hb ht tu_M hown hK hP 0 rfl rfl 14 (by decide) (ht _ tw_546) (fun _ h9 => h9) rfl d_M_about_98 ?_
                  have hP9 := hP.sub (ws' := [(y, .inr (4, [.int 0, .ref ma, .int wi, .int hg, .ref qa, .int zs, .int ta, .int de, .ref ba, .int oe, .int re, .int pa, .int ee, .int dq, .int qe, .int ag, .ref aa, .ref ka]))]) [0] rfl
                  have hD9 := hD.sub (ws' := [(y, .inr (4, [.int 0, .ref ma, .int wi, .int hg, .ref qa, .int zs, .int ta, .int de, .ref ba, .int oe, .int re, .int pa, .int ee, .int dq, .int qe, .int ag, .ref aa, .ref ka]))]) [0] (by decide) rfl
                  exact W.iret hx hb hr (fun t ht9 hW => ⟨⟨_, (), rfl, by rw [show abM oe re pa ee dq qe zs k9 = (qe, 0) from by simp only [abM, if_neg c_147, if_neg sv_149, if_neg sv_151, if_neg sv_152, if_neg sv_153, if_neg sv_154, if_pos sv_155]], by rw [ht9]; rw [show abM oe re pa ee dq qe zs k9 = (qe, 0) from by simp only [abM, if_neg c_147, if_neg sv_149, if_neg sv_151, if_neg sv_152, if_neg sv_153, if_neg sv_154, if_pos sv_155]]; exact hP9, va_K.moved hW.alike hK, by rw [hAe]; rw [show abM oe re pa ee dq qe zs k9 = (qe, 0) from by simp only [abM, if_neg c_147, if_neg sv_149, if_neg sv_151, if_neg sv_152, if_neg sv_153, if_neg sv_154, if_pos sv_155]]; exact hD9⟩, hS.F ht9⟩) hS.2.2 d_M_about_101
                · skip
                  have hsw : ∀ b ∈ ([0, 1, 2, 3, 4, 5] : List Int32), ¬ k9 = b := by
                    intro b9 hb9
                    simp only [List.mem_cons, List.not_mem_nil, or_false] at hb9
                    rcases hb9 with rfl | rfl | rfl | rfl | rfl | rfl
                    · exact sv_149
                    · exact sv_151
                    · exact sv_152
                    · exact sv_153
                    · exact sv_154
                    · exact sv_155
                  refine lv_tab (off := 75) (tgt := 102) hx hb d_M_about_27 (by decide) (sw_def [0, 1, 2, 3, 4, 5] hsw (by decide +kernel) (by decide)) (by decide) ?_
                  refine lv_aload_n hx hb d_M_about_102 rfl (lv_at hl 0 rfl) ?_
                  refine va_get (D := (dC, dI)) (ci := 4) (v := .int zs) (C := R_M) (T := F_M) (N := 18) hx hb ht tu_M hown hK hP 0 rfl rfl 5 (by decide) (ht _ tw_537) (fun _ h9 => h9) rfl d_M_about_103 ?_
                  have hP9 := hP.sub (ws' := [(y, .inr (4, [.int 0, .ref ma, .int wi, .int hg, .ref qa, .int zs, .int ta, .int de, .ref ba, .int oe, .int re, .int pa, .int ee, .int dq, .int qe, .int ag, .ref aa, .ref ka]))]) [0] rfl
                  have hD9 := hD.sub (ws' := [(y, .inr (4, [.int 0, .ref ma, .int wi, .int hg, .ref qa, .int zs, .int ta, .int de, .ref ba, .int oe, .int re, .int pa, .int ee, .int dq, .int qe, .int ag, .ref aa, .ref ka]))]) [0] (by decide) rfl
                  exact W.iret hx hb hr (fun t ht9 hW => ⟨⟨_, (), rfl, by rw [show abM oe re pa ee dq qe zs k9 = (zs, 0) from by simp only [abM, if_neg c_147, if_neg sv_149, if_neg sv_151, if_neg sv_152, if_neg sv_153, if_neg sv_154, if_neg sv_155]], by rw [ht9]; rw [show abM oe re pa ee dq qe zs k9 = (zs, 0) from by simp only [abM, if_neg c_147, if_neg sv_149, if_neg sv_151, if_neg sv_152, if_neg sv_153, if_neg sv_154, if_neg sv_155]]; exact hP9, va_K.moved hW.alike hK, by rw [hAe]; rw [show abM oe re pa ee dq qe zs k9 = (zs, 0) from by simp only [abM, if_neg c_147, if_neg sv_149, if_neg sv_151, if_neg sv_152, if_neg sv_153, if_neg sv_154, if_neg sv_155]]; exact hD9⟩, hS.F ht9⟩) hS.2.2 d_M_about_106
    · exact absurd (by decide) c_148
  · refine lv_iconst (v := 1) hx hb d_M_about_13 (by decide) ?_
    refine lv_goto (tgt := 18) hx hb d_M_about_14 (by decide) ?_
    refine mcVi (As := [.int 1]) (rest := []) (wr := []) (c_M_refuse1 l dC dI tb y ma qa ba aa ka th wi hg zs ta de oe re pa ee dq qe ag ) F tw_602 tw_34 tw_601 tw_16 tw_599 hP hD [0] [] rfl rfl (by decide) (by decide) (by decide) hK [] rfl hE hS hA (q0 := 0) rfl rfl hd_M_refuse rfl rfl ⟨Nat.le_of_ble_eq_true rfl, Nat.le_of_ble_eq_true rfl⟩ ⟨Nat.le_of_ble_eq_true rfl, Nat.le_of_ble_eq_true rfl⟩ hl.1 rfl (Nat.le_of_ble_eq_true rfl) d_M_about_18 (fun H locs hP hD hS => ?_)
    have hP : va_P (dC, dI) clX [(y, .inr (4, [.int 1, .ref ma, .int wi, .int hg, .ref qa, .int zs, .int ta, .int de, .ref ba, .int oe, .int re, .int pa, .int ee, .int dq, .int qe, .int ag, .ref aa, .ref ka]))] H := hP
    have hD : va_D A [(y, .inr (4, [.int 1, .ref ma, .int wi, .int hg, .ref qa, .int zs, .int ta, .int de, .ref ba, .int oe, .int re, .int pa, .int ee, .int dq, .int qe, .int ag, .ref aa, .ref ka]))] := hD
    refine lv_if_eq (tgt := 26) hx hb d_M_about_21 (by decide) (fun c_156 => ?_) (fun c_156 => ?_)
    · exact absurd c_156 (by decide)
    · refine lv_iconst (v := 0) hx hb d_M_about_24 (by decide) ?_
      have hP9 := hP.sub (ws' := [(y, .inr (4, [.int 1, .ref ma, .int wi, .int hg, .ref qa, .int zs, .int ta, .int de, .ref ba, .int oe, .int re, .int pa, .int ee, .int dq, .int qe, .int ag, .ref aa, .ref ka]))]) [0] rfl
      have hD9 := hD.sub (ws' := [(y, .inr (4, [.int 1, .ref ma, .int wi, .int hg, .ref qa, .int zs, .int ta, .int de, .ref ba, .int oe, .int re, .int pa, .int ee, .int dq, .int qe, .int ag, .ref aa, .ref ka]))]) [0] (by decide) rfl
      exact W.iret hx hb hr (fun t ht9 hW => ⟨⟨_, (), rfl, by rw [show abM oe re pa ee dq qe zs k9 = (0, 1) from by simp only [abM, if_pos c_147]], by rw [ht9]; rw [show abM oe re pa ee dq qe zs k9 = (0, 1) from by simp only [abM, if_pos c_147]]; exact hP9, va_K.moved hW.alike hK, by rw [hAe]; rw [show abM oe re pa ee dq qe zs k9 = (0, 1) from by simp only [abM, if_pos c_147]]; exact hD9⟩, hS.F ht9⟩) hS.2.2 d_M_about_25
