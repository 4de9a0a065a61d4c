def inL (v9 lo9 hi9 : Int64) : Int32 := (if (lg_cmp v9 lo9) < 0 then 0 else (if 0 < (lg_cmp v9 hi9) then 0 else 1))
theorem nar_inL (v9 lo9 hi9 : Int64) : narrow .boolean (.int (inL v9 lo9 hi9)) = .int (inL v9 lo9 hi9) := by
  unfold inL
  repeat' split
  all_goals rfl
set_option maxHeartbeats 4000000 in
set_option maxRecDepth 100000 in
theorem c_M_in (l : Launch) (dC : Nat → ClassId) (dI : Nat → Nat → Nat) (tb : tbT) (v9 lo9 hi9 : Int64) : RM l y_M_in (Cond.code y_M_in b_M_in 6 (some .boolean) :: TB) ({ frames := 0, cells := 0, slots := 0, locals := 0 }) tb (dC, dI) [.long v9, .long lo9, .long hi9] [] [] (inL v9 lo9 hi9) := by
  refine Met.ofW (cc := b_M_in) (maxL := 6) (ret := (some .boolean)) (by decide) rfl ?_
  intro p e s m args below meth c s₁ B hml hv
  obtain ⟨rfl, hP, hK, hE⟩ := hv
  have hx := B.exec
  have hb := B.bytes
  have hr := B.returns
  have ht := fun w (h : w ∈ TB) => atoms_spec (ws := Cond.code y_M_in b_M_in 6 (some .boolean) :: TB) B.pre w (List.mem_cons_of_mem _ h)
  have hown : s.vm.findClass R_M = some m.cls := findClass_of_methodNamed B.named
  have hlocks := B.notSynchronized
  have hS : va_S (fun _ => False) s.heap s.heap [] := va_S.rf
  have F : CallFix p m c b_M_in 6 s _ TB R_M := ⟨hx, hb, hml, hown, ht⟩
  have hl := lv_entry ([.long v9, .long lo9, .long hi9]) (n := 6) (Nat.le_of_ble_eq_true rfl)
  rw [lg_entry_eq]
  generalize (lg_sl ([.long v9, .long lo9, .long hi9]) ++ List.replicate (6 - (lg_sl ([.long v9, .long lo9, .long hi9])).length) Slot.unset).toArray = ls at hl ⊢
  have hl : lv_has ls 6 [(0, .long v9), (2, .long lo9), (4, .long hi9)] := hl
  refine lv_lload_n hx hb d_M_in_0 rfl (lv_at hl 0 rfl) ?_
  refine lv_lload_n hx hb d_M_in_1 rfl (lv_at hl 1 rfl) ?_
  refine W.lcmp hx hb d_M_in_2 ?_
  refine lv_if_lt (tgt := 17) hx hb d_M_in_3 (by decide) (fun c_1 => ?_) (fun c_1 => ?_)
  · refine lv_iconst (v := 0) hx hb d_M_in_17 (by decide) ?_
    exact W.zret hx hb hr (rfl) (fun t ht9 hW => ⟨_, rfl, by simp only [inL, if_pos c_1], ht9⟩) hS.2.2 d_M_in_18
  · refine lv_lload_n hx hb d_M_in_6 rfl (lv_at hl 0 rfl) ?_
    refine lv_lload hx hb d_M_in_7 (lv_at hl 2 rfl) ?_
    refine W.lcmp hx hb d_M_in_9 ?_
    refine lv_if_gt (tgt := 17) hx hb d_M_in_10 (by decide) (fun c_2 => ?_) (fun c_2 => ?_)
    · refine lv_iconst (v := 0) hx hb d_M_in_17 (by decide) ?_
      exact W.zret hx hb hr (rfl) (fun t ht9 hW => ⟨_, rfl, by simp only [inL, if_neg c_1, if_pos c_2], ht9⟩) hS.2.2 d_M_in_18
    · refine lv_iconst (v := 1) hx hb d_M_in_13 (by decide) ?_
      refine lv_goto (tgt := 18) hx hb d_M_in_14 (by decide) ?_
      exact W.zret hx hb hr (rfl) (fun t ht9 hW => ⟨_, rfl, by simp only [inL, if_neg c_1, if_neg c_2], ht9⟩) hS.2.2 d_M_in_18
def cnt (k9 : Int32) : Int32 := (if k9 = 0 ∨ k9 = 22 then 0 else (if k9 = 1 ∨ k9 = 3 ∨ k9 = 24 then 4 else (if k9 = 4 ∨ k9 = 5 ∨ k9 = 18 ∨ k9 = 25 then 5 else (if k9 = 6 ∨ k9 = 17 then 3 else (if k9 = 7 ∨ k9 = 8 ∨ k9 = 10 ∨ k9 = 16 ∨ k9 = 19 ∨ k9 = 21 then 2 else (if k9 = 11 then 8 else (if k9 = 13 ∨ k9 = 14 ∨ k9 = 15 ∨ k9 = 23 then 1 else 6)))))))
set_option maxHeartbeats 4000000 in
set_option maxRecDepth 100000 in
theorem c_M_count (l : Launch) (dC : Nat → ClassId) (dI : Nat → Nat → Nat) (tb : tbT) (k9 : Int32) : RM l y_M_count (Cond.code y_M_count b_M_count 1 (some .int) :: TB) ({ frames := 0, cells := 0, slots := 0, locals := 0 }) tb (dC, dI) [.int k9] [] [] (cnt k9) := by
  refine Met.ofW (cc := b_M_count) (maxL := 1) (ret := (some .int)) (by decide) rfl ?_
  intro p e s m args below meth c s₁ B hml hv
  obtain ⟨rfl, hP, hK, hE⟩ := hv
  have hx := B.exec
  have hb := B.bytes
  have hr := B.returns
  have ht := fun w (h : w ∈ TB) => atoms_spec (ws := Cond.code y_M_count b_M_count 1 (some .int) :: TB) B.pre w (List.mem_cons_of_mem _ h)
  have hown : s.vm.findClass R_M = some m.cls := findClass_of_methodNamed B.named
  have hlocks := B.notSynchronized
  have hS : va_S (fun _ => False) s.heap s.heap [] := va_S.rf
  have F : CallFix p m c b_M_count 1 s _ TB R_M := ⟨hx, hb, hml, hown, ht⟩
  have hl := lv_entry ([.int k9]) (n := 1) (Nat.le_of_ble_eq_true rfl)
  rw [lg_entry_eq]
  generalize (lg_sl ([.int k9]) ++ List.replicate (1 - (lg_sl ([.int k9])).length) Slot.unset).toArray = ls at hl ⊢
  have hl : lv_has ls 1 [(0, .int k9)] := hl
  refine lv_iload_n hx hb d_M_count_0 rfl (lv_at hl 0 rfl) ?_
  by_cases sv_3 : k9 = 0 ∨ k9 = 22
  · refine lv_tab (off := 119) (tgt := 120) hx hb d_M_count_1 (by decide) (by rcases sv_3 with h9 | h9 <;> rw [h9] <;> decide +kernel) (by decide) ?_
    refine lv_iconst (v := 0) hx hb d_M_count_120 (by decide) ?_
    exact W.iret hx hb hr (fun t ht9 hW => ⟨_, rfl, by simp only [cnt, if_pos sv_3], ht9⟩) hS.2.2 d_M_count_121
  · skip
    by_cases sv_4 : k9 = 1 ∨ k9 = 3 ∨ k9 = 24
    · refine lv_tab (off := 127) (tgt := 128) hx hb d_M_count_1 (by decide) (by rcases sv_4 with h9 | h9 | h9 <;> rw [h9] <;> decide +kernel) (by decide) ?_
      refine lv_iconst (v := 4) hx hb d_M_count_128 (by decide) ?_
      exact W.iret hx hb hr (fun t ht9 hW => ⟨_, rfl, by simp only [cnt, if_neg sv_3, if_pos sv_4], ht9⟩) hS.2.2 d_M_count_129
    · skip
      by_cases sv_5 : k9 = 4 ∨ k9 = 5 ∨ k9 = 18 ∨ k9 = 25
      · refine lv_tab (off := 129) (tgt := 130) hx hb d_M_count_1 (by decide) (by rcases sv_5 with h9 | h9 | h9 | h9 <;> rw [h9] <;> decide +kernel) (by decide) ?_
        refine lv_iconst (v := 5) hx hb d_M_count_130 (by decide) ?_
        exact W.iret hx hb hr (fun t ht9 hW => ⟨_, rfl, by simp only [cnt, if_neg sv_3, if_neg sv_4, if_pos sv_5], ht9⟩) hS.2.2 d_M_count_131
      · skip
        by_cases sv_6 : k9 = 6 ∨ k9 = 17
        · refine lv_tab (off := 125) (tgt := 126) hx hb d_M_count_1 (by decide) (by rcases sv_6 with h9 | h9 <;> rw [h9] <;> decide +kernel) (by decide) ?_
          refine lv_iconst (v := 3) hx hb d_M_count_126 (by decide) ?_
          exact W.iret hx hb hr (fun t ht9 hW => ⟨_, rfl, by simp only [cnt, if_neg sv_3, if_neg sv_4, if_neg sv_5, if_pos sv_6], ht9⟩) hS.2.2 d_M_count_127
        · skip
          by_cases sv_7 : k9 = 7 ∨ k9 = 8 ∨ k9 = 10 ∨ k9 = 16 ∨ k9 = 19 ∨ k9 = 21
          · refine lv_tab (off := 123) (tgt := 124) hx hb d_M_count_1 (by decide) (by rcases sv_7 with h9 | h9 | h9 | h9 | h9 | h9 <;> rw [h9] <;> decide +kernel) (by decide) ?_
            refine lv_iconst (v := 2) hx hb d_M_count_124 (by decide) ?_
            exact W.iret hx hb hr (fun t ht9 hW => ⟨_, rfl, by simp only [cnt, if_neg sv_3, if_neg sv_4, if_neg sv_5, if_neg sv_6, if_pos sv_7], ht9⟩) hS.2.2 d_M_count_125
          · skip
            by_cases sv_8 : k9 = 11
            · refine lv_tab (off := 131) (tgt := 132) hx hb d_M_count_1 (by decide) (by rw [sv_8]; decide +kernel) (by decide) ?_
              refine lv_bipush (v := 8) hx hb d_M_count_132 (by decide) ?_
              exact W.iret hx hb hr (fun t ht9 hW => ⟨_, rfl, by simp only [cnt, if_neg sv_3, if_neg sv_4, if_neg sv_5, if_neg sv_6, if_neg sv_7, if_pos sv_8], ht9⟩) hS.2.2 d_M_count_134
            · skip
              by_cases sv_9 : k9 = 13 ∨ k9 = 14 ∨ k9 = 15 ∨ k9 = 23
              · refine lv_tab (off := 121) (tgt := 122) hx hb d_M_count_1 (by decide) (by rcases sv_9 with h9 | h9 | h9 | h9 <;> rw [h9] <;> decide +kernel) (by decide) ?_
                refine lv_iconst (v := 1) hx hb d_M_count_122 (by decide) ?_
                exact W.iret hx hb hr (fun t ht9 hW => ⟨_, rfl, by simp only [cnt, if_neg sv_3, if_neg sv_4, if_neg sv_5, if_neg sv_6, if_neg sv_7, if_neg sv_8, if_pos sv_9], ht9⟩) hS.2.2 d_M_count_123
              · skip
                have hsw : ∀ b ∈ ([0, 22, 1, 3, 24, 4, 5, 18, 25, 6, 17, 7, 8, 10, 16, 19, 21, 11, 13, 14, 15, 23] : List Int32), ¬ k9 = b := by
                  intro b9 hb9
                  simp only [List.mem_cons, List.not_mem_nil, or_false] at hb9
                  rcases hb9 with rfl | rfl | rfl | rfl | rfl | rfl | rfl | rfl | rfl | rfl | rfl | rfl | rfl | rfl | rfl | rfl | rfl | rfl | rfl | rfl | rfl | rfl
                  · exact fun h9 => sv_3 (Or.inl h9)
                  · exact fun h9 => sv_3 (Or.inr (h9))
                  · exact fun h9 => sv_4 (Or.inl h9)
                  · exact fun h9 => sv_4 (Or.inr (Or.inl h9))
                  · exact fun h9 => sv_4 (Or.inr (Or.inr (h9)))
                  · exact fun h9 => sv_5 (Or.inl h9)
                  · exact fun h9 => sv_5 (Or.inr (Or.inl h9))
                  · exact fun h9 => sv_5 (Or.inr (Or.inr (Or.inl h9)))
                  · exact fun h9 => sv_5 (Or.inr (Or.inr (Or.inr (h9))))
                  · exact fun h9 => sv_6 (Or.inl h9)
                  · exact fun h9 => sv_6 (Or.inr (h9))
                  · exact fun h9 => sv_7 (Or.inl h9)
                  · exact fun h9 => sv_7 (Or.inr (Or.inl h9))
                  · exact fun h9 => sv_7 (Or.inr (Or.inr (Or.inl h9)))
                  · exact fun h9 => sv_7 (Or.inr (Or.inr (Or.inr (Or.inl h9))))
                  · exact fun h9 => sv_7 (Or.inr (Or.inr (Or.inr (Or.inr (Or.inl h9)))))
                  · exact fun h9 => sv_7 (Or.inr (Or.inr (Or.inr (Or.inr (Or.inr (h9))))))
                  · exact sv_8
                  · exact fun h9 => sv_9 (Or.inl h9)
                  · exact fun h9 => sv_9 (Or.inr (Or.inl h9))
                  · exact fun h9 => sv_9 (Or.inr (Or.inr (Or.inl h9)))
                  · exact fun h9 => sv_9 (Or.inr (Or.inr (Or.inr (h9))))
                refine lv_tab (off := 134) (tgt := 135) hx hb d_M_count_1 (by decide) (sw_def [0, 22, 1, 3, 24, 4, 5, 18, 25, 6, 17, 7, 8, 10, 16, 19, 21, 11, 13, 14, 15, 23] hsw (by decide +kernel) (by decide)) (by decide) ?_
                refine lv_bipush (v := 6) hx hb d_M_count_135 (by decide) ?_
                exact W.iret hx hb hr (fun t ht9 hW => ⟨_, rfl, by simp only [cnt, if_neg sv_3, if_neg sv_4, if_neg sv_5, if_neg sv_6, if_neg sv_7, if_neg sv_8, if_neg sv_9], ht9⟩) hS.2.2 d_M_count_137
def mny (k9 : Int32) : Int32 := (if k9 = 2 ∨ k9 = 3 ∨ k9 = 7 ∨ k9 = 8 ∨ k9 = 10 ∨ k9 = 12 ∨ k9 = 13 ∨ k9 = 14 ∨ k9 = 15 ∨ k9 = 16 then 1 else (if k9 = 4 then 8 else (if k9 = 5 then 32 else (if k9 = 9 ∨ k9 = 24 ∨ k9 = 25 then 4 else (if k9 = 11 then 2 else 0)))))
set_option maxHeartbeats 4000000 in
set_option maxRecDepth 100000 in
theorem c_M_many (l : Launch) (dC : Nat → ClassId) (dI : Nat → Nat → Nat) (tb : tbT) (k9 : Int32) : RM l y_M_many (Cond.code y_M_many b_M_many 1 (some .int) :: TB) ({ frames := 0, cells := 0, slots := 0, locals := 0 }) tb (dC, dI) [.int k9] [] [] (mny k9) := by
  refine Met.ofW (cc := b_M_many) (maxL := 1) (ret := (some .int)) (by decide) rfl ?_
  intro p e s m args below meth c s₁ B hml hv
  obtain ⟨rfl, hP, hK, hE⟩ := hv
  have hx := B.exec
  have hb := B.bytes
  have hr := B.returns
  have ht := fun w (h : w ∈ TB) => atoms_spec (ws := Cond.code y_M_many b_M_many 1 (some .int) :: TB) B.pre w (List.mem_cons_of_mem _ h)
  have hown : s.vm.findClass R_M = some m.cls := findClass_of_methodNamed B.named
  have hlocks := B.notSynchronized
  have hS : va_S (fun _ => False) s.heap s.heap [] := va_S.rf
  have F : CallFix p m c b_M_many 1 s _ TB R_M := ⟨hx, hb, hml, hown, ht⟩
  have hl := lv_entry ([.int k9]) (n := 1) (Nat.le_of_ble_eq_true rfl)
  rw [lg_entry_eq]
  generalize (lg_sl ([.int k9]) ++ List.replicate (1 - (lg_sl ([.int k9])).length) Slot.unset).toArray = ls at hl ⊢
  have hl : lv_has ls 1 [(0, .int k9)] := hl
  refine lv_iload_n hx hb d_M_many_0 rfl (lv_at hl 0 rfl) ?_
  by_cases sv_10 : k9 = 2 ∨ k9 = 3 ∨ k9 = 7 ∨ k9 = 8 ∨ k9 = 10 ∨ k9 = 12 ∨ k9 = 13 ∨ k9 = 14 ∨ k9 = 15 ∨ k9 = 16
  · refine lv_tab (off := 121) (tgt := 122) hx hb d_M_many_1 (by decide) (by rcases sv_10 with h9 | h9 | h9 | h9 | h9 | h9 | h9 | h9 | h9 | h9 <;> rw [h9] <;> decide +kernel) (by decide) ?_
    refine lv_iconst (v := 1) hx hb d_M_many_122 (by decide) ?_
    exact W.iret hx hb hr (fun t ht9 hW => ⟨_, rfl, by simp only [mny, if_pos sv_10], ht9⟩) hS.2.2 d_M_many_123
  · skip
    by_cases sv_11 : k9 = 4
    · refine lv_tab (off := 111) (tgt := 112) hx hb d_M_many_1 (by decide) (by rw [sv_11]; decide +kernel) (by decide) ?_
      refine lv_bipush (v := 8) hx hb d_M_many_112 (by decide) ?_
      exact W.iret hx hb hr (fun t ht9 hW => ⟨_, rfl, by simp only [mny, if_neg sv_10, if_pos sv_11], ht9⟩) hS.2.2 d_M_many_114
    · skip
      by_cases sv_12 : k9 = 5
      · refine lv_tab (off := 114) (tgt := 115) hx hb d_M_many_1 (by decide) (by rw [sv_12]; decide +kernel) (by decide) ?_
        refine lv_bipush (v := 32) hx hb d_M_many_115 (by decide) ?_
        exact W.iret hx hb hr (fun t ht9 hW => ⟨_, rfl, by simp only [mny, if_neg sv_10, if_neg sv_11, if_pos sv_12], ht9⟩) hS.2.2 d_M_many_117
      · skip
        by_cases sv_13 : k9 = 9 ∨ k9 = 24 ∨ k9 = 25
        · refine lv_tab (off := 117) (tgt := 118) hx hb d_M_many_1 (by decide) (by rcases sv_13 with h9 | h9 | h9 <;> rw [h9] <;> decide +kernel) (by decide) ?_
          refine lv_iconst (v := 4) hx hb d_M_many_118 (by decide) ?_
          exact W.iret hx hb hr (fun t ht9 hW => ⟨_, rfl, by simp only [mny, if_neg sv_10, if_neg sv_11, if_neg sv_12, if_pos sv_13], ht9⟩) hS.2.2 d_M_many_119
        · skip
          by_cases sv_14 : k9 = 11
          · refine lv_tab (off := 119) (tgt := 120) hx hb d_M_many_1 (by decide) (by rw [sv_14]; decide +kernel) (by decide) ?_
            refine lv_iconst (v := 2) hx hb d_M_many_120 (by decide) ?_
            exact W.iret hx hb hr (fun t ht9 hW => ⟨_, rfl, by simp only [mny, if_neg sv_10, if_neg sv_11, if_neg sv_12, if_neg sv_13, if_pos sv_14], ht9⟩) hS.2.2 d_M_many_121
          · skip
            have hsw : ∀ b ∈ ([2, 3, 7, 8, 10, 12, 13, 14, 15, 16, 4, 5, 9, 24, 25, 11] : List Int32), ¬ k9 = b := by
              intro b9 hb9
              simp only [List.mem_cons, List.not_mem_nil, or_false] at hb9
              rcases hb9 with rfl | rfl | rfl | rfl | rfl | rfl | rfl | rfl | rfl | rfl | rfl | rfl | rfl | rfl | rfl | rfl
              · exact fun h9 => sv_10 (Or.inl h9)
              · exact fun h9 => sv_10 (Or.inr (Or.inl h9))
              · exact fun h9 => sv_10 (Or.inr (Or.inr (Or.inl h9)))
              · exact fun h9 => sv_10 (Or.inr (Or.inr (Or.inr (Or.inl h9))))
              · exact fun h9 => sv_10 (Or.inr (Or.inr (Or.inr (Or.inr (Or.inl h9)))))
              · exact fun h9 => sv_10 (Or.inr (Or.inr (Or.inr (Or.inr (Or.inr (Or.inl h9))))))
              · exact fun h9 => sv_10 (Or.inr (Or.inr (Or.inr (Or.inr (Or.inr (Or.inr (Or.inl h9)))))))
              · exact fun h9 => sv_10 (Or.inr (Or.inr (Or.inr (Or.inr (Or.inr (Or.inr (Or.inr (Or.inl h9))))))))
              · exact fun h9 => sv_10 (Or.inr (Or.inr (Or.inr (Or.inr (Or.inr (Or.inr (Or.inr (Or.inr (Or.inl h9)))))))))
              · exact fun h9 => sv_10 (Or.inr (Or.inr (Or.inr (Or.inr (Or.inr (Or.inr (Or.inr (Or.inr (Or.inr (h9))))))))))
              · exact sv_11
              · exact sv_12
              · exact fun h9 => sv_13 (Or.inl h9)
              · exact fun h9 => sv_13 (Or.inr (Or.inl h9))
              · exact fun h9 => sv_13 (Or.inr (Or.inr (h9)))
              · exact sv_14
            refine lv_tab (off := 123) (tgt := 124) hx hb d_M_many_1 (by decide) (sw_def [2, 3, 7, 8, 10, 12, 13, 14, 15, 16, 4, 5, 9, 24, 25, 11] hsw (by decide +kernel) (by decide)) (by decide) ?_
            refine lv_iconst (v := 0) hx hb d_M_many_124 (by decide) ?_
            exact W.iret hx hb hr (fun t ht9 hW => ⟨_, rfl, by simp only [mny, if_neg sv_10, if_neg sv_11, if_neg sv_12, if_neg sv_13, if_neg sv_14], ht9⟩) hS.2.2 d_M_many_125
def isV (k9 v9 : Int32) : Int32 := (if 2 ≤ k9 then (if 4 ≤ k9 then (inL v9.toInt64 0 16777215) else (inL v9.toInt64 1 1024)) else (inL v9.toInt64 (-1023) 1023))
theorem nar_isV (k9 v9 : Int32) : narrow .boolean (.int (isV k9 v9)) = .int (isV k9 v9) := by
  unfold isV
  repeat' split
  all_goals first | rfl | exact nar_inL _ _ _
set_option maxHeartbeats 4000000 in
set_option maxRecDepth 100000 in
theorem c_M_isViews (l : Launch) (dC : Nat → ClassId) (dI : Nat → Nat → Nat) (tb : tbT) (k9 v9 : Int32) : RM l y_M_isViews (Cond.code y_M_isViews b_M_isViews 2 (some .boolean) :: TB) ({ frames := 1, cells := 0, slots := 0, locals := 25 }) tb (dC, dI) [.int k9, .int v9] [] [] (isV k9 v9) := by
  refine Met.ofW (cc := b_M_isViews) (maxL := 2) (ret := (some .boolean)) (by decide) rfl ?_
  intro p e s m args below meth c s₁ B hml hv
  obtain ⟨rfl, hP, hK, hE⟩ := hv
  have hx := B.exec
  have hb := B.bytes
  have hr := B.returns
  have ht := fun w (h : w ∈ TB) => atoms_spec (ws := Cond.code y_M_isViews b_M_isViews 2 (some .boolean) :: TB) B.pre w (List.mem_cons_of_mem _ h)
  have hown : s.vm.findClass R_M = some m.cls := findClass_of_methodNamed B.named
  have hlocks := B.notSynchronized
  have hS : va_S (fun _ => False) s.heap s.heap [] := va_S.rf
  have F : CallFix p m c b_M_isViews 2 s _ TB R_M := ⟨hx, hb, hml, hown, ht⟩
  have hl := lv_entry ([.int k9, .int v9]) (n := 2) (Nat.le_of_ble_eq_true rfl)
  rw [lg_entry_eq]
  generalize (lg_sl ([.int k9, .int v9]) ++ List.replicate (2 - (lg_sl ([.int k9, .int v9])).length) Slot.unset).toArray = ls at hl ⊢
  have hl : lv_has ls 2 [(0, .int k9), (1, .int v9)] := hl
  refine lv_iload_n hx hb d_M_isViews_0 rfl (lv_at hl 0 rfl) ?_
  refine lv_iconst (v := 2) hx hb d_M_isViews_1 (by decide) ?_
  refine lv_icmp_ge (tgt := 19) hx hb d_M_isViews_2 (by decide) (fun c_15 => ?_) (fun c_15 => ?_)
  · refine lv_iload_n hx hb d_M_isViews_19 rfl (lv_at hl 0 rfl) ?_
    refine lv_iconst (v := 4) hx hb d_M_isViews_20 (by decide) ?_
    refine lv_icmp_ge (tgt := 36) hx hb d_M_isViews_21 (by decide) (fun c_16 => ?_) (fun c_16 => ?_)
    · refine lv_iload_n hx hb d_M_isViews_36 rfl (lv_at hl 1 rfl) ?_
      refine lv_i2l (v := v9.toInt64) hx hb d_M_isViews_37 rfl ?_
      refine lv_lconst (v := 0) hx hb d_M_isViews_38 (by decide) ?_
      refine lv_ldc2 hx hb hown (ht _ tw_649) d_M_isViews_39 ?_
      refine rcS (As := [.long v9.toInt64, .long 0, .long 16777215]) (rest := []) (c_M_in l dC dI tb v9.toInt64 0 16777215 ) F tw_598 tw_34 tw_597 tw_596 hP [] rfl hK [] rfl hE hS hd_M_in rfl rfl ⟨Nat.le_of_ble_eq_true rfl, Nat.le_of_ble_eq_true rfl⟩ ⟨Nat.le_of_ble_eq_true rfl, Nat.le_of_ble_eq_true rfl⟩ hl.1 rfl (Nat.le_of_ble_eq_true rfl) d_M_isViews_42 ?_
      exact W.zret hx hb hr (nar_inL _ _ _) (fun t ht9 hW => ⟨_, rfl, by simp only [isV, if_pos c_15, if_pos c_16], ht9⟩) hS.2.2 d_M_isViews_45
    · refine lv_iload_n hx hb d_M_isViews_24 rfl (lv_at hl 1 rfl) ?_
      refine lv_i2l (v := v9.toInt64) hx hb d_M_isViews_25 rfl ?_
      refine lv_lconst (v := 1) hx hb d_M_isViews_26 (by decide) ?_
      refine lv_ldc2 hx hb hown (ht _ tw_656) d_M_isViews_27 ?_
      refine rcS (As := [.long v9.toInt64, .long 1, .long 1024]) (rest := []) (c_M_in l dC dI tb v9.toInt64 1 1024 ) F tw_598 tw_34 tw_597 tw_596 hP [] rfl hK [] rfl hE hS hd_M_in rfl rfl ⟨Nat.le_of_ble_eq_true rfl, Nat.le_of_ble_eq_true rfl⟩ ⟨Nat.le_of_ble_eq_true rfl, Nat.le_of_ble_eq_true rfl⟩ hl.1 rfl (Nat.le_of_ble_eq_true rfl) d_M_isViews_30 ?_
      refine lv_goto (tgt := 45) hx hb d_M_isViews_33 (by decide) ?_
      exact W.zret hx hb hr (nar_inL _ _ _) (fun t ht9 hW => ⟨_, rfl, by simp only [isV, if_pos c_15, if_neg c_16], ht9⟩) hS.2.2 d_M_isViews_45
  · refine lv_iload_n hx hb d_M_isViews_5 rfl (lv_at hl 1 rfl) ?_
    refine lv_i2l (v := v9.toInt64) hx hb d_M_isViews_6 rfl ?_
    refine lv_ldc2 hx hb hown (ht _ tw_654) d_M_isViews_7 ?_
    refine lv_ldc2 hx hb hown (ht _ tw_655) d_M_isViews_10 ?_
    refine rcS (As := [.long v9.toInt64, .long (-1023), .long 1023]) (rest := []) (c_M_in l dC dI tb v9.toInt64 (-1023) 1023 ) F tw_598 tw_34 tw_597 tw_596 hP [] rfl hK [] rfl hE hS hd_M_in rfl rfl ⟨Nat.le_of_ble_eq_true rfl, Nat.le_of_ble_eq_true rfl⟩ ⟨Nat.le_of_ble_eq_true rfl, Nat.le_of_ble_eq_true rfl⟩ hl.1 rfl (Nat.le_of_ble_eq_true rfl) d_M_isViews_13 ?_
    refine lv_goto (tgt := 45) hx hb d_M_isViews_16 (by decide) ?_
    exact W.zret hx hb hr (nar_inL _ _ _) (fun t ht9 hW => ⟨_, rfl, by simp only [isV, if_neg c_15], ht9⟩) hS.2.2 d_M_isViews_45
def isS (k9 v9 : Int32) : Int32 := (if k9 = 0 then (inL v9.toInt64 0 1) else (if k9 = 1 then (inL v9.toInt64 (-1) 7) else (if 5 ≤ k9 then (inL v9.toInt64 0 7) else (inL v9.toInt64 0 255))))
theorem nar_isS (k9 v9 : Int32) : narrow .boolean (.int (isS k9 v9)) = .int (isS k9 v9) := by
  unfold isS
  repeat' split
  all_goals first | rfl | exact nar_inL _ _ _
set_option maxHeartbeats 4000000 in
set_option maxRecDepth 100000 in
theorem c_M_isStencils (l : Launch) (dC : Nat → ClassId) (dI : Nat → Nat → Nat) (tb : tbT) (k9 v9 : Int32) : RM l y_M_isStencils (Cond.code y_M_isStencils b_M_isStencils 2 (some .boolean) :: TB) ({ frames := 1, cells := 0, slots := 0, locals := 25 }) tb (dC, dI) [.int k9, .int v9] [] [] (isS k9 v9) := by
  refine Met.ofW (cc := b_M_isStencils) (maxL := 2) (ret := (some .boolean)) (by decide) rfl ?_
  intro p e s m args below meth c s₁ B hml hv
  obtain ⟨rfl, hP, hK, hE⟩ := hv
  have hx := B.exec
  have hb := B.bytes
  have hr := B.returns
  have ht := fun w (h : w ∈ TB) => atoms_spec (ws := Cond.code y_M_isStencils b_M_isStencils 2 (some .boolean) :: TB) B.pre w (List.mem_cons_of_mem _ h)
  have hown : s.vm.findClass R_M = some m.cls := findClass_of_methodNamed B.named
  have hlocks := B.notSynchronized
  have hS : va_S (fun _ => False) s.heap s.heap [] := va_S.rf
  have F : CallFix p m c b_M_isStencils 2 s _ TB R_M := ⟨hx, hb, hml, hown, ht⟩
  have hl := lv_entry ([.int k9, .int v9]) (n := 2) (Nat.le_of_ble_eq_true rfl)
  rw [lg_entry_eq]
  generalize (lg_sl ([.int k9, .int v9]) ++ List.replicate (2 - (lg_sl ([.int k9, .int v9])).length) Slot.unset).toArray = ls at hl ⊢
  have hl : lv_has ls 2 [(0, .int k9), (1, .int v9)] := hl
  refine lv_iload_n hx hb d_M_isStencils_0 rfl (lv_at hl 0 rfl) ?_
  refine lv_if_ne (tgt := 14) hx hb d_M_isStencils_1 (by decide) (fun c_17 => ?_) (fun c_17 => ?_)
  · refine lv_iload_n hx hb d_M_isStencils_14 rfl (lv_at hl 0 rfl) ?_
    refine lv_iconst (v := 1) hx hb d_M_isStencils_15 (by decide) ?_
    refine lv_icmp_ne (tgt := 33) hx hb d_M_isStencils_16 (by decide) (fun c_18 => ?_) (fun c_18 => ?_)
    · refine lv_iload_n hx hb d_M_isStencils_33 rfl (lv_at hl 0 rfl) ?_
      refine lv_iconst (v := 5) hx hb d_M_isStencils_34 (by decide) ?_
      refine lv_icmp_ge (tgt := 50) hx hb d_M_isStencils_35 (by decide) (fun c_19 => ?_) (fun c_19 => ?_)
      · refine lv_iload_n hx hb d_M_isStencils_50 rfl (lv_at hl 1 rfl) ?_
        refine lv_i2l (v := v9.toInt64) hx hb d_M_isStencils_51 rfl ?_
        refine lv_lconst (v := 0) hx hb d_M_isStencils_52 (by decide) ?_
        refine lv_ldc2 hx hb hown (ht _ tw_648) d_M_isStencils_53 ?_
        refine rcS (As := [.long v9.toInt64, .long 0, .long 7]) (rest := []) (c_M_in l dC dI tb v9.toInt64 0 7 ) F tw_598 tw_34 tw_597 tw_596 hP [] rfl hK [] rfl hE hS hd_M_in rfl rfl ⟨Nat.le_of_ble_eq_true rfl, Nat.le_of_ble_eq_true rfl⟩ ⟨Nat.le_of_ble_eq_true rfl, Nat.le_of_ble_eq_true rfl⟩ hl.1 rfl (Nat.le_of_ble_eq_true rfl) d_M_isStencils_56 ?_
        exact W.zret hx hb hr (nar_inL _ _ _) (fun t ht9 hW => ⟨_, rfl, by simp only [isS, if_neg c_17, if_neg c_18, if_pos c_19], ht9⟩) hS.2.2 d_M_isStencils_59
      · refine lv_iload_n hx hb d_M_isStencils_38 rfl (lv_at hl 1 rfl) ?_
        refine lv_i2l (v := v9.toInt64) hx hb d_M_isStencils_39 rfl ?_
        refine lv_lconst (v := 0) hx hb d_M_isStencils_40 (by decide) ?_
        refine lv_ldc2 hx hb hown (ht _ tw_650) d_M_isStencils_41 ?_
        refine rcS (As := [.long v9.toInt64, .long 0, .long 255]) (rest := []) (c_M_in l dC dI tb v9.toInt64 0 255 ) F tw_598 tw_34 tw_597 tw_596 hP [] rfl hK [] rfl hE hS hd_M_in rfl rfl ⟨Nat.le_of_ble_eq_true rfl, Nat.le_of_ble_eq_true rfl⟩ ⟨Nat.le_of_ble_eq_true rfl, Nat.le_of_ble_eq_true rfl⟩ hl.1 rfl (Nat.le_of_ble_eq_true rfl) d_M_isStencils_44 ?_
        refine lv_goto (tgt := 59) hx hb d_M_isStencils_47 (by decide) ?_
        exact W.zret hx hb hr (nar_inL _ _ _) (fun t ht9 hW => ⟨_, rfl, by simp only [isS, if_neg c_17, if_neg c_18, if_neg c_19], ht9⟩) hS.2.2 d_M_isStencils_59
    · refine lv_iload_n hx hb d_M_isStencils_19 rfl (lv_at hl 1 rfl) ?_
      refine lv_i2l (v := v9.toInt64) hx hb d_M_isStencils_20 rfl ?_
      refine lv_ldc2 hx hb hown (ht _ tw_668) d_M_isStencils_21 ?_
      refine lv_ldc2 hx hb hown (ht _ tw_648) d_M_isStencils_24 ?_
      refine rcS (As := [.long v9.toInt64, .long (-1), .long 7]) (rest := []) (c_M_in l dC dI tb v9.toInt64 (-1) 7 ) F tw_598 tw_34 tw_597 tw_596 hP [] rfl hK [] rfl hE hS hd_M_in rfl rfl ⟨Nat.le_of_ble_eq_true rfl, Nat.le_of_ble_eq_true rfl⟩ ⟨Nat.le_of_ble_eq_true rfl, Nat.le_of_ble_eq_true rfl⟩ hl.1 rfl (Nat.le_of_ble_eq_true rfl) d_M_isStencils_27 ?_
      refine lv_goto (tgt := 59) hx hb d_M_isStencils_30 (by decide) ?_
      exact W.zret hx hb hr (nar_inL _ _ _) (fun t ht9 hW => ⟨_, rfl, by simp only [isS, if_neg c_17, if_pos c_18], ht9⟩) hS.2.2 d_M_isStencils_59
  · refine lv_iload_n hx hb d_M_isStencils_4 rfl (lv_at hl 1 rfl) ?_
    refine lv_i2l (v := v9.toInt64) hx hb d_M_isStencils_5 rfl ?_
    refine lv_lconst (v := 0) hx hb d_M_isStencils_6 (by decide) ?_
    refine lv_lconst (v := 1) hx hb d_M_isStencils_7 (by decide) ?_
    refine rcS (As := [.long v9.toInt64, .long 0, .long 1]) (rest := []) (c_M_in l dC dI tb v9.toInt64 0 1 ) F tw_598 tw_34 tw_597 tw_596 hP [] rfl hK [] rfl hE hS hd_M_in rfl rfl ⟨Nat.le_of_ble_eq_true rfl, Nat.le_of_ble_eq_true rfl⟩ ⟨Nat.le_of_ble_eq_true rfl, Nat.le_of_ble_eq_true rfl⟩ hl.1 rfl (Nat.le_of_ble_eq_true rfl) d_M_isStencils_8 ?_
    refine lv_goto (tgt := 59) hx hb d_M_isStencils_11 (by decide) ?_
    exact W.zret hx hb hr (nar_inL _ _ _) (fun t ht9 hW => ⟨_, rfl, by simp only [isS, if_pos c_17], ht9⟩) hS.2.2 d_M_isStencils_59
def isT (k9 v9 : Int32) : Int32 := (if k9 = 0 then (inL v9.toInt64 0 3) else (if k9 = 1 then (inL v9.toInt64 0 1048576) else (if 4 ≤ k9 then (if k9 = 4 then (inL v9.toInt64 1 11) else (inL v9.toInt64 0 7)) else (inL v9.toInt64 0 10))))
theorem nar_isT (k9 v9 : Int32) : narrow .boolean (.int (isT k9 v9)) = .int (isT k9 v9) := by
  unfold isT
  repeat' split
  all_goals first | rfl | exact nar_inL _ _ _
set_option maxHeartbeats 4000000 in
set_option maxRecDepth 100000 in
theorem c_M_isTextures (l : Launch) (dC : Nat → ClassId) (dI : Nat → Nat → Nat) (tb : tbT) (k9 v9 : Int32) : RM l y_M_isTextures (Cond.code y_M_isTextures b_M_isTextures 2 (some .boolean) :: TB) ({ frames := 1, cells := 0, slots := 0, locals := 25 }) tb (dC, dI) [.int k9, .int v9] [] [] (isT k9 v9) := by
  refine Met.ofW (cc := b_M_isTextures) (maxL := 2) (ret := (some .boolean)) (by decide) rfl ?_
  intro p e s m args below meth c s₁ B hml hv
  obtain ⟨rfl, hP, hK, hE⟩ := hv
  have hx := B.exec
  have hb := B.bytes
  have hr := B.returns
  have ht := fun w (h : w ∈ TB) => atoms_spec (ws := Cond.code y_M_isTextures b_M_isTextures 2 (some .boolean) :: TB) B.pre w (List.mem_cons_of_mem _ h)
  have hown : s.vm.findClass R_M = some m.cls := findClass_of_methodNamed B.named
  have hlocks := B.notSynchronized
  have hS : va_S (fun _ => False) s.heap s.heap [] := va_S.rf
  have F : CallFix p m c b_M_isTextures 2 s _ TB R_M := ⟨hx, hb, hml, hown, ht⟩
  have hl := lv_entry ([.int k9, .int v9]) (n := 2) (Nat.le_of_ble_eq_true rfl)
  rw [lg_entry_eq]
  generalize (lg_sl ([.int k9, .int v9]) ++ List.replicate (2 - (lg_sl ([.int k9, .int v9])).length) Slot.unset).toArray = ls at hl ⊢
  have hl : lv_has ls 2 [(0, .int k9), (1, .int v9)] := hl
  refine lv_iload_n hx hb d_M_isTextures_0 rfl (lv_at hl 0 rfl) ?_
  refine lv_if_ne (tgt := 16) hx hb d_M_isTextures_1 (by decide) (fun c_20 => ?_) (fun c_20 => ?_)
  · refine lv_iload_n hx hb d_M_isTextures_16 rfl (lv_at hl 0 rfl) ?_
    refine lv_iconst (v := 1) hx hb d_M_isTextures_17 (by decide) ?_
    refine lv_icmp_ne (tgt := 33) hx hb d_M_isTextures_18 (by decide) (fun c_21 => ?_) (fun c_21 => ?_)
    · refine lv_iload_n hx hb d_M_isTextures_33 rfl (lv_at hl 0 rfl) ?_
      refine lv_iconst (v := 4) hx hb d_M_isTextures_34 (by decide) ?_
      refine lv_icmp_ge (tgt := 50) hx hb d_M_isTextures_35 (by decide) (fun c_22 => ?_) (fun c_22 => ?_)
      · refine lv_iload_n hx hb d_M_isTextures_50 rfl (lv_at hl 0 rfl) ?_
        refine lv_iconst (v := 4) hx hb d_M_isTextures_51 (by decide) ?_
        refine lv_icmp_ne (tgt := 67) hx hb d_M_isTextures_52 (by decide) (fun c_23 => ?_) (fun c_23 => ?_)
        · refine lv_iload_n hx hb d_M_isTextures_67 rfl (lv_at hl 1 rfl) ?_
          refine lv_i2l (v := v9.toInt64) hx hb d_M_isTextures_68 rfl ?_
          refine lv_lconst (v := 0) hx hb d_M_isTextures_69 (by decide) ?_
          refine lv_ldc2 hx hb hown (ht _ tw_648) d_M_isTextures_70 ?_
          refine rcS (As := [.long v9.toInt64, .long 0, .long 7]) (rest := []) (c_M_in l dC dI tb v9.toInt64 0 7 ) F tw_598 tw_34 tw_597 tw_596 hP [] rfl hK [] rfl hE hS hd_M_in rfl rfl ⟨Nat.le_of_ble_eq_true rfl, Nat.le_of_ble_eq_true rfl⟩ ⟨Nat.le_of_ble_eq_true rfl, Nat.le_of_ble_eq_true rfl⟩ hl.1 rfl (Nat.le_of_ble_eq_true rfl) d_M_isTextures_73 ?_
          exact W.zret hx hb hr (nar_inL _ _ _) (fun t ht9 hW => ⟨_, rfl, by simp only [isT, if_neg c_20, if_neg c_21, if_pos c_22, if_neg c_23], ht9⟩) hS.2.2 d_M_isTextures_76
        · refine lv_iload_n hx hb d_M_isTextures_55 rfl (lv_at hl 1 rfl) ?_
          refine lv_i2l (v := v9.toInt64) hx hb d_M_isTextures_56 rfl ?_
          refine lv_lconst (v := 1) hx hb d_M_isTextures_57 (by decide) ?_
          refine lv_ldc2 hx hb hown (ht _ tw_667) d_M_isTextures_58 ?_
          refine rcS (As := [.long v9.toInt64, .long 1, .long 11]) (rest := []) (c_M_in l dC dI tb v9.toInt64 1 11 ) F tw_598 tw_34 tw_597 tw_596 hP [] rfl hK [] rfl hE hS hd_M_in rfl rfl ⟨Nat.le_of_ble_eq_true rfl, Nat.le_of_ble_eq_true rfl⟩ ⟨Nat.le_of_ble_eq_true rfl, Nat.le_of_ble_eq_true rfl⟩ hl.1 rfl (Nat.le_of_ble_eq_true rfl) d_M_isTextures_61 ?_
          refine lv_goto (tgt := 76) hx hb d_M_isTextures_64 (by decide) ?_
          exact W.zret hx hb hr (nar_inL _ _ _) (fun t ht9 hW => ⟨_, rfl, by simp only [isT, if_neg c_20, if_neg c_21, if_pos c_22, if_pos c_23], ht9⟩) hS.2.2 d_M_isTextures_76
      · refine lv_iload_n hx hb d_M_isTextures_38 rfl (lv_at hl 1 rfl) ?_
        refine lv_i2l (v := v9.toInt64) hx hb d_M_isTextures_39 rfl ?_
        refine lv_lconst (v := 0) hx hb d_M_isTextures_40 (by decide) ?_
        refine lv_ldc2 hx hb hown (ht _ tw_666) d_M_isTextures_41 ?_
        refine rcS (As := [.long v9.toInt64, .long 0, .long 10]) (rest := []) (c_M_in l dC dI tb v9.toInt64 0 10 ) F tw_598 tw_34 tw_597 tw_596 hP [] rfl hK [] rfl hE hS hd_M_in rfl rfl ⟨Nat.le_of_ble_eq_true rfl, Nat.le_of_ble_eq_true rfl⟩ ⟨Nat.le_of_ble_eq_true rfl, Nat.le_of_ble_eq_true rfl⟩ hl.1 rfl (Nat.le_of_ble_eq_true rfl) d_M_isTextures_44 ?_
        refine lv_goto (tgt := 76) hx hb d_M_isTextures_47 (by decide) ?_
        exact W.zret hx hb hr (nar_inL _ _ _) (fun t ht9 hW => ⟨_, rfl, by simp only [isT, if_neg c_20, if_neg c_21, if_neg c_22], ht9⟩) hS.2.2 d_M_isTextures_76
    · refine lv_iload_n hx hb d_M_isTextures_21 rfl (lv_at hl 1 rfl) ?_
      refine lv_i2l (v := v9.toInt64) hx hb d_M_isTextures_22 rfl ?_
      refine lv_lconst (v := 0) hx hb d_M_isTextures_23 (by decide) ?_
      refine lv_ldc2 hx hb hown (ht _ tw_657) d_M_isTextures_24 ?_
      refine rcS (As := [.long v9.toInt64, .long 0, .long 1048576]) (rest := []) (c_M_in l dC dI tb v9.toInt64 0 1048576 ) F tw_598 tw_34 tw_597 tw_596 hP [] rfl hK [] rfl hE hS hd_M_in rfl rfl ⟨Nat.le_of_ble_eq_true rfl, Nat.le_of_ble_eq_true rfl⟩ ⟨Nat.le_of_ble_eq_true rfl, Nat.le_of_ble_eq_true rfl⟩ hl.1 rfl (Nat.le_of_ble_eq_true rfl) d_M_isTextures_27 ?_
      refine lv_goto (tgt := 76) hx hb d_M_isTextures_30 (by decide) ?_
      exact W.zret hx hb hr (nar_inL _ _ _) (fun t ht9 hW => ⟨_, rfl, by simp only [isT, if_neg c_20, if_pos c_21], ht9⟩) hS.2.2 d_M_isTextures_76
  · refine lv_iload_n hx hb d_M_isTextures_4 rfl (lv_at hl 1 rfl) ?_
    refine lv_i2l (v := v9.toInt64) hx hb d_M_isTextures_5 rfl ?_
    refine lv_lconst (v := 0) hx hb d_M_isTextures_6 (by decide) ?_
    refine lv_ldc2 hx hb hown (ht _ tw_659) d_M_isTextures_7 ?_
    refine rcS (As := [.long v9.toInt64, .long 0, .long 3]) (rest := []) (c_M_in l dC dI tb v9.toInt64 0 3 ) F tw_598 tw_34 tw_597 tw_596 hP [] rfl hK [] rfl hE hS hd_M_in rfl rfl ⟨Nat.le_of_ble_eq_true rfl, Nat.le_of_ble_eq_true rfl⟩ ⟨Nat.le_of_ble_eq_true rfl, Nat.le_of_ble_eq_true rfl⟩ hl.1 rfl (Nat.le_of_ble_eq_true rfl) d_M_isTextures_10 ?_
    refine lv_goto (tgt := 76) hx hb d_M_isTextures_13 (by decide) ?_
    exact W.zret hx hb hr (nar_inL _ _ _) (fun t ht9 hW => ⟨_, rfl, by simp only [isT, if_pos c_20], ht9⟩) hS.2.2 d_M_isTextures_76
def isC (k9 v9 : Int32) : Int32 := (if 2 ≤ k9 then (if 4 ≤ k9 then (if k9 = 4 then (inL v9.toInt64 0 1048576) else (inL v9.toInt64 0 2)) else (inL v9.toInt64 1 128)) else (inL v9.toInt64 0 127))
theorem nar_isC (k9 v9 : Int32) : narrow .boolean (.int (isC k9 v9)) = .int (isC k9 v9) := by
  unfold isC
  repeat' split
  all_goals first | rfl | exact nar_inL _ _ _
set_option maxHeartbeats 4000000 in
set_option maxRecDepth 100000 in
theorem c_M_isCopys (l : Launch) (dC : Nat → ClassId) (dI : Nat → Nat → Nat) (tb : tbT) (k9 v9 : Int32) : RM l y_M_isCopys (Cond.code y_M_isCopys b_M_isCopys 2 (some .boolean) :: TB) ({ frames := 1, cells := 0, slots := 0, locals := 25 }) tb (dC, dI) [.int k9, .int v9] [] [] (isC k9 v9) := by
  refine Met.ofW (cc := b_M_isCopys) (maxL := 2) (ret := (some .boolean)) (by decide) rfl ?_
  intro p e s m args below meth c s₁ B hml hv
  obtain ⟨rfl, hP, hK, hE⟩ := hv
  have hx := B.exec
  have hb := B.bytes
  have hr := B.returns
  have ht := fun w (h : w ∈ TB) => atoms_spec (ws := Cond.code y_M_isCopys b_M_isCopys 2 (some .boolean) :: TB) B.pre w (List.mem_cons_of_mem _ h)
  have hown : s.vm.findClass R_M = some m.cls := findClass_of_methodNamed B.named
  have hlocks := B.notSynchronized
  have hS : va_S (fun _ => False) s.heap s.heap [] := va_S.rf
  have F : CallFix p m c b_M_isCopys 2 s _ TB R_M := ⟨hx, hb, hml, hown, ht⟩
  have hl := lv_entry ([.int k9, .int v9]) (n := 2) (Nat.le_of_ble_eq_true rfl)
  rw [lg_entry_eq]
  generalize (lg_sl ([.int k9, .int v9]) ++ List.replicate (2 - (lg_sl ([.int k9, .int v9])).length) Slot.unset).toArray = ls at hl ⊢
  have hl : lv_has ls 2 [(0, .int k9), (1, .int v9)] := hl
  refine lv_iload_n hx hb d_M_isCopys_0 rfl (lv_at hl 0 rfl) ?_
  refine lv_iconst (v := 2) hx hb d_M_isCopys_1 (by decide) ?_
  refine lv_icmp_ge (tgt := 17) hx hb d_M_isCopys_2 (by decide) (fun c_24 => ?_) (fun c_24 => ?_)
  · refine lv_iload_n hx hb d_M_isCopys_17 rfl (lv_at hl 0 rfl) ?_
    refine lv_iconst (v := 4) hx hb d_M_isCopys_18 (by decide) ?_
    refine lv_icmp_ge (tgt := 34) hx hb d_M_isCopys_19 (by decide) (fun c_25 => ?_) (fun c_25 => ?_)
    · refine lv_iload_n hx hb d_M_isCopys_34 rfl (lv_at hl 0 rfl) ?_
      refine lv_iconst (v := 4) hx hb d_M_isCopys_35 (by decide) ?_
      refine lv_icmp_ne (tgt := 51) hx hb d_M_isCopys_36 (by decide) (fun c_26 => ?_) (fun c_26 => ?_)
      · refine lv_iload_n hx hb d_M_isCopys_51 rfl (lv_at hl 1 rfl) ?_
        refine lv_i2l (v := v9.toInt64) hx hb d_M_isCopys_52 rfl ?_
        refine lv_lconst (v := 0) hx hb d_M_isCopys_53 (by decide) ?_
        refine lv_ldc2 hx hb hown (ht _ tw_674) d_M_isCopys_54 ?_
        refine rcS (As := [.long v9.toInt64, .long 0, .long 2]) (rest := []) (c_M_in l dC dI tb v9.toInt64 0 2 ) F tw_598 tw_34 tw_597 tw_596 hP [] rfl hK [] rfl hE hS hd_M_in rfl rfl ⟨Nat.le_of_ble_eq_true rfl, Nat.le_of_ble_eq_true rfl⟩ ⟨Nat.le_of_ble_eq_true rfl, Nat.le_of_ble_eq_true rfl⟩ hl.1 rfl (Nat.le_of_ble_eq_true rfl) d_M_isCopys_57 ?_
        exact W.zret hx hb hr (nar_inL _ _ _) (fun t ht9 hW => ⟨_, rfl, by simp only [isC, if_pos c_24, if_pos c_25, if_neg c_26], ht9⟩) hS.2.2 d_M_isCopys_60
      · refine lv_iload_n hx hb d_M_isCopys_39 rfl (lv_at hl 1 rfl) ?_
        refine lv_i2l (v := v9.toInt64) hx hb d_M_isCopys_40 rfl ?_
        refine lv_lconst (v := 0) hx hb d_M_isCopys_41 (by decide) ?_
        refine lv_ldc2 hx hb hown (ht _ tw_657) d_M_isCopys_42 ?_
        refine rcS (As := [.long v9.toInt64, .long 0, .long 1048576]) (rest := []) (c_M_in l dC dI tb v9.toInt64 0 1048576 ) F tw_598 tw_34 tw_597 tw_596 hP [] rfl hK [] rfl hE hS hd_M_in rfl rfl ⟨Nat.le_of_ble_eq_true rfl, Nat.le_of_ble_eq_true rfl⟩ ⟨Nat.le_of_ble_eq_true rfl, Nat.le_of_ble_eq_true rfl⟩ hl.1 rfl (Nat.le_of_ble_eq_true rfl) d_M_isCopys_45 ?_
        refine lv_goto (tgt := 60) hx hb d_M_isCopys_48 (by decide) ?_
        exact W.zret hx hb hr (nar_inL _ _ _) (fun t ht9 hW => ⟨_, rfl, by simp only [isC, if_pos c_24, if_pos c_25, if_pos c_26], ht9⟩) hS.2.2 d_M_isCopys_60
    · refine lv_iload_n hx hb d_M_isCopys_22 rfl (lv_at hl 1 rfl) ?_
      refine lv_i2l (v := v9.toInt64) hx hb d_M_isCopys_23 rfl ?_
      refine lv_lconst (v := 1) hx hb d_M_isCopys_24 (by decide) ?_
      refine lv_ldc2 hx hb hown (ht _ tw_607) d_M_isCopys_25 ?_
      refine rcS (As := [.long v9.toInt64, .long 1, .long 128]) (rest := []) (c_M_in l dC dI tb v9.toInt64 1 128 ) F tw_598 tw_34 tw_597 tw_596 hP [] rfl hK [] rfl hE hS hd_M_in rfl rfl ⟨Nat.le_of_ble_eq_true rfl, Nat.le_of_ble_eq_true rfl⟩ ⟨Nat.le_of_ble_eq_true rfl, Nat.le_of_ble_eq_true rfl⟩ hl.1 rfl (Nat.le_of_ble_eq_true rfl) d_M_isCopys_28 ?_
      refine lv_goto (tgt := 60) hx hb d_M_isCopys_31 (by decide) ?_
      exact W.zret hx hb hr (nar_inL _ _ _) (fun t ht9 hW => ⟨_, rfl, by simp only [isC, if_pos c_24, if_neg c_25], ht9⟩) hS.2.2 d_M_isCopys_60
  · refine lv_iload_n hx hb d_M_isCopys_5 rfl (lv_at hl 1 rfl) ?_
    refine lv_i2l (v := v9.toInt64) hx hb d_M_isCopys_6 rfl ?_
    refine lv_lconst (v := 0) hx hb d_M_isCopys_7 (by decide) ?_
    refine lv_ldc2 hx hb hown (ht _ tw_679) d_M_isCopys_8 ?_
    refine rcS (As := [.long v9.toInt64, .long 0, .long 127]) (rest := []) (c_M_in l dC dI tb v9.toInt64 0 127 ) F tw_598 tw_34 tw_597 tw_596 hP [] rfl hK [] rfl hE hS hd_M_in rfl rfl ⟨Nat.le_of_ble_eq_true rfl, Nat.le_of_ble_eq_true rfl⟩ ⟨Nat.le_of_ble_eq_true rfl, Nat.le_of_ble_eq_true rfl⟩ hl.1 rfl (Nat.le_of_ble_eq_true rfl) d_M_isCopys_11 ?_
    refine lv_goto (tgt := 60) hx hb d_M_isCopys_14 (by decide) ?_
    exact W.zret hx hb hr (nar_inL _ _ _) (fun t ht9 hW => ⟨_, rfl, by simp only [isC, if_neg c_24], ht9⟩) hS.2.2 d_M_isCopys_60
def mayM (d9 k9 v9 : Int32) : Int32 := (if d9 = 1 then (if k9 = 0 then (inL v9.toInt64 0 7) else (if k9 = 1 then 1 else (if k9 = 2 then (if (inL v9.toInt64 0 16777215) = 0 then 0 else 1) else (if (inL v9.toInt64 0 255) = 0 then 0 else 1)))) else (if d9 = 2 then (isV k9 v9) else (if d9 = 3 ∨ d9 = 13 then 1 else (if d9 = 4 then (if k9 = 0 then (inL v9.toInt64 0 7) else (if k9 = 1 then (inL v9.toInt64 0 1048576) else (if k9 = 2 then (inL v9.toInt64 0 1024) else (if k9 = 3 then (inL v9.toInt64 0 4) else (inL v9.toInt64 0 3))))) else (if d9 = 5 then (if 0 < k9 then 1 else (if (inL v9.toInt64 0 31) = 0 then 0 else 1)) else (if d9 = 6 then (if k9 = 0 then (inL v9.toInt64 0 31) else (if k9 = 1 then (inL v9.toInt64 0 32) else (inL v9.toInt64 0 1048576))) else (if d9 = 7 ∨ d9 = 8 then (if k9 = 0 then (inL v9.toInt64 0 1048576) else (inL v9.toInt64 1 256)) else (if d9 = 9 then (isT k9 v9) else (if d9 = 10 then (if k9 = 0 then (inL v9.toInt64 (-1) 7) else (inL v9.toInt64 0 1)) else (if d9 = 11 then (isS k9 v9) else (if d9 = 12 then (if 4 ≤ k9 then (if k9 = 4 then (inL v9.toInt64 (-1) 4) else (inL v9.toInt64 0 4)) else (inL v9.toInt64 0 14)) else (if d9 = 14 then (inL v9.toInt64 (-1) 15) else (if d9 = 15 then (inL v9.toInt64 0 15) else (if d9 = 16 then (if k9 = 0 then (inL v9.toInt64 0 3) else (inL v9.toInt64 0 1)) else (if d9 = 17 then (if k9 = 0 then (inL v9.toInt64 0 2) else (if k9 = 1 then (inL v9.toInt64 0 1048576) else (inL v9.toInt64 0 4096))) else (if d9 = 18 then (if k9 = 4 then 1 else (if k9 = 0 then (if (inL v9.toInt64 0 2) = 0 then 0 else 1) else (if k9 = 3 then (if (inL v9.toInt64 0 2) = 0 then 0 else 1) else (if k9 = 1 then (if (inL v9.toInt64 0 1048576) = 0 then 0 else 1) else (if (inL v9.toInt64 0 4096) = 0 then 0 else 1))))) else (if d9 = 19 then (if k9 = 0 then (inL v9.toInt64 0 7) else (inL v9.toInt64 0 1)) else (if d9 = 20 then (isC k9 v9) else (if d9 = 21 then (if 1 < k9 then 1 else (if k9 = 0 then (if (inL v9.toInt64 0 1048576) = 0 then 0 else 1) else (if (inL v9.toInt64 0 256) = 0 then 0 else 1))) else (if d9 = 23 then (inL v9.toInt64 0 1048576) else (if d9 = 24 then (inL v9.toInt64 0 3) else (if 0 < k9 then 1 else (if (inL v9.toInt64 0 3) = 0 then 0 else 1)))))))))))))))))))))))
set_option maxHeartbeats 4000000 in
set_option maxRecDepth 100000 in
theorem c_M_may (l : Launch) (dC : Nat → ClassId) (dI : Nat → Nat → Nat) (tb : tbT) (d9 k9 v9 : Int32) : RM l y_M_may (Cond.code y_M_may b_M_may 3 (some .boolean) :: TB) ({ frames := 2, cells := 0, slots := 0, locals := 46 }) tb (dC, dI) [.int d9, .int k9, .int v9] [] [] (mayM d9 k9 v9) := by
  refine Met.ofW (cc := b_M_may) (maxL := 3) (ret := (some .boolean)) (by decide) rfl ?_
  intro p e s m args below meth c s₁ B hml hv
  obtain ⟨rfl, hP, hK, hE⟩ := hv
  have hx := B.exec
  have hb := B.bytes
  have hr := B.returns
  have ht := fun w (h : w ∈ TB) => atoms_spec (ws := Cond.code y_M_may b_M_may 3 (some .boolean) :: TB) B.pre w (List.mem_cons_of_mem _ h)
  have hown : s.vm.findClass R_M = some m.cls := findClass_of_methodNamed B.named
  have hlocks := B.notSynchronized
  have hS : va_S (fun _ => False) s.heap s.heap [] := va_S.rf
  have F : CallFix p m c b_M_may 3 s _ TB R_M := ⟨hx, hb, hml, hown, ht⟩
  have hl := lv_entry ([.int d9, .int k9, .int v9]) (n := 3) (Nat.le_of_ble_eq_true rfl)
  rw [lg_entry_eq]
  generalize (lg_sl ([.int d9, .int k9, .int v9]) ++ List.replicate (3 - (lg_sl ([.int d9, .int k9, .int v9])).length) Slot.unset).toArray = ls at hl ⊢
  have hl : lv_has ls 3 [(0, .int d9), (1, .int k9), (2, .int v9)] := hl
  refine lv_iload_n hx hb d_M_may_0 rfl (lv_at hl 0 rfl) ?_
  by_cases sv_27 : d9 = 1
  · refine lv_tab (off := 111) (tgt := 112) hx hb d_M_may_1 (by decide) (by rw [sv_27]; decide +kernel) (by decide) ?_
    refine lv_iload_n hx hb d_M_may_112 rfl (lv_at hl 1 rfl) ?_
    refine lv_if_ne (tgt := 128) hx hb d_M_may_113 (by decide) (fun c_28 => ?_) (fun c_28 => ?_)
    · refine lv_iload_n hx hb d_M_may_128 rfl (lv_at hl 1 rfl) ?_
      refine lv_iconst (v := 1) hx hb d_M_may_129 (by decide) ?_
      refine lv_icmp_eq (tgt := 156) hx hb d_M_may_130 (by decide) (fun c_29 => ?_) (fun c_29 => ?_)
      · refine lv_iconst (v := 1) hx hb d_M_may_156 (by decide) ?_
        refine lv_goto (tgt := 161) hx hb d_M_may_157 (by decide) ?_
        exact W.zret hx hb hr (rfl) (fun t ht9 hW => ⟨_, rfl, by simp only [mayM, if_pos sv_27, if_neg c_28, if_pos c_29], ht9⟩) hS.2.2 d_M_may_161
      · refine lv_iload_n hx hb d_M_may_133 rfl (lv_at hl 2 rfl) ?_
        refine lv_i2l (v := v9.toInt64) hx hb d_M_may_134 rfl ?_
        refine lv_lconst (v := 0) hx hb d_M_may_135 (by decide) ?_
        refine lv_iload_n hx hb d_M_may_136 rfl (lv_at hl 1 rfl) ?_
        refine lv_iconst (v := 2) hx hb d_M_may_137 (by decide) ?_
        refine lv_icmp_ne (tgt := 147) hx hb d_M_may_138 (by decide) (fun c_30 => ?_) (fun c_30 => ?_)
        · refine lv_ldc2 hx hb hown (ht _ tw_650) d_M_may_147 ?_
          refine rcS (As := [.long v9.toInt64, .long 0, .long 255]) (rest := []) (c_M_in l dC dI tb v9.toInt64 0 255 ) F tw_598 tw_34 tw_597 tw_596 hP [] rfl hK [] rfl hE hS hd_M_in rfl rfl ⟨Nat.le_of_ble_eq_true rfl, Nat.le_of_ble_eq_true rfl⟩ ⟨Nat.le_of_ble_eq_true rfl, Nat.le_of_ble_eq_true rfl⟩ hl.1 rfl (Nat.le_of_ble_eq_true rfl) d_M_may_150 ?_
          refine lv_if_eq (tgt := 160) hx hb d_M_may_153 (by decide) (fun c_31 => ?_) (fun c_31 => ?_)
          · refine lv_iconst (v := 0) hx hb d_M_may_160 (by decide) ?_
            exact W.zret hx hb hr (rfl) (fun t ht9 hW => ⟨_, rfl, by simp only [mayM, if_pos sv_27, if_neg c_28, if_neg c_29, if_neg c_30, if_pos c_31], ht9⟩) hS.2.2 d_M_may_161
          · refine lv_iconst (v := 1) hx hb d_M_may_156 (by decide) ?_
            refine lv_goto (tgt := 161) hx hb d_M_may_157 (by decide) ?_
            exact W.zret hx hb hr (rfl) (fun t ht9 hW => ⟨_, rfl, by simp only [mayM, if_pos sv_27, if_neg c_28, if_neg c_29, if_neg c_30, if_neg c_31], ht9⟩) hS.2.2 d_M_may_161
        · refine lv_ldc2 hx hb hown (ht _ tw_649) d_M_may_141 ?_
          refine lv_goto (tgt := 150) hx hb d_M_may_144 (by decide) ?_
          refine rcS (As := [.long v9.toInt64, .long 0, .long 16777215]) (rest := []) (c_M_in l dC dI tb v9.toInt64 0 16777215 ) F tw_598 tw_34 tw_597 tw_596 hP [] rfl hK [] rfl hE hS hd_M_in rfl rfl ⟨Nat.le_of_ble_eq_true rfl, Nat.le_of_ble_eq_true rfl⟩ ⟨Nat.le_of_ble_eq_true rfl, Nat.le_of_ble_eq_true rfl⟩ hl.1 rfl (Nat.le_of_ble_eq_true rfl) d_M_may_150 ?_
          refine lv_if_eq (tgt := 160) hx hb d_M_may_153 (by decide) (fun c_32 => ?_) (fun c_32 => ?_)
          · refine lv_iconst (v := 0) hx hb d_M_may_160 (by decide) ?_
            exact W.zret hx hb hr (rfl) (fun t ht9 hW => ⟨_, rfl, by simp only [mayM, if_pos sv_27, if_neg c_28, if_neg c_29, if_pos c_30, if_pos c_32], ht9⟩) hS.2.2 d_M_may_161
          · refine lv_iconst (v := 1) hx hb d_M_may_156 (by decide) ?_
            refine lv_goto (tgt := 161) hx hb d_M_may_157 (by decide) ?_
            exact W.zret hx hb hr (rfl) (fun t ht9 hW => ⟨_, rfl, by simp only [mayM, if_pos sv_27, if_neg c_28, if_neg c_29, if_pos c_30, if_neg c_32], ht9⟩) hS.2.2 d_M_may_161
    · refine lv_iload_n hx hb d_M_may_116 rfl (lv_at hl 2 rfl) ?_
      refine lv_i2l (v := v9.toInt64) hx hb d_M_may_117 rfl ?_
      refine lv_lconst (v := 0) hx hb d_M_may_118 (by decide) ?_
      refine lv_ldc2 hx hb hown (ht _ tw_648) d_M_may_119 ?_
      refine rcS (As := [.long v9.toInt64, .long 0, .long 7]) (rest := []) (c_M_in l dC dI tb v9.toInt64 0 7 ) F tw_598 tw_34 tw_597 tw_596 hP [] rfl hK [] rfl hE hS hd_M_in rfl rfl ⟨Nat.le_of_ble_eq_true rfl, Nat.le_of_ble_eq_true rfl⟩ ⟨Nat.le_of_ble_eq_true rfl, Nat.le_of_ble_eq_true rfl⟩ hl.1 rfl (Nat.le_of_ble_eq_true rfl) d_M_may_122 ?_
      refine lv_goto (tgt := 161) hx hb d_M_may_125 (by decide) ?_
      exact W.zret hx hb hr (nar_inL _ _ _) (fun t ht9 hW => ⟨_, rfl, by simp only [mayM, if_pos sv_27, if_pos c_28], ht9⟩) hS.2.2 d_M_may_161
  · skip
    by_cases sv_33 : d9 = 2
    · refine lv_tab (off := 161) (tgt := 162) hx hb d_M_may_1 (by decide) (by rw [sv_33]; decide +kernel) (by decide) ?_
      refine lv_iload_n hx hb d_M_may_162 rfl (lv_at hl 1 rfl) ?_
      refine lv_iload_n hx hb d_M_may_163 rfl (lv_at hl 2 rfl) ?_
      refine rcS (As := [.int k9, .int v9]) (rest := []) (c_M_isViews l dC dI tb k9 v9 ) F tw_653 tw_34 tw_652 tw_651 hP [] rfl hK [] rfl hE hS hd_M_isViews rfl rfl ⟨Nat.le_of_ble_eq_true rfl, Nat.le_of_ble_eq_true rfl⟩ ⟨Nat.le_of_ble_eq_true rfl, Nat.le_of_ble_eq_true rfl⟩ hl.1 rfl (Nat.le_of_ble_eq_true rfl) d_M_may_164 ?_
      exact W.zret hx hb hr (nar_isV _ _) (fun t ht9 hW => ⟨_, rfl, by simp only [mayM, if_neg sv_27, if_pos sv_33], ht9⟩) hS.2.2 d_M_may_167
    · skip
      by_cases sv_34 : d9 = 3 ∨ d9 = 13
      · refine lv_tab (off := 167) (tgt := 168) hx hb d_M_may_1 (by decide) (by rcases sv_34 with h9 | h9 <;> rw [h9] <;> decide +kernel) (by decide) ?_
        refine lv_iconst (v := 1) hx hb d_M_may_168 (by decide) ?_
        exact W.zret hx hb hr (rfl) (fun t ht9 hW => ⟨_, rfl, by simp only [mayM, if_neg sv_27, if_neg sv_33, if_pos sv_34], ht9⟩) hS.2.2 d_M_may_169
      · skip
        by_cases sv_35 : d9 = 4
        · refine lv_tab (off := 169) (tgt := 170) hx hb d_M_may_1 (by decide) (by rw [sv_35]; decide +kernel) (by decide) ?_
          refine lv_iload_n hx hb d_M_may_170 rfl (lv_at hl 2 rfl) ?_
          refine lv_i2l (v := v9.toInt64) hx hb d_M_may_171 rfl ?_
          refine lv_lconst (v := 0) hx hb d_M_may_172 (by decide) ?_
          refine lv_iload_n hx hb d_M_may_173 rfl (lv_at hl 1 rfl) ?_
          refine lv_if_ne (tgt := 183) hx hb d_M_may_174 (by decide) (fun c_36 => ?_) (fun c_36 => ?_)
          · refine lv_iload_n hx hb d_M_may_183 rfl (lv_at hl 1 rfl) ?_
            refine lv_iconst (v := 1) hx hb d_M_may_184 (by decide) ?_
            refine lv_icmp_ne (tgt := 194) hx hb d_M_may_185 (by decide) (fun c_37 => ?_) (fun c_37 => ?_)
            · refine lv_iload_n hx hb d_M_may_194 rfl (lv_at hl 1 rfl) ?_
              refine lv_iconst (v := 2) hx hb d_M_may_195 (by decide) ?_
              refine lv_icmp_ne (tgt := 205) hx hb d_M_may_196 (by decide) (fun c_38 => ?_) (fun c_38 => ?_)
              · refine lv_iload_n hx hb d_M_may_205 rfl (lv_at hl 1 rfl) ?_
                refine lv_iconst (v := 3) hx hb d_M_may_206 (by decide) ?_
                refine lv_icmp_ne (tgt := 216) hx hb d_M_may_207 (by decide) (fun c_39 => ?_) (fun c_39 => ?_)
                · refine lv_ldc2 hx hb hown (ht _ tw_659) d_M_may_216 ?_
                  refine rcS (As := [.long v9.toInt64, .long 0, .long 3]) (rest := []) (c_M_in l dC dI tb v9.toInt64 0 3 ) F tw_598 tw_34 tw_597 tw_596 hP [] rfl hK [] rfl hE hS hd_M_in rfl rfl ⟨Nat.le_of_ble_eq_true rfl, Nat.le_of_ble_eq_true rfl⟩ ⟨Nat.le_of_ble_eq_true rfl, Nat.le_of_ble_eq_true rfl⟩ hl.1 rfl (Nat.le_of_ble_eq_true rfl) d_M_may_219 ?_
                  exact W.zret hx hb hr (nar_inL _ _ _) (fun t ht9 hW => ⟨_, rfl, by simp only [mayM, if_neg sv_27, if_neg sv_33, if_neg sv_34, if_pos sv_35, if_neg c_36, if_neg c_37, if_neg c_38, if_neg c_39], ht9⟩) hS.2.2 d_M_may_222
                · refine lv_ldc2 hx hb hown (ht _ tw_658) d_M_may_210 ?_
                  refine lv_goto (tgt := 219) hx hb d_M_may_213 (by decide) ?_
                  refine rcS (As := [.long v9.toInt64, .long 0, .long 4]) (rest := []) (c_M_in l dC dI tb v9.toInt64 0 4 ) F tw_598 tw_34 tw_597 tw_596 hP [] rfl hK [] rfl hE hS hd_M_in rfl rfl ⟨Nat.le_of_ble_eq_true rfl, Nat.le_of_ble_eq_true rfl⟩ ⟨Nat.le_of_ble_eq_true rfl, Nat.le_of_ble_eq_true rfl⟩ hl.1 rfl (Nat.le_of_ble_eq_true rfl) d_M_may_219 ?_
                  exact W.zret hx hb hr (nar_inL _ _ _) (fun t ht9 hW => ⟨_, rfl, by simp only [mayM, if_neg sv_27, if_neg sv_33, if_neg sv_34, if_pos sv_35, if_neg c_36, if_neg c_37, if_neg c_38, if_pos c_39], ht9⟩) hS.2.2 d_M_may_222
              · refine lv_ldc2 hx hb hown (ht _ tw_656) d_M_may_199 ?_
                refine lv_goto (tgt := 219) hx hb d_M_may_202 (by decide) ?_
                refine rcS (As := [.long v9.toInt64, .long 0, .long 1024]) (rest := []) (c_M_in l dC dI tb v9.toInt64 0 1024 ) F tw_598 tw_34 tw_597 tw_596 hP [] rfl hK [] rfl hE hS hd_M_in rfl rfl ⟨Nat.le_of_ble_eq_true rfl, Nat.le_of_ble_eq_true rfl⟩ ⟨Nat.le_of_ble_eq_true rfl, Nat.le_of_ble_eq_true rfl⟩ hl.1 rfl (Nat.le_of_ble_eq_true rfl) d_M_may_219 ?_
                exact W.zret hx hb hr (nar_inL _ _ _) (fun t ht9 hW => ⟨_, rfl, by simp only [mayM, if_neg sv_27, if_neg sv_33, if_neg sv_34, if_pos sv_35, if_neg c_36, if_neg c_37, if_pos c_38], ht9⟩) hS.2.2 d_M_may_222
            · refine lv_ldc2 hx hb hown (ht _ tw_657) d_M_may_188 ?_
              refine lv_goto (tgt := 219) hx hb d_M_may_191 (by decide) ?_
              refine rcS (As := [.long v9.toInt64, .long 0, .long 1048576]) (rest := []) (c_M_in l dC dI tb v9.toInt64 0 1048576 ) F tw_598 tw_34 tw_597 tw_596 hP [] rfl hK [] rfl hE hS hd_M_in rfl rfl ⟨Nat.le_of_ble_eq_true rfl, Nat.le_of_ble_eq_true rfl⟩ ⟨Nat.le_of_ble_eq_true rfl, Nat.le_of_ble_eq_true rfl⟩ hl.1 rfl (Nat.le_of_ble_eq_true rfl) d_M_may_219 ?_
              exact W.zret hx hb hr (nar_inL _ _ _) (fun t ht9 hW => ⟨_, rfl, by simp only [mayM, if_neg sv_27, if_neg sv_33, if_neg sv_34, if_pos sv_35, if_neg c_36, if_pos c_37], ht9⟩) hS.2.2 d_M_may_222
          · refine lv_ldc2 hx hb hown (ht _ tw_648) d_M_may_177 ?_
            refine lv_goto (tgt := 219) hx hb d_M_may_180 (by decide) ?_
            refine rcS (As := [.long v9.toInt64, .long 0, .long 7]) (rest := []) (c_M_in l dC dI tb v9.toInt64 0 7 ) F tw_598 tw_34 tw_597 tw_596 hP [] rfl hK [] rfl hE hS hd_M_in rfl rfl ⟨Nat.le_of_ble_eq_true rfl, Nat.le_of_ble_eq_true rfl⟩ ⟨Nat.le_of_ble_eq_true rfl, Nat.le_of_ble_eq_true rfl⟩ hl.1 rfl (Nat.le_of_ble_eq_true rfl) d_M_may_219 ?_
            exact W.zret hx hb hr (nar_inL _ _ _) (fun t ht9 hW => ⟨_, rfl, by simp only [mayM, if_neg sv_27, if_neg sv_33, if_neg sv_34, if_pos sv_35, if_pos c_36], ht9⟩) hS.2.2 d_M_may_222
        · skip
          by_cases sv_40 : d9 = 5
          · refine lv_tab (off := 222) (tgt := 223) hx hb d_M_may_1 (by decide) (by rw [sv_40]; decide +kernel) (by decide) ?_
            refine lv_iload_n hx hb d_M_may_223 rfl (lv_at hl 1 rfl) ?_
            refine lv_if_gt (tgt := 239) hx hb d_M_may_224 (by decide) (fun c_41 => ?_) (fun c_41 => ?_)
            · refine lv_iconst (v := 1) hx hb d_M_may_239 (by decide) ?_
              refine lv_goto (tgt := 244) hx hb d_M_may_240 (by decide) ?_
              exact W.zret hx hb hr (rfl) (fun t ht9 hW => ⟨_, rfl, by simp only [mayM, if_neg sv_27, if_neg sv_33, if_neg sv_34, if_neg sv_35, if_pos sv_40, if_pos c_41], ht9⟩) hS.2.2 d_M_may_244
            · refine lv_iload_n hx hb d_M_may_227 rfl (lv_at hl 2 rfl) ?_
              refine lv_i2l (v := v9.toInt64) hx hb d_M_may_228 rfl ?_
              refine lv_lconst (v := 0) hx hb d_M_may_229 (by decide) ?_
              refine lv_ldc2 hx hb hown (ht _ tw_660) d_M_may_230 ?_
              refine rcS (As := [.long v9.toInt64, .long 0, .long 31]) (rest := []) (c_M_in l dC dI tb v9.toInt64 0 31 ) F tw_598 tw_34 tw_597 tw_596 hP [] rfl hK [] rfl hE hS hd_M_in rfl rfl ⟨Nat.le_of_ble_eq_true rfl, Nat.le_of_ble_eq_true rfl⟩ ⟨Nat.le_of_ble_eq_true rfl, Nat.le_of_ble_eq_true rfl⟩ hl.1 rfl (Nat.le_of_ble_eq_true rfl) d_M_may_233 ?_
              refine lv_if_eq (tgt := 243) hx hb d_M_may_236 (by decide) (fun c_42 => ?_) (fun c_42 => ?_)
              · refine lv_iconst (v := 0) hx hb d_M_may_243 (by decide) ?_
                exact W.zret hx hb hr (rfl) (fun t ht9 hW => ⟨_, rfl, by simp only [mayM, if_neg sv_27, if_neg sv_33, if_neg sv_34, if_neg sv_35, if_pos sv_40, if_neg c_41, if_pos c_42], ht9⟩) hS.2.2 d_M_may_244
              · refine lv_iconst (v := 1) hx hb d_M_may_239 (by decide) ?_
                refine lv_goto (tgt := 244) hx hb d_M_may_240 (by decide) ?_
                exact W.zret hx hb hr (rfl) (fun t ht9 hW => ⟨_, rfl, by simp only [mayM, if_neg sv_27, if_neg sv_33, if_neg sv_34, if_neg sv_35, if_pos sv_40, if_neg c_41, if_neg c_42], ht9⟩) hS.2.2 d_M_may_244
          · skip
            by_cases sv_43 : d9 = 6
            · refine lv_tab (off := 244) (tgt := 245) hx hb d_M_may_1 (by decide) (by rw [sv_43]; decide +kernel) (by decide) ?_
              refine lv_iload_n hx hb d_M_may_245 rfl (lv_at hl 2 rfl) ?_
              refine lv_i2l (v := v9.toInt64) hx hb d_M_may_246 rfl ?_
              refine lv_lconst (v := 0) hx hb d_M_may_247 (by decide) ?_
              refine lv_iload_n hx hb d_M_may_248 rfl (lv_at hl 1 rfl) ?_
              refine lv_if_ne (tgt := 258) hx hb d_M_may_249 (by decide) (fun c_44 => ?_) (fun c_44 => ?_)
              · refine lv_iload_n hx hb d_M_may_258 rfl (lv_at hl 1 rfl) ?_
                refine lv_iconst (v := 1) hx hb d_M_may_259 (by decide) ?_
                refine lv_icmp_ne (tgt := 269) hx hb d_M_may_260 (by decide) (fun c_45 => ?_) (fun c_45 => ?_)
                · refine lv_ldc2 hx hb hown (ht _ tw_657) d_M_may_269 ?_
                  refine rcS (As := [.long v9.toInt64, .long 0, .long 1048576]) (rest := []) (c_M_in l dC dI tb v9.toInt64 0 1048576 ) F tw_598 tw_34 tw_597 tw_596 hP [] rfl hK [] rfl hE hS hd_M_in rfl rfl ⟨Nat.le_of_ble_eq_true rfl, Nat.le_of_ble_eq_true rfl⟩ ⟨Nat.le_of_ble_eq_true rfl, Nat.le_of_ble_eq_true rfl⟩ hl.1 rfl (Nat.le_of_ble_eq_true rfl) d_M_may_272 ?_
                  exact W.zret hx hb hr (nar_inL _ _ _) (fun t ht9 hW => ⟨_, rfl, by simp only [mayM, if_neg sv_27, if_neg sv_33, if_neg sv_34, if_neg sv_35, if_neg sv_40, if_pos sv_43, if_neg c_44, if_neg c_45], ht9⟩) hS.2.2 d_M_may_275
                · refine lv_ldc2 hx hb hown (ht _ tw_661) d_M_may_263 ?_
                  refine lv_goto (tgt := 272) hx hb d_M_may_266 (by decide) ?_
                  refine rcS (As := [.long v9.toInt64, .long 0, .long 32]) (rest := []) (c_M_in l dC dI tb v9.toInt64 0 32 ) F tw_598 tw_34 tw_597 tw_596 hP [] rfl hK [] rfl hE hS hd_M_in rfl rfl ⟨Nat.le_of_ble_eq_true rfl, Nat.le_of_ble_eq_true rfl⟩ ⟨Nat.le_of_ble_eq_true rfl, Nat.le_of_ble_eq_true rfl⟩ hl.1 rfl (Nat.le_of_ble_eq_true rfl) d_M_may_272 ?_
                  exact W.zret hx hb hr (nar_inL _ _ _) (fun t ht9 hW => ⟨_, rfl, by simp only [mayM, if_neg sv_27, if_neg sv_33, if_neg sv_34, if_neg sv_35, if_neg sv_40, if_pos sv_43, if_neg c_44, if_pos c_45], ht9⟩) hS.2.2 d_M_may_275
              · refine lv_ldc2 hx hb hown (ht _ tw_660) d_M_may_252 ?_
                refine lv_goto (tgt := 272) hx hb d_M_may_255 (by decide) ?_
                refine rcS (As := [.long v9.toInt64, .long 0, .long 31]) (rest := []) (c_M_in l dC dI tb v9.toInt64 0 31 ) F tw_598 tw_34 tw_597 tw_596 hP [] rfl hK [] rfl hE hS hd_M_in rfl rfl ⟨Nat.le_of_ble_eq_true rfl, Nat.le_of_ble_eq_true rfl⟩ ⟨Nat.le_of_ble_eq_true rfl, Nat.le_of_ble_eq_true rfl⟩ hl.1 rfl (Nat.le_of_ble_eq_true rfl) d_M_may_272 ?_
                exact W.zret hx hb hr (nar_inL _ _ _) (fun t ht9 hW => ⟨_, rfl, by simp only [mayM, if_neg sv_27, if_neg sv_33, if_neg sv_34, if_neg sv_35, if_neg sv_40, if_pos sv_43, if_pos c_44], ht9⟩) hS.2.2 d_M_may_275
            · skip
              by_cases sv_46 : d9 = 7 ∨ d9 = 8
              · refine lv_tab (off := 275) (tgt := 276) hx hb d_M_may_1 (by decide) (by rcases sv_46 with h9 | h9 <;> rw [h9] <;> decide +kernel) (by decide) ?_
                refine lv_iload_n hx hb d_M_may_276 rfl (lv_at hl 1 rfl) ?_
                refine lv_if_ne (tgt := 292) hx hb d_M_may_277 (by decide) (fun c_47 => ?_) (fun c_47 => ?_)
                · refine lv_iload_n hx hb d_M_may_292 rfl (lv_at hl 2 rfl) ?_
                  refine lv_i2l (v := v9.toInt64) hx hb d_M_may_293 rfl ?_
                  refine lv_lconst (v := 1) hx hb d_M_may_294 (by decide) ?_
                  refine lv_ldc2 hx hb hown (ht _ tw_662) d_M_may_295 ?_
                  refine rcS (As := [.long v9.toInt64, .long 1, .long 256]) (rest := []) (c_M_in l dC dI tb v9.toInt64 1 256 ) F tw_598 tw_34 tw_597 tw_596 hP [] rfl hK [] rfl hE hS hd_M_in rfl rfl ⟨Nat.le_of_ble_eq_true rfl, Nat.le_of_ble_eq_true rfl⟩ ⟨Nat.le_of_ble_eq_true rfl, Nat.le_of_ble_eq_true rfl⟩ hl.1 rfl (Nat.le_of_ble_eq_true rfl) d_M_may_298 ?_
                  exact W.zret hx hb hr (nar_inL _ _ _) (fun t ht9 hW => ⟨_, rfl, by simp only [mayM, if_neg sv_27, if_neg sv_33, if_neg sv_34, if_neg sv_35, if_neg sv_40, if_neg sv_43, if_pos sv_46, if_neg c_47], ht9⟩) hS.2.2 d_M_may_301
                · refine lv_iload_n hx hb d_M_may_280 rfl (lv_at hl 2 rfl) ?_
                  refine lv_i2l (v := v9.toInt64) hx hb d_M_may_281 rfl ?_
                  refine lv_lconst (v := 0) hx hb d_M_may_282 (by decide) ?_
                  refine lv_ldc2 hx hb hown (ht _ tw_657) d_M_may_283 ?_
                  refine rcS (As := [.long v9.toInt64, .long 0, .long 1048576]) (rest := []) (c_M_in l dC dI tb v9.toInt64 0 1048576 ) F tw_598 tw_34 tw_597 tw_596 hP [] rfl hK [] rfl hE hS hd_M_in rfl rfl ⟨Nat.le_of_ble_eq_true rfl, Nat.le_of_ble_eq_true rfl⟩ ⟨Nat.le_of_ble_eq_true rfl, Nat.le_of_ble_eq_true rfl⟩ hl.1 rfl (Nat.le_of_ble_eq_true rfl) d_M_may_286 ?_
                  refine lv_goto (tgt := 301) hx hb d_M_may_289 (by decide) ?_
                  exact W.zret hx hb hr (nar_inL _ _ _) (fun t ht9 hW => ⟨_, rfl, by simp only [mayM, if_neg sv_27, if_neg sv_33, if_neg sv_34, if_neg sv_35, if_neg sv_40, if_neg sv_43, if_pos sv_46, if_pos c_47], ht9⟩) hS.2.2 d_M_may_301
              · skip
                by_cases sv_48 : d9 = 9
                · refine lv_tab (off := 301) (tgt := 302) hx hb d_M_may_1 (by decide) (by rw [sv_48]; decide +kernel) (by decide) ?_
                  refine lv_iload_n hx hb d_M_may_302 rfl (lv_at hl 1 rfl) ?_
                  refine lv_iload_n hx hb d_M_may_303 rfl (lv_at hl 2 rfl) ?_
                  refine rcS (As := [.int k9, .int v9]) (rest := []) (c_M_isTextures l dC dI tb k9 v9 ) F tw_665 tw_34 tw_664 tw_663 hP [] rfl hK [] rfl hE hS hd_M_isTextures rfl rfl ⟨Nat.le_of_ble_eq_true rfl, Nat.le_of_ble_eq_true rfl⟩ ⟨Nat.le_of_ble_eq_true rfl, Nat.le_of_ble_eq_true rfl⟩ hl.1 rfl (Nat.le_of_ble_eq_true rfl) d_M_may_304 ?_
                  exact W.zret hx hb hr (nar_isT _ _) (fun t ht9 hW => ⟨_, rfl, by simp only [mayM, if_neg sv_27, if_neg sv_33, if_neg sv_34, if_neg sv_35, if_neg sv_40, if_neg sv_43, if_neg sv_46, if_pos sv_48], ht9⟩) hS.2.2 d_M_may_307
                · skip
                  by_cases sv_49 : d9 = 10
                  · refine lv_tab (off := 307) (tgt := 308) hx hb d_M_may_1 (by decide) (by rw [sv_49]; decide +kernel) (by decide) ?_
                    refine lv_iload_n hx hb d_M_may_308 rfl (lv_at hl 1 rfl) ?_
                    refine lv_if_ne (tgt := 326) hx hb d_M_may_309 (by decide) (fun c_50 => ?_) (fun c_50 => ?_)
                    · refine lv_iload_n hx hb d_M_may_326 rfl (lv_at hl 2 rfl) ?_
                      refine lv_i2l (v := v9.toInt64) hx hb d_M_may_327 rfl ?_
                      refine lv_lconst (v := 0) hx hb d_M_may_328 (by decide) ?_
                      refine lv_lconst (v := 1) hx hb d_M_may_329 (by decide) ?_
                      refine rcS (As := [.long v9.toInt64, .long 0, .long 1]) (rest := []) (c_M_in l dC dI tb v9.toInt64 0 1 ) F tw_598 tw_34 tw_597 tw_596 hP [] rfl hK [] rfl hE hS hd_M_in rfl rfl ⟨Nat.le_of_ble_eq_true rfl, Nat.le_of_ble_eq_true rfl⟩ ⟨Nat.le_of_ble_eq_true rfl, Nat.le_of_ble_eq_true rfl⟩ hl.1 rfl (Nat.le_of_ble_eq_true rfl) d_M_may_330 ?_
                      exact W.zret hx hb hr (nar_inL _ _ _) (fun t ht9 hW => ⟨_, rfl, by simp only [mayM, if_neg sv_27, if_neg sv_33, if_neg sv_34, if_neg sv_35, if_neg sv_40, if_neg sv_43, if_neg sv_46, if_neg sv_48, if_pos sv_49, if_neg c_50], ht9⟩) hS.2.2 d_M_may_333
                    · refine lv_iload_n hx hb d_M_may_312 rfl (lv_at hl 2 rfl) ?_
                      refine lv_i2l (v := v9.toInt64) hx hb d_M_may_313 rfl ?_
                      refine lv_ldc2 hx hb hown (ht _ tw_668) d_M_may_314 ?_
                      refine lv_ldc2 hx hb hown (ht _ tw_648) d_M_may_317 ?_
                      refine rcS (As := [.long v9.toInt64, .long (-1), .long 7]) (rest := []) (c_M_in l dC dI tb v9.toInt64 (-1) 7 ) F tw_598 tw_34 tw_597 tw_596 hP [] rfl hK [] rfl hE hS hd_M_in rfl rfl ⟨Nat.le_of_ble_eq_true rfl, Nat.le_of_ble_eq_true rfl⟩ ⟨Nat.le_of_ble_eq_true rfl, Nat.le_of_ble_eq_true rfl⟩ hl.1 rfl (Nat.le_of_ble_eq_true rfl) d_M_may_320 ?_
                      refine lv_goto (tgt := 333) hx hb d_M_may_323 (by decide) ?_
                      exact W.zret hx hb hr (nar_inL _ _ _) (fun t ht9 hW => ⟨_, rfl, by simp only [mayM, if_neg sv_27, if_neg sv_33, if_neg sv_34, if_neg sv_35, if_neg sv_40, if_neg sv_43, if_neg sv_46, if_neg sv_48, if_pos sv_49, if_pos c_50], ht9⟩) hS.2.2 d_M_may_333
                  · skip
                    by_cases sv_51 : d9 = 11
                    · refine lv_tab (off := 333) (tgt := 334) hx hb d_M_may_1 (by decide) (by rw [sv_51]; decide +kernel) (by decide) ?_
                      refine lv_iload_n hx hb d_M_may_334 rfl (lv_at hl 1 rfl) ?_
                      refine lv_iload_n hx hb d_M_may_335 rfl (lv_at hl 2 rfl) ?_
                      refine rcS (As := [.int k9, .int v9]) (rest := []) (c_M_isStencils l dC dI tb k9 v9 ) F tw_671 tw_34 tw_670 tw_669 hP [] rfl hK [] rfl hE hS hd_M_isStencils rfl rfl ⟨Nat.le_of_ble_eq_true rfl, Nat.le_of_ble_eq_true rfl⟩ ⟨Nat.le_of_ble_eq_true rfl, Nat.le_of_ble_eq_true rfl⟩ hl.1 rfl (Nat.le_of_ble_eq_true rfl) d_M_may_336 ?_
                      exact W.zret hx hb hr (nar_isS _ _) (fun t ht9 hW => ⟨_, rfl, by simp only [mayM, if_neg sv_27, if_neg sv_33, if_neg sv_34, if_neg sv_35, if_neg sv_40, if_neg sv_43, if_neg sv_46, if_neg sv_48, if_neg sv_49, if_pos sv_51], ht9⟩) hS.2.2 d_M_may_339
                    · skip
                      by_cases sv_52 : d9 = 12
                      · refine lv_tab (off := 339) (tgt := 340) hx hb d_M_may_1 (by decide) (by rw [sv_52]; decide +kernel) (by decide) ?_
                        refine lv_iload_n hx hb d_M_may_340 rfl (lv_at hl 1 rfl) ?_
                        refine lv_iconst (v := 4) hx hb d_M_may_341 (by decide) ?_
                        refine lv_icmp_ge (tgt := 357) hx hb d_M_may_342 (by decide) (fun c_53 => ?_) (fun c_53 => ?_)
                        · refine lv_iload_n hx hb d_M_may_357 rfl (lv_at hl 2 rfl) ?_
                          refine lv_i2l (v := v9.toInt64) hx hb d_M_may_358 rfl ?_
                          refine lv_iload_n hx hb d_M_may_359 rfl (lv_at hl 1 rfl) ?_
                          refine lv_iconst (v := 4) hx hb d_M_may_360 (by decide) ?_
                          refine lv_icmp_ne (tgt := 370) hx hb d_M_may_361 (by decide) (fun c_54 => ?_) (fun c_54 => ?_)
                          · refine lv_lconst (v := 0) hx hb d_M_may_370 (by decide) ?_
                            refine lv_ldc2 hx hb hown (ht _ tw_658) d_M_may_371 ?_
                            refine rcS (As := [.long v9.toInt64, .long 0, .long 4]) (rest := []) (c_M_in l dC dI tb v9.toInt64 0 4 ) F tw_598 tw_34 tw_597 tw_596 hP [] rfl hK [] rfl hE hS hd_M_in rfl rfl ⟨Nat.le_of_ble_eq_true rfl, Nat.le_of_ble_eq_true rfl⟩ ⟨Nat.le_of_ble_eq_true rfl, Nat.le_of_ble_eq_true rfl⟩ hl.1 rfl (Nat.le_of_ble_eq_true rfl) d_M_may_374 ?_
                            exact W.zret hx hb hr (nar_inL _ _ _) (fun t ht9 hW => ⟨_, rfl, by simp only [mayM, if_neg sv_27, if_neg sv_33, if_neg sv_34, if_neg sv_35, if_neg sv_40, if_neg sv_43, if_neg sv_46, if_neg sv_48, if_neg sv_49, if_neg sv_51, if_pos sv_52, if_pos c_53, if_neg c_54], ht9⟩) hS.2.2 d_M_may_377
                          · refine lv_ldc2 hx hb hown (ht _ tw_668) d_M_may_364 ?_
                            refine lv_goto (tgt := 371) hx hb d_M_may_367 (by decide) ?_
                            refine lv_ldc2 hx hb hown (ht _ tw_658) d_M_may_371 ?_
                            refine rcS (As := [.long v9.toInt64, .long (-1), .long 4]) (rest := []) (c_M_in l dC dI tb v9.toInt64 (-1) 4 ) F tw_598 tw_34 tw_597 tw_596 hP [] rfl hK [] rfl hE hS hd_M_in rfl rfl ⟨Nat.le_of_ble_eq_true rfl, Nat.le_of_ble_eq_true rfl⟩ ⟨Nat.le_of_ble_eq_true rfl, Nat.le_of_ble_eq_true rfl⟩ hl.1 rfl (Nat.le_of_ble_eq_true rfl) d_M_may_374 ?_
                            exact W.zret hx hb hr (nar_inL _ _ _) (fun t ht9 hW => ⟨_, rfl, by simp only [mayM, if_neg sv_27, if_neg sv_33, if_neg sv_34, if_neg sv_35, if_neg sv_40, if_neg sv_43, if_neg sv_46, if_neg sv_48, if_neg sv_49, if_neg sv_51, if_pos sv_52, if_pos c_53, if_pos c_54], ht9⟩) hS.2.2 d_M_may_377
                        · refine lv_iload_n hx hb d_M_may_345 rfl (lv_at hl 2 rfl) ?_
                          refine lv_i2l (v := v9.toInt64) hx hb d_M_may_346 rfl ?_
                          refine lv_lconst (v := 0) hx hb d_M_may_347 (by decide) ?_
                          refine lv_ldc2 hx hb hown (ht _ tw_672) d_M_may_348 ?_
                          refine rcS (As := [.long v9.toInt64, .long 0, .long 14]) (rest := []) (c_M_in l dC dI tb v9.toInt64 0 14 ) F tw_598 tw_34 tw_597 tw_596 hP [] rfl hK [] rfl hE hS hd_M_in rfl rfl ⟨Nat.le_of_ble_eq_true rfl, Nat.le_of_ble_eq_true rfl⟩ ⟨Nat.le_of_ble_eq_true rfl, Nat.le_of_ble_eq_true rfl⟩ hl.1 rfl (Nat.le_of_ble_eq_true rfl) d_M_may_351 ?_
                          refine lv_goto (tgt := 377) hx hb d_M_may_354 (by decide) ?_
                          exact W.zret hx hb hr (nar_inL _ _ _) (fun t ht9 hW => ⟨_, rfl, by simp only [mayM, if_neg sv_27, if_neg sv_33, if_neg sv_34, if_neg sv_35, if_neg sv_40, if_neg sv_43, if_neg sv_46, if_neg sv_48, if_neg sv_49, if_neg sv_51, if_pos sv_52, if_neg c_53], ht9⟩) hS.2.2 d_M_may_377
                      · skip
                        by_cases sv_55 : d9 = 14
                        · refine lv_tab (off := 377) (tgt := 378) hx hb d_M_may_1 (by decide) (by rw [sv_55]; decide +kernel) (by decide) ?_
                          refine lv_iload_n hx hb d_M_may_378 rfl (lv_at hl 2 rfl) ?_
                          refine lv_i2l (v := v9.toInt64) hx hb d_M_may_379 rfl ?_
                          refine lv_ldc2 hx hb hown (ht _ tw_668) d_M_may_380 ?_
                          refine lv_ldc2 hx hb hown (ht _ tw_673) d_M_may_383 ?_
                          refine rcS (As := [.long v9.toInt64, .long (-1), .long 15]) (rest := []) (c_M_in l dC dI tb v9.toInt64 (-1) 15 ) F tw_598 tw_34 tw_597 tw_596 hP [] rfl hK [] rfl hE hS hd_M_in rfl rfl ⟨Nat.le_of_ble_eq_true rfl, Nat.le_of_ble_eq_true rfl⟩ ⟨Nat.le_of_ble_eq_true rfl, Nat.le_of_ble_eq_true rfl⟩ hl.1 rfl (Nat.le_of_ble_eq_true rfl) d_M_may_386 ?_
                          exact W.zret hx hb hr (nar_inL _ _ _) (fun t ht9 hW => ⟨_, rfl, by simp only [mayM, if_neg sv_27, if_neg sv_33, if_neg sv_34, if_neg sv_35, if_neg sv_40, if_neg sv_43, if_neg sv_46, if_neg sv_48, if_neg sv_49, if_neg sv_51, if_neg sv_52, if_pos sv_55], ht9⟩) hS.2.2 d_M_may_389
                        · skip
                          by_cases sv_56 : d9 = 15
                          · refine lv_tab (off := 389) (tgt := 390) hx hb d_M_may_1 (by decide) (by rw [sv_56]; decide +kernel) (by decide) ?_
                            refine lv_iload_n hx hb d_M_may_390 rfl (lv_at hl 2 rfl) ?_
                            refine lv_i2l (v := v9.toInt64) hx hb d_M_may_391 rfl ?_
                            refine lv_lconst (v := 0) hx hb d_M_may_392 (by decide) ?_
                            refine lv_ldc2 hx hb hown (ht _ tw_673) d_M_may_393 ?_
                            refine rcS (As := [.long v9.toInt64, .long 0, .long 15]) (rest := []) (c_M_in l dC dI tb v9.toInt64 0 15 ) F tw_598 tw_34 tw_597 tw_596 hP [] rfl hK [] rfl hE hS hd_M_in rfl rfl ⟨Nat.le_of_ble_eq_true rfl, Nat.le_of_ble_eq_true rfl⟩ ⟨Nat.le_of_ble_eq_true rfl, Nat.le_of_ble_eq_true rfl⟩ hl.1 rfl (Nat.le_of_ble_eq_true rfl) d_M_may_396 ?_
                            exact W.zret hx hb hr (nar_inL _ _ _) (fun t ht9 hW => ⟨_, rfl, by simp only [mayM, if_neg sv_27, if_neg sv_33, if_neg sv_34, if_neg sv_35, if_neg sv_40, if_neg sv_43, if_neg sv_46, if_neg sv_48, if_neg sv_49, if_neg sv_51, if_neg sv_52, if_neg sv_55, if_pos sv_56], ht9⟩) hS.2.2 d_M_may_399
                          · skip
                            by_cases sv_57 : d9 = 16
                            · refine lv_tab (off := 399) (tgt := 400) hx hb d_M_may_1 (by decide) (by rw [sv_57]; decide +kernel) (by decide) ?_
                              refine lv_iload_n hx hb d_M_may_400 rfl (lv_at hl 2 rfl) ?_
                              refine lv_i2l (v := v9.toInt64) hx hb d_M_may_401 rfl ?_
                              refine lv_lconst (v := 0) hx hb d_M_may_402 (by decide) ?_
                              refine lv_iload_n hx hb d_M_may_403 rfl (lv_at hl 1 rfl) ?_
                              refine lv_if_ne (tgt := 413) hx hb d_M_may_404 (by decide) (fun c_58 => ?_) (fun c_58 => ?_)
                              · refine lv_lconst (v := 1) hx hb d_M_may_413 (by decide) ?_
                                refine rcS (As := [.long v9.toInt64, .long 0, .long 1]) (rest := []) (c_M_in l dC dI tb v9.toInt64 0 1 ) F tw_598 tw_34 tw_597 tw_596 hP [] rfl hK [] rfl hE hS hd_M_in rfl rfl ⟨Nat.le_of_ble_eq_true rfl, Nat.le_of_ble_eq_true rfl⟩ ⟨Nat.le_of_ble_eq_true rfl, Nat.le_of_ble_eq_true rfl⟩ hl.1 rfl (Nat.le_of_ble_eq_true rfl) d_M_may_414 ?_
                                exact W.zret hx hb hr (nar_inL _ _ _) (fun t ht9 hW => ⟨_, rfl, by simp only [mayM, if_neg sv_27, if_neg sv_33, if_neg sv_34, if_neg sv_35, if_neg sv_40, if_neg sv_43, if_neg sv_46, if_neg sv_48, if_neg sv_49, if_neg sv_51, if_neg sv_52, if_neg sv_55, if_neg sv_56, if_pos sv_57, if_neg c_58], ht9⟩) hS.2.2 d_M_may_417
                              · refine lv_ldc2 hx hb hown (ht _ tw_659) d_M_may_407 ?_
                                refine lv_goto (tgt := 414) hx hb d_M_may_410 (by decide) ?_
                                refine rcS (As := [.long v9.toInt64, .long 0, .long 3]) (rest := []) (c_M_in l dC dI tb v9.toInt64 0 3 ) F tw_598 tw_34 tw_597 tw_596 hP [] rfl hK [] rfl hE hS hd_M_in rfl rfl ⟨Nat.le_of_ble_eq_true rfl, Nat.le_of_ble_eq_true rfl⟩ ⟨Nat.le_of_ble_eq_true rfl, Nat.le_of_ble_eq_true rfl⟩ hl.1 rfl (Nat.le_of_ble_eq_true rfl) d_M_may_414 ?_
                                exact W.zret hx hb hr (nar_inL _ _ _) (fun t ht9 hW => ⟨_, rfl, by simp only [mayM, if_neg sv_27, if_neg sv_33, if_neg sv_34, if_neg sv_35, if_neg sv_40, if_neg sv_43, if_neg sv_46, if_neg sv_48, if_neg sv_49, if_neg sv_51, if_neg sv_52, if_neg sv_55, if_neg sv_56, if_pos sv_57, if_pos c_58], ht9⟩) hS.2.2 d_M_may_417
                            · skip
                              by_cases sv_59 : d9 = 17
                              · refine lv_tab (off := 417) (tgt := 418) hx hb d_M_may_1 (by decide) (by rw [sv_59]; decide +kernel) (by decide) ?_
                                refine lv_iload_n hx hb d_M_may_418 rfl (lv_at hl 2 rfl) ?_
                                refine lv_i2l (v := v9.toInt64) hx hb d_M_may_419 rfl ?_
                                refine lv_lconst (v := 0) hx hb d_M_may_420 (by decide) ?_
                                refine lv_iload_n hx hb d_M_may_421 rfl (lv_at hl 1 rfl) ?_
                                refine lv_if_ne (tgt := 431) hx hb d_M_may_422 (by decide) (fun c_60 => ?_) (fun c_60 => ?_)
                                · refine lv_iload_n hx hb d_M_may_431 rfl (lv_at hl 1 rfl) ?_
                                  refine lv_iconst (v := 1) hx hb d_M_may_432 (by decide) ?_
                                  refine lv_icmp_ne (tgt := 442) hx hb d_M_may_433 (by decide) (fun c_61 => ?_) (fun c_61 => ?_)
                                  · refine lv_ldc2 hx hb hown (ht _ tw_675) d_M_may_442 ?_
                                    refine rcS (As := [.long v9.toInt64, .long 0, .long 4096]) (rest := []) (c_M_in l dC dI tb v9.toInt64 0 4096 ) F tw_598 tw_34 tw_597 tw_596 hP [] rfl hK [] rfl hE hS hd_M_in rfl rfl ⟨Nat.le_of_ble_eq_true rfl, Nat.le_of_ble_eq_true rfl⟩ ⟨Nat.le_of_ble_eq_true rfl, Nat.le_of_ble_eq_true rfl⟩ hl.1 rfl (Nat.le_of_ble_eq_true rfl) d_M_may_445 ?_
                                    exact W.zret hx hb hr (nar_inL _ _ _) (fun t ht9 hW => ⟨_, rfl, by simp only [mayM, if_neg sv_27, if_neg sv_33, if_neg sv_34, if_neg sv_35, if_neg sv_40, if_neg sv_43, if_neg sv_46, if_neg sv_48, if_neg sv_49, if_neg sv_51, if_neg sv_52, if_neg sv_55, if_neg sv_56, if_neg sv_57, if_pos sv_59, if_neg c_60, if_neg c_61], ht9⟩) hS.2.2 d_M_may_448
                                  · refine lv_ldc2 hx hb hown (ht _ tw_657) d_M_may_436 ?_
                                    refine lv_goto (tgt := 445) hx hb d_M_may_439 (by decide) ?_
                                    refine rcS (As := [.long v9.toInt64, .long 0, .long 1048576]) (rest := []) (c_M_in l dC dI tb v9.toInt64 0 1048576 ) F tw_598 tw_34 tw_597 tw_596 hP [] rfl hK [] rfl hE hS hd_M_in rfl rfl ⟨Nat.le_of_ble_eq_true rfl, Nat.le_of_ble_eq_true rfl⟩ ⟨Nat.le_of_ble_eq_true rfl, Nat.le_of_ble_eq_true rfl⟩ hl.1 rfl (Nat.le_of_ble_eq_true rfl) d_M_may_445 ?_
                                    exact W.zret hx hb hr (nar_inL _ _ _) (fun t ht9 hW => ⟨_, rfl, by simp only [mayM, if_neg sv_27, if_neg sv_33, if_neg sv_34, if_neg sv_35, if_neg sv_40, if_neg sv_43, if_neg sv_46, if_neg sv_48, if_neg sv_49, if_neg sv_51, if_neg sv_52, if_neg sv_55, if_neg sv_56, if_neg sv_57, if_pos sv_59, if_neg c_60, if_pos c_61], ht9⟩) hS.2.2 d_M_may_448
                                · refine lv_ldc2 hx hb hown (ht _ tw_674) d_M_may_425 ?_
                                  refine lv_goto (tgt := 445) hx hb d_M_may_428 (by decide) ?_
                                  refine rcS (As := [.long v9.toInt64, .long 0, .long 2]) (rest := []) (c_M_in l dC dI tb v9.toInt64 0 2 ) F tw_598 tw_34 tw_597 tw_596 hP [] rfl hK [] rfl hE hS hd_M_in rfl rfl ⟨Nat.le_of_ble_eq_true rfl, Nat.le_of_ble_eq_true rfl⟩ ⟨Nat.le_of_ble_eq_true rfl, Nat.le_of_ble_eq_true rfl⟩ hl.1 rfl (Nat.le_of_ble_eq_true rfl) d_M_may_445 ?_
                                  exact W.zret hx hb hr (nar_inL _ _ _) (fun t ht9 hW => ⟨_, rfl, by simp only [mayM, if_neg sv_27, if_neg sv_33, if_neg sv_34, if_neg sv_35, if_neg sv_40, if_neg sv_43, if_neg sv_46, if_neg sv_48, if_neg sv_49, if_neg sv_51, if_neg sv_52, if_neg sv_55, if_neg sv_56, if_neg sv_57, if_pos sv_59, if_pos c_60], ht9⟩) hS.2.2 d_M_may_448
                              · skip
                                by_cases sv_62 : d9 = 18
                                · refine lv_tab (off := 448) (tgt := 449) hx hb d_M_may_1 (by decide) (by rw [sv_62]; decide +kernel) (by decide) ?_
                                  refine lv_iload_n hx hb d_M_may_449 rfl (lv_at hl 1 rfl) ?_
                                  refine lv_iconst (v := 4) hx hb d_M_may_450 (by decide) ?_
                                  refine lv_icmp_eq (tgt := 492) hx hb d_M_may_451 (by decide) (fun c_63 => ?_) (fun c_63 => ?_)
                                  · refine lv_iconst (v := 1) hx hb d_M_may_492 (by decide) ?_
                                    refine lv_goto (tgt := 497) hx hb d_M_may_493 (by decide) ?_
                                    exact W.zret hx hb hr (rfl) (fun t ht9 hW => ⟨_, rfl, by simp only [mayM, if_neg sv_27, if_neg sv_33, if_neg sv_34, if_neg sv_35, if_neg sv_40, if_neg sv_43, if_neg sv_46, if_neg sv_48, if_neg sv_49, if_neg sv_51, if_neg sv_52, if_neg sv_55, if_neg sv_56, if_neg sv_57, if_neg sv_59, if_pos sv_62, if_pos c_63], ht9⟩) hS.2.2 d_M_may_497
                                  · refine lv_iload_n hx hb d_M_may_454 rfl (lv_at hl 2 rfl) ?_
                                    refine lv_i2l (v := v9.toInt64) hx hb d_M_may_455 rfl ?_
                                    refine lv_lconst (v := 0) hx hb d_M_may_456 (by decide) ?_
                                    refine lv_iload_n hx hb d_M_may_457 rfl (lv_at hl 1 rfl) ?_
                                    refine lv_if_eq (tgt := 466) hx hb d_M_may_458 (by decide) (fun c_64 => ?_) (fun c_64 => ?_)
                                    · refine lv_ldc2 hx hb hown (ht _ tw_674) d_M_may_466 ?_
                                      refine lv_goto (tgt := 486) hx hb d_M_may_469 (by decide) ?_
                                      refine rcS (As := [.long v9.toInt64, .long 0, .long 2]) (rest := []) (c_M_in l dC dI tb v9.toInt64 0 2 ) F tw_598 tw_34 tw_597 tw_596 hP [] rfl hK [] rfl hE hS hd_M_in rfl rfl ⟨Nat.le_of_ble_eq_true rfl, Nat.le_of_ble_eq_true rfl⟩ ⟨Nat.le_of_ble_eq_true rfl, Nat.le_of_ble_eq_true rfl⟩ hl.1 rfl (Nat.le_of_ble_eq_true rfl) d_M_may_486 ?_
                                      refine lv_if_eq (tgt := 496) hx hb d_M_may_489 (by decide) (fun c_65 => ?_) (fun c_65 => ?_)
                                      · refine lv_iconst (v := 0) hx hb d_M_may_496 (by decide) ?_
                                        exact W.zret hx hb hr (rfl) (fun t ht9 hW => ⟨_, rfl, by simp only [mayM, if_neg sv_27, if_neg sv_33, if_neg sv_34, if_neg sv_35, if_neg sv_40, if_neg sv_43, if_neg sv_46, if_neg sv_48, if_neg sv_49, if_neg sv_51, if_neg sv_52, if_neg sv_55, if_neg sv_56, if_neg sv_57, if_neg sv_59, if_pos sv_62, if_neg c_63, if_pos c_64, if_pos c_65], ht9⟩) hS.2.2 d_M_may_497
                                      · refine lv_iconst (v := 1) hx hb d_M_may_492 (by decide) ?_
                                        refine lv_goto (tgt := 497) hx hb d_M_may_493 (by decide) ?_
                                        exact W.zret hx hb hr (rfl) (fun t ht9 hW => ⟨_, rfl, by simp only [mayM, if_neg sv_27, if_neg sv_33, if_neg sv_34, if_neg sv_35, if_neg sv_40, if_neg sv_43, if_neg sv_46, if_neg sv_48, if_neg sv_49, if_neg sv_51, if_neg sv_52, if_neg sv_55, if_neg sv_56, if_neg sv_57, if_neg sv_59, if_pos sv_62, if_neg c_63, if_pos c_64, if_neg c_65], ht9⟩) hS.2.2 d_M_may_497
                                    · refine lv_iload_n hx hb d_M_may_461 rfl (lv_at hl 1 rfl) ?_
                                      refine lv_iconst (v := 3) hx hb d_M_may_462 (by decide) ?_
                                      refine lv_icmp_ne (tgt := 472) hx hb d_M_may_463 (by decide) (fun c_66 => ?_) (fun c_66 => ?_)
                                      · refine lv_iload_n hx hb d_M_may_472 rfl (lv_at hl 1 rfl) ?_
                                        refine lv_iconst (v := 1) hx hb d_M_may_473 (by decide) ?_
                                        refine lv_icmp_ne (tgt := 483) hx hb d_M_may_474 (by decide) (fun c_67 => ?_) (fun c_67 => ?_)
                                        · refine lv_ldc2 hx hb hown (ht _ tw_675) d_M_may_483 ?_
                                          refine rcS (As := [.long v9.toInt64, .long 0, .long 4096]) (rest := []) (c_M_in l dC dI tb v9.toInt64 0 4096 ) F tw_598 tw_34 tw_597 tw_596 hP [] rfl hK [] rfl hE hS hd_M_in rfl rfl ⟨Nat.le_of_ble_eq_true rfl, Nat.le_of_ble_eq_true rfl⟩ ⟨Nat.le_of_ble_eq_true rfl, Nat.le_of_ble_eq_true rfl⟩ hl.1 rfl (Nat.le_of_ble_eq_true rfl) d_M_may_486 ?_
                                          refine lv_if_eq (tgt := 496) hx hb d_M_may_489 (by decide) (fun c_68 => ?_) (fun c_68 => ?_)
                                          · refine lv_iconst (v := 0) hx hb d_M_may_496 (by decide) ?_
                                            exact W.zret hx hb hr (rfl) (fun t ht9 hW => ⟨_, rfl, by simp only [mayM, if_neg sv_27, if_neg sv_33, if_neg sv_34, if_neg sv_35, if_neg sv_40, if_neg sv_43, if_neg sv_46, if_neg sv_48, if_neg sv_49, if_neg sv_51, if_neg sv_52, if_neg sv_55, if_neg sv_56, if_neg sv_57, if_neg sv_59, if_pos sv_62, if_neg c_63, if_neg c_64, if_neg c_66, if_neg c_67, if_pos c_68], ht9⟩) hS.2.2 d_M_may_497
                                          · refine lv_iconst (v := 1) hx hb d_M_may_492 (by decide) ?_
                                            refine lv_goto (tgt := 497) hx hb d_M_may_493 (by decide) ?_
                                            exact W.zret hx hb hr (rfl) (fun t ht9 hW => ⟨_, rfl, by simp only [mayM, if_neg sv_27, if_neg sv_33, if_neg sv_34, if_neg sv_35, if_neg sv_40, if_neg sv_43, if_neg sv_46, if_neg sv_48, if_neg sv_49, if_neg sv_51, if_neg sv_52, if_neg sv_55, if_neg sv_56, if_neg sv_57, if_neg sv_59, if_pos sv_62, if_neg c_63, if_neg c_64, if_neg c_66, if_neg c_67, if_neg c_68], ht9⟩) hS.2.2 d_M_may_497
                                        · refine lv_ldc2 hx hb hown (ht _ tw_657) d_M_may_477 ?_
                                          refine lv_goto (tgt := 486) hx hb d_M_may_480 (by decide) ?_
                                          refine rcS (As := [.long v9.toInt64, .long 0, .long 1048576]) (rest := []) (c_M_in l dC dI tb v9.toInt64 0 1048576 ) F tw_598 tw_34 tw_597 tw_596 hP [] rfl hK [] rfl hE hS hd_M_in rfl rfl ⟨Nat.le_of_ble_eq_true rfl, Nat.le_of_ble_eq_true rfl⟩ ⟨Nat.le_of_ble_eq_true rfl, Nat.le_of_ble_eq_true rfl⟩ hl.1 rfl (Nat.le_of_ble_eq_true rfl) d_M_may_486 ?_
                                          refine lv_if_eq (tgt := 496) hx hb d_M_may_489 (by decide) (fun c_69 => ?_) (fun c_69 => ?_)
                                          · refine lv_iconst (v := 0) hx hb d_M_may_496 (by decide) ?_
                                            exact W.zret hx hb hr (rfl) (fun t ht9 hW => ⟨_, rfl, by simp only [mayM, if_neg sv_27, if_neg sv_33, if_neg sv_34, if_neg sv_35, if_neg sv_40, if_neg sv_43, if_neg sv_46, if_neg sv_48, if_neg sv_49, if_neg sv_51, if_neg sv_52, if_neg sv_55, if_neg sv_56, if_neg sv_57, if_neg sv_59, if_pos sv_62, if_neg c_63, if_neg c_64, if_neg c_66, if_pos c_67, if_pos c_69], ht9⟩) hS.2.2 d_M_may_497
                                          · refine lv_iconst (v := 1) hx hb d_M_may_492 (by decide) ?_
                                            refine lv_goto (tgt := 497) hx hb d_M_may_493 (by decide) ?_
                                            exact W.zret hx hb hr (rfl) (fun t ht9 hW => ⟨_, rfl, by simp only [mayM, if_neg sv_27, if_neg sv_33, if_neg sv_34, if_neg sv_35, if_neg sv_40, if_neg sv_43, if_neg sv_46, if_neg sv_48, if_neg sv_49, if_neg sv_51, if_neg sv_52, if_neg sv_55, if_neg sv_56, if_neg sv_57, if_neg sv_59, if_pos sv_62, if_neg c_63, if_neg c_64, if_neg c_66, if_pos c_67, if_neg c_69], ht9⟩) hS.2.2 d_M_may_497
                                      · refine lv_ldc2 hx hb hown (ht _ tw_674) d_M_may_466 ?_
                                        refine lv_goto (tgt := 486) hx hb d_M_may_469 (by decide) ?_
                                        refine rcS (As := [.long v9.toInt64, .long 0, .long 2]) (rest := []) (c_M_in l dC dI tb v9.toInt64 0 2 ) F tw_598 tw_34 tw_597 tw_596 hP [] rfl hK [] rfl hE hS hd_M_in rfl rfl ⟨Nat.le_of_ble_eq_true rfl, Nat.le_of_ble_eq_true rfl⟩ ⟨Nat.le_of_ble_eq_true rfl, Nat.le_of_ble_eq_true rfl⟩ hl.1 rfl (Nat.le_of_ble_eq_true rfl) d_M_may_486 ?_
                                        refine lv_if_eq (tgt := 496) hx hb d_M_may_489 (by decide) (fun c_70 => ?_) (fun c_70 => ?_)
                                        · refine lv_iconst (v := 0) hx hb d_M_may_496 (by decide) ?_
                                          exact W.zret hx hb hr (rfl) (fun t ht9 hW => ⟨_, rfl, by simp only [mayM, if_neg sv_27, if_neg sv_33, if_neg sv_34, if_neg sv_35, if_neg sv_40, if_neg sv_43, if_neg sv_46, if_neg sv_48, if_neg sv_49, if_neg sv_51, if_neg sv_52, if_neg sv_55, if_neg sv_56, if_neg sv_57, if_neg sv_59, if_pos sv_62, if_neg c_63, if_neg c_64, if_pos c_66, if_pos c_70], ht9⟩) hS.2.2 d_M_may_497
                                        · refine lv_iconst (v := 1) hx hb d_M_may_492 (by decide) ?_
                                          refine lv_goto (tgt := 497) hx hb d_M_may_493 (by decide) ?_
                                          exact W.zret hx hb hr (rfl) (fun t ht9 hW => ⟨_, rfl, by simp only [mayM, if_neg sv_27, if_neg sv_33, if_neg sv_34, if_neg sv_35, if_neg sv_40, if_neg sv_43, if_neg sv_46, if_neg sv_48, if_neg sv_49, if_neg sv_51, if_neg sv_52, if_neg sv_55, if_neg sv_56, if_neg sv_57, if_neg sv_59, if_pos sv_62, if_neg c_63, if_neg c_64, if_pos c_66, if_neg c_70], ht9⟩) hS.2.2 d_M_may_497
                                · skip
                                  by_cases sv_71 : d9 = 19
                                  · refine lv_tab (off := 497) (tgt := 498) hx hb d_M_may_1 (by decide) (by rw [sv_71]; decide +kernel) (by decide) ?_
                                    refine lv_iload_n hx hb d_M_may_498 rfl (lv_at hl 2 rfl) ?_
                                    refine lv_i2l (v := v9.toInt64) hx hb d_M_may_499 rfl ?_
                                    refine lv_lconst (v := 0) hx hb d_M_may_500 (by decide) ?_
                                    refine lv_iload_n hx hb d_M_may_501 rfl (lv_at hl 1 rfl) ?_
                                    refine lv_if_ne (tgt := 511) hx hb d_M_may_502 (by decide) (fun c_72 => ?_) (fun c_72 => ?_)
                                    · refine lv_lconst (v := 1) hx hb d_M_may_511 (by decide) ?_
                                      refine rcS (As := [.long v9.toInt64, .long 0, .long 1]) (rest := []) (c_M_in l dC dI tb v9.toInt64 0 1 ) F tw_598 tw_34 tw_597 tw_596 hP [] rfl hK [] rfl hE hS hd_M_in rfl rfl ⟨Nat.le_of_ble_eq_true rfl, Nat.le_of_ble_eq_true rfl⟩ ⟨Nat.le_of_ble_eq_true rfl, Nat.le_of_ble_eq_true rfl⟩ hl.1 rfl (Nat.le_of_ble_eq_true rfl) d_M_may_512 ?_
                                      exact W.zret hx hb hr (nar_inL _ _ _) (fun t ht9 hW => ⟨_, rfl, by simp only [mayM, if_neg sv_27, if_neg sv_33, if_neg sv_34, if_neg sv_35, if_neg sv_40, if_neg sv_43, if_neg sv_46, if_neg sv_48, if_neg sv_49, if_neg sv_51, if_neg sv_52, if_neg sv_55, if_neg sv_56, if_neg sv_57, if_neg sv_59, if_neg sv_62, if_pos sv_71, if_neg c_72], ht9⟩) hS.2.2 d_M_may_515
                                    · refine lv_ldc2 hx hb hown (ht _ tw_648) d_M_may_505 ?_
                                      refine lv_goto (tgt := 512) hx hb d_M_may_508 (by decide) ?_
                                      refine rcS (As := [.long v9.toInt64, .long 0, .long 7]) (rest := []) (c_M_in l dC dI tb v9.toInt64 0 7 ) F tw_598 tw_34 tw_597 tw_596 hP [] rfl hK [] rfl hE hS hd_M_in rfl rfl ⟨Nat.le_of_ble_eq_true rfl, Nat.le_of_ble_eq_true rfl⟩ ⟨Nat.le_of_ble_eq_true rfl, Nat.le_of_ble_eq_true rfl⟩ hl.1 rfl (Nat.le_of_ble_eq_true rfl) d_M_may_512 ?_
                                      exact W.zret hx hb hr (nar_inL _ _ _) (fun t ht9 hW => ⟨_, rfl, by simp only [mayM, if_neg sv_27, if_neg sv_33, if_neg sv_34, if_neg sv_35, if_neg sv_40, if_neg sv_43, if_neg sv_46, if_neg sv_48, if_neg sv_49, if_neg sv_51, if_neg sv_52, if_neg sv_55, if_neg sv_56, if_neg sv_57, if_neg sv_59, if_neg sv_62, if_pos sv_71, if_pos c_72], ht9⟩) hS.2.2 d_M_may_515
                                  · skip
                                    by_cases sv_73 : d9 = 20
                                    · refine lv_tab (off := 515) (tgt := 516) hx hb d_M_may_1 (by decide) (by rw [sv_73]; decide +kernel) (by decide) ?_
                                      refine lv_iload_n hx hb d_M_may_516 rfl (lv_at hl 1 rfl) ?_
                                      refine lv_iload_n hx hb d_M_may_517 rfl (lv_at hl 2 rfl) ?_
                                      refine rcS (As := [.int k9, .int v9]) (rest := []) (c_M_isCopys l dC dI tb k9 v9 ) F tw_678 tw_34 tw_677 tw_676 hP [] rfl hK [] rfl hE hS hd_M_isCopys rfl rfl ⟨Nat.le_of_ble_eq_true rfl, Nat.le_of_ble_eq_true rfl⟩ ⟨Nat.le_of_ble_eq_true rfl, Nat.le_of_ble_eq_true rfl⟩ hl.1 rfl (Nat.le_of_ble_eq_true rfl) d_M_may_518 ?_
                                      exact W.zret hx hb hr (nar_isC _ _) (fun t ht9 hW => ⟨_, rfl, by simp only [mayM, if_neg sv_27, if_neg sv_33, if_neg sv_34, if_neg sv_35, if_neg sv_40, if_neg sv_43, if_neg sv_46, if_neg sv_48, if_neg sv_49, if_neg sv_51, if_neg sv_52, if_neg sv_55, if_neg sv_56, if_neg sv_57, if_neg sv_59, if_neg sv_62, if_neg sv_71, if_pos sv_73], ht9⟩) hS.2.2 d_M_may_521
                                    · skip
                                      by_cases sv_74 : d9 = 21
                                      · refine lv_tab (off := 521) (tgt := 522) hx hb d_M_may_1 (by decide) (by rw [sv_74]; decide +kernel) (by decide) ?_
                                        refine lv_iload_n hx hb d_M_may_522 rfl (lv_at hl 1 rfl) ?_
                                        refine lv_iconst (v := 1) hx hb d_M_may_523 (by decide) ?_
                                        refine lv_icmp_gt (tgt := 549) hx hb d_M_may_524 (by decide) (fun c_75 => ?_) (fun c_75 => ?_)
                                        · refine lv_iconst (v := 1) hx hb d_M_may_549 (by decide) ?_
                                          refine lv_goto (tgt := 554) hx hb d_M_may_550 (by decide) ?_
                                          exact W.zret hx hb hr (rfl) (fun t ht9 hW => ⟨_, rfl, by simp only [mayM, if_neg sv_27, if_neg sv_33, if_neg sv_34, if_neg sv_35, if_neg sv_40, if_neg sv_43, if_neg sv_46, if_neg sv_48, if_neg sv_49, if_neg sv_51, if_neg sv_52, if_neg sv_55, if_neg sv_56, if_neg sv_57, if_neg sv_59, if_neg sv_62, if_neg sv_71, if_neg sv_73, if_pos sv_74, if_pos c_75], ht9⟩) hS.2.2 d_M_may_554
                                        · refine lv_iload_n hx hb d_M_may_527 rfl (lv_at hl 2 rfl) ?_
                                          refine lv_i2l (v := v9.toInt64) hx hb d_M_may_528 rfl ?_
                                          refine lv_lconst (v := 0) hx hb d_M_may_529 (by decide) ?_
                                          refine lv_iload_n hx hb d_M_may_530 rfl (lv_at hl 1 rfl) ?_
                                          refine lv_if_ne (tgt := 540) hx hb d_M_may_531 (by decide) (fun c_76 => ?_) (fun c_76 => ?_)
                                          · refine lv_ldc2 hx hb hown (ht _ tw_662) d_M_may_540 ?_
                                            refine rcS (As := [.long v9.toInt64, .long 0, .long 256]) (rest := []) (c_M_in l dC dI tb v9.toInt64 0 256 ) F tw_598 tw_34 tw_597 tw_596 hP [] rfl hK [] rfl hE hS hd_M_in rfl rfl ⟨Nat.le_of_ble_eq_true rfl, Nat.le_of_ble_eq_true rfl⟩ ⟨Nat.le_of_ble_eq_true rfl, Nat.le_of_ble_eq_true rfl⟩ hl.1 rfl (Nat.le_of_ble_eq_true rfl) d_M_may_543 ?_
                                            refine lv_if_eq (tgt := 553) hx hb d_M_may_546 (by decide) (fun c_77 => ?_) (fun c_77 => ?_)
                                            · refine lv_iconst (v := 0) hx hb d_M_may_553 (by decide) ?_
                                              exact W.zret hx hb hr (rfl) (fun t ht9 hW => ⟨_, rfl, by simp only [mayM, if_neg sv_27, if_neg sv_33, if_neg sv_34, if_neg sv_35, if_neg sv_40, if_neg sv_43, if_neg sv_46, if_neg sv_48, if_neg sv_49, if_neg sv_51, if_neg sv_52, if_neg sv_55, if_neg sv_56, if_neg sv_57, if_neg sv_59, if_neg sv_62, if_neg sv_71, if_neg sv_73, if_pos sv_74, if_neg c_75, if_neg c_76, if_pos c_77], ht9⟩) hS.2.2 d_M_may_554
                                            · refine lv_iconst (v := 1) hx hb d_M_may_549 (by decide) ?_
                                              refine lv_goto (tgt := 554) hx hb d_M_may_550 (by decide) ?_
                                              exact W.zret hx hb hr (rfl) (fun t ht9 hW => ⟨_, rfl, by simp only [mayM, if_neg sv_27, if_neg sv_33, if_neg sv_34, if_neg sv_35, if_neg sv_40, if_neg sv_43, if_neg sv_46, if_neg sv_48, if_neg sv_49, if_neg sv_51, if_neg sv_52, if_neg sv_55, if_neg sv_56, if_neg sv_57, if_neg sv_59, if_neg sv_62, if_neg sv_71, if_neg sv_73, if_pos sv_74, if_neg c_75, if_neg c_76, if_neg c_77], ht9⟩) hS.2.2 d_M_may_554
                                          · refine lv_ldc2 hx hb hown (ht _ tw_657) d_M_may_534 ?_
                                            refine lv_goto (tgt := 543) hx hb d_M_may_537 (by decide) ?_
                                            refine rcS (As := [.long v9.toInt64, .long 0, .long 1048576]) (rest := []) (c_M_in l dC dI tb v9.toInt64 0 1048576 ) F tw_598 tw_34 tw_597 tw_596 hP [] rfl hK [] rfl hE hS hd_M_in rfl rfl ⟨Nat.le_of_ble_eq_true rfl, Nat.le_of_ble_eq_true rfl⟩ ⟨Nat.le_of_ble_eq_true rfl, Nat.le_of_ble_eq_true rfl⟩ hl.1 rfl (Nat.le_of_ble_eq_true rfl) d_M_may_543 ?_
                                            refine lv_if_eq (tgt := 553) hx hb d_M_may_546 (by decide) (fun c_78 => ?_) (fun c_78 => ?_)
                                            · refine lv_iconst (v := 0) hx hb d_M_may_553 (by decide) ?_
                                              exact W.zret hx hb hr (rfl) (fun t ht9 hW => ⟨_, rfl, by simp only [mayM, if_neg sv_27, if_neg sv_33, if_neg sv_34, if_neg sv_35, if_neg sv_40, if_neg sv_43, if_neg sv_46, if_neg sv_48, if_neg sv_49, if_neg sv_51, if_neg sv_52, if_neg sv_55, if_neg sv_56, if_neg sv_57, if_neg sv_59, if_neg sv_62, if_neg sv_71, if_neg sv_73, if_pos sv_74, if_neg c_75, if_pos c_76, if_pos c_78], ht9⟩) hS.2.2 d_M_may_554
                                            · refine lv_iconst (v := 1) hx hb d_M_may_549 (by decide) ?_
                                              refine lv_goto (tgt := 554) hx hb d_M_may_550 (by decide) ?_
                                              exact W.zret hx hb hr (rfl) (fun t ht9 hW => ⟨_, rfl, by simp only [mayM, if_neg sv_27, if_neg sv_33, if_neg sv_34, if_neg sv_35, if_neg sv_40, if_neg sv_43, if_neg sv_46, if_neg sv_48, if_neg sv_49, if_neg sv_51, if_neg sv_52, if_neg sv_55, if_neg sv_56, if_neg sv_57, if_neg sv_59, if_neg sv_62, if_neg sv_71, if_neg sv_73, if_pos sv_74, if_neg c_75, if_pos c_76, if_neg c_78], ht9⟩) hS.2.2 d_M_may_554
                                      · skip
                                        by_cases sv_79 : d9 = 23
                                        · refine lv_tab (off := 554) (tgt := 555) hx hb d_M_may_1 (by decide) (by rw [sv_79]; decide +kernel) (by decide) ?_
                                          refine lv_iload_n hx hb d_M_may_555 rfl (lv_at hl 2 rfl) ?_
                                          refine lv_i2l (v := v9.toInt64) hx hb d_M_may_556 rfl ?_
                                          refine lv_lconst (v := 0) hx hb d_M_may_557 (by decide) ?_
                                          refine lv_ldc2 hx hb hown (ht _ tw_657) d_M_may_558 ?_
                                          refine rcS (As := [.long v9.toInt64, .long 0, .long 1048576]) (rest := []) (c_M_in l dC dI tb v9.toInt64 0 1048576 ) F tw_598 tw_34 tw_597 tw_596 hP [] rfl hK [] rfl hE hS hd_M_in rfl rfl ⟨Nat.le_of_ble_eq_true rfl, Nat.le_of_ble_eq_true rfl⟩ ⟨Nat.le_of_ble_eq_true rfl, Nat.le_of_ble_eq_true rfl⟩ hl.1 rfl (Nat.le_of_ble_eq_true rfl) d_M_may_561 ?_
                                          exact W.zret hx hb hr (nar_inL _ _ _) (fun t ht9 hW => ⟨_, rfl, by simp only [mayM, if_neg sv_27, if_neg sv_33, if_neg sv_34, if_neg sv_35, if_neg sv_40, if_neg sv_43, if_neg sv_46, if_neg sv_48, if_neg sv_49, if_neg sv_51, if_neg sv_52, if_neg sv_55, if_neg sv_56, if_neg sv_57, if_neg sv_59, if_neg sv_62, if_neg sv_71, if_neg sv_73, if_neg sv_74, if_pos sv_79], ht9⟩) hS.2.2 d_M_may_564
                                        · skip
                                          by_cases sv_80 : d9 = 24
                                          · refine lv_tab (off := 564) (tgt := 565) hx hb d_M_may_1 (by decide) (by rw [sv_80]; decide +kernel) (by decide) ?_
                                            refine lv_iload_n hx hb d_M_may_565 rfl (lv_at hl 2 rfl) ?_
                                            refine lv_i2l (v := v9.toInt64) hx hb d_M_may_566 rfl ?_
                                            refine lv_lconst (v := 0) hx hb d_M_may_567 (by decide) ?_
                                            refine lv_ldc2 hx hb hown (ht _ tw_659) d_M_may_568 ?_
                                            refine rcS (As := [.long v9.toInt64, .long 0, .long 3]) (rest := []) (c_M_in l dC dI tb v9.toInt64 0 3 ) F tw_598 tw_34 tw_597 tw_596 hP [] rfl hK [] rfl hE hS hd_M_in rfl rfl ⟨Nat.le_of_ble_eq_true rfl, Nat.le_of_ble_eq_true rfl⟩ ⟨Nat.le_of_ble_eq_true rfl, Nat.le_of_ble_eq_true rfl⟩ hl.1 rfl (Nat.le_of_ble_eq_true rfl) d_M_may_571 ?_
                                            exact W.zret hx hb hr (nar_inL _ _ _) (fun t ht9 hW => ⟨_, rfl, by simp only [mayM, if_neg sv_27, if_neg sv_33, if_neg sv_34, if_neg sv_35, if_neg sv_40, if_neg sv_43, if_neg sv_46, if_neg sv_48, if_neg sv_49, if_neg sv_51, if_neg sv_52, if_neg sv_55, if_neg sv_56, if_neg sv_57, if_neg sv_59, if_neg sv_62, if_neg sv_71, if_neg sv_73, if_neg sv_74, if_neg sv_79, if_pos sv_80], ht9⟩) hS.2.2 d_M_may_574
                                          · skip
                                            have hsw : ∀ b ∈ ([1, 2, 3, 13, 4, 5, 6, 7, 8, 9, 10, 11, 12, 14, 15, 16, 17, 18, 19, 20, 21, 23, 24] : List Int32), ¬ d9 = b := by
                                              intro b9 hb9
                                              simp only [List.mem_cons, List.not_mem_nil, or_false] at hb9
                                              rcases hb9 with rfl | rfl | rfl | rfl | rfl | rfl | rfl | rfl | rfl | rfl | rfl | rfl | rfl | rfl | rfl | rfl | rfl | rfl | rfl | rfl | rfl | rfl | rfl
                                              · exact sv_27
                                              · exact sv_33
                                              · exact fun h9 => sv_34 (Or.inl h9)
                                              · exact fun h9 => sv_34 (Or.inr (h9))
                                              · exact sv_35
                                              · exact sv_40
                                              · exact sv_43
                                              · exact fun h9 => sv_46 (Or.inl h9)
                                              · exact fun h9 => sv_46 (Or.inr (h9))
                                              · exact sv_48
                                              · exact sv_49
                                              · exact sv_51
                                              · exact sv_52
                                              · exact sv_55
                                              · exact sv_56
                                              · exact sv_57
                                              · exact sv_59
                                              · exact sv_62
                                              · exact sv_71
                                              · exact sv_73
                                              · exact sv_74
                                              · exact sv_79
                                              · exact sv_80
                                            refine lv_tab (off := 574) (tgt := 575) hx hb d_M_may_1 (by decide) (sw_def [1, 2, 3, 13, 4, 5, 6, 7, 8, 9, 10, 11, 12, 14, 15, 16, 17, 18, 19, 20, 21, 23, 24] hsw (by decide +kernel) (by decide)) (by decide) ?_
                                            refine lv_iload_n hx hb d_M_may_575 rfl (lv_at hl 1 rfl) ?_
                                            refine lv_if_gt (tgt := 591) hx hb d_M_may_576 (by decide) (fun c_81 => ?_) (fun c_81 => ?_)
                                            · refine lv_iconst (v := 1) hx hb d_M_may_591 (by decide) ?_
                                              refine lv_goto (tgt := 596) hx hb d_M_may_592 (by decide) ?_
                                              exact W.zret hx hb hr (rfl) (fun t ht9 hW => ⟨_, rfl, by simp only [mayM, if_neg sv_27, if_neg sv_33, if_neg sv_34, if_neg sv_35, if_neg sv_40, if_neg sv_43, if_neg sv_46, if_neg sv_48, if_neg sv_49, if_neg sv_51, if_neg sv_52, if_neg sv_55, if_neg sv_56, if_neg sv_57, if_neg sv_59, if_neg sv_62, if_neg sv_71, if_neg sv_73, if_neg sv_74, if_neg sv_79, if_neg sv_80, if_pos c_81], ht9⟩) hS.2.2 d_M_may_596
                                            · refine lv_iload_n hx hb d_M_may_579 rfl (lv_at hl 2 rfl) ?_
                                              refine lv_i2l (v := v9.toInt64) hx hb d_M_may_580 rfl ?_
                                              refine lv_lconst (v := 0) hx hb d_M_may_581 (by decide) ?_
                                              refine lv_ldc2 hx hb hown (ht _ tw_659) d_M_may_582 ?_
                                              refine rcS (As := [.long v9.toInt64, .long 0, .long 3]) (rest := []) (c_M_in l dC dI tb v9.toInt64 0 3 ) F tw_598 tw_34 tw_597 tw_596 hP [] rfl hK [] rfl hE hS hd_M_in rfl rfl ⟨Nat.le_of_ble_eq_true rfl, Nat.le_of_ble_eq_true rfl⟩ ⟨Nat.le_of_ble_eq_true rfl, Nat.le_of_ble_eq_true rfl⟩ hl.1 rfl (Nat.le_of_ble_eq_true rfl) d_M_may_585 ?_
                                              refine lv_if_eq (tgt := 595) hx hb d_M_may_588 (by decide) (fun c_82 => ?_) (fun c_82 => ?_)
                                              · refine lv_iconst (v := 0) hx hb d_M_may_595 (by decide) ?_
                                                exact W.zret hx hb hr (rfl) (fun t ht9 hW => ⟨_, rfl, by simp only [mayM, if_neg sv_27, if_neg sv_33, if_neg sv_34, if_neg sv_35, if_neg sv_40, if_neg sv_43, if_neg sv_46, if_neg sv_48, if_neg sv_49, if_neg sv_51, if_neg sv_52, if_neg sv_55, if_neg sv_56, if_neg sv_57, if_neg sv_59, if_neg sv_62, if_neg sv_71, if_neg sv_73, if_neg sv_74, if_neg sv_79, if_neg sv_80, if_neg c_81, if_pos c_82], ht9⟩) hS.2.2 d_M_may_596
                                              · refine lv_iconst (v := 1) hx hb d_M_may_591 (by decide) ?_
                                                refine lv_goto (tgt := 596) hx hb d_M_may_592 (by decide) ?_
                                                exact W.zret hx hb hr (rfl) (fun t ht9 hW => ⟨_, rfl, by simp only [mayM, if_neg sv_27, if_neg sv_33, if_neg sv_34, if_neg sv_35, if_neg sv_40, if_neg sv_43, if_neg sv_46, if_neg sv_48, if_neg sv_49, if_neg sv_51, if_neg sv_52, if_neg sv_55, if_neg sv_56, if_neg sv_57, if_neg sv_59, if_neg sv_62, if_neg sv_71, if_neg sv_73, if_neg sv_74, if_neg sv_79, if_neg sv_80, if_neg c_81, if_neg c_82], ht9⟩) hS.2.2 d_M_may_596
def rwO (d9 n9 : Int32) : Int32 := 160 * d9 + n9 * cnt d9
set_option maxHeartbeats 4000000 in
set_option maxRecDepth 100000 in
theorem c_M_rowOf (l : Launch) (dC : Nat → ClassId) (dI : Nat → Nat → Nat) (tb : tbT) (d9 n9 : Int32) : RM l y_M_rowOf (Cond.code y_M_rowOf b_M_rowOf 2 (some .int) :: TB) ({ frames := 1, cells := 0, slots := 0, locals := 20 }) tb (dC, dI) [.int d9, .int n9] [] [] (rwO d9 n9) := by
  refine Met.ofW (cc := b_M_rowOf) (maxL := 2) (ret := (some .int)) (by decide) rfl ?_
  intro p e s m args below meth c s₁ B hml hv
  obtain ⟨rfl, hP, hK, hE⟩ := hv
  have hx := B.exec
  have hb := B.bytes
  have hr := B.returns
  have ht := fun w (h : w ∈ TB) => atoms_spec (ws := Cond.code y_M_rowOf b_M_rowOf 2 (some .int) :: TB) B.pre w (List.mem_cons_of_mem _ h)
  have hown : s.vm.findClass R_M = some m.cls := findClass_of_methodNamed B.named
  have hlocks := B.notSynchronized
  have hS : va_S (fun _ => False) s.heap s.heap [] := va_S.rf
  have F : CallFix p m c b_M_rowOf 2 s _ TB R_M := ⟨hx, hb, hml, hown, ht⟩
  have hl := lv_entry ([.int d9, .int n9]) (n := 2) (Nat.le_of_ble_eq_true rfl)
  rw [lg_entry_eq]
  generalize (lg_sl ([.int d9, .int n9]) ++ List.replicate (2 - (lg_sl ([.int d9, .int n9])).length) Slot.unset).toArray = ls at hl ⊢
  have hl : lv_has ls 2 [(0, .int d9), (1, .int n9)] := hl
  refine lv_sipush (v := 160) hx hb d_M_rowOf_0 (by decide) ?_
  refine lv_iload_n hx hb d_M_rowOf_3 rfl (lv_at hl 0 rfl) ?_
  refine lv_imul hx hb d_M_rowOf_4 ?_
  refine lv_iload_n hx hb d_M_rowOf_5 rfl (lv_at hl 1 rfl) ?_
  refine lv_iload_n hx hb d_M_rowOf_6 rfl (lv_at hl 0 rfl) ?_
  refine rcS (As := [.int d9]) (rest := [.int n9, .int (160 * d9)]) (c_M_count l dC dI tb d9 ) F tw_530 tw_34 tw_529 tw_528 hP [] rfl hK [] rfl hE hS hd_M_count rfl rfl ⟨Nat.le_of_ble_eq_true rfl, Nat.le_of_ble_eq_true rfl⟩ ⟨Nat.le_of_ble_eq_true rfl, Nat.le_of_ble_eq_true rfl⟩ hl.1 rfl (Nat.le_of_ble_eq_true rfl) d_M_rowOf_7 ?_
  refine lv_imul hx hb d_M_rowOf_10 ?_
  refine lv_iadd hx hb d_M_rowOf_11 ?_
  exact W.iret hx hb hr (fun t ht9 hW => ⟨_, rfl, rfl, ht9⟩) hS.2.2 d_M_rowOf_12
