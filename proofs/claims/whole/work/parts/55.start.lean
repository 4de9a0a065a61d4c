theorem tl_0 (i : Nat) {w : Cond} (h : (k2_sels lw_privs)[i]? = some w) : w ∈ lw_tbl := List.mem_append_left _ (List.mem_of_getElem? h)
theorem tl_1 (i : Nat) {w : Cond} (h : tables_1_1[i]? = some w) : w ∈ lw_tbl := List.mem_append_right _ (show w ∈ tables_1 from List.mem_append_left _ (List.mem_of_getElem? h))
theorem tl_2 (i : Nat) {w : Cond} (h : tables_1_2[i]? = some w) : w ∈ lw_tbl := List.mem_append_right _ (show w ∈ tables_1 from List.mem_append_right _ (List.mem_append_left _ (List.mem_of_getElem? h)))
theorem tl_3 (i : Nat) {w : Cond} (h : tables_1_3[i]? = some w) : w ∈ lw_tbl := List.mem_append_right _ (show w ∈ tables_1 from List.mem_append_right _ (List.mem_append_right _ (List.mem_of_getElem? h)))
theorem tab_mem {l : List Cond} {a n : Nat} {f : Nat → Cond} (h : (l.drop a).take n = (List.range n).map f) : ∀ j, j < n → f j ∈ l := fun j hj => List.mem_of_mem_drop (List.mem_of_mem_take (by rw [h]; exact List.mem_map.mpr ⟨j, List.mem_range.mpr hj, rfl⟩))
theorem tab_F : ((flatC (Jvm.Cond.and given_1 narrow_1)).drop 36).take 27 = (List.range 27).map (fun j => Cond.eq (Term.elem (Term.static "DrawCommands$Shape" "FIRST" "[I") (.int (Int32.ofNat j))) (.int (tbF j))) := by decide +kernel
theorem ev_F {args : Array Value} {s : State} (hts : ∀ w ∈ lw_tbl, w.before args s = true) (hgv : (Jvm.Cond.and given_1 narrow_1).before args s = true) : ∃ t : Nat, ev_t "FIRST" t 27 tbF (fun q : Nat => s.heap.size ≤ q) s s.heap := by
  have hs := flat_of_before _ hgv
  obtain ⟨t, h1, h2⟩ := va_Tof (tm := (Term.static "DrawCommands$Shape" "FIRST" "[I")) (ty := .int) (N := 27) (f := fun j => .int (tbF j)) (A := (fun q : Nat => s.heap.size ≤ q)) (by decide) (hs _ (by decide +kernel)) (va_eqt (hs (Cond.eq (Term.length (Term.static "DrawCommands$Shape" "FIRST" "[I")) (.int (Int32.ofNat 27))) (by decide +kernel))) (fun j hj => va_eqt (hs _ (tab_mem tab_F j hj))) (fun a h => Nat.not_le.mpr h)
  exact ⟨t, va_Zref (hts _ (tl_1 47 rfl)) (hts _ (tl_1 3 rfl)) h1 (fun a h => Nat.not_le.mpr h), h2⟩
theorem tab_H : ((flatC (Jvm.Cond.and given_1 narrow_1)).drop 7).take 26 = (List.range 26).map (fun j => Cond.eq (Term.elem (Term.static "DrawCommands$Shape" "HOLDERS" "[I") (.int (Int32.ofNat j))) (.int (tbH j))) := by decide +kernel
theorem ev_H {args : Array Value} {s : State} (hts : ∀ w ∈ lw_tbl, w.before args s = true) (hgv : (Jvm.Cond.and given_1 narrow_1).before args s = true) : ∃ t : Nat, ev_t "HOLDERS" t 26 tbH (fun q : Nat => s.heap.size ≤ q) s s.heap := by
  have hs := flat_of_before _ hgv
  obtain ⟨t, h1, h2⟩ := va_Tof (tm := (Term.static "DrawCommands$Shape" "HOLDERS" "[I")) (ty := .int) (N := 26) (f := fun j => .int (tbH j)) (A := (fun q : Nat => s.heap.size ≤ q)) (by decide) (hs _ (by decide +kernel)) (va_eqt (hs (Cond.eq (Term.length (Term.static "DrawCommands$Shape" "HOLDERS" "[I")) (.int (Int32.ofNat 26))) (by decide +kernel))) (fun j hj => va_eqt (hs _ (tab_mem tab_H j hj))) (fun a h => Nat.not_le.mpr h)
  exact ⟨t, va_Zref (hts _ (tl_1 36 rfl)) (hts _ (tl_1 3 rfl)) h1 (fun a h => Nat.not_le.mpr h), h2⟩
theorem tab_A : ((flatC (Jvm.Cond.and given_1 narrow_1)).drop 66).take 258 = (List.range 258).map (fun j => Cond.eq (Term.elem (Term.static "DrawCommands$Shape" "ARGUMENTS" "[I") (.int (Int32.ofNat j))) (.int (tbA j))) := by decide +kernel
theorem ev_A {args : Array Value} {s : State} (hts : ∀ w ∈ lw_tbl, w.before args s = true) (hgv : (Jvm.Cond.and given_1 narrow_1).before args s = true) : ∃ t : Nat, ev_t "ARGUMENTS" t 258 tbA (fun q : Nat => s.heap.size ≤ q) s s.heap := by
  have hs := flat_of_before _ hgv
  obtain ⟨t, h1, h2⟩ := va_Tof (tm := (Term.static "DrawCommands$Shape" "ARGUMENTS" "[I")) (ty := .int) (N := 258) (f := fun j => .int (tbA j)) (A := (fun q : Nat => s.heap.size ≤ q)) (by decide) (hs _ (by decide +kernel)) (va_eqt (hs (Cond.eq (Term.length (Term.static "DrawCommands$Shape" "ARGUMENTS" "[I")) (.int (Int32.ofNat 258))) (by decide +kernel))) (fun j hj => va_eqt (hs _ (tab_mem tab_A j hj))) (fun a h => Nat.not_le.mpr h)
  exact ⟨t, va_Zref (hts _ (tl_1 71 rfl)) (hts _ (tl_1 3 rfl)) h1 (fun a h => Nat.not_le.mpr h), h2⟩
theorem nwL_in : ∀ w ∈ nwL, w ∈ lw_tbl := by
  intro w hw
  simp only [nwL, List.mem_cons, List.not_mem_nil, or_false] at hw
  rcases hw with rfl | rfl | rfl | rfl | rfl | rfl | rfl | rfl | rfl | rfl | rfl | rfl | rfl | rfl | rfl | rfl | rfl | rfl | rfl
  · exact tl_1 29 rfl
  · exact tl_1 37 rfl
  · exact tl_1 63 rfl
  · exact tl_1 91 rfl
  · exact tl_1 92 rfl
  · exact tl_1 94 rfl
  · exact tl_1 95 rfl
  · exact tl_1 115 rfl
  · exact tl_1 117 rfl
  · exact tl_1 119 rfl
  · exact tl_1 121 rfl
  · exact tl_1 123 rfl
  · exact tl_1 125 rfl
  · exact tl_1 127 rfl
  · exact tl_1 129 rfl
  · exact tl_2 146 rfl
  · exact tl_2 156 rfl
  · exact tl_2 196 rfl
  · exact tl_2 213 rfl
theorem ev_start {args : Array Value} {s : State} (hts : ∀ w ∈ lw_tbl, w.before args s = true) (hgv : (Jvm.Cond.and given_1 narrow_1).before args s = true) : ∃ tb : tbT, ev tb (fun q : Nat => s.heap.size ≤ q) s s.heap := by
  obtain ⟨t1, h1⟩ := ev_F hts hgv
  obtain ⟨t2, h2⟩ := ev_H hts hgv
  obtain ⟨t3, h3⟩ := ev_A hts hgv
  exact ⟨(t1, t2, t3), fun w hw => va_Nw.of (List.all_eq_true.mp nwL_tab w hw) (hts w (nwL_in w hw)), h1, h2, h3⟩
theorem vk_mk {args : Array Value} {s : State} {own tx : String} {k : Nat} {cur : ClassId} (hcur : s.vm.findClass own = some cur) (h : (Cond.stringRef own k tx).before args s = true) : ∃ a : Nat, vk_R own k tx a s := by
  obtain ⟨_, _, _, a, -, -, -, -, -, hev⟩ := Cond.stringRef_spec hcur h
  exact ⟨a, vk_R.of h hev⟩
theorem cast_0 {args : Array Value} {s : State} {X Y : String} (h : (Cond.castable X Y).before args s = true) : (Cond.castable X Y).before #[] s = true := cast_warm (Vm.Alike.refl _) h
theorem evX_start {args : Array Value} {s : State} {cur : ClassId} (hcur : s.vm.findClass "DrawCommands" = some cur) (hts : ∀ w ∈ lw_tbl, w.before args s = true) (hgv : (Jvm.Cond.and given_1 narrow_1).before args s = true) : ∃ xs : Nat → Nat, evX xs (fun q : Nat => s.heap.size ≤ q) s s.heap := by
  have hs := flat_of_before _ hgv
  obtain ⟨a0, h0⟩ := vk_mk hcur (hts (.stringRef "DrawCommands" 49 "there is no such word of memory") (tl_2 6 rfl))
  obtain ⟨a1, h1⟩ := vk_mk hcur (hts (.stringRef "DrawCommands" 64 "a frame is 1 to 128 wide and high") (tl_2 52 rfl))
  obtain ⟨a2, h2⟩ := vk_mk hcur (hts (.stringRef "DrawCommands" 69 "the stream is full") (tl_2 76 rfl))
  obtain ⟨a3, h3⟩ := vk_mk hcur (hts (.stringRef "DrawCommands" 84 "the run is over") (tl_2 100 rfl))
  obtain ⟨a4, h4⟩ := vk_mk hcur (hts (.stringRef "DrawCommands" 108 "there is no such argument") (tl_2 226 rfl))
  obtain ⟨a5, h5⟩ := vk_mk hcur (hts (.stringRef "DrawCommands" 122 "nothing such is kept") (tl_2 235 rfl))
  obtain ⟨a6, h6⟩ := vk_mk hcur (hts (.stringRef "DrawCommands" 142 "nothing is told about that") (tl_3 4 rfl))
  refine ⟨fun i => if i = 0 then a0 else if i = 1 then a1 else if i = 2 then a2 else if i = 3 then a3 else if i = 4 then a4 else if i = 5 then a5 else a6, ?_, ?_, ?_, ?_⟩
  · intro X hX
    simp only [exL, List.mem_cons, List.not_mem_nil, or_false] at hX
    rcases hX with rfl | rfl | rfl | rfl
    · exact cast_0 (hts (.castable "java/lang/IndexOutOfBoundsException" "java/lang/IndexOutOfBoundsException") (tl_1 206 rfl))
    · exact cast_0 (hts (.castable "java/lang/IllegalArgumentException" "java/lang/IllegalArgumentException") (tl_2 45 rfl))
    · exact cast_0 (hts (.castable "java/lang/UnsupportedOperationException" "java/lang/UnsupportedOperationException") (tl_2 69 rfl))
    · exact cast_0 (hts (.castable "java/lang/IllegalStateException" "java/lang/IllegalStateException") (tl_2 93 rfl))
  · intro i q hq
    match i, hq with
    | 0, hq => cases hq; exact h0
    | 1, hq => cases hq; exact h1
    | 2, hq => cases hq; exact h2
    | 3, hq => cases hq; exact h3
    | 4, hq => cases hq; exact h4
    | 5, hq => cases hq; exact h5
    | 6, hq => cases hq; exact h6
    | i + 7, hq => simp [stL] at hq
  · exact vx_Zqof (hts _ (tl_1 231 rfl)) (hts _ (tl_1 8 rfl)) (hs _ (by decide +kernel)) (fun a h => Nat.not_le.mpr h)
  · exact vx_Zqof (hts _ (tl_1 233 rfl)) (hts _ (tl_1 8 rfl)) (hs _ (by decide +kernel)) (fun a h => Nat.not_le.mpr h)
set_option maxHeartbeats 4000000 in
set_option maxRecDepth 100000 in
/-- the law, from its entry -/
theorem whole_start {p : Program} {e : Env} {s : State} {m : MethodId} {below : List Frame} {meth : Method} {c : Code} (l : Launch) (hfl : l.stackTraces = false) {b L : Nat} {xs : Nat → Int32} (hL : L ≤ 2048) (C0 : lw_At p s m meth c b L xs) : W p l e room_1 s m #[Value.ref b] below meth c s.heap [] 0 0 (lw_Z below #[Value.ref b] s) (entryFrame m ([Value.ref b] : List Value).toArray 7) := by
  obtain ⟨hx, hb, hr, hml, hown, hts, hXs, hbl, hlocks, hgv⟩ := C0
  have ht : ∀ w ∈ TB, w.before #[Value.ref b] s = true := fun w h => hts w (TB_in w h)
  have hown : s.vm.findClass R_L = some m.cls := hown
  have hb : c.code = b_L_law := hb
  have hA : ∀ q : Nat, s.heap.size ≤ q → (fun q : Nat => s.heap.size ≤ q) q := fun _ h => h
  obtain ⟨k0, iS0, hKn0⟩ := u_known (C := R_C) (T := F_C) (N := 3) (n := 3) ht tu_C (ht _ tw_111)
  obtain ⟨k1, iS1, hKn1⟩ := u_known (C := R_R) (T := F_R) (N := 9) (n := 9) ht tu_R (ht _ tw_131)
  obtain ⟨k2, iS2, hKn2⟩ := u_known (C := R_T) (T := F_T) (N := 2) (n := 2) ht tu_T (ht _ tw_51)
  obtain ⟨k3, iS3, hKn3⟩ := u_known (C := R_D) (T := F_D) (N := 8) (n := 8) ht tu_D (ht _ tw_43)
  obtain ⟨k4, iS4, hKn4⟩ := u_known (C := R_M) (T := F_M) (N := 18) (n := 18) ht tu_M (ht _ tw_513)
  obtain ⟨dC, dI, hKc⟩ : ∃ (dC : Nat → ClassId) (dI : Nat → Nat → Nat), ∀ (k : Nat) (q : vw_C), clX[k]? = some q → u_Kn s q.1 q.2.1 q.2.2 (dC k) (dI k) := by
    refine ⟨fun k => if k = 0 then k0 else if k = 1 then k1 else if k = 2 then k2 else if k = 3 then k3 else k4, fun k => if k = 0 then iS0 else if k = 1 then iS1 else if k = 2 then iS2 else if k = 3 then iS3 else iS4, ?_⟩
    intro k q hq
    match k, hq with
    | 0, hq => cases hq; exact hKn0
    | 1, hq => cases hq; exact hKn1
    | 2, hq => cases hq; exact hKn2
    | 3, hq => cases hq; exact hKn3
    | 4, hq => cases hq; exact hKn4
    | k + 5, hq => simp [clX] at hq
  obtain ⟨tb, hE⟩ := ev_start hts hgv
  obtain ⟨zs, hX⟩ := evX_start hKn3.2.1 hts hgv
  have hS : va_S (fun q : Nat => s.heap.size ≤ q) s.heap s.heap [] := va_S.rf
  have hK : va_K (dC, dI) clX [] s := ⟨hKc, fun k q h => by simp at h⟩
  have hP : va_P (dC, dI) clX [] s.heap := fun k q h => by simp at h
  have hD : va_D (fun q : Nat => s.heap.size ≤ q) [] := ⟨fun i j p q h => by simp at h, fun k q h => by simp at h⟩
  have F : CallFix p m c b_L_law 7 s #[Value.ref b] TB R_L := ⟨hx, hb, hml, hown, ht⟩
  have hl := lv_entry ([.ref b]) (n := 7) (Nat.le_of_ble_eq_true rfl)
  rw [lg_entry_eq]
  generalize (lg_sl ([.ref b]) ++ List.replicate (7 - (lg_sl ([.ref b])).length) Slot.unset).toArray = ls at hl ⊢
  have hl : lv_has ls 7 [(0, .ref b)] := hl
  refine va_new (ci := 3) (fs := [.null, .null, .null, .null, .null, .int 0, .int 0, .int 0]) (C := R_D) (T := F_D) (N := 8) hx hb ht tu_D ft_D ft_D_ok hown (ht _ tw_42) (ht _ tw_43) (ht _ tw_28) hK hP hD hS hA rfl (fun j hj => by rcases (show j = 0 ∨ j = 1 ∨ j = 2 ∨ j = 3 ∨ j = 4 ∨ j = 5 ∨ j = 6 ∨ j = 7 by omega) with rfl | rfl | rfl | rfl | rfl | rfl | rfl | rfl <;> rfl) (Nat.le_of_ble_eq_true rfl) (Nat.le_of_ble_eq_true rfl) d_L_law_0 (fun q0 H hP hD hS => ?_)
  have hP : va_P (dC, dI) clX [(q0, .inr (3, [.null, .null, .null, .null, .null, .int 0, .int 0, .int 0]))] H := hP
  have hD : va_D (fun q : Nat => s.heap.size ≤ q) [(q0, .inr (3, [.null, .null, .null, .null, .null, .int 0, .int 0, .int 0]))] := hD
  refine W.widen (k := 1) (n := 8) (Nat.le_of_ble_eq_true rfl) (Nat.le_of_ble_eq_true rfl) ?_
  refine lv_dup hx hb d_L_law_3 rfl ?_
  refine ncI (As := []) (rest := [.ref q0]) (wr := []) (c_D_init l dC dI tb q0) F tw_46 tw_28 tw_45 tw_44 rfl hP hD [0] [] rfl rfl (by decide) (by decide) (by decide) hK [] rfl hE hS hA hd_D_init rfl rfl ⟨Nat.le_of_ble_eq_true rfl, Nat.le_of_ble_eq_true rfl⟩ ⟨Nat.le_of_ble_eq_true rfl, Nat.le_of_ble_eq_true rfl⟩ hl.1 rfl (Nat.le_of_ble_eq_true rfl) d_L_law_4 (fun u4 H locs hP hD hK hS => ?_)
  obtain ⟨me_4, sm_4, to_4, sa_4, wa_4, co_4, cw_4, ru_4, bk_4, cI_4⟩ := u4
  obtain ⟨cI, rfl⟩ : ∃ z, z = cI_4 := ⟨_, rfl⟩
  have hK : va_K (dC, dI) clX [(cI, .int)] s := hK
  have hP : va_P (dC, dI) clX [(q0, .inr (3, [.ref me_4, .ref sm_4, .ref to_4, .ref co_4, .ref ru_4, .int 0, .int 1, .int 1])), (me_4, .inl (cI, 4096, .inl zF)), (sm_4, .inl (cI, 4096, .inl zF)), (to_4, .inr (2, [.ref sa_4, .ref wa_4])), (sa_4, .inl (cI, 26, .inl sfC)), (wa_4, .inl (cI, 303, .inl (fgA sfC zF))), (co_4, .inr (0, [.ref cw_4, .int 0, .int 0])), (cw_4, .inl (cI, 258, .inl zF)), (ru_4, .inr (1, [.ref bk_4, .int 0, .int 0, .int (-1), .int (-1), .int 0, .int 0, .int (-1), .int 0])), (bk_4, .inl (cI, 4, .inl zF))] H := hP
  have hD : va_D (fun q : Nat => s.heap.size ≤ q) [(q0, .inr (3, [.ref me_4, .ref sm_4, .ref to_4, .ref co_4, .ref ru_4, .int 0, .int 1, .int 1])), (me_4, .inl (cI, 4096, .inl zF)), (sm_4, .inl (cI, 4096, .inl zF)), (to_4, .inr (2, [.ref sa_4, .ref wa_4])), (sa_4, .inl (cI, 26, .inl sfC)), (wa_4, .inl (cI, 303, .inl (fgA sfC zF))), (co_4, .inr (0, [.ref cw_4, .int 0, .int 0])), (cw_4, .inl (cI, 258, .inl zF)), (ru_4, .inr (1, [.ref bk_4, .int 0, .int 0, .int (-1), .int (-1), .int 0, .int 0, .int (-1), .int 0])), (bk_4, .inl (cI, 4, .inl zF))] := hD
  refine W.widen (k := 10) (n := 8805) (Nat.le_of_ble_eq_true rfl) (Nat.le_of_ble_eq_true rfl) ?_
  refine lv_astore_n (lv' := [(1, .ref q0), (0, .ref b)]) hx hb d_L_law_7 rfl hl (by decide) rfl (fun ls hl => ?_)
  refine va_new (ci := 4) (fs := [.int 0, .null, .int 0, .int 0, .null, .int 0, .int 0, .int 0, .null, .int 0, .int 0, .int 0, .int 0, .int 0, .int 0, .int 0, .null, .null]) (C := R_M) (T := F_M) (N := 18) hx hb ht tu_M ft_M ft_M_ok hown (ht _ tw_512) (ht _ tw_513) (ht _ tw_34) hK hP hD hS hA rfl (fun j hj => by rcases (show j = 0 ∨ j = 1 ∨ j = 2 ∨ j = 3 ∨ j = 4 ∨ j = 5 ∨ j = 6 ∨ j = 7 ∨ j = 8 ∨ j = 9 ∨ j = 10 ∨ j = 11 ∨ j = 12 ∨ j = 13 ∨ j = 14 ∨ j = 15 ∨ j = 16 ∨ j = 17 by omega) with rfl | rfl | rfl | rfl | rfl | rfl | rfl | rfl | rfl | rfl | rfl | rfl | rfl | rfl | rfl | rfl | rfl | rfl <;> rfl) (Nat.le_of_ble_eq_true rfl) (Nat.le_of_ble_eq_true rfl) d_L_law_8 (fun q8 H hP hD hS => ?_)
  have hP : va_P (dC, dI) clX [(q0, .inr (3, [.ref me_4, .ref sm_4, .ref to_4, .ref co_4, .ref ru_4, .int 0, .int 1, .int 1])), (me_4, .inl (cI, 4096, .inl zF)), (sm_4, .inl (cI, 4096, .inl zF)), (to_4, .inr (2, [.ref sa_4, .ref wa_4])), (sa_4, .inl (cI, 26, .inl sfC)), (wa_4, .inl (cI, 303, .inl (fgA sfC zF))), (co_4, .inr (0, [.ref cw_4, .int 0, .int 0])), (cw_4, .inl (cI, 258, .inl zF)), (ru_4, .inr (1, [.ref bk_4, .int 0, .int 0, .int (-1), .int (-1), .int 0, .int 0, .int (-1), .int 0])), (bk_4, .inl (cI, 4, .inl zF)), (q8, .inr (4, [.int 0, .null, .int 0, .int 0, .null, .int 0, .int 0, .int 0, .null, .int 0, .int 0, .int 0, .int 0, .int 0, .int 0, .int 0, .null, .null]))] H := hP
  have hD : va_D (fun q : Nat => s.heap.size ≤ q) [(q0, .inr (3, [.ref me_4, .ref sm_4, .ref to_4, .ref co_4, .ref ru_4, .int 0, .int 1, .int 1])), (me_4, .inl (cI, 4096, .inl zF)), (sm_4, .inl (cI, 4096, .inl zF)), (to_4, .inr (2, [.ref sa_4, .ref wa_4])), (sa_4, .inl (cI, 26, .inl sfC)), (wa_4, .inl (cI, 303, .inl (fgA sfC zF))), (co_4, .inr (0, [.ref cw_4, .int 0, .int 0])), (cw_4, .inl (cI, 258, .inl zF)), (ru_4, .inr (1, [.ref bk_4, .int 0, .int 0, .int (-1), .int (-1), .int 0, .int 0, .int (-1), .int 0])), (bk_4, .inl (cI, 4, .inl zF)), (q8, .inr (4, [.int 0, .null, .int 0, .int 0, .null, .int 0, .int 0, .int 0, .null, .int 0, .int 0, .int 0, .int 0, .int 0, .int 0, .int 0, .null, .null]))] := hD
  refine W.widen (k := 11) (n := 8823) (Nat.le_of_ble_eq_true rfl) (Nat.le_of_ble_eq_true rfl) ?_
  refine lv_dup hx hb d_L_law_11 rfl ?_
  refine ncI (As := []) (rest := [.ref q8]) (wr := [(q0, .inr (3, [.ref me_4, .ref sm_4, .ref to_4, .ref co_4, .ref ru_4, .int 0, .int 1, .int 1])), (me_4, .inl (cI, 4096, .inl zF)), (sm_4, .inl (cI, 4096, .inl zF)), (to_4, .inr (2, [.ref sa_4, .ref wa_4])), (sa_4, .inl (cI, 26, .inl sfC)), (wa_4, .inl (cI, 303, .inl (fgA sfC zF))), (co_4, .inr (0, [.ref cw_4, .int 0, .int 0])), (cw_4, .inl (cI, 258, .inl zF)), (ru_4, .inr (1, [.ref bk_4, .int 0, .int 0, .int (-1), .int (-1), .int 0, .int 0, .int (-1), .int 0])), (bk_4, .inl (cI, 4, .inl zF))]) (c_M_init l dC dI tb q8) F tw_516 tw_34 tw_515 tw_514 rfl hP hD [10] [0, 1, 2, 3, 4, 5, 6, 7, 8, 9] rfl rfl (by decide) (by decide) (by decide) hK [] rfl hE hS hA hd_M_init rfl rfl ⟨Nat.le_of_ble_eq_true rfl, Nat.le_of_ble_eq_true rfl⟩ ⟨Nat.le_of_ble_eq_true rfl, Nat.le_of_ble_eq_true rfl⟩ hl.1 rfl (Nat.le_of_ble_eq_true rfl) d_L_law_12 (fun u12 H locs hP hD hK hS => ?_)
  obtain ⟨ma_12, qa_12, ba_12, aa_12, ka_12, cI_12⟩ := u12
  have e12 : cI = cI_12 := k_same hK (i := 0) (j := 1) rfl rfl
  subst e12
  have hK : va_K (dC, dI) clX [(cI, .int)] s := hK.sub [0] rfl
  have hP : va_P (dC, dI) clX [(q0, .inr (3, [.ref me_4, .ref sm_4, .ref to_4, .ref co_4, .ref ru_4, .int 0, .int 1, .int 1])), (me_4, .inl (cI, 4096, .inl zF)), (sm_4, .inl (cI, 4096, .inl zF)), (to_4, .inr (2, [.ref sa_4, .ref wa_4])), (sa_4, .inl (cI, 26, .inl sfC)), (wa_4, .inl (cI, 303, .inl (fgA sfC zF))), (co_4, .inr (0, [.ref cw_4, .int 0, .int 0])), (cw_4, .inl (cI, 258, .inl zF)), (ru_4, .inr (1, [.ref bk_4, .int 0, .int 0, .int (-1), .int (-1), .int 0, .int 0, .int (-1), .int 0])), (bk_4, .inl (cI, 4, .inl zF)), (q8, .inr (4, [.int 0, .ref ma_12, .int 1, .int 1, .ref qa_12, .int 0, .int 0, .int 0, .ref ba_12, .int 0, .int 0, .int (-1), .int (-1), .int 0, .int (-1), .int 0, .ref aa_12, .ref ka_12])), (ma_12, .inl (cI, 4096, .inl zF)), (qa_12, .inl (cI, 4096, .inl zF)), (ba_12, .inl (cI, 4, .inl zF)), (aa_12, .inl (cI, 300, .inl zF)), (ka_12, .inl (cI, 4160, .inl (noT zF)))] H := hP
  have hD : va_D (fun q : Nat => s.heap.size ≤ q) [(q0, .inr (3, [.ref me_4, .ref sm_4, .ref to_4, .ref co_4, .ref ru_4, .int 0, .int 1, .int 1])), (me_4, .inl (cI, 4096, .inl zF)), (sm_4, .inl (cI, 4096, .inl zF)), (to_4, .inr (2, [.ref sa_4, .ref wa_4])), (sa_4, .inl (cI, 26, .inl sfC)), (wa_4, .inl (cI, 303, .inl (fgA sfC zF))), (co_4, .inr (0, [.ref cw_4, .int 0, .int 0])), (cw_4, .inl (cI, 258, .inl zF)), (ru_4, .inr (1, [.ref bk_4, .int 0, .int 0, .int (-1), .int (-1), .int 0, .int 0, .int (-1), .int 0])), (bk_4, .inl (cI, 4, .inl zF)), (q8, .inr (4, [.int 0, .ref ma_12, .int 1, .int 1, .ref qa_12, .int 0, .int 0, .int 0, .ref ba_12, .int 0, .int 0, .int (-1), .int (-1), .int 0, .int (-1), .int 0, .ref aa_12, .ref ka_12])), (ma_12, .inl (cI, 4096, .inl zF)), (qa_12, .inl (cI, 4096, .inl zF)), (ba_12, .inl (cI, 4, .inl zF)), (aa_12, .inl (cI, 300, .inl zF)), (ka_12, .inl (cI, 4160, .inl (noT zF)))] := hD
  refine W.widen (k := 16) (n := 21479) (Nat.le_of_ble_eq_true rfl) (Nat.le_of_ble_eq_true rfl) ?_
  refine lv_astore_n (lv' := [(2, .ref q8), (1, .ref q0), (0, .ref b)]) hx hb d_L_law_15 rfl hl (by decide) rfl (fun ls hl => ?_)
  refine lv_iconst (v := 1) hx hb d_L_law_16 (by decide) ?_
  refine va_newa (atype := .long) hx hb (ht _ tw_713) (ty := .long) rfl hK hP hD hS hA (a0 := (1, .inr (.inl (fun _ => 0)))) (N' := 1) (fun _ => rfl) (by decide +kernel) (by decide +kernel) (by decide) (Nat.le_of_ble_eq_true rfl) (Nat.le_of_ble_eq_true rfl) d_L_law_17 (fun q17 cJ H hK hP hD hS => ?_)
  have hK : va_K (dC, dI) clX [(cI, .int), (cJ, .long)] s := hK
  have hP : va_P (dC, dI) clX [(q0, .inr (3, [.ref me_4, .ref sm_4, .ref to_4, .ref co_4, .ref ru_4, .int 0, .int 1, .int 1])), (me_4, .inl (cI, 4096, .inl zF)), (sm_4, .inl (cI, 4096, .inl zF)), (to_4, .inr (2, [.ref sa_4, .ref wa_4])), (sa_4, .inl (cI, 26, .inl sfC)), (wa_4, .inl (cI, 303, .inl (fgA sfC zF))), (co_4, .inr (0, [.ref cw_4, .int 0, .int 0])), (cw_4, .inl (cI, 258, .inl zF)), (ru_4, .inr (1, [.ref bk_4, .int 0, .int 0, .int (-1), .int (-1), .int 0, .int 0, .int (-1), .int 0])), (bk_4, .inl (cI, 4, .inl zF)), (q8, .inr (4, [.int 0, .ref ma_12, .int 1, .int 1, .ref qa_12, .int 0, .int 0, .int 0, .ref ba_12, .int 0, .int 0, .int (-1), .int (-1), .int 0, .int (-1), .int 0, .ref aa_12, .ref ka_12])), (ma_12, .inl (cI, 4096, .inl zF)), (qa_12, .inl (cI, 4096, .inl zF)), (ba_12, .inl (cI, 4, .inl zF)), (aa_12, .inl (cI, 300, .inl zF)), (ka_12, .inl (cI, 4160, .inl (noT zF))), (q17, .inl (cJ, 1, .inr (.inl (fun _ => 0))))] H := hP
  have hD : va_D (fun q : Nat => s.heap.size ≤ q) [(q0, .inr (3, [.ref me_4, .ref sm_4, .ref to_4, .ref co_4, .ref ru_4, .int 0, .int 1, .int 1])), (me_4, .inl (cI, 4096, .inl zF)), (sm_4, .inl (cI, 4096, .inl zF)), (to_4, .inr (2, [.ref sa_4, .ref wa_4])), (sa_4, .inl (cI, 26, .inl sfC)), (wa_4, .inl (cI, 303, .inl (fgA sfC zF))), (co_4, .inr (0, [.ref cw_4, .int 0, .int 0])), (cw_4, .inl (cI, 258, .inl zF)), (ru_4, .inr (1, [.ref bk_4, .int 0, .int 0, .int (-1), .int (-1), .int 0, .int 0, .int (-1), .int 0])), (bk_4, .inl (cI, 4, .inl zF)), (q8, .inr (4, [.int 0, .ref ma_12, .int 1, .int 1, .ref qa_12, .int 0, .int 0, .int 0, .ref ba_12, .int 0, .int 0, .int (-1), .int (-1), .int 0, .int (-1), .int 0, .ref aa_12, .ref ka_12])), (ma_12, .inl (cI, 4096, .inl zF)), (qa_12, .inl (cI, 4096, .inl zF)), (ba_12, .inl (cI, 4, .inl zF)), (aa_12, .inl (cI, 300, .inl zF)), (ka_12, .inl (cI, 4160, .inl (noT zF))), (q17, .inl (cJ, 1, .inr (.inl (fun _ => 0))))] := hD
  refine W.widen (k := 17) (n := 21480) (Nat.le_of_ble_eq_true rfl) (Nat.le_of_ble_eq_true rfl) ?_
  refine lv_astore_n (lv' := [(3, .ref q17), (2, .ref q8), (1, .ref q0), (0, .ref b)]) hx hb d_L_law_19 rfl hl (by decide) rfl (fun ls hl => ?_)
  refine lv_iconst (v := 0) hx hb d_L_law_20 (by decide) ?_
  refine lv_istore (lv' := [(4, .int 0), (3, .ref q17), (2, .ref q8), (1, .ref q0), (0, .ref b)]) hx hb d_L_law_21 hl (by decide) rfl (fun ls hl => ?_)
  have E : LE p l s m c b L xs dC dI tb zs cI cJ := ⟨hx, hb, hml, hown, ht, hXs, hbl, hfl, hK, hE, hX⟩
  have hI : LI dC dI s cI cJ q0 me_4 sm_4 to_4 sa_4 wa_4 co_4 cw_4 ru_4 bk_4 q8 ma_12 qa_12 ba_12 aa_12 ka_12 q17 H locs := ⟨0, 1, 1, 0, 0, (-1), (-1), 0, 0, (-1), 0, 0, zF, zF, zF, zF, (fgA sfC zF), 1, 1, 0, 0, 0, 0, 0, (-1), (-1), 0, (-1), 0, zF, zF, zF, zF, (noT zF), 0, 0, (fun _ => 0), Rl_init, hP.sub [0, 1, 2, 3, 4, 5, 6, 7, 8, 9, 10, 11, 12, 13, 14, 15, 16] rfl, hD.sub [0, 1, 2, 3, 4, 5, 6, 7, 8, 9, 10, 11, 12, 13, 14, 15, 16] (by decide) rfl, hS⟩
  have h9 := law_loop (e := e) (below := below) E hr hlocks hL (L + 4) 0 (by omega) (by omega) H locs ls hI (lv_sub hl [4, 3, 2, 1, 0] rfl)
  exact h9
