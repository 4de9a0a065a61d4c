theorem LI_S {dC : Nat → ClassId} {dI : Nat → Nat → Nat} {s : State} {cI cJ : ClassId} {x me sm to sa wa co cw ru bk y ma qa ba aa ka o : Nat} {H : Heap} {locs : List Loc} (h : LI dC dI s cI cJ x me sm to sa wa co cw ru bk y ma qa ba aa ka o H locs) : va_S (fun q : Nat => s.heap.size ≤ q) s.heap H locs := by
  obtain ⟨_, _, _, _, _, _, _, _, _, _, _, _, _, _, _, _, _, _, _, _, _, _, _, _, _, _, _, _, _, _, _, _, _, _, _, _, _, -, -, -, hS⟩ := h
  exact hS
set_option maxHeartbeats 4000000 in
set_option maxRecDepth 100000 in
/-- the law's loop: after j steps the two sides are alike -/
theorem law_loop {p : Program} {l : Launch} {e : Env} {s : State} {m : MethodId} {below : List Frame} {meth : Method} {c : Code} {b L : Nat} {sc : Nat → Int32} {dC : Nat → ClassId} {dI : Nat → Nat → Nat} {tb : tbT} {xs : Nat → Nat} {cI cJ : ClassId} (E : LE p l s m c b L sc dC dI tb xs cI cJ) (hr : meth.sig.returnType = ret) (hlocks : meth.locks = false) (hL : L ≤ 2048) {x me sm to sa wa co cw ru bk y ma qa ba aa ka o : Nat} :
    ∀ (n j : Nat), 4 * j ≤ L → L + 4 ≤ 4 * (j + n) → ∀ (H : Heap) (locs : List Loc) (ls : Array Slot), LI dC dI s cI cJ x me sm to sa wa co cw ru bk y ma qa ba aa ka o H locs → lv_has ls 7 [(0, .ref b), (1, .ref x), (2, .ref y), (3, .ref o), (4, .int (nI (4 * j)))] → W p l e room_1 s m #[Value.ref b] below meth c H locs (17 + j) (21480 + 6 * j) (lw_Z below #[Value.ref b] s) (F0 m 23 ls []) := by
  intro n
  induction n with
  | zero =>
    intro j h1 h2
    exact absurd h2 (by omega)
  | succ n ih =>
    intro j hj hn H locs ls hI hl
    obtain ⟨hx, hb, hml, hown, ht, hXs, hbl, hfl, hK, hE, hX⟩ := id E
    have hS := LI_S hI
    have hbA : ¬ (fun q : Nat => s.heap.size ≤ q) b := Nat.not_le.mpr hbl
    refine lv_iload hx hb d_L_law_23 (lv_at hl 4 rfl) ?_
    refine lv_aload_n hx hb d_L_law_25 rfl (lv_at hl 0 rfl) ?_
    refine va_slen hx hb hXs hbl hbA hS d_L_law_26 ?_
    refine lv_iconst (v := 4) hx hb d_L_law_27 (by decide) ?_
    refine lv_isub hx hb d_L_law_28 ?_
    refine lv_icmp_gt (tgt := 552) hx hb d_L_law_29 (by decide) (fun c1 => ?_) (fun c1 => ?_)
    · refine lv_iconst (v := 1) hx hb d_L_law_552 (by decide) ?_
      refine va_forget (fun q hq => hS.2.2 q hq) ?_
      refine W.widen (k := 601024) (n := 7293034) (by omega) (by omega) ?_
      exact lw_ret hx hb hr hlocks d_L_law_553
    · have hi : 4 * j + 4 ≤ L := by
        have c2 : ¬ (nI L - nI 4 < nI (4 * j)) := c1
        rw [Int32.lt_iff_toInt_lt, pk_sub_toInt (by omega) (by decide), nI_toInt (by omega)] at c2
        omega
      obtain ⟨hi0, -, -, -⟩ := ix_in hL hi
      refine lv_aload_n hx hb d_L_law_32 rfl (lv_at hl 0 rfl) ?_
      refine lv_iload hx hb d_L_law_33 (lv_at hl 4 rfl) ?_
      refine va_sld hx hb hXs hbl hbA hS hi0 d_L_law_35 ?_
      refine lv_bipush (v := 15) hx hb d_L_law_36 (by decide) ?_
      refine lv_iand hx hb d_L_law_38 ?_
      have kk : ∀ (H : Heap) (locs : List Loc) (ls : Array Slot), LI dC dI s cI cJ x me sm to sa wa co cw ru bk y ma qa ba aa ka o H locs → lv_has ls 7 [(0, .ref b), (1, .ref x), (2, .ref y), (3, .ref o), (4, .int (nI (4 * j)))] → W p l e room_1 s m #[Value.ref b] below meth c H locs (17 + j + 1) (21480 + 6 * j + 6) (lw_Z below #[Value.ref b] s) (F0 m 546 ls []) := by
        intro H locs ls hI hl
        refine lv_iinc (v := nI (4 * j) + 4) (lv' := [(4, .int (nI (4 * j) + 4)), (0, .ref b), (1, .ref x), (2, .ref y), (3, .ref o)]) hx hb d_L_law_546 hl (k := 4) rfl rfl (by decide) rfl (fun ls hl => ?_)
        refine lv_goto (tgt := 23) hx hb d_L_law_549 (by decide) ?_
        have e4 : nI (4 * j) + 4 = nI (4 * (j + 1)) := (nI_add (4 * j) 4).trans (congrArg nI (by omega))
        rw [e4] at hl
        have h9 := ih (j + 1) (by omega) (by omega) H locs ls hI (lv_sub hl [1, 2, 3, 4, 0] rfl)
        rw [show 17 + (j + 1) = 17 + j + 1 by omega, show 21480 + 6 * (j + 1) = 21480 + 6 * j + 6 by omega] at h9
        exact h9
      obtain ⟨q, hq, eq⟩ := pk_andE (sc (nI (4 * j)).toNatClampNeg) (m := 15) 4 (by decide)
      rw [eq]
      have hq : q < 16 := hq
      rcases (show q = 0 ∨ q = 1 ∨ q = 2 ∨ q = 3 ∨ q = 4 ∨ q = 5 ∨ q = 6 ∨ q = 7 ∨ q = 8 ∨ q = 9 ∨ q = 10 ∨ q = 11 ∨ q = 12 ∨ q = 13 ∨ q = 14 ∨ q = 15 by omega) with rfl | rfl | rfl | rfl | rfl | rfl | rfl | rfl | rfl | rfl | rfl | rfl | rfl | rfl | rfl | rfl
      · refine lv_tab (off := 49) (tgt := 88) hx hb d_L_law_39 (by decide) (by decide +kernel) (by decide) ?_
        exact lc_word E hL hi (by omega) (by omega) hI hl kk
      · refine lv_tab (off := 117) (tgt := 156) hx hb d_L_law_39 (by decide) (by decide +kernel) (by decide) ?_
        exact lc_frame E hL hi (by omega) (by omega) hI hl kk
      · refine lv_tab (off := 165) (tgt := 204) hx hb d_L_law_39 (by decide) (by decide +kernel) (by decide) ?_
        exact lc_put E hL hi (by omega) (by omega) hI hl kk
      · refine lv_tab (off := 221) (tgt := 260) hx hb d_L_law_39 (by decide) (by decide +kernel) (by decide) ?_
        exact lc_clear E hL hi (by omega) (by omega) hI hl kk
      · refine lv_tab (off := 232) (tgt := 271) hx hb d_L_law_39 (by decide) (by decide +kernel) (by decide) ?_
        exact lc_begin E hL hi (by omega) (by omega) hI hl kk
      · refine lv_tab (off := 271) (tgt := 310) hx hb d_L_law_39 (by decide) (by decide +kernel) (by decide) ?_
        exact lc_next E hL hi (by omega) (by omega) hI hl kk
      · refine lv_tab (off := 315) (tgt := 354) hx hb d_L_law_39 (by decide) (by decide +kernel) (by decide) ?_
        exact lc_argument E hL hi (by omega) (by omega) hI hl kk
      · refine lv_tab (off := 371) (tgt := 410) hx hb d_L_law_39 (by decide) (by decide +kernel) (by decide) ?_
        exact lc_kept E hL hi (by omega) (by omega) hI hl kk
      · refine lv_tab (off := 451) (tgt := 490) hx hb d_L_law_39 (by decide) (by decide +kernel) (by decide) ?_
        exact lc_about E hL hi (by omega) (by omega) hI hl kk
      · refine lv_tab (off := 507) (tgt := 546) hx hb d_L_law_39 (by decide) (by decide +kernel) (by decide) ?_
        exact W.widen (k := 17 + j + 1) (n := 21480 + 6 * j + 6) (by omega) (by omega) (kk H locs ls hI hl)
      · refine lv_tab (off := 507) (tgt := 546) hx hb d_L_law_39 (by decide) (by decide +kernel) (by decide) ?_
        exact W.widen (k := 17 + j + 1) (n := 21480 + 6 * j + 6) (by omega) (by omega) (kk H locs ls hI hl)
      · refine lv_tab (off := 507) (tgt := 546) hx hb d_L_law_39 (by decide) (by decide +kernel) (by decide) ?_
        exact W.widen (k := 17 + j + 1) (n := 21480 + 6 * j + 6) (by omega) (by omega) (kk H locs ls hI hl)
      · refine lv_tab (off := 507) (tgt := 546) hx hb d_L_law_39 (by decide) (by decide +kernel) (by decide) ?_
        exact W.widen (k := 17 + j + 1) (n := 21480 + 6 * j + 6) (by omega) (by omega) (kk H locs ls hI hl)
      · refine lv_tab (off := 507) (tgt := 546) hx hb d_L_law_39 (by decide) (by decide +kernel) (by decide) ?_
        exact W.widen (k := 17 + j + 1) (n := 21480 + 6 * j + 6) (by omega) (by omega) (kk H locs ls hI hl)
      · refine lv_tab (off := 507) (tgt := 546) hx hb d_L_law_39 (by decide) (by decide +kernel) (by decide) ?_
        exact W.widen (k := 17 + j + 1) (n := 21480 + 6 * j + 6) (by omega) (by omega) (kk H locs ls hI hl)
      · refine lv_tab (off := 507) (tgt := 546) hx hb d_L_law_39 (by decide) (by decide +kernel) (by decide) ?_
        exact W.widen (k := 17 + j + 1) (n := 21480 + 6 * j + 6) (by omega) (by omega) (kk H locs ls hI hl)
