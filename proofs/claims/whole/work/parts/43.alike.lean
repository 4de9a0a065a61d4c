/-! the states stay alike, call by call -/
section ALIKE
variable {sl fw fh pl dp lp ld dn rf qu ov mn : Int32} {mf qf bf cf wf : IF} {wi hg zs ta de oe re pa ee dq qe ag : Int32} {mF qF bF aF kF : IF}
theorem Rl_word (h : Rl sl fw fh pl dp lp ld dn rf qu ov mn mf qf bf cf wf wi hg zs ta de oe re pa ee dq qe ag mF qF bF aF kF) (k v : Int32) : (wdC mf k v).1 = (wdM mF k v).2.1 ∧ ((wdC mf k v).1 = 0 → (wdC mf k v).2.1 = (wdM mF k v).1) ∧ Rl sl fw fh pl dp lp ld dn rf qu ov mn (wdC mf k v).2.2 qf bf cf wf wi hg zs ta de oe re pa ee dq qe ag (wdM mF k v).2.2 qF bF aF kF := by
  obtain ⟨rfl, rfl, rfl, rfl, rfl, rfl, rfl, rfl, rfl, rfl, rfl, rfl, rfl, rfl, h0⟩ := h
  obtain ⟨s1, s2, s3⟩ := sim_word mF k v
  exact ⟨s1, s2, rfl, rfl, rfl, rfl, rfl, rfl, rfl, rfl, rfl, rfl, rfl, s3.symm, rfl, rfl, h0⟩
theorem Rl_frame (h : Rl sl fw fh pl dp lp ld dn rf qu ov mn mf qf bf cf wf wi hg zs ta de oe re pa ee dq qe ag mF qF bF aF kF) (k v : Int32) : (frC fw fh k v).1 = (frM wi hg k v).1 ∧ Rl sl (frC fw fh k v).2.1 (frC fw fh k v).2.2 pl dp lp ld dn rf qu ov mn mf qf bf cf wf (frM wi hg k v).2.1 (frM wi hg k v).2.2 zs ta de oe re pa ee dq qe ag mF qF bF aF kF := by
  obtain ⟨rfl, rfl, rfl, rfl, rfl, rfl, rfl, rfl, rfl, rfl, rfl, rfl, rfl, rfl, h0⟩ := h
  obtain ⟨s1, s2⟩ := sim_frame wi hg k v
  exact ⟨s1, by rw [s2], by rw [s2], rfl, rfl, rfl, rfl, rfl, rfl, rfl, rfl, rfl, rfl, rfl, rfl, h0⟩
theorem put_z {z : Nat} (hz : z ≤ 4096) (qf : IF) (v : Int32) : ∃ z' : Nat, z' ≤ 4096 ∧ z ≤ z' ∧ (ptC (nI z) qf v).2.2.1 = nI z' := by
  unfold ptC
  by_cases h : z < 4096
  · rw [if_pos (show nI z < 4096 from nI_lt (b := 4096) h (by decide))]
    exact ⟨z + 1, by omega, by omega, nI_1 z⟩
  · have e : z = 4096 := by omega
    subst e
    rw [if_neg (by decide : ¬ nI 4096 < 4096)]
    exact ⟨4096, by omega, by omega, rfl⟩
theorem Rl_put (h : Rl sl fw fh pl dp lp ld dn rf qu ov mn mf qf bf cf wf wi hg zs ta de oe re pa ee dq qe ag mF qF bF aF kF) (v : Int32) : (ptC sl qf v).1 = (ptM zs qF v).2.1 ∧ ((ptC sl qf v).1 = 0 → (ptC sl qf v).2.1 = (ptM zs qF v).1) ∧ (¬ zs = 4096 → vp_in zs 4096) ∧ Rl (ptC sl qf v).2.2.1 fw fh pl dp lp ld dn rf qu ov mn mf (ptC sl qf v).2.2.2 bf cf wf wi hg (ptM zs qF v).2.2.1 ta de oe re pa ee dq qe ag mF (ptM zs qF v).2.2.2 bF aF kF := by
  obtain ⟨rfl, rfl, rfl, rfl, rfl, rfl, rfl, rfl, rfl, rfl, rfl, rfl, rfl, rfl, z, d, c, n, a, hz, rfl, hd, hdp, hc, hdn, hn, hmn, hag, hov, ha, hta, h0, hpl, hb, ht⟩ := h
  obtain ⟨s1, s2, s3, -, s5⟩ := sim_put hz qF v
  obtain ⟨z', hz', hzz, e⟩ := put_z hz qF v
  refine ⟨s1, s2, s5, rfl, rfl, by rw [s3], rfl, rfl, rfl, rfl, rfl, rfl, rfl, rfl, rfl, by rw [s3], rfl, z', d, c, n, a, hz', e, hd, hdp, hc, hdn, hn, hmn, hag, hov, ha, hta, fun w => Nat.le_trans (h0 w) hzz, hpl, fun j hj => ?_, ht⟩
  obtain ⟨b, b1, b2, b3⟩ := hb j hj
  exact ⟨b, b1, b2, fun w => Nat.le_trans (b3 w) hzz⟩
theorem R0_new {z : Nat} (hz : z ≤ 4096) (e : sl = nI z) (ht : toldR wf kF) : R0 sl 0 0 0 0 0 0 bf cf aF wf kF :=
  ⟨z, 0, 0, 0, 0, hz, e, by decide, nI_0.symm, by decide, nI_0.symm, by decide, nI_0.symm, fun j hj => absurd hj (Nat.not_lt_zero j), Or.inl rfl, by decide, nI_0.symm, fun _ => Nat.zero_le z, fun _ => rfl, fun j hj => absurd hj (Nat.not_lt_zero j), ht⟩
theorem Rl_clear (h : Rl sl fw fh pl dp lp ld dn rf qu ov mn mf qf bf cf wf wi hg zs ta de oe re pa ee dq qe ag mF qF bF aF kF) : Rl 0 fw fh 0 0 (-1) (-1) 0 0 (-1) 0 0 mf qf bf cf wf wi hg 0 0 0 0 0 (-1) (-1) 0 (-1) 0 mF qF bF aF kF := by
  obtain ⟨rfl, rfl, rfl, rfl, rfl, rfl, rfl, rfl, rfl, rfl, rfl, rfl, rfl, rfl, z, d, c, n, a, hz, rfl, hd, hdp, hc, hdn, hn, hmn, hag, hov, ha, hta, h0, hpl, hb, ht⟩ := h
  exact ⟨rfl, rfl, rfl, rfl, rfl, rfl, rfl, rfl, rfl, rfl, rfl, rfl, rfl, rfl, R0_new (by decide) nI_0.symm ht⟩
theorem Rl_begin (h : Rl sl fw fh pl dp lp ld dn rf qu ov mn mf qf bf cf wf wi hg zs ta de oe re pa ee dq qe ag mF qF bF aF kF) (k : Int32) : Rl sl fw fh 0 0 (-1) (-1) 0 0 (-1) 0 0 mf qf bf cf (if k = 0 then fgA sfC wf else wf) wi hg zs 0 0 0 0 (-1) (-1) 0 (-1) 0 mF qF bF aF (if k = 0 then noT kF else kF) := by
  obtain ⟨rfl, rfl, rfl, rfl, rfl, rfl, rfl, rfl, rfl, rfl, rfl, rfl, rfl, rfl, z, d, c, n, a, hz, rfl, hd, hdp, hc, hdn, hn, hmn, hag, hov, ha, hta, h0, hpl, hb, ht⟩ := h
  refine ⟨rfl, rfl, rfl, rfl, rfl, rfl, rfl, rfl, rfl, rfl, rfl, rfl, rfl, rfl, R0_new hz rfl ?_⟩
  by_cases e : k = 0
  · rw [if_pos e, if_pos e]; exact toldR_untold _ _
  · rw [if_neg e, if_neg e]; exact ht
theorem Rl_argument (h : Rl sl fw fh pl dp lp ld dn rf qu ov mn mf qf bf cf wf wi hg zs ta de oe re pa ee dq qe ag mF qF bF aF kF) (k : Int32) : (arC mn cf k).1 = (arM ag aF k).2 ∧ ((arC mn cf k).1 = 0 → (arC mn cf k).2 = (arM ag aF k).1) ∧ (¬ inL k.toInt64 0 (ag - 1).toInt64 = 0 → vp_in k 300) := by
  obtain ⟨rfl, rfl, rfl, rfl, rfl, rfl, rfl, rfl, rfl, rfl, rfl, rfl, rfl, rfl, z, d, c, n, a, hz, rfl, hd, hdp, hc, hdn, hn, hmn, hag, hov, ha, hta, h0, hpl, hb, ht⟩ := h
  subst hmn
  exact sim_argument hn hag k
theorem Rl_kept (h : Rl sl fw fh pl dp lp ld dn rf qu ov mn mf qf bf cf wf wi hg zs ta de oe re pa ee dq qe ag mF qF bF aF kF) (d9 n9 k : Int32) : (kpC sfC wf d9 n9 k).1 = (kpM kF d9 n9 k).2 ∧ ((kpC sfC wf d9 n9 k).1 = 0 → (kpC sfC wf d9 n9 k).2 = (kpM kF d9 n9 k).1) ∧ (¬ inL d9.toInt64 0 25 = 0 → ¬ n9 < 0 → ¬ mny d9 ≤ n9 → ¬ k < 0 → ¬ cnt d9 ≤ k → vp_in (rwO d9 n9 + k) 4160) := by
  obtain ⟨rfl, rfl, rfl, rfl, rfl, rfl, rfl, rfl, rfl, rfl, rfl, rfl, rfl, rfl, z, d, c, n, a, hz, rfl, hd, hdp, hc, hdn, hn, hmn, hag, hov, ha, hta, h0, hpl, hb, ht⟩ := h
  exact sim_kept ht d9 n9 k
theorem Rl_about (h : Rl sl fw fh pl dp lp ld dn rf qu ov mn mf qf bf cf wf wi hg zs ta de oe re pa ee dq qe ag mF qF bF aF kF) (k : Int32) : (abC sl lp ld dn rf qu ov k).1 = (abM oe re pa ee dq qe zs k).2 ∧ ((abC sl lp ld dn rf qu ov k).1 = 0 → (abC sl lp ld dn rf qu ov k).2 = (abM oe re pa ee dq qe zs k).1) := by
  obtain ⟨rfl, rfl, rfl, rfl, rfl, rfl, rfl, rfl, rfl, rfl, rfl, rfl, rfl, rfl, h0⟩ := h
  exact sim_about zs pa ee dq re qe oe k
theorem Rl_init : Rl 0 1 1 0 0 (-1) (-1) 0 0 (-1) 0 0 zF zF zF zF (fgA sfC zF) 1 1 0 0 0 0 0 (-1) (-1) 0 (-1) 0 zF zF zF zF (noT zF) := ⟨rfl, rfl, rfl, rfl, rfl, rfl, rfl, rfl, rfl, rfl, rfl, rfl, rfl, rfl, R0_new (by decide) nI_0.symm (toldR_untold _ _)⟩
end ALIKE
theorem out_eq {f v w : Int32} {of : Nat → Int64} (h0 : f = 0) (h : f = 0 → v = w) : lg_cmp ((if f = 1 then of else vp_updL of (0 : Int32).toNatClampNeg v.toInt64) (0 : Int32).toNatClampNeg) w.toInt64 = 0 := by
  subst h0
  rw [h rfl, if_neg ne01, cmp_0]
  exact if_pos rfl
theorem ix_in {i L : Nat} (hL : L ≤ 2048) (hi : i + 4 ≤ L) : vp_in (nI i) L ∧ vp_in (nI i + (1 : Int32)) L ∧ vp_in (nI i + (2 : Int32)) L ∧ vp_in (nI i + (3 : Int32)) L := by
  refine ⟨vp_in_nI (by omega) (by omega), ?_, ?_, ?_⟩
  · show vp_in (nI i + nI 1) L
    rw [nI_add]; exact vp_in_nI (by omega) (by omega)
  · show vp_in (nI i + nI 2) L
    rw [nI_add]; exact vp_in_nI (by omega) (by omega)
  · show vp_in (nI i + nI 3) L
    rw [nI_add]; exact vp_in_nI (by omega) (by omega)
section LCS
variable {p : Program} {l : Launch} {e : Env} {R : Room} {s : State} {m : MethodId} {args : Array Value} {below : List Frame} {meth : Method} {c : Code} {H : Heap} {locs : List Loc} {cells slots : Nat} {Q : State → Prop}
variable {cc : ByteArray} {pc nL : Nat} {ls : Array Slot} {rest st0 As : List Value} {D : va_G} {A : Nat → Prop} {tb : tbT} {xs : Nat → Nat} {tys tc : List (ClassId × FieldType)} {ws wc wr wc' : va_W}
variable {y : MethodName} {bytes : ByteArray} {maxL index : Nat} {ret : Option FieldType} {rm : Room} {own : String} {res : Int32} {hh : List (Nat × Nat × Nat × Nat)}
/-- a wrapper of the law is called -/
theorem lcS (hM : ∀ sz, LW l y (Cond.codeWith y bytes maxL ret hh :: TB) rm tb xs D As wc wc' tc sz res) (F : CallFix p m c cc nL s args TB own) (hcode : Cond.codeWith y bytes maxL ret hh ∈ TB) (hini : Cond.initialized y.cls ∈ TB) (hst : Cond.static y ∈ TB) (hl : Cond.methodLink own index y ∈ TB)
    (hP : va_P D clX ws H) (hD : va_D A ws) (isC isR : List Nat) (hC : isC.map (fun i => ws[i]?) = wc.map some) (hRr : isR.map (fun i => ws[i]?) = wr.map some) (hn : va_nd isC = true) (hnR : va_nd isR = true) (hdis : ∀ i ∈ isR, i ∉ isC) (hK : va_K D clX tys s) (ti : List Nat) (hti : ti.filterMap (fun i => tys[i]?) = tc) (hE : ev tb A s s.heap) (hX : evX xs A s s.heap) (hS : va_S A s.heap H locs) (hA : ∀ q, s.heap.size ≤ q → A q)
    (hd : (y.cls ≠ "java/lang/invoke/MethodHandle" ∧ y.cls ≠ "java/lang/invoke/VarHandle" ∧ (parseMethodDescriptor y.desc).map (fun d => d.parameters.length) = some As.length)) (hrc : rm.cells = 1) (hrs : rm.slots = 6) (hR : rm.frames + 1 ≤ R.frames ∧ 8 + (maxL + 11) + rm.locals ≤ R.locals) (hcs : cells + 1 ≤ R.cells ∧ slots + 6 ≤ R.slots)
    (hsz : ls.size = nL) (hstk : st0 = As.reverse ++ rest) (hrm : (rest.map fun v => v.category).sum ≤ 8) (hdg : decode cc pc = .ok (.invokestatic index, 3))
    (kk : ∀ (H1 : Heap) (locs1 : List Loc), va_P D clX (wr ++ wc') H1 → va_D A (wr ++ wc') → va_S A s.heap H1 locs1 → W p l e R s m args below meth c H1 locs1 (cells + 1) (slots + 6) Q (F0 m (pc + 3) ls (.int res :: rest))) : W p l e R s m args below meth c H locs cells slots Q (F0 m pc ls st0) := by
  have hlen : ∀ sig, parseMethodDescriptor y.desc = some sig → As.length = sig.parameters.length := fun sig h => by
    have h2 := hd.2.2
    rw [h] at h2
    exact (Option.some.inj h2).symm
  refine va_calli (vx_runSW (hh := hh) (bytes := bytes) (maxL := maxL) (ret := ret) (g := F0 m pc ls st0) F (hM H.size) ⟨⟨hrc, hrs, hR.1, hR.2, pay_in F.2.2.2.2 (tb_gI hcode), List.mem_cons_self⟩, F.2.2.2.2 _ hcode, F.2.2.2.2 _ hini, ⟨hd.1, hd.2.1⟩, hlen, F.2.2.2.2 _ hl, F.2.2.2.2 _ hst⟩ ⟨xP_blind, fun U hU hW => ⟨rfl, mP_at hP hD isC hn hC hK ti hti hE hS hA U hU hW, hX.call hS (va_free (wc := wc) hD hS hA isC hC) hU hW⟩⟩ rfl rfl hsz hstk (lv_room hrm) hdg hcs) hS (fun q9 _ h => va_free (wc := wc) hD hS hA isC hC q9 h) (va_free (wc := wc) hD hS hA isC hC) (fun r u t H1 locs1 ht hvm hw hB hz1 hk1 hS1 => ?_)
  obtain ⟨h1, h2⟩ := m_end hP hD isC isR hn hC hRr hnR hdis hS hA rfl ht hB hk1
  rw [hw]
  exact kk H1 locs1 h1 h2 hS1
end LCS
/-- what holds through the law's loop: the machine, the script, the classes, what never changes -/
def LE (p : Program) (l : Launch) (s : State) (m : MethodId) (c : Code) (b L : Nat) (sc : Nat → Int32) (dC : Nat → ClassId) (dI : Nat → Nat → Nat) (tb : tbT) (xs : Nat → Nat) (cI cJ : ClassId) : Prop := p.tables.exec = Jvm.exec ∧ c.code = b_L_law ∧ c.maxLocals = 7 ∧ s.vm.findClass R_L = some m.cls ∧ (∀ w ∈ TB, w.before #[Value.ref b] s = true) ∧ va_X b L sc s s.heap ∧ b < s.heap.size ∧ l.stackTraces = false ∧ va_K (dC, dI) clX [(cI, .int), (cJ, .long)] s ∧ ev tb (fun q : Nat => s.heap.size ≤ q) s s.heap ∧ evX xs (fun q : Nat => s.heap.size ≤ q) s s.heap
/-- the two sides of the law, alike -/
def LI (dC : Nat → ClassId) (dI : Nat → Nat → Nat) (s : State) (cI cJ : ClassId) (x me sm to sa wa co cw ru bk y ma qa ba aa ka o : Nat) (H : Heap) (locs : List Loc) : Prop :=
  ∃ (sl fw fh pl dp lp ld dn rf qu ov mn : Int32) (mf qf bf cf wf : IF) (wi hg zs ta de oe re pa ee dq qe ag : Int32) (mF qF bF aF kF : IF) (kd th : Int32) (of : Nat → Int64), Rl sl fw fh pl dp lp ld dn rf qu ov mn mf qf bf cf wf wi hg zs ta de oe re pa ee dq qe ag mF qF bF aF kF ∧ va_P (dC, dI) clX [(x, .inr (3, [.ref me, .ref sm, .ref to, .ref co, .ref ru, .int sl, .int fw, .int fh])), (me, .inl (cI, 4096, .inl mf)), (sm, .inl (cI, 4096, .inl qf)), (to, .inr (2, [.ref sa, .ref wa])), (sa, .inl (cI, 26, .inl sfC)), (wa, .inl (cI, 303, .inl wf)), (co, .inr (0, [.ref cw, .int kd, .int mn])), (cw, .inl (cI, 258, .inl cf)), (ru, .inr (1, [.ref bk, .int pl, .int dp, .int lp, .int ld, .int dn, .int rf, .int qu, .int ov])), (bk, .inl (cI, 4, .inl bf)), (y, .inr (4, [.int th, .ref ma, .int wi, .int hg, .ref qa, .int zs, .int ta, .int de, .ref ba, .int oe, .int re, .int pa, .int ee, .int dq, .int qe, .int ag, .ref aa, .ref ka])), (ma, .inl (cI, 4096, .inl mF)), (qa, .inl (cI, 4096, .inl qF)), (ba, .inl (cI, 4, .inl bF)), (aa, .inl (cI, 300, .inl aF)), (ka, .inl (cI, 4160, .inl kF)), (o, .inl (cJ, 1, .inr (.inl of)))] H ∧ va_D (fun q : Nat => s.heap.size ≤ q) [(x, .inr (3, [.ref me, .ref sm, .ref to, .ref co, .ref ru, .int sl, .int fw, .int fh])), (me, .inl (cI, 4096, .inl mf)), (sm, .inl (cI, 4096, .inl qf)), (to, .inr (2, [.ref sa, .ref wa])), (sa, .inl (cI, 26, .inl sfC)), (wa, .inl (cI, 303, .inl wf)), (co, .inr (0, [.ref cw, .int kd, .int mn])), (cw, .inl (cI, 258, .inl cf)), (ru, .inr (1, [.ref bk, .int pl, .int dp, .int lp, .int ld, .int dn, .int rf, .int qu, .int ov])), (bk, .inl (cI, 4, .inl bf)), (y, .inr (4, [.int th, .ref ma, .int wi, .int hg, .ref qa, .int zs, .int ta, .int de, .ref ba, .int oe, .int re, .int pa, .int ee, .int dq, .int qe, .int ag, .ref aa, .ref ka])), (ma, .inl (cI, 4096, .inl mF)), (qa, .inl (cI, 4096, .inl qF)), (ba, .inl (cI, 4, .inl bF)), (aa, .inl (cI, 300, .inl aF)), (ka, .inl (cI, 4160, .inl kF)), (o, .inl (cJ, 1, .inr (.inl of)))] ∧ va_S (fun q : Nat => s.heap.size ≤ q) s.heap H locs
