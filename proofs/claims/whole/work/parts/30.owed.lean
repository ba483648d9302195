/-! what is owed -/
def i_Rel (k : Nat) (u : SX) (v : SY) : Prop := ra_RR (1300 * k) u v
theorem i_up {k : Nat} {u : SX} {v : SY} (h : i_Rel k u v) : i_Rel (k + 7) u v := ra_RR_mono h (by omega)
theorem ra_R0 : ra_RR 0 (0, (fun j => if j < 10 then nI j else 0), fun _ => 0, fun _ => 0, fun _ => 0, fun _ => 0, fun _ => 0, fun _ => 0, fun _ => 0, fun _ => 0, fun _ => 0, fun _ => 0, fun _ => 0, fun _ => 0, fun _ => 0, fun _ => 0, fun _ => 0, fun _ => 0, fun _ => 0, fun _ => 0, fun _ => 0, fun _ => 0, fun _ => 0, fun _ => 0, fun _ => 0, fun _ => 0, fun _ => 0, fun _ => 0, fun _ => 0, fun _ => 0, fun _ => 0, fun _ => 0, fun _ => 0, fun _ => 0, fun _ => 0) (0, 0, fun _ => 0, fun _ => 0, fun _ => 0, fun _ => 0, fun _ => 0, fun _ => 0, fun _ => 0, fun _ => 0, fun _ => 0, fun _ => 0, fun _ => 0, fun _ => 0, fun _ => 0, fun _ => 0, fun _ => 0, fun _ => 0, fun _ => 0, fun _ => 0, fun _ => 0, fun _ => 0, fun _ => 0, fun _ => 0, fun _ => 0, fun _ => 0, fun _ => 0, fun _ => 0, fun _ => 0, fun _ => 0, fun _ => 0, fun _ => 0, fun _ => 0, fun _ => 0, fun _ => 0, fun _ => 0, fun _ => 0, fun _ => 0, fun _ => 0) := by
  refine ⟨0, 0, 0, fun _ => 0, fun _ => 0, fun _ => 0, fun _ => 0, fun _ => 0, fun _ => 0, fun _ => 0, fun _ => 0, fun _ => 0, fun _ => 0, fun _ => 0, fun _ => 0, fun _ => 0, fun _ => 0, fun _ => 0, fun _ => 0, fun _ => 0, fun _ => 0, (fun j => if j < 10 then nI j else 0), fun _ => 0, fun _ => 0, fun _ => 0, fun _ => 0, fun _ => 0, fun _ => 0, fun _ => 0, fun _ => 0, fun _ => 0, fun _ => 0, fun _ => 0, fun _ => 0, fun _ => 0, fun _ => 0, fun _ => 0, fun _ => 0, fun _ => 0, fun _ => 0, fun _ => 0, fun _ => 0, fun _ => 0, fun _ => 0, fun _ => 0, fun _ => 0, fun _ => 0, fun _ => 0, fun _ => 0, fun _ => 0, fun _ => 0, fun _ => 0, fun _ => 0, fun _ => 0, fun _ => 0, fun _ => 0, rfl, rfl, ?_⟩
  refine ⟨fun s hs => ⟨0, Nat.le_refl _, ?_, fun _ => rfl, fun z => absurd rfl z⟩, ⟨Nat.le_refl _, Nat.le_refl _, fun _ => 0, fun _ => 0, fun s hs => ⟨rfl, rfl, Nat.le_refl _, Nat.le_refl _⟩, fun s t _ _ => Iff.rfl⟩, fun s hs => ⟨fun z => absurd z (by decide), fun z => absurd rfl z⟩, fun s hs => ⟨rfl, rfl, rfl⟩, fun s hs => ⟨fun _ k hk => rfl, fun z => absurd rfl z⟩, ⟨fun _ => 0, fun _ => 0, fun p hp => ⟨rfl, Nat.le_refl _⟩, fun j hj => absurd hj (Nat.not_lt_zero _), fun i j _ hj => absurd hj (Nat.not_lt_zero _), fun p hp z => absurd z (Nat.lt_irrefl _)⟩, fun s hs i hi => ⟨fun _ => rfl, fun z => absurd rfl z⟩, ⟨fun k hk => Or.inl ⟨rfl, rfl⟩, fun k k' _ _ z => absurd z (by decide)⟩, fun s hs => Or.inl rfl, ⟨0, Nat.le_refl _, rfl⟩, fun s hs => ⟨⟨0, by omega, rfl⟩, ⟨0, by omega, rfl⟩, ⟨0, by omega, rfl⟩, fun z => absurd rfl z⟩⟩
  show (if s < 10 then nI s else 0) = nI (16 * 0 + s)
  rw [if_pos hs, Nat.mul_zero, Nat.zero_add]
theorem ra_ep_s (i : Nat) (hi : i < 10) : upd (fun j => if j < i then nI j else 0) i (nI i) = fun j => if j < i + 1 then nI j else 0 := by
  funext j
  unfold upd
  by_cases h : j = i
  · rw [if_pos h, if_pos (by omega), h]
  · rw [if_neg h]
    by_cases h2 : j < i
    · rw [if_pos h2, if_pos (by omega)]
    · rw [if_neg h2, if_neg (by omega)]
theorem i_vc0 : wpX_init (fun u => wpY_init (fun v => i_Rel 0 u v)) := by
  obtain ⟨k, hk⟩ := ra_run (fun n i => wX_init_271 (fun u => wpY_init (fun v => i_Rel 0 u v)) 0 n (nI i) (fun j => if j < i then nI j else 0) (fun _ => 0) (fun _ => 0) (fun _ => 0) (fun _ => 0) (fun _ => 0) (fun _ => 0) (fun _ => 0) (fun _ => 0) (fun _ => 0) (fun _ => 0) (fun _ => 0) (fun _ => 0) (fun _ => 0) (fun _ => 0) (fun _ => 0) (fun _ => 0) (fun _ => 0) (fun _ => 0) (fun _ => 0) (fun _ => 0) (fun _ => 0) (fun _ => 0) (fun _ => 0) (fun _ => 0) (fun _ => 0) (fun _ => 0) (fun _ => 0) (fun _ => 0) (fun _ => 0) (fun _ => 0) (fun _ => 0) (fun _ => 0) (fun _ => 0)) 10 (fun n => by
    simp (disch := omega) only [wX_init_271, not_true, not_false_iff, true_implies, false_implies, implies_true, true_and, and_true, forall_eq, eq_self, ra_i, ra_c, ra_m3, ra_m4, ra_m16, ra_4m, ra_14m, ra_16m, nI_add, nI_1, lN_1, ra_p2, ra_2p, ra_n0, ra_p0, ra_q0, ra_q1, ra_q2, ra_q3, ra_n3, ra_n4, ra_n10, ra_n14, ra_n16, ra_n30, ra_n140, ra_y3, ra_y4, ra_y10, ra_y14, ra_y16, ra_y30, ra_y140]
    exact ra_R0) (fun n i hi ih => by
    try dsimp only at ih
    simp (disch := omega) only [wX_init_271, ra_ep_s i hi, not_true, not_false_iff, true_implies, false_implies, implies_true, true_and, and_true, forall_eq, eq_self, ra_i, ra_c, ra_m3, ra_m4, ra_m16, ra_4m, ra_14m, ra_16m, nI_add, nI_1, lN_1, ra_p2, ra_2p, ra_n0, ra_p0, ra_q0, ra_q1, ra_q2, ra_q3, ra_n3, ra_n4, ra_n10, ra_n14, ra_n16, ra_n30, ra_n140, ra_y3, ra_y4, ra_y10, ra_y14, ra_y16, ra_y30, ra_y140]
    exact ih)
  refine ⟨k, ?_⟩
  have e : (fun j => if j < 0 then nI j else 0) = fun _ : Nat => (0 : Int32) := by
    funext j
    exact if_neg (Nat.not_lt_zero _)
  try dsimp only at hk
  rw [e] at hk
  exact hk
theorem i_vc_birth {k : Nat} {u : SX} {v : SY} (I : i_Rel k u v) (hk : k + 7 ≤ 3584) (v1 : Int32) (v2 : Int32) : wpX_birth (fun r u' => wpY_birth (fun r' v' => r' = r ∧ i_Rel (k + 7) u' v') v v1 v2) u v1 v2 := by
  obtain ⟨c, m, n, st, pr, bs, tk, mk, vl, cl, rs, al, wt, wd, tt, sb, pa, du, oft, bg, av, ep, pt, nb, lg, lt, lv, gk, gt, gf, gl, gs, gn, sl, ss, bo, ot, so, sq, go, mo, nt, fr, tw, tx, gr, ge, g1, g2, g3, sv, lf, se, cp, sn, lo, rfl, rfl, h⟩ := I
  obtain ⟨w, u', v', hR, hX, hY⟩ := ra_birth (mk := mk) (vl := vl) (cl := cl) (wt := wt) (wd := wd) (du := du) (oft := oft) (bg := bg) (av := av) (cp := cp) (v1 := v1) (v2 := v2) (by omega) h
  exact hX _ (hY _ ⟨rfl, ra_RR_mono hR (by omega)⟩)
theorem i_vc_end {k : Nat} {u : SX} {v : SY} (I : i_Rel k u v) (hk : k + 7 ≤ 3584) (v1 : Int32) : wpX_end (fun r u' => wpY_end (fun r' v' => r' = r ∧ i_Rel (k + 7) u' v') v v1) u v1 := by
  obtain ⟨c, m, n, st, pr, bs, tk, mk, vl, cl, rs, al, wt, wd, tt, sb, pa, du, oft, bg, av, ep, pt, nb, lg, lt, lv, gk, gt, gf, gl, gs, gn, sl, ss, bo, ot, so, sq, go, mo, nt, fr, tw, tx, gr, ge, g1, g2, g3, sv, lf, se, cp, sn, lo, rfl, rfl, h⟩ := I
  obtain ⟨w, u', v', hR, hX, hY⟩ := ra_end (mk := mk) (vl := vl) (cl := cl) (wt := wt) (wd := wd) (du := du) (oft := oft) (bg := bg) (av := av) (cp := cp) (v1 := v1) (by omega) h
  exact hX _ (hY _ ⟨rfl, ra_RR_mono hR (by omega)⟩)
theorem i_vc_leave {k : Nat} {u : SX} {v : SY} (I : i_Rel k u v) (hk : k + 7 ≤ 3584) : wpX_leave (fun r u' => wpY_leave (fun r' v' => r' = r ∧ i_Rel (k + 7) u' v') v) u := by
  obtain ⟨c, m, n, st, pr, bs, tk, mk, vl, cl, rs, al, wt, wd, tt, sb, pa, du, oft, bg, av, ep, pt, nb, lg, lt, lv, gk, gt, gf, gl, gs, gn, sl, ss, bo, ot, so, sq, go, mo, nt, fr, tw, tx, gr, ge, g1, g2, g3, sv, lf, se, cp, sn, lo, rfl, rfl, h⟩ := I
  obtain ⟨w, u', v', hR, hX, hY⟩ := ra_leave (mk := mk) (vl := vl) (cl := cl) (wt := wt) (wd := wd) (du := du) (oft := oft) (bg := bg) (av := av) (cp := cp) (by omega) h
  exact hX _ (hY _ ⟨rfl, ra_RR_mono hR (by omega)⟩)
theorem i_vc_send {k : Nat} {u : SX} {v : SY} (I : i_Rel k u v) (hk : k + 7 ≤ 3584) (v1 : Int32) (v2 : Int32) : wpX_send (fun r u' => wpY_send (fun r' v' => r' = r ∧ i_Rel (k + 7) u' v') v v1 v2) u v1 v2 := by
  obtain ⟨c, m, n, st, pr, bs, tk, mk, vl, cl, rs, al, wt, wd, tt, sb, pa, du, oft, bg, av, ep, pt, nb, lg, lt, lv, gk, gt, gf, gl, gs, gn, sl, ss, bo, ot, so, sq, go, mo, nt, fr, tw, tx, gr, ge, g1, g2, g3, sv, lf, se, cp, sn, lo, rfl, rfl, h⟩ := I
  obtain ⟨w, u', v', hR, hX, hY⟩ := ra_hand (mk := mk) (vl := vl) (cl := cl) (wt := wt) (wd := wd) (du := du) (oft := oft) (bg := bg) (av := av) (cp := cp) (to := v1) (x := v2) (b := 0) (by omega) h
  have hR' : i_Rel (k + 7) u' v' := ra_RR_mono hR (by omega)
  obtain ⟨c', m', n', st', pr', bs', tk', mk', vl', cl', rs', al', wt', wd', tt', sb', pa', du', oft', bg', av', ep', pt', nb', lg', lt', lv', gk', gt', gf', gl', gs', gn', sl', ss', bo', ot', so', sq', go', mo', nt', fr', tw', tx', gr', ge', g1', g2', g3', sv', lf', se', cp', sn', lo', rfl, rfl, -⟩ := hR
  simp only [wpX_send, wpY_send]
  exact hX _ (hY _ ⟨rfl, hR'⟩)
theorem i_vc_call {k : Nat} {u : SX} {v : SY} (I : i_Rel k u v) (hk : k + 7 ≤ 3584) (v1 : Int32) (v2 : Int32) : wpX_call (fun r u' => wpY_call (fun r' v' => r' = r ∧ i_Rel (k + 7) u' v') v v1 v2) u v1 v2 := by
  obtain ⟨c, m, n, st, pr, bs, tk, mk, vl, cl, rs, al, wt, wd, tt, sb, pa, du, oft, bg, av, ep, pt, nb, lg, lt, lv, gk, gt, gf, gl, gs, gn, sl, ss, bo, ot, so, sq, go, mo, nt, fr, tw, tx, gr, ge, g1, g2, g3, sv, lf, se, cp, sn, lo, rfl, rfl, h⟩ := I
  obtain ⟨w, u', v', hR, hX, hY⟩ := ra_hand (mk := mk) (vl := vl) (cl := cl) (wt := wt) (wd := wd) (du := du) (oft := oft) (bg := bg) (av := av) (cp := cp) (to := v1) (x := v2) (b := 1) (by omega) h
  have hR' : i_Rel (k + 7) u' v' := ra_RR_mono hR (by omega)
  obtain ⟨c', m', n', st', pr', bs', tk', mk', vl', cl', rs', al', wt', wd', tt', sb', pa', du', oft', bg', av', ep', pt', nb', lg', lt', lv', gk', gt', gf', gl', gs', gn', sl', ss', bo', ot', so', sq', go', mo', nt', fr', tw', tx', gr', ge', g1', g2', g3', sv', lf', se', cp', sn', lo', rfl, rfl, -⟩ := hR
  simp only [wpX_call, wpY_call]
  exact hX _ (hY _ ⟨rfl, hR'⟩)
theorem i_vc_receive {k : Nat} {u : SX} {v : SY} (I : i_Rel k u v) (hk : k + 7 ≤ 3584) (v1 : Int32) (v2 : Int32) : wpX_receive (fun r u' => wpY_receive (fun r' v' => r' = r ∧ i_Rel (k + 7) u' v') v v1 (lw_bz v2)) u v1 (lw_bz v2) := by
  obtain ⟨c, m, n, st, pr, bs, tk, mk, vl, cl, rs, al, wt, wd, tt, sb, pa, du, oft, bg, av, ep, pt, nb, lg, lt, lv, gk, gt, gf, gl, gs, gn, sl, ss, bo, ot, so, sq, go, mo, nt, fr, tw, tx, gr, ge, g1, g2, g3, sv, lf, se, cp, sn, lo, rfl, rfl, h⟩ := I
  obtain ⟨w, u', v', hR, hX, hY⟩ := ra_receive (mk := mk) (vl := vl) (cl := cl) (wt := wt) (wd := wd) (du := du) (oft := oft) (bg := bg) (av := av) (cp := cp) (e := v1) (b := lw_bz v2) (by omega) h
  exact hX _ (hY _ ⟨rfl, ra_RR_mono hR (by omega)⟩)
theorem i_vc_note {k : Nat} {u : SX} {v : SY} (I : i_Rel k u v) (hk : k + 7 ≤ 3584) (v1 : Int32) : wpX_note (fun r u' => wpY_note (fun r' v' => r' = r ∧ i_Rel (k + 7) u' v') v v1) u v1 := by
  obtain ⟨c, m, n, st, pr, bs, tk, mk, vl, cl, rs, al, wt, wd, tt, sb, pa, du, oft, bg, av, ep, pt, nb, lg, lt, lv, gk, gt, gf, gl, gs, gn, sl, ss, bo, ot, so, sq, go, mo, nt, fr, tw, tx, gr, ge, g1, g2, g3, sv, lf, se, cp, sn, lo, rfl, rfl, h⟩ := I
  obtain ⟨w, u', v', hR, hX, hY⟩ := ra_note (mk := mk) (vl := vl) (cl := cl) (wt := wt) (wd := wd) (du := du) (oft := oft) (bg := bg) (av := av) (cp := cp) (v1 := v1) (by omega) h
  exact hX _ (hY _ ⟨rfl, ra_RR_mono hR (by omega)⟩)
theorem i_vc_post {k : Nat} {u : SX} {v : SY} (I : i_Rel k u v) (hk : k + 7 ≤ 3584) (v1 : Int32) (v2 : Int32) : wpX_post (fun r u' => wpY_post (fun r' v' => r' = r ∧ i_Rel (k + 7) u' v') v v1 v2) u v1 v2 := by
  obtain ⟨c, m, n, st, pr, bs, tk, mk, vl, cl, rs, al, wt, wd, tt, sb, pa, du, oft, bg, av, ep, pt, nb, lg, lt, lv, gk, gt, gf, gl, gs, gn, sl, ss, bo, ot, so, sq, go, mo, nt, fr, tw, tx, gr, ge, g1, g2, g3, sv, lf, se, cp, sn, lo, rfl, rfl, h⟩ := I
  obtain ⟨w, u', v', hR, hX, hY⟩ := ra_post (mk := mk) (vl := vl) (cl := cl) (wt := wt) (wd := wd) (du := du) (oft := oft) (bg := bg) (av := av) (cp := cp) (to := v1) (x := v2) (by omega) h
  exact hX _ (hY _ ⟨rfl, ra_RR_mono hR (by omega)⟩)
theorem i_vc_lend {k : Nat} {u : SX} {v : SY} (I : i_Rel k u v) (hk : k + 7 ≤ 3584) (v1 : Int32) (v2 : Int32) (v3 : Int32) (v4 : Int32) (v5 : Int32) : wpX_lend (fun r u' => wpY_lend (fun r' v' => r' = r ∧ i_Rel (k + 7) u' v') v v1 v2 v3 v4 v5) u v1 v2 v3 v4 v5 := by
  obtain ⟨c, m, n, st, pr, bs, tk, mk, vl, cl, rs, al, wt, wd, tt, sb, pa, du, oft, bg, av, ep, pt, nb, lg, lt, lv, gk, gt, gf, gl, gs, gn, sl, ss, bo, ot, so, sq, go, mo, nt, fr, tw, tx, gr, ge, g1, g2, g3, sv, lf, se, cp, sn, lo, rfl, rfl, h⟩ := I
  obtain ⟨w, u', v', hR, hX, hY⟩ := ra_lend (mk := mk) (vl := vl) (cl := cl) (wt := wt) (wd := wd) (du := du) (oft := oft) (bg := bg) (av := av) (cp := cp) (v1 := v1) (v2 := v2) (v3 := v3) (v4 := v4) (v5 := v5) (by omega) h
  exact hX _ (hY _ ⟨rfl, ra_RR_mono hR (by omega)⟩)
theorem i_vc_pass {k : Nat} {u : SX} {v : SY} (I : i_Rel k u v) (hk : k + 7 ≤ 3584) (v1 : Int32) (v2 : Int32) (v3 : Int32) (v4 : Int32) : wpX_pass (fun r u' => wpY_pass (fun r' v' => r' = r ∧ i_Rel (k + 7) u' v') v v1 v2 v3 v4) u v1 v2 v3 v4 := by
  obtain ⟨c, m, n, st, pr, bs, tk, mk, vl, cl, rs, al, wt, wd, tt, sb, pa, du, oft, bg, av, ep, pt, nb, lg, lt, lv, gk, gt, gf, gl, gs, gn, sl, ss, bo, ot, so, sq, go, mo, nt, fr, tw, tx, gr, ge, g1, g2, g3, sv, lf, se, cp, sn, lo, rfl, rfl, h⟩ := I
  obtain ⟨w, u', v', hR, hX, hY⟩ := ra_pass (mk := mk) (vl := vl) (cl := cl) (wt := wt) (wd := wd) (du := du) (oft := oft) (bg := bg) (av := av) (cp := cp) (v1 := v1) (v2 := v2) (v3 := v3) (v4 := v4) (by omega) h
  exact hX _ (hY _ ⟨rfl, ra_RR_mono hR (by omega)⟩)
theorem i_vc_revoke {k : Nat} {u : SX} {v : SY} (I : i_Rel k u v) (hk : k + 7 ≤ 3584) (v1 : Int32) : wpX_revoke (fun r u' => wpY_revoke (fun r' v' => r' = r ∧ i_Rel (k + 7) u' v') v v1) u v1 := by
  obtain ⟨c, m, n, st, pr, bs, tk, mk, vl, cl, rs, al, wt, wd, tt, sb, pa, du, oft, bg, av, ep, pt, nb, lg, lt, lv, gk, gt, gf, gl, gs, gn, sl, ss, bo, ot, so, sq, go, mo, nt, fr, tw, tx, gr, ge, g1, g2, g3, sv, lf, se, cp, sn, lo, rfl, rfl, h⟩ := I
  obtain ⟨w, u', v', hR, hX, hY⟩ := ra_revoke (mk := mk) (vl := vl) (cl := cl) (wt := wt) (wd := wd) (du := du) (oft := oft) (bg := bg) (av := av) (cp := cp) (v1 := v1) (by omega) h
  exact hX _ (hY _ ⟨rfl, ra_RR_mono hR (by omega)⟩)
theorem i_vc_copy {k : Nat} {u : SX} {v : SY} (I : i_Rel k u v) (hk : k + 7 ≤ 3584) (v1 : Int32) (v2 : Int32) (v3 : Int32) (v4 : Int32) (v5 : Int32) (v6 : Int32) : wpX_copy (fun r u' => wpY_copy (fun r' v' => r' = r ∧ i_Rel (k + 7) u' v') v v1 v2 v3 v4 v5 (lw_bz v6)) u v1 v2 v3 v4 v5 (lw_bz v6) := by
  obtain ⟨c, m, n, st, pr, bs, tk, mk, vl, cl, rs, al, wt, wd, tt, sb, pa, du, oft, bg, av, ep, pt, nb, lg, lt, lv, gk, gt, gf, gl, gs, gn, sl, ss, bo, ot, so, sq, go, mo, nt, fr, tw, tx, gr, ge, g1, g2, g3, sv, lf, se, cp, sn, lo, rfl, rfl, h⟩ := I
  obtain ⟨w, u', v', hR, hX, hY⟩ := ra_copy (mk := mk) (vl := vl) (cl := cl) (wt := wt) (wd := wd) (du := du) (oft := oft) (bg := bg) (av := av) (cp := cp) (v1 := v1) (v2 := v2) (v3 := v3) (v4 := v4) (v5 := v5) (b := lw_bz v6) (by omega) h
  exact hX _ (hY _ ⟨rfl, ra_RR_mono hR (by omega)⟩)
theorem i_vc_alarm {k : Nat} {u : SX} {v : SY} (I : i_Rel k u v) (hk : k + 7 ≤ 3584) (v1 : Int32) : wpX_alarm (fun r u' => wpY_alarm (fun r' v' => r' = r ∧ i_Rel (k + 7) u' v') v v1) u v1 := by
  obtain ⟨c, m, n, st, pr, bs, tk, mk, vl, cl, rs, al, wt, wd, tt, sb, pa, du, oft, bg, av, ep, pt, nb, lg, lt, lv, gk, gt, gf, gl, gs, gn, sl, ss, bo, ot, so, sq, go, mo, nt, fr, tw, tx, gr, ge, g1, g2, g3, sv, lf, se, cp, sn, lo, rfl, rfl, h⟩ := I
  obtain ⟨w, u', v', hR, hX, hY⟩ := ra_alarm (mk := mk) (vl := vl) (cl := cl) (wt := wt) (wd := wd) (du := du) (oft := oft) (bg := bg) (av := av) (cp := cp) (v1 := v1) (by omega) h
  exact hX _ (hY _ ⟨rfl, ra_RR_mono hR (by omega)⟩)
theorem i_vc_beat {k : Nat} {u : SX} {v : SY} (I : i_Rel k u v) (hk : k + 7 ≤ 3584) : wpX_beat (fun r u' => wpY_beat (fun r' v' => r' = r ∧ i_Rel (k + 7) u' v') v) u := by
  obtain ⟨c, m, n, st, pr, bs, tk, mk, vl, cl, rs, al, wt, wd, tt, sb, pa, du, oft, bg, av, ep, pt, nb, lg, lt, lv, gk, gt, gf, gl, gs, gn, sl, ss, bo, ot, so, sq, go, mo, nt, fr, tw, tx, gr, ge, g1, g2, g3, sv, lf, se, cp, sn, lo, rfl, rfl, h⟩ := I
  obtain ⟨w, u', v', hR, hX, hY⟩ := ra_beat (mk := mk) (vl := vl) (cl := cl) (wt := wt) (wd := wd) (du := du) (oft := oft) (bg := bg) (av := av) (cp := cp) (by omega) h
  exact hX _ (hY _ ⟨rfl, ra_RR_mono hR (by omega)⟩)
theorem i_vc_watch {k : Nat} {u : SX} {v : SY} (I : i_Rel k u v) (hk : k + 7 ≤ 3584) (v1 : Int32) : wpX_watch (fun r u' => wpY_watch (fun r' v' => r' = r ∧ i_Rel (k + 7) u' v') v v1) u v1 := by
  obtain ⟨c, m, n, st, pr, bs, tk, mk, vl, cl, rs, al, wt, wd, tt, sb, pa, du, oft, bg, av, ep, pt, nb, lg, lt, lv, gk, gt, gf, gl, gs, gn, sl, ss, bo, ot, so, sq, go, mo, nt, fr, tw, tx, gr, ge, g1, g2, g3, sv, lf, se, cp, sn, lo, rfl, rfl, h⟩ := I
  obtain ⟨w, u', v', hR, hX, hY⟩ := ra_watch (mk := mk) (vl := vl) (cl := cl) (wt := wt) (wd := wd) (du := du) (oft := oft) (bg := bg) (av := av) (cp := cp) (v1 := v1) (by omega) h
  exact hX _ (hY _ ⟨rfl, ra_RR_mono hR (by omega)⟩)
theorem i_vc_serve {k : Nat} {u : SX} {v : SY} (I : i_Rel k u v) (hk : k + 7 ≤ 3584) (v1 : Int32) (v2 : Int32) (v3 : Int32) : wpX_serve (fun r u' => wpY_serve (fun r' v' => r' = r ∧ i_Rel (k + 7) u' v') v v1 v2 v3) u v1 v2 v3 := by
  obtain ⟨c, m, n, st, pr, bs, tk, mk, vl, cl, rs, al, wt, wd, tt, sb, pa, du, oft, bg, av, ep, pt, nb, lg, lt, lv, gk, gt, gf, gl, gs, gn, sl, ss, bo, ot, so, sq, go, mo, nt, fr, tw, tx, gr, ge, g1, g2, g3, sv, lf, se, cp, sn, lo, rfl, rfl, h⟩ := I
  obtain ⟨w, u', v', hR, hX, hY⟩ := ra_serve (mk := mk) (vl := vl) (cl := cl) (wt := wt) (wd := wd) (du := du) (oft := oft) (bg := bg) (av := av) (cp := cp) (v1 := v1) (v2 := v2) (v3 := v3) h
  exact hX _ (hY _ ⟨rfl, ra_RR_mono hR (by omega)⟩)
theorem i_vc_close {k : Nat} {u : SX} {v : SY} (I : i_Rel k u v) (hk : k + 7 ≤ 3584) (v1 : Int32) : wpX_close (fun r u' => wpY_close (fun r' v' => r' = r ∧ i_Rel (k + 7) u' v') v v1) u v1 := by
  obtain ⟨c, m, n, st, pr, bs, tk, mk, vl, cl, rs, al, wt, wd, tt, sb, pa, du, oft, bg, av, ep, pt, nb, lg, lt, lv, gk, gt, gf, gl, gs, gn, sl, ss, bo, ot, so, sq, go, mo, nt, fr, tw, tx, gr, ge, g1, g2, g3, sv, lf, se, cp, sn, lo, rfl, rfl, h⟩ := I
  obtain ⟨w, u', v', hR, hX, hY⟩ := ra_close (mk := mk) (vl := vl) (cl := cl) (wt := wt) (wd := wd) (du := du) (oft := oft) (bg := bg) (av := av) (cp := cp) (v1 := v1) h
  exact hX _ (hY _ ⟨rfl, ra_RR_mono hR (by omega)⟩)
theorem i_vc_tick {k : Nat} {u : SX} {v : SY} (I : i_Rel k u v) (hk : k + 7 ≤ 3584) (v1 : Int32) : wpX_tick (fun r u' => wpY_tick (fun r' v' => r' = r ∧ i_Rel (k + 7) u' v') v v1) u v1 := by
  obtain ⟨c, m, n, st, pr, bs, tk, mk, vl, cl, rs, al, wt, wd, tt, sb, pa, du, oft, bg, av, ep, pt, nb, lg, lt, lv, gk, gt, gf, gl, gs, gn, sl, ss, bo, ot, so, sq, go, mo, nt, fr, tw, tx, gr, ge, g1, g2, g3, sv, lf, se, cp, sn, lo, rfl, rfl, h⟩ := I
  obtain ⟨w, u', v', hR, hX, hY⟩ := ra_tick (mk := mk) (vl := vl) (cl := cl) (wt := wt) (wd := wd) (du := du) (oft := oft) (bg := bg) (av := av) (cp := cp) (v1 := v1) (by omega) h
  exact hX _ (hY _ ⟨rfl, ra_RR_mono hR (by omega)⟩)
theorem i_vc_poke {k : Nat} {u : SX} {v : SY} (I : i_Rel k u v) (hk : k + 7 ≤ 3584) (v1 : Int32) (v2 : Int32) (v3 : Int32) : wpX_poke (fun r u' => wpY_poke (fun r' v' => r' = r ∧ i_Rel (k + 7) u' v') v v1 v2 v3) u v1 v2 v3 := by
  obtain ⟨c, m, n, st, pr, bs, tk, mk, vl, cl, rs, al, wt, wd, tt, sb, pa, du, oft, bg, av, ep, pt, nb, lg, lt, lv, gk, gt, gf, gl, gs, gn, sl, ss, bo, ot, so, sq, go, mo, nt, fr, tw, tx, gr, ge, g1, g2, g3, sv, lf, se, cp, sn, lo, rfl, rfl, h⟩ := I
  obtain ⟨w, u', v', hR, hX, hY⟩ := ra_poke (mk := mk) (vl := vl) (cl := cl) (wt := wt) (wd := wd) (du := du) (oft := oft) (bg := bg) (av := av) (cp := cp) (v1 := v1) (v2 := v2) (v3 := v3) h
  exact hX _ (hY _ ⟨rfl, ra_RR_mono hR (by omega)⟩)
theorem i_vc_memory {k : Nat} {u : SX} {v : SY} (I : i_Rel k u v) (hk : k + 7 ≤ 3584) (v1 : Int32) (v2 : Int32) : wpX_memory (fun r => wpY_memory (fun r' => r' = r ∧ i_Rel (k + 7) u v) v v1 v2) u v1 v2 := by
  obtain ⟨c, m, n, st, pr, bs, tk, mk, vl, cl, rs, al, wt, wd, tt, sb, pa, du, oft, bg, av, ep, pt, nb, lg, lt, lv, gk, gt, gf, gl, gs, gn, sl, ss, bo, ot, so, sq, go, mo, nt, fr, tw, tx, gr, ge, g1, g2, g3, sv, lf, se, cp, sn, lo, rfl, rfl, h⟩ := I
  obtain ⟨w, hX, hY⟩ := ra_memory (mk := mk) (vl := vl) (cl := cl) (wt := wt) (wd := wd) (du := du) (oft := oft) (bg := bg) (av := av) (cp := cp) (v1 := v1) (v2 := v2) h
  exact hX _ (hY _ ⟨rfl, ra_RR_mono (ra_in (mk := mk) (vl := vl) (cl := cl) (wt := wt) (wd := wd) (du := du) (oft := oft) (bg := bg) (av := av) (cp := cp) h) (by omega)⟩)
theorem i_vc_running {k : Nat} {u : SX} {v : SY} (I : i_Rel k u v) (hk : k + 7 ≤ 3584) : wpX_running (fun r => wpY_running (fun r' => r' = r ∧ i_Rel (k + 7) u v) v) u := by
  obtain ⟨c, m, n, st, pr, bs, tk, mk, vl, cl, rs, al, wt, wd, tt, sb, pa, du, oft, bg, av, ep, pt, nb, lg, lt, lv, gk, gt, gf, gl, gs, gn, sl, ss, bo, ot, so, sq, go, mo, nt, fr, tw, tx, gr, ge, g1, g2, g3, sv, lf, se, cp, sn, lo, rfl, rfl, h⟩ := I
  obtain ⟨w, hX, hY⟩ := ra_running (mk := mk) (vl := vl) (cl := cl) (wt := wt) (wd := wd) (du := du) (oft := oft) (bg := bg) (av := av) (cp := cp) (by omega) h
  exact hX _ (hY _ ⟨rfl, ra_RR_mono (ra_in (mk := mk) (vl := vl) (cl := cl) (wt := wt) (wd := wd) (du := du) (oft := oft) (bg := bg) (av := av) (cp := cp) h) (by omega)⟩)
theorem i_vc_at {k : Nat} {u : SX} {v : SY} (I : i_Rel k u v) (hk : k + 7 ≤ 3584) (v1 : Int32) (v2 : Int32) : wpX_at (fun r => wpY_at (fun r' => r' = r ∧ i_Rel (k + 7) u v) v v1 v2) u v1 v2 := by
  obtain ⟨c, m, n, st, pr, bs, tk, mk, vl, cl, rs, al, wt, wd, tt, sb, pa, du, oft, bg, av, ep, pt, nb, lg, lt, lv, gk, gt, gf, gl, gs, gn, sl, ss, bo, ot, so, sq, go, mo, nt, fr, tw, tx, gr, ge, g1, g2, g3, sv, lf, se, cp, sn, lo, rfl, rfl, h⟩ := I
  obtain ⟨w, hX, hY⟩ := ra_at (mk := mk) (vl := vl) (cl := cl) (wt := wt) (wd := wd) (du := du) (oft := oft) (bg := bg) (av := av) (cp := cp) (v1 := v1) (v2 := v2) (by omega) h
  exact hX _ (hY _ ⟨rfl, ra_RR_mono (ra_in (mk := mk) (vl := vl) (cl := cl) (wt := wt) (wd := wd) (du := du) (oft := oft) (bg := bg) (av := av) (cp := cp) h) (by omega)⟩)
theorem i_vc_service {k : Nat} {u : SX} {v : SY} (I : i_Rel k u v) (hk : k + 7 ≤ 3584) (v1 : Int32) (v2 : Int32) : wpX_service (fun r => wpY_service (fun r' => r' = r ∧ i_Rel (k + 7) u v) v v1 v2) u v1 v2 := by
  obtain ⟨c, m, n, st, pr, bs, tk, mk, vl, cl, rs, al, wt, wd, tt, sb, pa, du, oft, bg, av, ep, pt, nb, lg, lt, lv, gk, gt, gf, gl, gs, gn, sl, ss, bo, ot, so, sq, go, mo, nt, fr, tw, tx, gr, ge, g1, g2, g3, sv, lf, se, cp, sn, lo, rfl, rfl, h⟩ := I
  obtain ⟨w, hX, hY⟩ := ra_service (mk := mk) (vl := vl) (cl := cl) (wt := wt) (wd := wd) (du := du) (oft := oft) (bg := bg) (av := av) (cp := cp) (v1 := v1) (v2 := v2) h
  exact hX _ (hY _ ⟨rfl, ra_RR_mono (ra_in (mk := mk) (vl := vl) (cl := cl) (wt := wt) (wd := wd) (du := du) (oft := oft) (bg := bg) (av := av) (cp := cp) h) (by omega)⟩)
theorem i_vc_total {k : Nat} {u : SX} {v : SY} (I : i_Rel k u v) (hk : k + 7 ≤ 3584) (v1 : Int32) : wpX_total (fun r => wpY_total (fun r' => r' = r ∧ i_Rel (k + 7) u v) v v1) u v1 := by
  obtain ⟨c, m, n, st, pr, bs, tk, mk, vl, cl, rs, al, wt, wd, tt, sb, pa, du, oft, bg, av, ep, pt, nb, lg, lt, lv, gk, gt, gf, gl, gs, gn, sl, ss, bo, ot, so, sq, go, mo, nt, fr, tw, tx, gr, ge, g1, g2, g3, sv, lf, se, cp, sn, lo, rfl, rfl, h⟩ := I
  obtain ⟨w, hX, hY⟩ := ra_total (mk := mk) (vl := vl) (cl := cl) (wt := wt) (wd := wd) (du := du) (oft := oft) (bg := bg) (av := av) (cp := cp) (v1 := v1) h
  exact hX _ (hY _ ⟨rfl, ra_RR_mono (ra_in (mk := mk) (vl := vl) (cl := cl) (wt := wt) (wd := wd) (du := du) (oft := oft) (bg := bg) (av := av) (cp := cp) h) (by omega)⟩)
