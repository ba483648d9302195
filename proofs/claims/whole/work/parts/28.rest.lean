/-! the other calls -/
section
variable {B c m n : Nat} {st pr bs tk mk vl cl rs al wt wd tt sb pa du oft bg av ep pt nb lg lt lv gk gt gf gl gs gn sl ss bo ot so sq go mo nt fr tw tx gr ge g1 g2 g3 sv lf se cp : Nat → Int32} {sn lo : Nat → Int64}
theorem ra_key {s k : Nat} (hB : B ≤ 2 ^ 26) (hE : ra_E B st ep bo) (hS : ra_S st ep pa sl ss sv lf se sb) (hs : s < 10) (hk : k < 3) : (sv k = 1 ∧ se k = ep s) ↔ (sl k ≠ 0 ∧ ss k = nI s) := by
  rcases hS.1 k hk with ⟨a, b⟩ | ⟨a, -, -, ⟨b, t, ht, e1, -, e2⟩ | ⟨b, e1, -⟩⟩
  · rw [a, b]
    exact ⟨fun z => absurd z.1 (by decide), fun z => absurd rfl z.1⟩
  · refine ⟨fun z => ⟨a, ?_⟩, fun z => ⟨b, ?_⟩⟩
    · have := ra_E_inj hB hE ht hs (e2.symm.trans z.2)
      rw [e1, this]
    · have z2 := z.2
      rw [e1, nI_eq (by omega) (by omega)] at z2
      rw [e2, z2]
  · have ne : ¬ ss k = nI s := by
      rw [e1]
      intro z
      have : ¬ nI s < 0 := nI_pos (by omega)
      rw [← z] at this
      exact this (by decide)
    exact ⟨fun z => by rw [b] at z; exact absurd z.1 (by decide), fun z => absurd z.2 ne⟩
theorem ra_birth {v1 v2 : Int32} (hB : B ≤ 2 ^ 26) (h : ra_R B c m n st pr tk rs al tt pa bs sb ep pt nb lg sn lo lt lv gk gt gf gl gs gn sl ss bo ot so sq go mo nt fr tw tx gr ge g1 g2 g3 sv lf se) : ∃ (w : Int32) (u' : SX) (v' : SY), ra_RR (B + 1) u' v' ∧ (∀ post : Int32 → SX → Prop, post w u' → wpX_birth post (lN c, ep, st, pt, bs, pr, tk, mk, rs, vl, cl, nb, al, wt, lg, wd, sn, lo, lt, lv, gk, gt, gf, gl, gs, gn, sl, ss, sb, pa, du, oft, bg, av, tt) v1 v2) ∧ (∀ post : Int32 → SY → Prop, post w v' → wpY_birth post (nI n, nI m, st, bo, bs, pr, tk, mk, ot, vl, rs, al, wt, so, sq, go, mo, cl, wd, nt, fr, tw, tx, gr, ge, g1, g2, g3, sv, sb, lf, pa, du, av, bg, oft, se, tt, cp) v1 v2) := by
  by_cases good : ¬ v1 < 0 ∧ ¬ 3 < v1 ∧ ¬ v2 < 0 ∧ v2 ≤ 1023
  · obtain ⟨a1, a2, a3, a4⟩ := good
    have a2' : ¬ (4 : Int32) ≤ v1 := by rw [← ra_ll _ (by decide : (4 : Int32).toInt = (3 : Int32).toInt + 1)]; exact a2
    obtain ⟨p, hp4, rfl⟩ := ra_nat (n := 4) (by omega) a1 a2'
    rcases ra_free_both (c := c) (m := m) (n := n) (st := st) (pr := pr) (bs := bs) (tk := tk) (mk := mk) (vl := vl) (cl := cl) (rs := rs) (al := al) (wt := wt) (wd := wd) (tt := tt) (sb := sb) (pa := pa) (du := du) (oft := oft) (bg := bg) (av := av) (ep := ep) (pt := pt) (nb := nb) (lg := lg) (lt := lt) (lv := lv) (gk := gk) (gt := gt) (gf := gf) (gl := gl) (gs := gs) (gn := gn) (sl := sl) (ss := ss) (bo := bo) (ot := ot) (so := so) (sq := sq) (go := go) (mo := mo) (nt := nt) (fr := fr) (tw := tw) (tx := tx) (gr := gr) (ge := ge) (g1 := g1) (g2 := g2) (g3 := g3) (sv := sv) (lf := lf) (se := se) (cp := cp) (sn := sn) (lo := lo) h.2.2.2.2.2.2.2.2.1 with ⟨fX, fY⟩ | ⟨s, hs, h0, fX, fY⟩
    · refine ⟨-7, _, _, ra_RR_mono (ra_in (mk := mk) (vl := vl) (cl := cl) (wt := wt) (wd := wd) (du := du) (oft := oft) (bg := bg) (av := av) (cp := cp) h) (by omega), fun post hp => ?_, fun post hp => ?_⟩
      · simp only [wpX_birth]
        exact br_f a1 (br_f a2 (br_f a3 (br_t a4 (fX _ (br_f (by decide) hp)))))
      · simp only [wpY_birth]
        exact yl_within (fun y => absurd y (fun z => z.elim a1 a2)) (fun _ _ => br_f (by decide) (yl_within (fun y => absurd y (fun z => z.elim a3 (Int32.not_lt.mpr a4))) (fun _ _ => br_f (by decide) (fY _ (br_f (by decide) hp)))))
    · have hb := ra_R_beg (s := s) (p := p) (v := tt 1 + 1) (lg' := ra_z lg (3 * s) 3) (gk' := ra_z gk (4 * s) 4) h hs h0 (by omega) (fun _ _ => rfl) (fun _ _ => rfl)
      have ye : 16 * (upd bo s (bo s + 1) s - 1) + nI s = ep s := ra_E_y hb.1 hs (by rw [pk_us]; decide)
      refine ⟨ep s, _, _, ra_in (mk := upd mk s v2) (vl := vl) (cl := cl) (wt := upd wt s 0) (wd := ra_z wd (16 * s) 16) (du := du) (oft := oft) (bg := bg) (av := av) (cp := cp) hb, fun post hp => ?_, fun post hp => ?_⟩
      · simp only [wpX_birth]
        refine br_f a1 (br_f a2 (br_f a3 (br_t a4 (fX _ (br_t (nI_pos' (by omega)) (xl_beginProcess hs ⟨vp_in_nI hs (by decide), ?_⟩))))))
        rw [ra_c (show s < 1000 by omega)]
        exact hp
      · simp only [wpY_birth]
        refine yl_within (fun y => absurd y (fun z => z.elim a1 a2)) (fun _ _ => br_f (by decide) (yl_within (fun y => absurd y (fun z => z.elim a3 (Int32.not_lt.mpr a4))) (fun _ _ => br_f (by decide) (fY _ (br_t (nI_pos' (by omega)) (yl_begin hs ?_))))))
        rw [ye]
        exact hp
  · refine ⟨-1, _, _, ra_RR_mono (ra_in (mk := mk) (vl := vl) (cl := cl) (wt := wt) (wd := wd) (du := du) (oft := oft) (bg := bg) (av := av) (cp := cp) h) (by omega), fun post hp => ?_, fun post hp => ?_⟩
    · simp only [wpX_birth]
      exact br_c (fun _ => hp) (fun a1 => br_c (fun _ => hp) (fun a2 => br_c (fun _ => hp) (fun a3 => br_c (fun a4 => absurd ⟨a1, a2, a3, a4⟩ good) (fun _ => hp))))
    · simp only [wpY_birth]
      exact yl_within (fun _ => br_t rfl hp) (fun a1 a2 => br_f (by decide) (yl_within (fun _ => br_t rfl hp) (fun a3 a4 => absurd ⟨a1, a2, a3, Int32.not_lt.mp a4⟩ good)))
theorem ra_end {v1 : Int32} (hB : B + 20 ≤ 2 ^ 26) (h : ra_R B c m n st pr tk rs al tt pa bs sb ep pt nb lg sn lo lt lv gk gt gf gl gs gn sl ss bo ot so sq go mo nt fr tw tx gr ge g1 g2 g3 sv lf se) : ∃ (w : Int32) (u' : SX) (v' : SY), ra_RR (B + 11) u' v' ∧ (∀ post : Int32 → SX → Prop, post w u' → wpX_end post (lN c, ep, st, pt, bs, pr, tk, mk, rs, vl, cl, nb, al, wt, lg, wd, sn, lo, lt, lv, gk, gt, gf, gl, gs, gn, sl, ss, sb, pa, du, oft, bg, av, tt) v1) ∧ (∀ post : Int32 → SY → Prop, post w v' → wpY_end post (nI n, nI m, st, bo, bs, pr, tk, mk, ot, vl, rs, al, wt, so, sq, go, mo, cl, wd, nt, fr, tw, tx, gr, ge, g1, g2, g3, sv, sb, lf, pa, du, av, bg, oft, se, tt, cp) v1) := by
  rcases ra_has (mk := mk) (vl := vl) (cl := cl) (wt := wt) (wd := wd) (du := du) (oft := oft) (bg := bg) (av := av) (cp := cp) (x := v1) h with ⟨s, hs, rfl, hl, pX, pY⟩ | ⟨pX, pY⟩
  · obtain ⟨c', m', n', st', pt', rs', nb', mo', nt', fr', tw', tx', gr', pa', ss', sv', se', du', tt', sn', lo', hR', -, hX, hY⟩ := ra_ends (mk := mk) (vl := vl) (cl := cl) (wt := wt) (wd := wd) (du := du) (oft := oft) (bg := bg) (av := av) (cp := cp) hB h hs hl
    refine ⟨1, _, _, ra_in (mk := mk) (vl := vl) (cl := cl) (wt := wt) (wd := wd) (du := du') (oft := oft) (bg := bg) (av := av) (cp := cp) hR', fun post hp => ?_, fun post hp => ?_⟩
    · simp only [wpX_end]
      exact pX _ (br_f (by decide) (hX _ hp))
    · simp only [wpY_end]
      exact pY _ (br_f (by decide) (hY _ hp))
  · refine ⟨0, _, _, ra_RR_mono (ra_in (mk := mk) (vl := vl) (cl := cl) (wt := wt) (wd := wd) (du := du) (oft := oft) (bg := bg) (av := av) (cp := cp) h) (by omega), fun post hp => ?_, fun post hp => ?_⟩
    · simp only [wpX_end]
      exact pX _ (br_t rfl hp)
    · simp only [wpY_end]
      exact pY _ (br_t rfl hp)
theorem ra_leave (hB : B + 20 ≤ 2 ^ 26) (h : ra_R B c m n st pr tk rs al tt pa bs sb ep pt nb lg sn lo lt lv gk gt gf gl gs gn sl ss bo ot so sq go mo nt fr tw tx gr ge g1 g2 g3 sv lf se) : ∃ (w : Int32) (u' : SX) (v' : SY), ra_RR (B + 11) u' v' ∧ (∀ post : Int32 → SX → Prop, post w u' → wpX_leave post (lN c, ep, st, pt, bs, pr, tk, mk, rs, vl, cl, nb, al, wt, lg, wd, sn, lo, lt, lv, gk, gt, gf, gl, gs, gn, sl, ss, sb, pa, du, oft, bg, av, tt)) ∧ (∀ post : Int32 → SY → Prop, post w v' → wpY_leave post (nI n, nI m, st, bo, bs, pr, tk, mk, ot, vl, rs, al, wt, so, sq, go, mo, cl, wd, nt, fr, tw, tx, gr, ge, g1, g2, g3, sv, sb, lf, pa, du, av, bg, oft, se, tt, cp)) := by
  rcases ra_run_both (mk := mk) (vl := vl) (cl := cl) (wt := wt) (wd := wd) (du := du) (oft := oft) (bg := bg) (av := av) (cp := cp) (by omega) h with ⟨rX, rY⟩ | ⟨r, hr, hr1, rX, rY⟩
  · refine ⟨-1, _, _, ra_RR_mono (ra_in (mk := mk) (vl := vl) (cl := cl) (wt := wt) (wd := wd) (du := du) (oft := oft) (bg := bg) (av := av) (cp := cp) h) (by omega), fun post hp => ?_, fun post hp => ?_⟩
    · simp only [wpX_leave]
      exact rX _ (br_f (by decide) hp)
    · simp only [wpY_leave]
      exact rY _ (br_f (by decide) hp)
  · have rl : st r ≠ 0 := by rw [hr1]; decide
    have yr : 16 * (bo r - 1) + nI r = ep r := ra_E_y h.1 hr rl
    obtain ⟨c', m', n', st', pt', rs', nb', mo', nt', fr', tw', tx', gr', pa', ss', sv', se', du', tt', sn', lo', hR', -, hX, hY⟩ := ra_ends (mk := mk) (vl := vl) (cl := cl) (wt := wt) (wd := wd) (du := du) (oft := oft) (bg := bg) (av := av) (cp := cp) hB h hr rl
    refine ⟨ep r, _, _, ra_in (mk := mk) (vl := vl) (cl := cl) (wt := wt) (wd := wd) (du := du') (oft := oft) (bg := bg) (av := av) (cp := cp) hR', fun post hp => ?_, fun post hp => ?_⟩
    · simp only [wpX_leave]
      refine rX _ (br_t (nI_pos' (by omega)) ⟨vp_in_nI hr (by decide), ?_⟩)
      rw [ra_c (show r < 1000 by omega)]
      exact nm_e (hX _ hp)
    · simp only [wpY_leave]
      refine rY _ (br_t (nI_pos' (by omega)) ?_)
      simp (disch := omega) only [wpY_endpoint, yr, not_true, not_false_iff, true_implies, false_implies, implies_true, true_and, and_true, forall_eq, eq_self, ra_i, ra_c, ra_m3, ra_m4, ra_m16, ra_4m, ra_14m, ra_16m, nI_add, nI_1, lN_1, ra_p2, ra_2p, ra_n0, ra_p0, ra_q0, ra_q1, ra_q2, ra_q3, ra_n3, ra_n4, ra_n10, ra_n14, ra_n16, ra_n30, ra_n140, ra_y3, ra_y4, ra_y10, ra_y14, ra_y16, ra_y30, ra_y140]
      exact hY _ hp
theorem ra_note {v1 : Int32} (hB : B ≤ 2 ^ 26) (h : ra_R B c m n st pr tk rs al tt pa bs sb ep pt nb lg sn lo lt lv gk gt gf gl gs gn sl ss bo ot so sq go mo nt fr tw tx gr ge g1 g2 g3 sv lf se) : ∃ (w : Int32) (u' : SX) (v' : SY), ra_RR (B + 1) u' v' ∧ (∀ post : Int32 → SX → Prop, post w u' → wpX_note post (lN c, ep, st, pt, bs, pr, tk, mk, rs, vl, cl, nb, al, wt, lg, wd, sn, lo, lt, lv, gk, gt, gf, gl, gs, gn, sl, ss, sb, pa, du, oft, bg, av, tt) v1) ∧ (∀ post : Int32 → SY → Prop, post w v' → wpY_note post (nI n, nI m, st, bo, bs, pr, tk, mk, ot, vl, rs, al, wt, so, sq, go, mo, cl, wd, nt, fr, tw, tx, gr, ge, g1, g2, g3, sv, sb, lf, pa, du, av, bg, oft, se, tt, cp) v1) := by
  rcases ra_run_both (mk := mk) (vl := vl) (cl := cl) (wt := wt) (wd := wd) (du := du) (oft := oft) (bg := bg) (av := av) (cp := cp) hB h with ⟨rX, rY⟩ | ⟨r, hr, hr1, rX, rY⟩
  · refine ⟨-1, _, _, ra_RR_mono (ra_in (mk := mk) (vl := vl) (cl := cl) (wt := wt) (wd := wd) (du := du) (oft := oft) (bg := bg) (av := av) (cp := cp) h) (by omega), fun post hp => ?_, fun post hp => ?_⟩
    · simp only [wpX_note]
      refine rX _ ?_
      simp only [wpX_refusalToReach, wpX_refusal, ra_q1, ra_q5, not_false_iff, true_implies, false_implies, true_and]
      exact hp
    · simp only [wpY_note]
      exact rY _ (br_f (by decide) hp)
  · have rl : st r ≠ 0 := by rw [hr1]; decide
    rcases ra_ref1 (mk := mk) (vl := vl) (cl := cl) (wt := wt) (wd := wd) (du := du) (oft := oft) (bg := bg) (av := av) (cp := cp) hB h hr hr1 v1 with ⟨w, hw, hX, hY⟩ | ⟨s, hs, z, hl, he, ha, hX, hY⟩
    · have w0 : ¬ w = 0 := by rcases hw with rfl | rfl | rfl <;> decide
      refine ⟨w, _, _, ra_RR_mono (ra_in (mk := mk) (vl := vl) (cl := cl) (wt := wt) (wd := wd) (du := du) (oft := oft) (bg := bg) (av := av) (cp := cp) h) (by omega), fun post hp => ?_, fun post hp => ?_⟩
      · simp only [wpX_note]
        exact rX _ (hX _ (br_f w0 hp))
      · simp only [wpY_note]
        exact rY _ (br_t (nI_pos' (by omega)) (hY _ (br_f w0 hp)))
    · obtain ⟨u', v', hR, nX, nY⟩ := ra_notify (mk := mk) (vl := vl) (cl := cl) (wt := wt) (wd := wd) (du := du) (oft := oft) (bg := bg) (av := av) (cp := cp) (k := r) h hs hl (by omega) (fun _ => rl)
      refine ⟨0, u', v', hR, fun post hp => ?_, fun post hp => ?_⟩
      · obtain ⟨c', m', n', st', pr', bs', tk', mk', vl', cl', rs', al', wt', wd', tt', sb', pa', du', oft', bg', av', ep', pt', nb', lg', lt', lv', gk', gt', gf', gl', gs', gn', sl', ss', bo', ot', so', sq', go', mo', nt', fr', tw', tx', gr', ge', g1', g2', g3', sv', lf', se', cp', sn', lo', rfl, rfl, -⟩ := hR
        simp only [wpX_note]
        exact rX _ (hX _ (br_t rfl (xl_slotOf_s hs hl he ha (nX _ hp))))
      · obtain ⟨c', m', n', st', pr', bs', tk', mk', vl', cl', rs', al', wt', wd', tt', sb', pa', du', oft', bg', av', ep', pt', nb', lg', lt', lv', gk', gt', gf', gl', gs', gn', sl', ss', bo', ot', so', sq', go', mo', nt', fr', tw', tx', gr', ge', g1', g2', g3', sv', lf', se', cp', sn', lo', rfl, rfl, -⟩ := hR
        simp only [wpY_note]
        refine rY _ (br_t (nI_pos' (by omega)) (hY _ (br_t rfl ?_)))
        rw [ha]
        exact nY _ hp
theorem ra_alarm {v1 : Int32} (hB : B ≤ 2 ^ 26) (h : ra_R B c m n st pr tk rs al tt pa bs sb ep pt nb lg sn lo lt lv gk gt gf gl gs gn sl ss bo ot so sq go mo nt fr tw tx gr ge g1 g2 g3 sv lf se) : ∃ (w : Int32) (u' : SX) (v' : SY), ra_RR (B + 1) u' v' ∧ (∀ post : Int32 → SX → Prop, post w u' → wpX_alarm post (lN c, ep, st, pt, bs, pr, tk, mk, rs, vl, cl, nb, al, wt, lg, wd, sn, lo, lt, lv, gk, gt, gf, gl, gs, gn, sl, ss, sb, pa, du, oft, bg, av, tt) v1) ∧ (∀ post : Int32 → SY → Prop, post w v' → wpY_alarm post (nI n, nI m, st, bo, bs, pr, tk, mk, ot, vl, rs, al, wt, so, sq, go, mo, cl, wd, nt, fr, tw, tx, gr, ge, g1, g2, g3, sv, sb, lf, pa, du, av, bg, oft, se, tt, cp) v1) := by
  rcases ra_run_both (mk := mk) (vl := vl) (cl := cl) (wt := wt) (wd := wd) (du := du) (oft := oft) (bg := bg) (av := av) (cp := cp) hB h with ⟨rX, rY⟩ | ⟨r, hr, hr1, rX, rY⟩
  · refine ⟨-1, _, _, ra_RR_mono (ra_in (mk := mk) (vl := vl) (cl := cl) (wt := wt) (wd := wd) (du := du) (oft := oft) (bg := bg) (av := av) (cp := cp) h) (by omega), fun post hp => ?_, fun post hp => ?_⟩
    · simp only [wpX_alarm]
      exact rX _ (br_t (by decide) hp)
    · simp only [wpY_alarm]
      exact rY _ (br_t (by decide) hp)
  · by_cases good : ¬ v1 < 0 ∧ v1 ≤ 100
    · obtain ⟨a1, a2⟩ := good
      obtain ⟨a, ha, rfl⟩ := nI_of a1
      have a100 : a ≤ 100 := (nI_leI (a := a) (b := 100) ha (by omega)).mp a2
      refine ⟨al r, _, _, ra_RR_mono (ra_in (mk := mk) (vl := vl) (cl := cl) (wt := wt) (wd := wd) (du := du) (oft := oft) (bg := bg) (av := av) (cp := cp) (ra_R_al (s := r) (p := a) h a100)) (by omega), fun post hp => ?_, fun post hp => ?_⟩
      · simp only [wpX_alarm]
        refine rX _ (br_f (nI_pos (by omega)) (br_f a1 (br_t a2 ?_)))
        simp (disch := omega) only [not_true, not_false_iff, true_implies, false_implies, implies_true, true_and, and_true, forall_eq, eq_self, ra_i, ra_c, ra_m3, ra_m4, ra_m16, ra_4m, ra_14m, ra_16m, nI_add, nI_1, lN_1, ra_p2, ra_2p, ra_n0, ra_p0, ra_q0, ra_q1, ra_q2, ra_q3, ra_n3, ra_n4, ra_n10, ra_n14, ra_n16, ra_n30, ra_n140, ra_y3, ra_y4, ra_y10, ra_y14, ra_y16, ra_y30, ra_y140]
        exact hp
      · simp only [wpY_alarm]
        refine rY _ (br_f (nI_pos (by omega)) (yl_within (fun y => absurd y (fun z => z.elim a1 (Int32.not_lt.mpr a2))) (fun _ _ => br_f (by decide) ?_)))
        simp (disch := omega) only [not_true, not_false_iff, true_implies, false_implies, implies_true, true_and, and_true, forall_eq, eq_self, ra_i, ra_c, ra_m3, ra_m4, ra_m16, ra_4m, ra_14m, ra_16m, nI_add, nI_1, lN_1, ra_p2, ra_2p, ra_n0, ra_p0, ra_q0, ra_q1, ra_q2, ra_q3, ra_n3, ra_n4, ra_n10, ra_n14, ra_n16, ra_n30, ra_n140, ra_y3, ra_y4, ra_y10, ra_y14, ra_y16, ra_y30, ra_y140]
        exact hp
    · refine ⟨-1, _, _, ra_RR_mono (ra_in (mk := mk) (vl := vl) (cl := cl) (wt := wt) (wd := wd) (du := du) (oft := oft) (bg := bg) (av := av) (cp := cp) h) (by omega), fun post hp => ?_, fun post hp => ?_⟩
      · simp only [wpX_alarm]
        exact rX _ (br_f (nI_pos (by omega)) (br_c (fun _ => hp) (fun a1 => br_c (fun a2 => absurd ⟨a1, a2⟩ good) (fun _ => hp))))
      · simp only [wpY_alarm]
        exact rY _ (br_f (nI_pos (by omega)) (yl_within (fun _ => br_t rfl hp) (fun a1 a2 => absurd ⟨a1, Int32.not_lt.mp a2⟩ good)))
theorem yl_beat_skip {r k q : Nat} {post : Int32 → SY → Prop} (hr : r < 10) (hrl : st r ≠ 0) (hE : ra_E B st ep bo) (hk : k < 3) (hn : ¬ (sv k = 1 ∧ se k = ep r)) (h : wY_beat_13 post (nI r) (nI n) (nI m) st bo bs pr tk mk ot vl rs al wt so sq go mo cl wd nt fr tw tx gr ge g1 g2 g3 sv sb lf pa du av bg oft se tt cp q (nI (k + 1))) : wY_beat_13 post (nI r) (nI n) (nI m) st bo bs pr tk mk ot vl rs al wt so sq go mo cl wd nt fr tw tx gr ge g1 g2 g3 sv sb lf pa du av bg oft se tt cp (q + 1) (nI k) := by
  have yr := ra_E_y hE hr hrl
  rw [wY_beat_13]
  by_cases a : sv k = 1
  · have b : ¬ se k = ep r := fun z => hn ⟨a, z⟩
    simp (disch := omega) only [a, wpY_endpoint, yr, b, not_true, not_false_iff, true_implies, false_implies, implies_true, true_and, and_true, forall_eq, eq_self, ra_i, ra_c, ra_m3, ra_m4, ra_m16, ra_4m, ra_14m, ra_16m, nI_add, nI_1, lN_1, ra_p2, ra_2p, ra_n0, ra_p0, ra_q0, ra_q1, ra_q2, ra_q3, ra_n3, ra_n4, ra_n10, ra_n14, ra_n16, ra_n30, ra_n140, ra_y3, ra_y4, ra_y10, ra_y14, ra_y16, ra_y30, ra_y140]
    exact h
  · simp (disch := omega) only [a, not_true, not_false_iff, true_implies, false_implies, implies_true, true_and, and_true, forall_eq, eq_self, ra_i, ra_c, ra_m3, ra_m4, ra_m16, ra_4m, ra_14m, ra_16m, nI_add, nI_1, lN_1, ra_p2, ra_2p, ra_n0, ra_p0, ra_q0, ra_q1, ra_q2, ra_q3, ra_n3, ra_n4, ra_n10, ra_n14, ra_n16, ra_n30, ra_n140, ra_y3, ra_y4, ra_y10, ra_y14, ra_y16, ra_y30, ra_y140]
    exact h
theorem ra_beat (hB : B ≤ 2 ^ 26) (h : ra_R B c m n st pr tk rs al tt pa bs sb ep pt nb lg sn lo lt lv gk gt gf gl gs gn sl ss bo ot so sq go mo nt fr tw tx gr ge g1 g2 g3 sv lf se) : ∃ (w : Int32) (u' : SX) (v' : SY), ra_RR (B + 1) u' v' ∧ (∀ post : Int32 → SX → Prop, post w u' → wpX_beat post (lN c, ep, st, pt, bs, pr, tk, mk, rs, vl, cl, nb, al, wt, lg, wd, sn, lo, lt, lv, gk, gt, gf, gl, gs, gn, sl, ss, sb, pa, du, oft, bg, av, tt)) ∧ (∀ post : Int32 → SY → Prop, post w v' → wpY_beat post (nI n, nI m, st, bo, bs, pr, tk, mk, ot, vl, rs, al, wt, so, sq, go, mo, cl, wd, nt, fr, tw, tx, gr, ge, g1, g2, g3, sv, sb, lf, pa, du, av, bg, oft, se, tt, cp)) := by
  rcases ra_run_both (mk := mk) (vl := vl) (cl := cl) (wt := wt) (wd := wd) (du := du) (oft := oft) (bg := bg) (av := av) (cp := cp) hB h with ⟨rX, rY⟩ | ⟨r, hr, hr1, rX, rY⟩
  · refine ⟨-1, _, _, ra_RR_mono (ra_in (mk := mk) (vl := vl) (cl := cl) (wt := wt) (wd := wd) (du := du) (oft := oft) (bg := bg) (av := av) (cp := cp) h) (by omega), fun post hp => ?_, fun post hp => ?_⟩
    · simp only [wpX_beat]
      exact rX _ (br_f (by decide) hp)
    · simp only [wpY_beat]
      exact rY _ (br_f (by decide) hp)
  · have rl : st r ≠ 0 := by rw [hr1]; decide
    have hE := h.1
    have yr : 16 * (bo r - 1) + nI r = ep r := ra_E_y hE hr rl
    have key := fun k hk => ra_key (k := k) hB hE h.2.2.2.2.2.2.2.1 hr hk
    rcases ra_first (fun k => sv k = 1 ∧ se k = ep r) 3 with none | ⟨k, hk, hf, hn⟩
    · refine ⟨-6, _, _, ra_RR_mono (ra_in (mk := mk) (vl := vl) (cl := cl) (wt := wt) (wd := wd) (du := du) (oft := oft) (bg := bg) (av := av) (cp := cp) h) (by omega), fun post hp => ?_, fun post hp => ?_⟩
      · simp only [wpX_beat]
        exact rX _ (br_t (nI_pos' (by omega)) (xl_serviceOf_n (fun k hk z => none k hk ((key k hk).mpr z)) (br_f (by decide) hp)))
      · simp only [wpY_beat]
        refine rY _ (br_t (nI_pos' (by omega)) (ra_run (fun q i => wY_beat_13 post (nI r) (nI n) (nI m) st bo bs pr tk mk ot vl rs al wt so sq go mo cl wd nt fr tw tx gr ge g1 g2 g3 sv sb lf pa du av bg oft se tt cp q (nI i)) 3 (fun q => ?_) (fun q i hi ih => yl_beat_skip hr rl hE hi (none i hi) ih)))
        simp (disch := omega) only [wY_beat_13, not_true, not_false_iff, true_implies, false_implies, implies_true, true_and, and_true, forall_eq, eq_self, ra_i, ra_c, ra_m3, ra_m4, ra_m16, ra_4m, ra_14m, ra_16m, nI_add, nI_1, lN_1, ra_p2, ra_2p, ra_n0, ra_p0, ra_q0, ra_q1, ra_q2, ra_q3, ra_n3, ra_n4, ra_n10, ra_n14, ra_n16, ra_n30, ra_n140, ra_y3, ra_y4, ra_y10, ra_y14, ra_y16, ra_y30, ra_y140]
        exact hp
    · obtain ⟨f1, f2⟩ := (key k hk).mp hf
      refine ⟨nI k, _, _, ra_RR_mono (ra_in (mk := mk) (vl := vl) (cl := cl) (wt := wt) (wd := wd) (du := du) (oft := oft) (bg := bg) (av := upd av k (tt 0)) (cp := cp) h) (by omega), fun post hp => ?_, fun post hp => ?_⟩
      · simp only [wpX_beat]
        refine rX _ (br_t (nI_pos' (by omega)) (xl_serviceOf_s hk f1 f2 (fun j hj z => hn j hj ((key j (by omega)).mpr z)) (br_t (nI_pos' (by omega)) ?_)))
        simp (disch := omega) only [not_true, not_false_iff, true_implies, false_implies, implies_true, true_and, and_true, forall_eq, eq_self, ra_i, ra_c, ra_m3, ra_m4, ra_m16, ra_4m, ra_14m, ra_16m, nI_add, nI_1, lN_1, ra_p2, ra_2p, ra_n0, ra_p0, ra_q0, ra_q1, ra_q2, ra_q3, ra_n3, ra_n4, ra_n10, ra_n14, ra_n16, ra_n30, ra_n140, ra_y3, ra_y4, ra_y10, ra_y14, ra_y16, ra_y30, ra_y140]
        exact hp
      · simp only [wpY_beat]
        refine rY _ (br_t (nI_pos' (by omega)) (ra_run (fun q i => wY_beat_13 post (nI r) (nI n) (nI m) st bo bs pr tk mk ot vl rs al wt so sq go mo cl wd nt fr tw tx gr ge g1 g2 g3 sv sb lf pa du av bg oft se tt cp q (nI i)) k (fun q => ?_) (fun q i hi ih => yl_beat_skip hr rl hE (by omega) (hn i hi) ih)))
        simp (disch := omega) only [wY_beat_13, hf.1, hf.2, wpY_endpoint, yr, not_true, not_false_iff, true_implies, false_implies, implies_true, true_and, and_true, forall_eq, eq_self, ra_i, ra_c, ra_m3, ra_m4, ra_m16, ra_4m, ra_14m, ra_16m, nI_add, nI_1, lN_1, ra_p2, ra_2p, ra_n0, ra_p0, ra_q0, ra_q1, ra_q2, ra_q3, ra_n3, ra_n4, ra_n10, ra_n14, ra_n16, ra_n30, ra_n140, ra_y3, ra_y4, ra_y10, ra_y14, ra_y16, ra_y30, ra_y140]
        exact hp
theorem ra_watch {v1 : Int32} (hB : B ≤ 2 ^ 26) (h : ra_R B c m n st pr tk rs al tt pa bs sb ep pt nb lg sn lo lt lv gk gt gf gl gs gn sl ss bo ot so sq go mo nt fr tw tx gr ge g1 g2 g3 sv lf se) : ∃ (w : Int32) (u' : SX) (v' : SY), ra_RR (B + 1) u' v' ∧ (∀ post : Int32 → SX → Prop, post w u' → wpX_watch post (lN c, ep, st, pt, bs, pr, tk, mk, rs, vl, cl, nb, al, wt, lg, wd, sn, lo, lt, lv, gk, gt, gf, gl, gs, gn, sl, ss, sb, pa, du, oft, bg, av, tt) v1) ∧ (∀ post : Int32 → SY → Prop, post w v' → wpY_watch post (nI n, nI m, st, bo, bs, pr, tk, mk, ot, vl, rs, al, wt, so, sq, go, mo, cl, wd, nt, fr, tw, tx, gr, ge, g1, g2, g3, sv, sb, lf, pa, du, av, bg, oft, se, tt, cp) v1) := by
  rcases ra_run_both (mk := mk) (vl := vl) (cl := cl) (wt := wt) (wd := wd) (du := du) (oft := oft) (bg := bg) (av := av) (cp := cp) hB h with ⟨rX, rY⟩ | ⟨r, hr, hr1, rX, rY⟩
  · refine ⟨-1, _, _, ra_RR_mono (ra_in (mk := mk) (vl := vl) (cl := cl) (wt := wt) (wd := wd) (du := du) (oft := oft) (bg := bg) (av := av) (cp := cp) h) (by omega), fun post hp => ?_, fun post hp => ?_⟩
    · simp only [wpX_watch]
      exact rX _ (br_t (by decide) hp)
    · simp only [wpY_watch]
      exact rY _ (br_t (by decide) hp)
  · have e23 : ((2 : Int32) < v1) = ((3 : Int32) ≤ v1) := ra_ll _ (by decide)
    by_cases good : ¬ v1 < 0 ∧ ¬ 3 ≤ v1
    · obtain ⟨a1, a2⟩ := good
      refine ⟨0, _, _, ra_RR_mono (ra_in (mk := mk) (vl := vl) (cl := cl) (wt := upd wt r (wt r ||| ((1 : Int32) <<< (v1 &&& 31)))) (wd := wd) (du := du) (oft := oft) (bg := bg) (av := av) (cp := cp) h) (by omega), fun post hp => ?_, fun post hp => ?_⟩
      · simp only [wpX_watch]
        refine rX _ (br_f (nI_pos (by omega)) (xl_isS (fun y => absurd y (fun z => z.elim a1 a2)) (fun _ _ => br_f (by decide) ?_)))
        simp (disch := omega) only [not_true, not_false_iff, true_implies, false_implies, implies_true, true_and, and_true, forall_eq, eq_self, ra_i, ra_c, ra_m3, ra_m4, ra_m16, ra_4m, ra_14m, ra_16m, nI_add, nI_1, lN_1, ra_p2, ra_2p, ra_n0, ra_p0, ra_q0, ra_q1, ra_q2, ra_q3, ra_n3, ra_n4, ra_n10, ra_n14, ra_n16, ra_n30, ra_n140, ra_y3, ra_y4, ra_y10, ra_y14, ra_y16, ra_y30, ra_y140]
        exact hp
      · simp only [wpY_watch]
        refine rY _ (br_f (nI_pos (by omega)) (yl_within (fun y => absurd y (fun z => z.elim a1 (by rw [e23]; exact a2))) (fun _ _ => br_f (by decide) ?_)))
        simp (disch := omega) only [not_true, not_false_iff, true_implies, false_implies, implies_true, true_and, and_true, forall_eq, eq_self, ra_i, ra_c, ra_m3, ra_m4, ra_m16, ra_4m, ra_14m, ra_16m, nI_add, nI_1, lN_1, ra_p2, ra_2p, ra_n0, ra_p0, ra_q0, ra_q1, ra_q2, ra_q3, ra_n3, ra_n4, ra_n10, ra_n14, ra_n16, ra_n30, ra_n140, ra_y3, ra_y4, ra_y10, ra_y14, ra_y16, ra_y30, ra_y140]
        exact hp
    · refine ⟨-1, _, _, ra_RR_mono (ra_in (mk := mk) (vl := vl) (cl := cl) (wt := wt) (wd := wd) (du := du) (oft := oft) (bg := bg) (av := av) (cp := cp) h) (by omega), fun post hp => ?_, fun post hp => ?_⟩
      · simp only [wpX_watch]
        exact rX _ (br_f (nI_pos (by omega)) (xl_isS (fun _ => br_t rfl hp) (fun a1 a2 => absurd ⟨a1, a2⟩ good)))
      · simp only [wpY_watch]
        exact rY _ (br_f (nI_pos (by omega)) (yl_within (fun _ => br_t rfl hp) (fun a1 a2 => absurd ⟨a1, by rw [← e23]; exact a2⟩ good)))
end
