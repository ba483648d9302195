/-! one service's turn, a tick, ticks -/
section
variable {B c m n : Nat} {st pr bs tk mk vl cl rs al wt wd tt sb pa du oft bg av ep pt nb lg lt lv gk gt gf gl gs gn sl ss bo ot so sq go mo nt fr tw tx gr ge g1 g2 g3 sv lf se cp : Nat → Int32} {sn lo : Nat → Int64}
theorem ra_q7 : ((1 : Int32) = 2) = False := by decide
theorem ra_x0 (x : Int32) : x + 0 = x := Int32.add_zero x
theorem ra_free_both (hT : ra_T st) : ((∀ post : Int32 → Prop, post (-1) → wpX_freeSlot post (lN c, ep, st, pt, bs, pr, tk, mk, rs, vl, cl, nb, al, wt, lg, wd, sn, lo, lt, lv, gk, gt, gf, gl, gs, gn, sl, ss, sb, pa, du, oft, bg, av, tt)) ∧ (∀ post : Int32 → Prop, post (-1) → wpY_free post (nI n, nI m, st, bo, bs, pr, tk, mk, ot, vl, rs, al, wt, so, sq, go, mo, cl, wd, nt, fr, tw, tx, gr, ge, g1, g2, g3, sv, sb, lf, pa, du, av, bg, oft, se, tt, cp))) ∨
    ∃ s, s < 10 ∧ st s = 0 ∧ (∀ post : Int32 → Prop, post (nI s) → wpX_freeSlot post (lN c, ep, st, pt, bs, pr, tk, mk, rs, vl, cl, nb, al, wt, lg, wd, sn, lo, lt, lv, gk, gt, gf, gl, gs, gn, sl, ss, sb, pa, du, oft, bg, av, tt)) ∧ (∀ post : Int32 → Prop, post (nI s) → wpY_free post (nI n, nI m, st, bo, bs, pr, tk, mk, ot, vl, rs, al, wt, so, sq, go, mo, cl, wd, nt, fr, tw, tx, gr, ge, g1, g2, g3, sv, sb, lf, pa, du, av, bg, oft, se, tt, cp)) := by
  rcases ra_first (fun s => st s = 0) 10 with h | ⟨s, hs, h0, hn⟩
  · exact Or.inl ⟨fun post hp => xl_free_n h hp, fun post hp => yl_free_n h hp⟩
  · exact Or.inr ⟨s, hs, h0, fun post hp => xl_free_s hs h0 hn hp, fun post hp => yl_free_s hs h0 hn hp⟩
theorem ra_revive {k : Nat} (hk : k < 3) (hB : B + 20 ≤ 2 ^ 26) (h : ra_R B c m n st pr tk rs al tt pa bs sb ep pt nb lg sn lo lt lv gk gt gf gl gs gn sl ss bo ot so sq go mo nt fr tw tx gr ge g1 g2 g3 sv lf se) : ∃ (b : Int32) (u' : SX) (v' : SY), ra_RR (B + 11) u' v' ∧ (∀ (post : Int32 → SX → Prop) (q : Nat) (x : Int32), xa_38 post q (x + b) (nI (k + 1)) u' → wX_oneTick_38 post (q + 1) x (nI k) (lN c) ep st pt bs pr tk mk rs vl cl nb al wt lg wd sn lo lt lv gk gt gf gl gs gn sl ss sb pa du oft bg av tt) ∧ (∀ (post : Int32 → SY → Prop) (q : Nat) (x : Int32), ya_95 post q (x + b) (nI (k + 1)) v' → wY_tickOnce_95 post (q + 1) x (nI k) (nI n) (nI m) st bo bs pr tk mk ot vl rs al wt so sq go mo cl wd nt fr tw tx gr ge g1 g2 g3 sv sb lf pa du av bg oft se tt cp) := by
  have hR := h
  obtain ⟨hE, hO, hW, hD, hN, hL, hG, hS, hT, hI, hP⟩ := h
  rcases hS.1 k hk with ⟨v0, l0⟩ | ⟨l0, ⟨lf0, b, hb3, hsb⟩, ⟨p, hp1, hp8, hpa⟩, ⟨v1, s, hs, e1, hl, e2⟩ | ⟨v2, e1, e2⟩⟩
  · -- none
    have n1 : ¬ sv k = 1 := by rw [v0]; decide
    have n2 : ¬ sv k = 2 := by rw [v0]; decide
    refine ⟨0, _, _, ra_RR_mono (ra_in (mk := mk) (vl := vl) (cl := cl) (wt := wt) (wd := wd) (du := du) (oft := oft) (bg := bg) (av := av) (cp := cp) hR) (by omega), fun post q x hp => ?_, fun post q x hp => ?_⟩
    · rw [ra_x0] at hp
      rw [wX_oneTick_38]
      simp (disch := omega) only [wpX_stepService, l0, not_true, not_false_iff, true_implies, false_implies, implies_true, true_and, and_true, forall_eq, eq_self, ra_i, ra_c, ra_m3, ra_m4, ra_m16, ra_4m, ra_14m, ra_16m, nI_add, nI_1, lN_1, ra_p2, ra_2p, ra_n0, ra_p0, ra_q0, ra_q1, ra_q2, ra_q3, ra_n3, ra_n4, ra_n10, ra_n14, ra_n16, ra_n30, ra_n140, ra_y3, ra_y4, ra_y10, ra_y14, ra_y16, ra_y30, ra_y140]
      exact hp
    · rw [wY_tickOnce_95]
      simp (disch := omega) only [wpY_revive, wY_revive_45, n1, not_true, not_false_iff, true_implies, false_implies, implies_true, true_and, and_true, forall_eq, eq_self, ra_i, ra_c, ra_m3, ra_m4, ra_m16, ra_4m, ra_14m, ra_16m, nI_add, nI_1, lN_1, ra_p2, ra_2p, ra_n0, ra_p0, ra_q0, ra_q1, ra_q2, ra_q3, ra_n3, ra_n4, ra_n10, ra_n14, ra_n16, ra_n30, ra_n140, ra_y3, ra_y4, ra_y10, ra_y14, ra_y16, ra_y30, ra_y140]
      have z : ∀ r : Int32, vp_in (nI k) 3 ∧ (sv k = 2 → False) := fun _ => ⟨vp_in_nI hk (by decide), fun y => n2 y⟩
      rcases ra_free_both (c := c) (m := m) (n := n) (ep := ep) (pt := pt) (bs := bs) (pr := pr) (tk := tk) (mk := mk) (rs := rs) (vl := vl) (cl := cl) (nb := nb) (al := al) (wt := wt) (lg := lg) (wd := wd) (sn := sn) (lo := lo) (lt := lt) (lv := lv) (gk := gk) (gt := gt) (gf := gf) (gl := gl) (gs := gs) (gn := gn) (sl := sl) (ss := ss) (sb := sb) (pa := pa) (du := du) (oft := oft) (bg := bg) (av := av) (tt := tt) (bo := bo) (ot := ot) (so := so) (sq := sq) (go := go) (mo := mo) (nt := nt) (fr := fr) (tw := tw) (tx := tx) (gr := gr) (ge := ge) (g1 := g1) (g2 := g2) (g3 := g3) (sv := sv) (lf := lf) (se := se) (cp := cp) hT with ⟨-, fY⟩ | ⟨s, hs, h0, -, fY⟩
      · refine fY _ ?_
        simp (disch := omega) only [n2, not_true, not_false_iff, true_implies, false_implies, implies_true, true_and, and_true, forall_eq, eq_self, ra_i, ra_c, ra_m3, ra_m4, ra_m16, ra_4m, ra_14m, ra_16m, nI_add, nI_1, lN_1, ra_p2, ra_2p, ra_n0, ra_p0, ra_q0, ra_q1, ra_q2, ra_q3, ra_n3, ra_n4, ra_n10, ra_n14, ra_n16, ra_n30, ra_n140, ra_y3, ra_y4, ra_y10, ra_y14, ra_y16, ra_y30, ra_y140]
        exact hp
      · refine fY _ ?_
        simp (disch := omega) only [n2, not_true, not_false_iff, true_implies, false_implies, implies_true, true_and, and_true, forall_eq, eq_self, ra_i, ra_c, ra_m3, ra_m4, ra_m16, ra_4m, ra_14m, ra_16m, nI_add, nI_1, lN_1, ra_p2, ra_2p, ra_n0, ra_p0, ra_q0, ra_q1, ra_q2, ra_q3, ra_n3, ra_n4, ra_n10, ra_n14, ra_n16, ra_n30, ra_n140, ra_y3, ra_y4, ra_y10, ra_y14, ra_y16, ra_y30, ra_y140]
        exact hp
  · -- running
    have n2 : ¬ sv k = 2 := by rw [v1]; decide
    by_cases silent : tt 0 - av k < sl k
    · have silY : tt 0 - av k < lf k := by rw [← lf0]; exact silent
      refine ⟨0, _, _, ra_RR_mono (ra_in (mk := mk) (vl := vl) (cl := cl) (wt := wt) (wd := wd) (du := du) (oft := oft) (bg := bg) (av := av) (cp := cp) hR) (by omega), fun post q x hp => ?_, fun post q x hp => ?_⟩
      · rw [ra_x0] at hp
        rw [wX_oneTick_38]
        simp (disch := omega) only [wpX_stepService, l0, e1, silent, not_true, not_false_iff, true_implies, false_implies, implies_true, true_and, and_true, forall_eq, eq_self, ra_i, ra_c, ra_m3, ra_m4, ra_m16, ra_4m, ra_14m, ra_16m, nI_add, nI_1, lN_1, ra_p2, ra_2p, ra_n0, ra_p0, ra_q0, ra_q1, ra_q2, ra_q3, ra_n3, ra_n4, ra_n10, ra_n14, ra_n16, ra_n30, ra_n140, ra_y3, ra_y4, ra_y10, ra_y14, ra_y16, ra_y30, ra_y140]
        exact hp
      · rw [wY_tickOnce_95]
        simp (disch := omega) only [wpY_revive, wY_revive_45, v1, silY, not_true, not_false_iff, true_implies, false_implies, implies_true, true_and, and_true, forall_eq, eq_self, ra_i, ra_c, ra_m3, ra_m4, ra_m16, ra_4m, ra_14m, ra_16m, nI_add, nI_1, lN_1, ra_p2, ra_2p, ra_n0, ra_p0, ra_q0, ra_q1, ra_q2, ra_q3, ra_n3, ra_n4, ra_n10, ra_n14, ra_n16, ra_n30, ra_n140, ra_y3, ra_y4, ra_y10, ra_y14, ra_y16, ra_y30, ra_y140]
        rcases ra_free_both (c := c) (m := m) (n := n) (st := st) (pr := pr) (bs := bs) (tk := tk) (mk := mk) (vl := vl) (cl := cl) (rs := rs) (al := al) (wt := wt) (wd := wd) (tt := tt) (sb := sb) (pa := pa) (du := du) (oft := oft) (bg := bg) (av := av) (ep := ep) (pt := pt) (nb := nb) (lg := lg) (lt := lt) (lv := lv) (gk := gk) (gt := gt) (gf := gf) (gl := gl) (gs := gs) (gn := gn) (sl := sl) (ss := ss) (bo := bo) (ot := ot) (so := so) (sq := sq) (go := go) (mo := mo) (nt := nt) (fr := fr) (tw := tw) (tx := tx) (gr := gr) (ge := ge) (g1 := g1) (g2 := g2) (g3 := g3) (sv := sv) (lf := lf) (se := se) (cp := cp) (sn := sn) (lo := lo) hT with ⟨-, fY⟩ | ⟨s, hs, h0, -, fY⟩
        · refine fY _ ?_
          simp (disch := omega) only [ra_q7, not_true, not_false_iff, true_implies, false_implies, implies_true, true_and, and_true, forall_eq, eq_self, ra_i, ra_c, ra_m3, ra_m4, ra_m16, ra_4m, ra_14m, ra_16m, nI_add, nI_1, lN_1, ra_p2, ra_2p, ra_n0, ra_p0, ra_q0, ra_q1, ra_q2, ra_q3, ra_n3, ra_n4, ra_n10, ra_n14, ra_n16, ra_n30, ra_n140, ra_y3, ra_y4, ra_y10, ra_y14, ra_y16, ra_y30, ra_y140]
          exact hp
        · refine fY _ ?_
          simp (disch := omega) only [ra_q7, not_true, not_false_iff, true_implies, false_implies, implies_true, true_and, and_true, forall_eq, eq_self, ra_i, ra_c, ra_m3, ra_m4, ra_m16, ra_4m, ra_14m, ra_16m, nI_add, nI_1, lN_1, ra_p2, ra_2p, ra_n0, ra_p0, ra_q0, ra_q1, ra_q2, ra_q3, ra_n3, ra_n4, ra_n10, ra_n14, ra_n16, ra_n30, ra_n140, ra_y3, ra_y4, ra_y10, ra_y14, ra_y16, ra_y30, ra_y140]
          exact hp
    · have silY : ¬ tt 0 - av k < lf k := by rw [← lf0]; exact silent
      have ea : se k &&& 15 = nI s := by rw [e2]; exact ra_E_and (by omega) hE hs
      obtain ⟨c', m', n', st', pt', rs', nb', mo', nt', fr', tw', tx', gr', pa', ss', sv', se', du', tt', sn', lo', hR', hdu, hX, hY⟩ := ra_ends (mk := mk) (vl := vl) (cl := cl) (wt := wt) (wd := wd) (du := du) (oft := oft) (bg := bg) (av := av) (cp := cp) hB hR hs hl
      have hdu' := hdu k hk v1 e2
      refine ⟨0, _, _, ra_in (mk := mk) (vl := vl) (cl := cl) (wt := wt) (wd := wd) (du := du') (oft := oft) (bg := bg) (av := av) (cp := cp) hR', fun post q x hp => ?_, fun post q x hp => ?_⟩
      · rw [ra_x0] at hp
        rw [wX_oneTick_38]
        simp (disch := omega) only [wpX_stepService, l0, e1, silent, not_true, not_false_iff, true_implies, false_implies, implies_true, true_and, and_true, forall_eq, eq_self, ra_i, ra_c, ra_m3, ra_m4, ra_m16, ra_4m, ra_14m, ra_16m, nI_add, nI_1, lN_1, ra_p2, ra_2p, ra_n0, ra_p0, ra_q0, ra_q1, ra_q2, ra_q3, ra_n3, ra_n4, ra_n10, ra_n14, ra_n16, ra_n30, ra_n140, ra_y3, ra_y4, ra_y10, ra_y14, ra_y16, ra_y30, ra_y140]
        refine hX _ ?_
        simp (disch := omega) only [not_true, not_false_iff, true_implies, false_implies, implies_true, true_and, and_true, forall_eq, eq_self, ra_i, ra_c, ra_m3, ra_m4, ra_m16, ra_4m, ra_14m, ra_16m, nI_add, nI_1, lN_1, ra_p2, ra_2p, ra_n0, ra_p0, ra_q0, ra_q1, ra_q2, ra_q3, ra_n3, ra_n4, ra_n10, ra_n14, ra_n16, ra_n30, ra_n140, ra_y3, ra_y4, ra_y10, ra_y14, ra_y16, ra_y30, ra_y140]
        exact hp
      · rw [wY_tickOnce_95]
        simp (disch := omega) only [wpY_revive, v1, silY, ea, not_true, not_false_iff, true_implies, false_implies, implies_true, true_and, and_true, forall_eq, eq_self, ra_i, ra_c, ra_m3, ra_m4, ra_m16, ra_4m, ra_14m, ra_16m, nI_add, nI_1, lN_1, ra_p2, ra_2p, ra_n0, ra_p0, ra_q0, ra_q1, ra_q2, ra_q3, ra_n3, ra_n4, ra_n10, ra_n14, ra_n16, ra_n30, ra_n140, ra_y3, ra_y4, ra_y10, ra_y14, ra_y16, ra_y30, ra_y140]
        refine hY _ ?_
        simp (disch := omega) only [wY_revive_45, not_true, not_false_iff, true_implies, false_implies, implies_true, true_and, and_true, forall_eq, eq_self, ra_i, ra_c, ra_m3, ra_m4, ra_m16, ra_4m, ra_14m, ra_16m, nI_add, nI_1, lN_1, ra_p2, ra_2p, ra_n0, ra_p0, ra_q0, ra_q1, ra_q2, ra_q3, ra_n3, ra_n4, ra_n10, ra_n14, ra_n16, ra_n30, ra_n140, ra_y3, ra_y4, ra_y10, ra_y14, ra_y16, ra_y30, ra_y140]
        rcases ra_free_both (c := c') (m := m') (n := n') (st := st') (pr := pr) (bs := bs) (tk := tk) (mk := mk) (vl := vl) (cl := cl) (rs := rs') (al := al) (wt := wt) (wd := wd) (tt := tt') (sb := sb) (pa := pa') (du := du') (oft := oft) (bg := bg) (av := av) (ep := upd ep s (ep s + 16)) (pt := pt') (nb := nb') (lg := lg) (lt := lt) (lv := lv) (gk := gk) (gt := gt) (gf := gf) (gl := gl) (gs := gs) (gn := gn) (sl := sl) (ss := ss') (bo := bo) (ot := ot) (so := so) (sq := sq) (go := go) (mo := mo') (nt := nt') (fr := fr') (tw := tw') (tx := tx') (gr := gr') (ge := ge) (g1 := g1) (g2 := g2) (g3 := g3) (sv := sv') (lf := lf) (se := se') (cp := cp) (sn := sn') (lo := lo') hR'.2.2.2.2.2.2.2.2.1 with ⟨-, fY⟩ | ⟨s, hs, h0, -, fY⟩
        · refine fY _ ?_
          simp (disch := omega) only [hdu', not_true, not_false_iff, true_implies, false_implies, implies_true, true_and, and_true, forall_eq, eq_self, ra_i, ra_c, ra_m3, ra_m4, ra_m16, ra_4m, ra_14m, ra_16m, nI_add, nI_1, lN_1, ra_p2, ra_2p, ra_n0, ra_p0, ra_q0, ra_q1, ra_q2, ra_q3, ra_n3, ra_n4, ra_n10, ra_n14, ra_n16, ra_n30, ra_n140, ra_y3, ra_y4, ra_y10, ra_y14, ra_y16, ra_y30, ra_y140]
          exact br_c (fun _ => hp) (fun _ => hp)
        · refine fY _ ?_
          simp (disch := omega) only [hdu', not_true, not_false_iff, true_implies, false_implies, implies_true, true_and, and_true, forall_eq, eq_self, ra_i, ra_c, ra_m3, ra_m4, ra_m16, ra_4m, ra_14m, ra_16m, nI_add, nI_1, lN_1, ra_p2, ra_2p, ra_n0, ra_p0, ra_q0, ra_q1, ra_q2, ra_q3, ra_n3, ra_n4, ra_n10, ra_n14, ra_n16, ra_n30, ra_n140, ra_y3, ra_y4, ra_y10, ra_y14, ra_y16, ra_y30, ra_y140]
          exact br_c (fun _ => hp) (fun _ => hp)
  · -- down
    have n1 : ¬ sv k = 1 := by rw [v2]; decide
    rcases ra_free_both (c := c) (m := m) (n := n) (st := st) (pr := pr) (bs := bs) (tk := tk) (mk := mk) (vl := vl) (cl := cl) (rs := rs) (al := al) (wt := wt) (wd := wd) (tt := tt) (sb := sb) (pa := pa) (du := du) (oft := oft) (bg := bg) (av := av) (ep := ep) (pt := pt) (nb := nb) (lg := lg) (lt := lt) (lv := lv) (gk := gk) (gt := gt) (gf := gf) (gl := gl) (gs := gs) (gn := gn) (sl := sl) (ss := ss) (bo := bo) (ot := ot) (so := so) (sq := sq) (go := go) (mo := mo) (nt := nt) (fr := fr) (tw := tw) (tx := tx) (gr := gr) (ge := ge) (g1 := g1) (g2 := g2) (g3 := g3) (sv := sv) (lf := lf) (se := se) (cp := cp) (sn := sn) (lo := lo) hT with ⟨fX, fY⟩ | ⟨s, hs, h0, fX, fY⟩
    · refine ⟨0, _, _, ra_RR_mono (ra_in (mk := mk) (vl := vl) (cl := cl) (wt := wt) (wd := wd) (du := du) (oft := oft) (bg := bg) (av := av) (cp := cp) hR) (by omega), fun post q x hp => ?_, fun post q x hp => ?_⟩
      · rw [ra_x0] at hp
        rw [wX_oneTick_38]
        simp (disch := omega) only [wpX_stepService, l0, e1, not_true, not_false_iff, true_implies, false_implies, implies_true, true_and, and_true, forall_eq, eq_self, ra_i, ra_c, ra_m3, ra_m4, ra_m16, ra_4m, ra_14m, ra_16m, nI_add, nI_1, lN_1, ra_p2, ra_2p, ra_n0, ra_p0, ra_q0, ra_q1, ra_q2, ra_q3, ra_n3, ra_n4, ra_n10, ra_n14, ra_n16, ra_n30, ra_n140, ra_y3, ra_y4, ra_y10, ra_y14, ra_y16, ra_y30, ra_y140]
        refine fX _ ?_
        simp (disch := omega) only [not_true, not_false_iff, true_implies, false_implies, implies_true, true_and, and_true, forall_eq, eq_self, ra_i, ra_c, ra_m3, ra_m4, ra_m16, ra_4m, ra_14m, ra_16m, nI_add, nI_1, lN_1, ra_p2, ra_2p, ra_n0, ra_p0, ra_q0, ra_q1, ra_q2, ra_q3, ra_n3, ra_n4, ra_n10, ra_n14, ra_n16, ra_n30, ra_n140, ra_y3, ra_y4, ra_y10, ra_y14, ra_y16, ra_y30, ra_y140]
        exact br_c (fun _ => hp) (fun _ => hp)
      · rw [wY_tickOnce_95]
        simp (disch := omega) only [wpY_revive, wY_revive_45, n1, not_true, not_false_iff, true_implies, false_implies, implies_true, true_and, and_true, forall_eq, eq_self, ra_i, ra_c, ra_m3, ra_m4, ra_m16, ra_4m, ra_14m, ra_16m, nI_add, nI_1, lN_1, ra_p2, ra_2p, ra_n0, ra_p0, ra_q0, ra_q1, ra_q2, ra_q3, ra_n3, ra_n4, ra_n10, ra_n14, ra_n16, ra_n30, ra_n140, ra_y3, ra_y4, ra_y10, ra_y14, ra_y16, ra_y30, ra_y140]
        refine fY _ ?_
        simp (disch := omega) only [v2, not_true, not_false_iff, true_implies, false_implies, implies_true, true_and, and_true, forall_eq, eq_self, ra_i, ra_c, ra_m3, ra_m4, ra_m16, ra_4m, ra_14m, ra_16m, nI_add, nI_1, lN_1, ra_p2, ra_2p, ra_n0, ra_p0, ra_q0, ra_q1, ra_q2, ra_q3, ra_n3, ra_n4, ra_n10, ra_n14, ra_n16, ra_n30, ra_n140, ra_y3, ra_y4, ra_y10, ra_y14, ra_y16, ra_y30, ra_y140]
        exact br_c (fun _ => hp) (fun _ => hp)
    · by_cases due : tt 0 < du k
      · refine ⟨0, _, _, ra_RR_mono (ra_in (mk := mk) (vl := vl) (cl := cl) (wt := wt) (wd := wd) (du := du) (oft := oft) (bg := bg) (av := av) (cp := cp) hR) (by omega), fun post q x hp => ?_, fun post q x hp => ?_⟩
        · rw [ra_x0] at hp
          rw [wX_oneTick_38]
          simp (disch := omega) only [wpX_stepService, l0, e1, not_true, not_false_iff, true_implies, false_implies, implies_true, true_and, and_true, forall_eq, eq_self, ra_i, ra_c, ra_m3, ra_m4, ra_m16, ra_4m, ra_14m, ra_16m, nI_add, nI_1, lN_1, ra_p2, ra_2p, ra_n0, ra_p0, ra_q0, ra_q1, ra_q2, ra_q3, ra_n3, ra_n4, ra_n10, ra_n14, ra_n16, ra_n30, ra_n140, ra_y3, ra_y4, ra_y10, ra_y14, ra_y16, ra_y30, ra_y140]
          refine fX _ ?_
          simp (disch := omega) only [due, not_true, not_false_iff, true_implies, false_implies, implies_true, true_and, and_true, forall_eq, eq_self, ra_i, ra_c, ra_m3, ra_m4, ra_m16, ra_4m, ra_14m, ra_16m, nI_add, nI_1, lN_1, ra_p2, ra_2p, ra_n0, ra_p0, ra_q0, ra_q1, ra_q2, ra_q3, ra_n3, ra_n4, ra_n10, ra_n14, ra_n16, ra_n30, ra_n140, ra_y3, ra_y4, ra_y10, ra_y14, ra_y16, ra_y30, ra_y140]
          exact hp
        · rw [wY_tickOnce_95]
          simp (disch := omega) only [wpY_revive, wY_revive_45, n1, not_true, not_false_iff, true_implies, false_implies, implies_true, true_and, and_true, forall_eq, eq_self, ra_i, ra_c, ra_m3, ra_m4, ra_m16, ra_4m, ra_14m, ra_16m, nI_add, nI_1, lN_1, ra_p2, ra_2p, ra_n0, ra_p0, ra_q0, ra_q1, ra_q2, ra_q3, ra_n3, ra_n4, ra_n10, ra_n14, ra_n16, ra_n30, ra_n140, ra_y3, ra_y4, ra_y10, ra_y14, ra_y16, ra_y30, ra_y140]
          refine fY _ ?_
          simp (disch := omega) only [v2, due, not_true, not_false_iff, true_implies, false_implies, implies_true, true_and, and_true, forall_eq, eq_self, ra_i, ra_c, ra_m3, ra_m4, ra_m16, ra_4m, ra_14m, ra_16m, nI_add, nI_1, lN_1, ra_p2, ra_2p, ra_n0, ra_p0, ra_q0, ra_q1, ra_q2, ra_q3, ra_n3, ra_n4, ra_n10, ra_n14, ra_n16, ra_n30, ra_n140, ra_y3, ra_y4, ra_y10, ra_y14, ra_y16, ra_y30, ra_y140]
          exact hp
      · have hb := ra_R_begS (s := s) (p := b) (k := k) (v := tt 1 + 1) (lg' := ra_z lg (3 * s) 3) (gk' := ra_z gk (4 * s) 4) hR hs h0 hb3 (fun _ _ => rfl) (fun _ _ => rfl) hk v2
        have ye : 16 * (upd bo s (bo s + 1) s - 1) + nI s = ep s := ra_E_y hb.1 hs (by rw [pk_us]; decide)
        obtain ⟨u', v', hR', hX, hY⟩ := ra_watchers hk 10 0 (B + 1) _ _ _ _ _ _ _ (upd mk s 1023) vl cl _ _ (upd wt s 0) (ra_z wd (16 * s) 16) _ _ _ du (upd oft k (oft k + 1)) (upd bg k (tt 0)) (upd av k (tt 0)) _ _ _ _ _ _ _ _ _ _ _ _ _ _ _ _ _ _ _ _ _ _ _ _ _ _ _ _ _ _ _ _ cp _ _ rfl (by omega) hb
        have t0 : upd tt 1 (tt 1 + 1) 0 = tt 0 := rfl
        refine ⟨1, u', v', ra_RR_mono hR' (by omega), fun post q x hp => ?_, fun post q x hp => ?_⟩
        · rw [wX_oneTick_38]
          simp (disch := omega) only [wpX_stepService, l0, e1, not_true, not_false_iff, true_implies, false_implies, implies_true, true_and, and_true, forall_eq, eq_self, ra_i, ra_c, ra_m3, ra_m4, ra_m16, ra_4m, ra_14m, ra_16m, nI_add, nI_1, lN_1, ra_p2, ra_2p, ra_n0, ra_p0, ra_q0, ra_q1, ra_q2, ra_q3, ra_n3, ra_n4, ra_n10, ra_n14, ra_n16, ra_n30, ra_n140, ra_y3, ra_y4, ra_y10, ra_y14, ra_y16, ra_y30, ra_y140]
          refine fX _ ?_
          simp (disch := omega) only [due, hsb, not_true, not_false_iff, true_implies, false_implies, implies_true, true_and, and_true, forall_eq, eq_self, ra_i, ra_c, ra_m3, ra_m4, ra_m16, ra_4m, ra_14m, ra_16m, nI_add, nI_1, lN_1, ra_p2, ra_2p, ra_n0, ra_p0, ra_q0, ra_q1, ra_q2, ra_q3, ra_n3, ra_n4, ra_n10, ra_n14, ra_n16, ra_n30, ra_n140, ra_y3, ra_y4, ra_y10, ra_y14, ra_y16, ra_y30, ra_y140]
          refine xl_beginProcess hs ?_
          simp (disch := omega) only [not_true, not_false_iff, true_implies, false_implies, implies_true, true_and, and_true, forall_eq, eq_self, ra_i, ra_c, ra_m3, ra_m4, ra_m16, ra_4m, ra_14m, ra_16m, nI_add, nI_1, lN_1, ra_p2, ra_2p, ra_n0, ra_p0, ra_q0, ra_q1, ra_q2, ra_q3, ra_n3, ra_n4, ra_n10, ra_n14, ra_n16, ra_n30, ra_n140, ra_y3, ra_y4, ra_y10, ra_y14, ra_y16, ra_y30, ra_y140]
          refine ⟨11, hX _ ?_⟩
          obtain ⟨c', m', n', st', pr', bs', tk', mk', vl', cl', rs', al', wt', wd', tt', sb', pa', du', oft', bg', av', ep', pt', nb', lg', lt', lv', gk', gt', gf', gl', gs', gn', sl', ss', bo', ot', so', sq', go', mo', nt', fr', tw', tx', gr', ge', g1', g2', g3', sv', lf', se', cp', sn', lo', rfl, rfl, -⟩ := hR'
          exact hp
        · rw [wY_tickOnce_95]
          simp (disch := omega) only [wpY_revive, wY_revive_45, n1, not_true, not_false_iff, true_implies, false_implies, implies_true, true_and, and_true, forall_eq, eq_self, ra_i, ra_c, ra_m3, ra_m4, ra_m16, ra_4m, ra_14m, ra_16m, nI_add, nI_1, lN_1, ra_p2, ra_2p, ra_n0, ra_p0, ra_q0, ra_q1, ra_q2, ra_q3, ra_n3, ra_n4, ra_n10, ra_n14, ra_n16, ra_n30, ra_n140, ra_y3, ra_y4, ra_y10, ra_y14, ra_y16, ra_y30, ra_y140]
          refine fY _ ?_
          simp (disch := omega) only [v2, due, hsb, not_true, not_false_iff, true_implies, false_implies, implies_true, true_and, and_true, forall_eq, eq_self, ra_i, ra_c, ra_m3, ra_m4, ra_m16, ra_4m, ra_14m, ra_16m, nI_add, nI_1, lN_1, ra_p2, ra_2p, ra_n0, ra_p0, ra_q0, ra_q1, ra_q2, ra_q3, ra_n3, ra_n4, ra_n10, ra_n14, ra_n16, ra_n30, ra_n140, ra_y3, ra_y4, ra_y10, ra_y14, ra_y16, ra_y30, ra_y140]
          refine yl_begin hs ?_
          simp (disch := omega) only [ye, t0, not_true, not_false_iff, true_implies, false_implies, implies_true, true_and, and_true, forall_eq, eq_self, ra_i, ra_c, ra_m3, ra_m4, ra_m16, ra_4m, ra_14m, ra_16m, nI_add, nI_1, lN_1, ra_p2, ra_2p, ra_n0, ra_p0, ra_q0, ra_q1, ra_q2, ra_q3, ra_n3, ra_n4, ra_n10, ra_n14, ra_n16, ra_n30, ra_n140, ra_y3, ra_y4, ra_y10, ra_y14, ra_y16, ra_y30, ra_y140]
          refine ⟨11, hY _ ?_⟩
          obtain ⟨c', m', n', st', pr', bs', tk', mk', vl', cl', rs', al', wt', wd', tt', sb', pa', du', oft', bg', av', ep', pt', nb', lg', lt', lv', gk', gt', gf', gl', gs', gn', sl', ss', bo', ot', so', sq', go', mo', nt', fr', tw', tx', gr', ge', g1', g2', g3', sv', lf', se', cp', sn', lo', rfl, rfl, -⟩ := hR'
          exact hp
end
