/-! the pieces of a tick -/
section
variable {B c m n : Nat} {st pr bs tk mk vl cl rs al wt wd tt sb pa du oft bg av ep pt nb lg lt lv gk gt gf gl gs gn sl ss bo ot so sq go mo nt fr tw tx gr ge g1 g2 g3 sv lf se cp : Nat → Int32} {sn lo : Nat → Int64}
theorem ra_R_last {s : Nat} (h : ra_R B c m n st pr tk rs al tt pa bs sb ep pt nb lg sn lo lt lv gk gt gf gl gs gn sl ss bo ot so sq go mo nt fr tw tx gr ge g1 g2 g3 sv lf se) (hs : s < 10) : ra_R (B + 1) (c + 1) (m + 1) n st pr tk rs al tt pa bs sb ep pt nb lg (vp_updL sn s (lN (c + 1))) lo lt lv gk gt gf gl gs gn sl ss bo ot so sq go (upd mo s (nI (m + 1))) nt fr tw tx gr ge g1 g2 g3 sv lf se := by
  obtain ⟨h1, h2, h3, h4, h5, h6, h7, h8, h9, h10, h11⟩ := h
  exact ⟨ra_E_mono (Nat.le_succ _) h1, ra_O_last h2 hs, h3, h4, h5, ra_L_c h6 (Nat.le_succ _), h7, h8, h9, ra_I_mono (Nat.le_succ _) h10, h11⟩
theorem ra_R_pr {s p : Nat} (h : ra_R B c m n st pr tk rs al tt pa bs sb ep pt nb lg sn lo lt lv gk gt gf gl gs gn sl ss bo ot so sq go mo nt fr tw tx gr ge g1 g2 g3 sv lf se) (hp : p ≤ 3) : ra_R B c m n st (upd pr s (nI p)) tk rs al tt pa bs sb ep pt nb lg sn lo lt lv gk gt gf gl gs gn sl ss bo ot so sq go mo nt fr tw tx gr ge g1 g2 g3 sv lf se := by
  obtain ⟨h1, h2, h3, h4, h5, h6, h7, h8, h9, h10, h11⟩ := h
  exact ⟨h1, h2, h3, h4, h5, h6, h7, h8, h9, h10, ra_P_pr h11 hp⟩
theorem ra_R_tk {s p : Nat} (h : ra_R B c m n st pr tk rs al tt pa bs sb ep pt nb lg sn lo lt lv gk gt gf gl gs gn sl ss bo ot so sq go mo nt fr tw tx gr ge g1 g2 g3 sv lf se) (hp : 1 ≤ p) (hq : p ≤ 4) : ra_R B c m n st pr (upd tk s (nI p)) rs al tt pa bs sb ep pt nb lg sn lo lt lv gk gt gf gl gs gn sl ss bo ot so sq go mo nt fr tw tx gr ge g1 g2 g3 sv lf se := by
  obtain ⟨h1, h2, h3, h4, h5, h6, h7, h8, h9, h10, h11⟩ := h
  exact ⟨h1, h2, h3, h4, h5, h6, h7, h8, h9, h10, ra_P_tk h11 hp hq⟩
theorem ra_R_al {s p : Nat} (h : ra_R B c m n st pr tk rs al tt pa bs sb ep pt nb lg sn lo lt lv gk gt gf gl gs gn sl ss bo ot so sq go mo nt fr tw tx gr ge g1 g2 g3 sv lf se) (hp : p ≤ 100) : ra_R B c m n st pr tk rs (upd al s (nI p)) tt pa bs sb ep pt nb lg sn lo lt lv gk gt gf gl gs gn sl ss bo ot so sq go mo nt fr tw tx gr ge g1 g2 g3 sv lf se := by
  obtain ⟨h1, h2, h3, h4, h5, h6, h7, h8, h9, h10, h11⟩ := h
  exact ⟨h1, h2, h3, h4, h5, h6, h7, h8, h9, h10, ra_P_al h11 hp⟩
theorem ra_R_time (h : ra_R B c m n st pr tk rs al tt pa bs sb ep pt nb lg sn lo lt lv gk gt gf gl gs gn sl ss bo ot so sq go mo nt fr tw tx gr ge g1 g2 g3 sv lf se) : ra_R (B + 1) c m n st pr tk rs al (upd tt 0 (tt 0 + 1)) pa bs sb ep pt nb lg sn lo lt lv gk gt gf gl gs gn sl ss bo ot so sq go mo nt fr tw tx gr ge g1 g2 g3 sv lf se := by
  have h0 := ra_R_mono h (Nat.le_succ B)
  obtain ⟨h1, h2, h3, h4, h5, h6, h7, h8, h9, -, h11⟩ := h0
  obtain ⟨-, -, -, -, -, -, -, -, -, ⟨t, ht, e⟩, -⟩ := h
  exact ⟨h1, h2, h3, h4, h5, h6, h7, h8, h9, ⟨t + 1, by omega, by rw [pk_us, e, nI_1]⟩, h11⟩
theorem xl_comeIntoRow1 {s : Nat} {x : Int32} {post : SX → Prop} (hs : s < 10) (h1 : st s = 1) (h : post (lN (c + 1), ep, st, pt, bs, upd pr s x, tk, mk, rs, vl, cl, nb, al, wt, lg, wd, vp_updL sn s (lN (c + 1)), lo, lt, lv, gk, gt, gf, gl, gs, gn, sl, ss, sb, pa, du, oft, bg, av, tt)) : wpX_comeIntoRow post (lN c, ep, st, pt, bs, pr, tk, mk, rs, vl, cl, nb, al, wt, lg, wd, sn, lo, lt, lv, gk, gt, gf, gl, gs, gn, sl, ss, sb, pa, du, oft, bg, av, tt) (nI s) x := by
  simp (disch := omega) only [wpX_comeIntoRow, h1, not_true, not_false_iff, true_implies, false_implies, implies_true, true_and, and_true, forall_eq, eq_self, ra_i, ra_c, ra_m3, ra_m4, ra_m16, ra_4m, ra_14m, ra_16m, nI_add, nI_1, lN_1, ra_p2, ra_2p, ra_n0, ra_p0, ra_q0, ra_q1, ra_q2, ra_q3, ra_n3, ra_n4, ra_n10, ra_n14, ra_n16, ra_n30, ra_n140, ra_y3, ra_y4, ra_y10, ra_y14, ra_y16, ra_y30, ra_y140]
  exact h
theorem xl_comeIntoRow0 {s : Nat} {x : Int32} {post : SX → Prop} (hs : s < 10) (h1 : ¬ st s = 1) (h : post (lN c, ep, st, pt, bs, upd pr s x, tk, mk, rs, vl, cl, nb, al, wt, lg, wd, sn, lo, lt, lv, gk, gt, gf, gl, gs, gn, sl, ss, sb, pa, du, oft, bg, av, tt)) : wpX_comeIntoRow post (lN c, ep, st, pt, bs, pr, tk, mk, rs, vl, cl, nb, al, wt, lg, wd, sn, lo, lt, lv, gk, gt, gf, gl, gs, gn, sl, ss, sb, pa, du, oft, bg, av, tt) (nI s) x := by
  simp (disch := omega) only [wpX_comeIntoRow, h1, not_true, not_false_iff, true_implies, false_implies, implies_true, true_and, and_true, forall_eq, eq_self, ra_i, ra_c, ra_m3, ra_m4, ra_m16, ra_4m, ra_14m, ra_16m, nI_add, nI_1, lN_1, ra_p2, ra_2p, ra_n0, ra_p0, ra_q0, ra_q1, ra_q2, ra_q3, ra_n3, ra_n4, ra_n10, ra_n14, ra_n16, ra_n30, ra_n140, ra_y3, ra_y4, ra_y10, ra_y14, ra_y16, ra_y30, ra_y140]
  exact h
theorem yl_last {s : Nat} {post : SY → Prop} (hs : s < 10) (h : post (nI n, nI (m + 1), st, bo, bs, pr, tk, mk, ot, vl, rs, al, wt, so, sq, go, upd mo s (nI (m + 1)), cl, wd, nt, fr, tw, tx, gr, ge, g1, g2, g3, sv, sb, lf, pa, du, av, bg, oft, se, tt, cp)) : wpY_last post (nI n, nI m, st, bo, bs, pr, tk, mk, ot, vl, rs, al, wt, so, sq, go, mo, cl, wd, nt, fr, tw, tx, gr, ge, g1, g2, g3, sv, sb, lf, pa, du, av, bg, oft, se, tt, cp) (nI s) := by
  simp (disch := omega) only [wpY_last, not_true, not_false_iff, true_implies, false_implies, implies_true, true_and, and_true, forall_eq, eq_self, ra_i, ra_c, ra_m3, ra_m4, ra_m16, ra_4m, ra_14m, ra_16m, nI_add, nI_1, lN_1, ra_p2, ra_2p, ra_n0, ra_p0, ra_q0, ra_q1, ra_q2, ra_q3, ra_n3, ra_n4, ra_n10, ra_n14, ra_n16, ra_n30, ra_n140, ra_y3, ra_y4, ra_y10, ra_y14, ra_y16, ra_y30, ra_y140]
  exact h
theorem ra_sink (hB : B ≤ 2 ^ 26) (h : ra_R B c m n st pr tk rs al tt pa bs sb ep pt nb lg sn lo lt lv gk gt gf gl gs gn sl ss bo ot so sq go mo nt fr tw tx gr ge g1 g2 g3 sv lf se) : ∃ (u' : SX) (v' : SY), ra_RR (B + 1) u' v' ∧ (∀ post : SX → Prop, post u' → wpX_ageRunning post (lN c, ep, st, pt, bs, pr, tk, mk, rs, vl, cl, nb, al, wt, lg, wd, sn, lo, lt, lv, gk, gt, gf, gl, gs, gn, sl, ss, sb, pa, du, oft, bg, av, tt)) ∧ (∀ post : SY → Prop, post v' → wpY_sink post (nI n, nI m, st, bo, bs, pr, tk, mk, ot, vl, rs, al, wt, so, sq, go, mo, cl, wd, nt, fr, tw, tx, gr, ge, g1, g2, g3, sv, sb, lf, pa, du, av, bg, oft, se, tt, cp)) := by
  rcases ra_run_both hB h with ⟨rX, rY⟩ | ⟨r, hr, hr1, rX, rY⟩
  · refine ⟨_, _, ra_RR_mono (ra_in (mk := mk) (vl := vl) (cl := cl) (wt := wt) (wd := wd) (du := du) (oft := oft) (bg := bg) (av := av) (cp := cp) h) (by omega), fun post hp => ?_, fun post hp => ?_⟩
    · simp only [wpX_ageRunning]
      exact rX _ (br_f (by decide) hp)
    · simp only [wpY_sink]
      exact rY _ (br_f (by decide) hp)
  · have hr0 : st r ≠ 0 := by rw [hr1]; decide
    obtain ⟨⟨p, hp3, hpr⟩, -, -, hk⟩ := h.2.2.2.2.2.2.2.2.2.2 r hr
    obtain ⟨k, hk1, hk4, hkt⟩ := hk hr0
    obtain ⟨q, rfl⟩ : ∃ q, k = q + 1 := ⟨k - 1, by omega⟩
    have e1 : tk r - 1 = nI q := by rw [hkt, nI_pred]
    by_cases q0 : q = 0
    · subst q0
      by_cases p3 : p = 3
      · subst p3
        have a3 : (3 : Int32) ≤ nI 3 := by decide
        have ep3 : upd pr r 3 = pr := ra_us hpr
        refine ⟨_, _, ra_in (mk := mk) (vl := vl) (cl := cl) (wt := wt) (wd := wd) (du := du) (oft := oft) (bg := bg) (av := av) (cp := cp) (ra_R_last (ra_R_tk (s := r) (p := 4) h (by omega) (by omega)) hr), fun post hp => ?_, fun post hp => ?_⟩
        · simp only [wpX_ageRunning]
          refine rX _ (br_t (nI_pos' (by omega)) ?_)
          simp (disch := omega) only [e1, pk_us, nI_0, ra_uu, hpr, a3, wX_ageRunning_58, not_true, not_false_iff, true_implies, false_implies, implies_true, true_and, and_true, forall_eq, eq_self, ra_i, ra_c, ra_m3, ra_m4, ra_m16, ra_4m, ra_14m, ra_16m, nI_add, nI_1, lN_1, ra_p2, ra_2p, ra_n0, ra_p0, ra_q0, ra_q1, ra_q2, ra_q3, ra_n3, ra_n4, ra_n10, ra_n14, ra_n16, ra_n30, ra_n140, ra_y3, ra_y4, ra_y10, ra_y14, ra_y16, ra_y30, ra_y140]
          refine xl_comeIntoRow1 hr hr1 ?_
          rw [ep3]
          exact hp
        · simp only [wpY_sink]
          refine rY _ (br_t (nI_pos' (by omega)) ?_)
          simp (disch := omega) only [e1, pk_us, nI_0, ra_uu, hpr, a3, Int32.le_refl, wY_sink_57, not_true, not_false_iff, true_implies, false_implies, implies_true, true_and, and_true, forall_eq, eq_self, ra_i, ra_c, ra_m3, ra_m4, ra_m16, ra_4m, ra_14m, ra_16m, nI_add, nI_1, lN_1, ra_p2, ra_2p, ra_n0, ra_p0, ra_q0, ra_q1, ra_q2, ra_q3, ra_n3, ra_n4, ra_n10, ra_n14, ra_n16, ra_n30, ra_n140, ra_y3, ra_y4, ra_y10, ra_y14, ra_y16, ra_y30, ra_y140]
          exact yl_last hr hp
      · have a3 : ¬ (3 : Int32) ≤ nI p := nI_ge (b := 3) (by omega) (by decide)
        refine ⟨_, _, ra_in (mk := mk) (vl := vl) (cl := cl) (wt := wt) (wd := wd) (du := du) (oft := oft) (bg := bg) (av := av) (cp := cp) (ra_R_last (ra_R_pr (s := r) (p := p + 1) (ra_R_tk (s := r) (p := 4) h (by omega) (by omega)) (by omega)) hr), fun post hp => ?_, fun post hp => ?_⟩
        · simp only [wpX_ageRunning]
          refine rX _ (br_t (nI_pos' (by omega)) ?_)
          simp (disch := omega) only [e1, pk_us, nI_0, ra_uu, hpr, a3, wX_ageRunning_58, not_true, not_false_iff, true_implies, false_implies, implies_true, true_and, and_true, forall_eq, eq_self, ra_i, ra_c, ra_m3, ra_m4, ra_m16, ra_4m, ra_14m, ra_16m, nI_add, nI_1, lN_1, ra_p2, ra_2p, ra_n0, ra_p0, ra_q0, ra_q1, ra_q2, ra_q3, ra_n3, ra_n4, ra_n10, ra_n14, ra_n16, ra_n30, ra_n140, ra_y3, ra_y4, ra_y10, ra_y14, ra_y16, ra_y30, ra_y140]
          exact xl_comeIntoRow1 hr hr1 hp
        · simp only [wpY_sink]
          refine rY _ (br_t (nI_pos' (by omega)) ?_)
          simp (disch := omega) only [e1, pk_us, nI_0, ra_uu, hpr, a3, Int32.le_refl, wY_sink_57, not_true, not_false_iff, true_implies, false_implies, implies_true, true_and, and_true, forall_eq, eq_self, ra_i, ra_c, ra_m3, ra_m4, ra_m16, ra_4m, ra_14m, ra_16m, nI_add, nI_1, lN_1, ra_p2, ra_2p, ra_n0, ra_p0, ra_q0, ra_q1, ra_q2, ra_q3, ra_n3, ra_n4, ra_n10, ra_n14, ra_n16, ra_n30, ra_n140, ra_y3, ra_y4, ra_y10, ra_y14, ra_y16, ra_y30, ra_y140]
          exact yl_last hr hp
    · have n0 : ¬ nI q = 0 := nI_ne0 (by omega) (by omega)
      have n1 : ¬ nI q ≤ 0 := nI_nle (by omega) (by omega)
      refine ⟨_, _, ra_RR_mono (ra_in (mk := mk) (vl := vl) (cl := cl) (wt := wt) (wd := wd) (du := du) (oft := oft) (bg := bg) (av := av) (cp := cp) (ra_R_tk (s := r) (p := q) h (by omega) (by omega))) (by omega), fun post hp => ?_, fun post hp => ?_⟩
      · simp only [wpX_ageRunning]
        refine rX _ (br_t (nI_pos' (by omega)) ?_)
        simp (disch := omega) only [e1, pk_us, n0, not_true, not_false_iff, true_implies, false_implies, implies_true, true_and, and_true, forall_eq, eq_self, ra_i, ra_c, ra_m3, ra_m4, ra_m16, ra_4m, ra_14m, ra_16m, nI_add, nI_1, lN_1, ra_p2, ra_2p, ra_n0, ra_p0, ra_q0, ra_q1, ra_q2, ra_q3, ra_n3, ra_n4, ra_n10, ra_n14, ra_n16, ra_n30, ra_n140, ra_y3, ra_y4, ra_y10, ra_y14, ra_y16, ra_y30, ra_y140]
        exact hp
      · simp only [wpY_sink]
        refine rY _ (br_t (nI_pos' (by omega)) ?_)
        simp (disch := omega) only [e1, pk_us, n1, not_true, not_false_iff, true_implies, false_implies, implies_true, true_and, and_true, forall_eq, eq_self, ra_i, ra_c, ra_m3, ra_m4, ra_m16, ra_4m, ra_14m, ra_16m, nI_add, nI_1, lN_1, ra_p2, ra_2p, ra_n0, ra_p0, ra_q0, ra_q1, ra_q2, ra_q3, ra_n3, ra_n4, ra_n10, ra_n14, ra_n16, ra_n30, ra_n140, ra_y3, ra_y4, ra_y10, ra_y14, ra_y16, ra_y30, ra_y140]
        exact hp
theorem ra_rise : ∀ (d i B : Nat) (c m n : Nat) (st pr bs tk mk vl cl rs al wt wd tt sb pa du oft bg av ep pt nb lg lt lv gk gt gf gl gs gn sl ss bo ot so sq go mo nt fr tw tx gr ge g1 g2 g3 sv lf se cp : Nat → Int32) (sn lo : Nat → Int64), i + d = 10 → B + d ≤ 2 ^ 26 → ra_R B c m n st pr tk rs al tt pa bs sb ep pt nb lg sn lo lt lv gk gt gf gl gs gn sl ss bo ot so sq go mo nt fr tw tx gr ge g1 g2 g3 sv lf se → ∃ (u' : SX) (v' : SY), ra_RR (B + d) u' v' ∧ (∀ post : SX → Prop, post u' → wX_relieveAll_2 post (d + 1) (nI i) (lN c) ep st pt bs pr tk mk rs vl cl nb al wt lg wd sn lo lt lv gk gt gf gl gs gn sl ss sb pa du oft bg av tt) ∧ (∀ post : SY → Prop, post v' → wY_rise_2 post (d + 1) (nI i) (nI n) (nI m) st bo bs pr tk mk ot vl rs al wt so sq go mo cl wd nt fr tw tx gr ge g1 g2 g3 sv sb lf pa du av bg oft se tt cp) := by
  intro d
  induction d with
  | zero =>
    intro i B c m n st pr bs tk mk vl cl rs al wt wd tt sb pa du oft bg av ep pt nb lg lt lv gk gt gf gl gs gn sl ss bo ot so sq go mo nt fr tw tx gr ge g1 g2 g3 sv lf se cp sn lo hi hB h
    have : i = 10 := by omega
    subst this
    refine ⟨_, _, ra_in (mk := mk) (vl := vl) (cl := cl) (wt := wt) (wd := wd) (du := du) (oft := oft) (bg := bg) (av := av) (cp := cp) h, fun post hp => ?_, fun post hp => ?_⟩
    · simp (disch := omega) only [wX_relieveAll_2, not_true, not_false_iff, true_implies, false_implies, implies_true, true_and, and_true, forall_eq, eq_self, ra_i, ra_c, ra_m3, ra_m4, ra_m16, ra_4m, ra_14m, ra_16m, nI_add, nI_1, lN_1, ra_p2, ra_2p, ra_n0, ra_p0, ra_q0, ra_q1, ra_q2, ra_q3, ra_n3, ra_n4, ra_n10, ra_n14, ra_n16, ra_n30, ra_n140, ra_y3, ra_y4, ra_y10, ra_y14, ra_y16, ra_y30, ra_y140]
      exact hp
    · simp (disch := omega) only [wY_rise_2, not_true, not_false_iff, true_implies, false_implies, implies_true, true_and, and_true, forall_eq, eq_self, ra_i, ra_c, ra_m3, ra_m4, ra_m16, ra_4m, ra_14m, ra_16m, nI_add, nI_1, lN_1, ra_p2, ra_2p, ra_n0, ra_p0, ra_q0, ra_q1, ra_q2, ra_q3, ra_n3, ra_n4, ra_n10, ra_n14, ra_n16, ra_n30, ra_n140, ra_y3, ra_y4, ra_y10, ra_y14, ra_y16, ra_y30, ra_y140]
      exact hp
  | succ d ih =>
    intro i B c m n st pr bs tk mk vl cl rs al wt wd tt sb pa du oft bg av ep pt nb lg lt lv gk gt gf gl gs gn sl ss bo ot so sq go mo nt fr tw tx gr ge g1 g2 g3 sv lf se cp sn lo hi hB h
    have i10 : i < 10 := by omega
    obtain ⟨⟨p, hp3, hpr⟩, -, ⟨b, hb3, hbs⟩, -⟩ := h.2.2.2.2.2.2.2.2.2.2 i i10
    by_cases s0 : st i = 0
    · obtain ⟨u', v', hR, hX, hY⟩ := ih (i + 1) B _ _ _ _ _ _ _ mk vl cl _ _ wt wd _ _ _ du oft bg av _ _ _ _ _ _ _ _ _ _ _ _ _ _ _ _ _ _ _ _ _ _ _ _ _ _ _ _ _ _ _ _ cp _ _ (by omega) (by omega) h
      refine ⟨u', v', ra_RR_mono hR (by omega), fun post hp => ?_, fun post hp => ?_⟩
      · have w := hX post hp
        rw [wX_relieveAll_2]
        simp (disch := omega) only [s0, not_true, not_false_iff, true_implies, false_implies, implies_true, true_and, and_true, forall_eq, eq_self, ra_i, ra_c, ra_m3, ra_m4, ra_m16, ra_4m, ra_14m, ra_16m, nI_add, nI_1, lN_1, ra_p2, ra_2p, ra_n0, ra_p0, ra_q0, ra_q1, ra_q2, ra_q3, ra_n3, ra_n4, ra_n10, ra_n14, ra_n16, ra_n30, ra_n140, ra_y3, ra_y4, ra_y10, ra_y14, ra_y16, ra_y30, ra_y140]
        exact w
      · have w := hY post hp
        rw [wY_rise_2]
        simp (disch := omega) only [s0, not_true, not_false_iff, true_implies, false_implies, implies_true, true_and, and_true, forall_eq, eq_self, ra_i, ra_c, ra_m3, ra_m4, ra_m16, ra_4m, ra_14m, ra_16m, nI_add, nI_1, lN_1, ra_p2, ra_2p, ra_n0, ra_p0, ra_q0, ra_q1, ra_q2, ra_q3, ra_n3, ra_n4, ra_n10, ra_n14, ra_n16, ra_n30, ra_n140, ra_y3, ra_y4, ra_y10, ra_y14, ra_y16, ra_y30, ra_y140]
        exact w
    · by_cases pb : p ≤ b
      · have e1 : nI p ≤ nI b := nI_le pb (by omega)
        have e2 : ¬ nI b < nI p := nI_nlt pb (by omega)
        obtain ⟨u', v', hR, hX, hY⟩ := ih (i + 1) B _ _ _ _ _ _ _ mk vl cl _ _ wt wd _ _ _ du oft bg av _ _ _ _ _ _ _ _ _ _ _ _ _ _ _ _ _ _ _ _ _ _ _ _ _ _ _ _ _ _ _ _ cp _ _ (by omega) (by omega) h
        refine ⟨u', v', ra_RR_mono hR (by omega), fun post hp => ?_, fun post hp => ?_⟩
        · have w := hX post hp
          rw [wX_relieveAll_2]
          simp (disch := omega) only [s0, hpr, hbs, e1, not_true, not_false_iff, true_implies, false_implies, implies_true, true_and, and_true, forall_eq, eq_self, ra_i, ra_c, ra_m3, ra_m4, ra_m16, ra_4m, ra_14m, ra_16m, nI_add, nI_1, lN_1, ra_p2, ra_2p, ra_n0, ra_p0, ra_q0, ra_q1, ra_q2, ra_q3, ra_n3, ra_n4, ra_n10, ra_n14, ra_n16, ra_n30, ra_n140, ra_y3, ra_y4, ra_y10, ra_y14, ra_y16, ra_y30, ra_y140]
          exact w
        · have w := hY post hp
          rw [wY_rise_2]
          simp (disch := omega) only [s0, hpr, hbs, e2, not_true, not_false_iff, true_implies, false_implies, implies_true, true_and, and_true, forall_eq, eq_self, ra_i, ra_c, ra_m3, ra_m4, ra_m16, ra_4m, ra_14m, ra_16m, nI_add, nI_1, lN_1, ra_p2, ra_2p, ra_n0, ra_p0, ra_q0, ra_q1, ra_q2, ra_q3, ra_n3, ra_n4, ra_n10, ra_n14, ra_n16, ra_n30, ra_n140, ra_y3, ra_y4, ra_y10, ra_y14, ra_y16, ra_y30, ra_y140]
          exact w
      · have e1 : ¬ nI p ≤ nI b := nI_ge (by omega) (by omega)
        have e2 : nI b < nI p := nI_lt (by omega) (by omega)
        obtain ⟨q, rfl⟩ : ∃ q, p = q + 1 := ⟨p - 1, by omega⟩
        by_cases s1 : st i = 1
        · obtain ⟨u', v', hR, hX, hY⟩ := ih (i + 1) (B + 1) _ _ _ _ _ _ _ mk vl cl _ _ wt wd _ _ _ du oft bg av _ _ _ _ _ _ _ _ _ _ _ _ _ _ _ _ _ _ _ _ _ _ _ _ _ _ _ _ _ _ _ _ cp _ _ (by omega) (by omega) (ra_R_last (ra_R_pr (s := i) (p := q) h (by omega)) i10)
          refine ⟨u', v', ra_RR_mono hR (by omega), fun post hp => ?_, fun post hp => ?_⟩
          · have w := hX post hp
            rw [wX_relieveAll_2]
            simp (disch := omega) only [s0, hpr, hbs, e1, nI_pred, not_true, not_false_iff, true_implies, false_implies, implies_true, true_and, and_true, forall_eq, eq_self, ra_i, ra_c, ra_m3, ra_m4, ra_m16, ra_4m, ra_14m, ra_16m, nI_add, nI_1, lN_1, ra_p2, ra_2p, ra_n0, ra_p0, ra_q0, ra_q1, ra_q2, ra_q3, ra_n3, ra_n4, ra_n10, ra_n14, ra_n16, ra_n30, ra_n140, ra_y3, ra_y4, ra_y10, ra_y14, ra_y16, ra_y30, ra_y140]
            refine xl_comeIntoRow1 i10 s1 ?_
            simp (disch := omega) only [not_true, not_false_iff, true_implies, false_implies, implies_true, true_and, and_true, forall_eq, eq_self, ra_i, ra_c, ra_m3, ra_m4, ra_m16, ra_4m, ra_14m, ra_16m, nI_add, nI_1, lN_1, ra_p2, ra_2p, ra_n0, ra_p0, ra_q0, ra_q1, ra_q2, ra_q3, ra_n3, ra_n4, ra_n10, ra_n14, ra_n16, ra_n30, ra_n140, ra_y3, ra_y4, ra_y10, ra_y14, ra_y16, ra_y30, ra_y140]
            exact w
          · have w := hY post hp
            rw [wY_rise_2]
            simp (disch := omega) only [s0, s1, hpr, hbs, e2, nI_pred, not_true, not_false_iff, true_implies, false_implies, implies_true, true_and, and_true, forall_eq, eq_self, ra_i, ra_c, ra_m3, ra_m4, ra_m16, ra_4m, ra_14m, ra_16m, nI_add, nI_1, lN_1, ra_p2, ra_2p, ra_n0, ra_p0, ra_q0, ra_q1, ra_q2, ra_q3, ra_n3, ra_n4, ra_n10, ra_n14, ra_n16, ra_n30, ra_n140, ra_y3, ra_y4, ra_y10, ra_y14, ra_y16, ra_y30, ra_y140]
            refine yl_last i10 ?_
            simp (disch := omega) only [not_true, not_false_iff, true_implies, false_implies, implies_true, true_and, and_true, forall_eq, eq_self, ra_i, ra_c, ra_m3, ra_m4, ra_m16, ra_4m, ra_14m, ra_16m, nI_add, nI_1, lN_1, ra_p2, ra_2p, ra_n0, ra_p0, ra_q0, ra_q1, ra_q2, ra_q3, ra_n3, ra_n4, ra_n10, ra_n14, ra_n16, ra_n30, ra_n140, ra_y3, ra_y4, ra_y10, ra_y14, ra_y16, ra_y30, ra_y140]
            exact w
        · obtain ⟨u', v', hR, hX, hY⟩ := ih (i + 1) B _ _ _ _ _ _ _ mk vl cl _ _ wt wd _ _ _ du oft bg av _ _ _ _ _ _ _ _ _ _ _ _ _ _ _ _ _ _ _ _ _ _ _ _ _ _ _ _ _ _ _ _ cp _ _ (by omega) (by omega) (ra_R_pr (s := i) (p := q) h (by omega))
          refine ⟨u', v', ra_RR_mono hR (by omega), fun post hp => ?_, fun post hp => ?_⟩
          · have w := hX post hp
            rw [wX_relieveAll_2]
            simp (disch := omega) only [s0, hpr, hbs, e1, nI_pred, not_true, not_false_iff, true_implies, false_implies, implies_true, true_and, and_true, forall_eq, eq_self, ra_i, ra_c, ra_m3, ra_m4, ra_m16, ra_4m, ra_14m, ra_16m, nI_add, nI_1, lN_1, ra_p2, ra_2p, ra_n0, ra_p0, ra_q0, ra_q1, ra_q2, ra_q3, ra_n3, ra_n4, ra_n10, ra_n14, ra_n16, ra_n30, ra_n140, ra_y3, ra_y4, ra_y10, ra_y14, ra_y16, ra_y30, ra_y140]
            refine xl_comeIntoRow0 i10 s1 ?_
            simp (disch := omega) only [not_true, not_false_iff, true_implies, false_implies, implies_true, true_and, and_true, forall_eq, eq_self, ra_i, ra_c, ra_m3, ra_m4, ra_m16, ra_4m, ra_14m, ra_16m, nI_add, nI_1, lN_1, ra_p2, ra_2p, ra_n0, ra_p0, ra_q0, ra_q1, ra_q2, ra_q3, ra_n3, ra_n4, ra_n10, ra_n14, ra_n16, ra_n30, ra_n140, ra_y3, ra_y4, ra_y10, ra_y14, ra_y16, ra_y30, ra_y140]
            exact w
          · have w := hY post hp
            rw [wY_rise_2]
            simp (disch := omega) only [s0, s1, hpr, hbs, e2, nI_pred, not_true, not_false_iff, true_implies, false_implies, implies_true, true_and, and_true, forall_eq, eq_self, ra_i, ra_c, ra_m3, ra_m4, ra_m16, ra_4m, ra_14m, ra_16m, nI_add, nI_1, lN_1, ra_p2, ra_2p, ra_n0, ra_p0, ra_q0, ra_q1, ra_q2, ra_q3, ra_n3, ra_n4, ra_n10, ra_n14, ra_n16, ra_n30, ra_n140, ra_y3, ra_y4, ra_y10, ra_y14, ra_y16, ra_y30, ra_y140]
            exact w
end
