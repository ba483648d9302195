/-! what is got first: all together; receive -/
section
variable {B c m n : Nat} {st pr bs tk mk vl cl rs al wt wd tt sb pa du oft bg av ep pt nb lg lt lv gk gt gf gl gs gn sl ss bo ot so sq go mo nt fr tw tx gr ge g1 g2 g3 sv lf se cp : Nat → Int32} {sn lo : Nat → Int64}
theorem ra_R_unnote {s k : Nat} (h : ra_R B c m n st pr tk rs al tt pa bs sb ep pt nb lg sn lo lt lv gk gt gf gl gs gn sl ss bo ot so sq go mo nt fr tw tx gr ge g1 g2 g3 sv lf se) (hs : s < 10) (hk : k < 14) : ra_R B c m n st pr tk rs al tt pa bs sb ep pt (upd nb s (nb s &&& (((1 : Int32) <<< (nI k &&& 31)) ^^^ (-1)))) lg sn lo lt lv gk gt gf gl gs gn sl ss bo ot so sq go mo (upd nt (14 * s + k) 0) fr tw tx gr ge g1 g2 g3 sv lf se := by
  obtain ⟨h1, h2, h3, h4, h5, h6, h7, h8, h9, h10, h11⟩ := h
  exact ⟨h1, h2, h3, h4, ra_N_clr h5 hs hk, h6, h7, h8, h9, h10, h11⟩
theorem ra_R_L {n' : Nat} {lo' : Nat → Int64} {fr' tw' tx' : Nat → Int32} (h : ra_R B c m n st pr tk rs al tt pa bs sb ep pt nb lg sn lo lt lv gk gt gf gl gs gn sl ss bo ot so sq go mo nt fr tw tx gr ge g1 g2 g3 sv lf se) (hL : ra_L c n' st lo' lt lv fr' tw' tx') : ra_R B c m n' st pr tk rs al tt pa bs sb ep pt nb lg sn lo' lt lv gk gt gf gl gs gn sl ss bo ot so sq go mo nt fr' tw' tx' gr ge g1 g2 g3 sv lf se := by
  obtain ⟨h1, h2, h3, h4, h5, h6, h7, h8, h9, h10, h11⟩ := h
  exact ⟨h1, h2, h3, h4, h5, hL, h7, h8, h9, h10, h11⟩
theorem ra_fetch {r : Nat} {e : Int32} (hB : B ≤ 2 ^ 26) (h : ra_R B c m n st pr tk rs al tt pa bs sb ep pt nb lg sn lo lt lv gk gt gf gl gs gn sl ss bo ot so sq go mo nt fr tw tx gr ge g1 g2 g3 sv lf se) (hr : r < 10) (hr1 : st r = 1) :
    (∃ (w : Int32) (u' : SX) (v' : SY), (w = 0 ∨ w = 1 ∨ w = 2) ∧ ra_RR (B + 1) u' v' ∧ (∀ post : Int32 → SX → Prop, post w u' → wpX_getFirst post (lN c, ep, st, pt, bs, pr, tk, mk, rs, vl, cl, nb, al, wt, lg, wd, sn, lo, lt, lv, gk, gt, gf, gl, gs, gn, sl, ss, sb, pa, du, oft, bg, av, tt) (nI r) e) ∧ (∀ post : Int32 → SY → Prop, post w v' → wpY_fetch post (nI n, nI m, st, bo, bs, pr, tk, mk, ot, vl, rs, al, wt, so, sq, go, mo, cl, wd, nt, fr, tw, tx, gr, ge, g1, g2, g3, sv, sb, lf, pa, du, av, bg, oft, se, tt, cp) (nI r) e)) ∨
    ((∀ post : Int32 → SX → Prop, post (-6) (lN c, ep, st, pt, bs, pr, tk, mk, rs, vl, cl, nb, al, wt, lg, wd, sn, lo, lt, lv, gk, gt, gf, gl, gs, gn, sl, ss, sb, pa, du, oft, bg, av, tt) → wpX_getFirst post (lN c, ep, st, pt, bs, pr, tk, mk, rs, vl, cl, nb, al, wt, lg, wd, sn, lo, lt, lv, gk, gt, gf, gl, gs, gn, sl, ss, sb, pa, du, oft, bg, av, tt) (nI r) e) ∧ (∀ post : Int32 → SY → Prop, post (-1) (nI n, nI m, st, bo, bs, pr, tk, mk, ot, vl, rs, al, wt, so, sq, go, mo, cl, wd, nt, fr, tw, tx, gr, ge, g1, g2, g3, sv, sb, lf, pa, du, av, bg, oft, se, tt, cp) → wpY_fetch post (nI n, nI m, st, bo, bs, pr, tk, mk, ot, vl, rs, al, wt, so, sq, go, mo, cl, wd, nt, fr, tw, tx, gr, ge, g1, g2, g3, sv, sb, lf, pa, du, av, bg, oft, se, tt, cp) (nI r) e)) := by
  have hR := h
  obtain ⟨hE, hO, hW, hD, hN, hL, hG, hS, hT, hI, hP⟩ := h
  have hrl : st r ≠ 0 := by rw [hr1]; decide
  have hcB := hO.1
  have hc : c ≤ 2 ^ 27 := by omega
  have yr := ra_E_y hE hr hrl
  rcases ra_first (ra_fn ep nb r e) 14 with nn | ⟨k, hk, hf, hn⟩
  · have n30 := (ra_L_n hc hL).1
    have hfr : ∀ j, j < n → ∃ a, a < 10 ∧ fr j = nI a ∧ st a ≠ 0 := by
      intro j hj
      obtain ⟨w, pl, -, h2, -⟩ := hL
      obtain ⟨a, b, c, d, e, f⟩ := h2 j hj
      exact ⟨pl j / 3, by omega, c, f⟩
    rcases ra_first (ra_yf ep fr tw r e) n with ln | ⟨k, hk, hf, hn⟩
    · -- no letter
      have bn : ra_bl ep lt lo r e 30 = none := by
        cases hb : ra_bl ep lt lo r e 30 with
        | none => rfl
        | some p =>
          obtain ⟨hp, pf⟩ := ra_best_in hb
          obtain ⟨p1, p2, p3⟩ := of_decide_eq_true pf
          obtain ⟨j, hj, e1, e2⟩ := ra_L_has hc hL hp p1
          exact absurd ⟨e2.trans p2, p3.imp id (fun z => ⟨p / 3, by omega, e1, z⟩)⟩ (ln j hj)
      have be := ra_bs_eq (st := st) (ep := ep) (pt := pt) (r := r) (e := e) hB hO
      cases hb : ra_bs st ep pt sn r e 10 with
      | none =>
        refine Or.inr ⟨fun post hp => ?_, fun post hp => ?_⟩
        · simp only [wpX_getFirst]
          refine xl_firstNote_n hr nn (br_t (by decide) (xl_firstLetter ?_))
          rw [bn]
          refine br_t (by decide) (xl_firstSender hr ?_)
          rw [hb]
          exact br_t (by decide) hp
        · refine yl_fetch_n hr hrl hE hN nn (yl_fetch74_n n30 hE hfr ln (fun q => ?_))
          have le : nI n ≤ nI n := Int32.le_refl _
          rw [wY_fetch_74]
          refine br_t le (yl_firstSender hr hrl hE hW ?_)
          rw [be, hb]
          exact br_f (by decide) hp
      | some s =>
        obtain ⟨hs, sf⟩ := ra_best_in hb
        obtain ⟨s2, s3, -⟩ := of_decide_eq_true sf
        have s0 : st s ≠ 0 := by rw [s2]; decide
        have s1 : st s ≠ 1 := by rw [s2]; decide
        have ys := ra_E_y hE hs s0
        have h2 := ra_R_put (s := r) (k := 2 + 0) (x := ep s) (y := nI 0) (w := vl s) (v := tt (2 + 0) + 1) hR (by omega)
        by_cases c0 : cl s = 0
        · have e0 := ra_R_rs0 hR hs s0 s1
          refine Or.inl ⟨0, _, _, Or.inl rfl, ra_in (mk := mk) (vl := vl) (cl := cl) (wt := wt) (wd := wd) (du := du) (oft := oft) (bg := bg) (av := av) (cp := cp) (ra_R_ready0 h2 hs s0), fun post hp => ?_, fun post hp => ?_⟩
          · simp only [wpX_getFirst]
            refine xl_firstNote_n hr nn (br_t (by decide) (xl_firstLetter ?_))
            rw [bn]
            refine br_t (by decide) (xl_firstSender hr ?_)
            rw [hb]
            simp (disch := omega) only [ra_e, not_true, not_false_iff, true_implies, false_implies, implies_true, true_and, and_true, forall_eq, eq_self, ra_i, ra_c, ra_m3, ra_m4, ra_m16, ra_4m, ra_14m, ra_16m, nI_add, nI_1, lN_1, ra_p2, ra_2p, ra_n0, ra_p0, ra_q0, ra_q1, ra_q2, ra_q3, ra_n3, ra_n4, ra_n10, ra_n14, ra_n16, ra_n30, ra_n140, ra_y3, ra_y4, ra_y10, ra_y14, ra_y16, ra_y30, ra_y140]
            refine xl_putInto (k := 0) hr (by omega) ?_
            simp (disch := omega) only [wpX_releaseSender, c0, not_true, not_false_iff, true_implies, false_implies, implies_true, true_and, and_true, forall_eq, eq_self, ra_i, ra_c, ra_m3, ra_m4, ra_m16, ra_4m, ra_14m, ra_16m, nI_add, nI_1, lN_1, ra_p2, ra_2p, ra_n0, ra_p0, ra_q0, ra_q1, ra_q2, ra_q3, ra_n3, ra_n4, ra_n10, ra_n14, ra_n16, ra_n30, ra_n140, ra_y3, ra_y4, ra_y10, ra_y14, ra_y16, ra_y30, ra_y140]
            exact xl_makeReady hs hp
          · refine yl_fetch_n hr hrl hE hN nn (yl_fetch74_n n30 hE hfr ln (fun q => ?_))
            have le : nI n ≤ nI n := Int32.le_refl _
            rw [wY_fetch_74]
            refine br_t le (yl_firstSender hr hrl hE hW ?_)
            rw [be, hb]
            simp (disch := omega) only [ra_e, wpY_endpoint, ys, yr, not_true, not_false_iff, true_implies, false_implies, implies_true, true_and, and_true, forall_eq, eq_self, ra_i, ra_c, ra_m3, ra_m4, ra_m16, ra_4m, ra_14m, ra_16m, nI_add, nI_1, lN_1, ra_p2, ra_2p, ra_n0, ra_p0, ra_q0, ra_q1, ra_q2, ra_q3, ra_n3, ra_n4, ra_n10, ra_n14, ra_n16, ra_n30, ra_n140, ra_y3, ra_y4, ra_y10, ra_y14, ra_y16, ra_y30, ra_y140]
            refine yl_gets (k := 0) hr (by omega) ?_
            simp (disch := omega) only [c0, not_true, not_false_iff, true_implies, false_implies, implies_true, true_and, and_true, forall_eq, eq_self, ra_i, ra_c, ra_m3, ra_m4, ra_m16, ra_4m, ra_14m, ra_16m, nI_add, nI_1, lN_1, ra_p2, ra_2p, ra_n0, ra_p0, ra_q0, ra_q1, ra_q2, ra_q3, ra_n3, ra_n4, ra_n10, ra_n14, ra_n16, ra_n30, ra_n140, ra_y3, ra_y4, ra_y10, ra_y14, ra_y16, ra_y30, ra_y140]
            refine yl_ready hs ?_
            rw [e0]
            exact hp
        · refine Or.inl ⟨0, _, _, Or.inl rfl, ra_in (mk := mk) (vl := vl) (cl := cl) (wt := wt) (wd := wd) (du := du) (oft := oft) (bg := bg) (av := av) (cp := cp) (ra_R_wait (s := s) (how := 4) (whom := ep r) h2 hs s0 (Or.inr (Or.inr rfl)) (Or.inr ⟨r, hr, hrl, rfl⟩)), fun post hp => ?_, fun post hp => ?_⟩
          · simp only [wpX_getFirst]
            refine xl_firstNote_n hr nn (br_t (by decide) (xl_firstLetter ?_))
            rw [bn]
            refine br_t (by decide) (xl_firstSender hr ?_)
            rw [hb]
            simp (disch := omega) only [ra_e, not_true, not_false_iff, true_implies, false_implies, implies_true, true_and, and_true, forall_eq, eq_self, ra_i, ra_c, ra_m3, ra_m4, ra_m16, ra_4m, ra_14m, ra_16m, nI_add, nI_1, lN_1, ra_p2, ra_2p, ra_n0, ra_p0, ra_q0, ra_q1, ra_q2, ra_q3, ra_n3, ra_n4, ra_n10, ra_n14, ra_n16, ra_n30, ra_n140, ra_y3, ra_y4, ra_y10, ra_y14, ra_y16, ra_y30, ra_y140]
            refine xl_putInto (k := 0) hr (by omega) ?_
            simp (disch := omega) only [wpX_releaseSender, c0, not_true, not_false_iff, true_implies, false_implies, implies_true, true_and, and_true, forall_eq, eq_self, ra_i, ra_c, ra_m3, ra_m4, ra_m16, ra_4m, ra_14m, ra_16m, nI_add, nI_1, lN_1, ra_p2, ra_2p, ra_n0, ra_p0, ra_q0, ra_q1, ra_q2, ra_q3, ra_n3, ra_n4, ra_n10, ra_n14, ra_n16, ra_n30, ra_n140, ra_y3, ra_y4, ra_y10, ra_y14, ra_y16, ra_y30, ra_y140]
            exact xl_startWaiting hs hp
          · refine yl_fetch_n hr hrl hE hN nn (yl_fetch74_n n30 hE hfr ln (fun q => ?_))
            have le : nI n ≤ nI n := Int32.le_refl _
            rw [wY_fetch_74]
            refine br_t le (yl_firstSender hr hrl hE hW ?_)
            rw [be, hb]
            simp (disch := omega) only [ra_e, wpY_endpoint, ys, yr, not_true, not_false_iff, true_implies, false_implies, implies_true, true_and, and_true, forall_eq, eq_self, ra_i, ra_c, ra_m3, ra_m4, ra_m16, ra_4m, ra_14m, ra_16m, nI_add, nI_1, lN_1, ra_p2, ra_2p, ra_n0, ra_p0, ra_q0, ra_q1, ra_q2, ra_q3, ra_n3, ra_n4, ra_n10, ra_n14, ra_n16, ra_n30, ra_n140, ra_y3, ra_y4, ra_y10, ra_y14, ra_y16, ra_y30, ra_y140]
            refine yl_gets (k := 0) hr (by omega) ?_
            simp (disch := omega) only [c0, not_true, not_false_iff, true_implies, false_implies, implies_true, true_and, and_true, forall_eq, eq_self, ra_i, ra_c, ra_m3, ra_m4, ra_m16, ra_4m, ra_14m, ra_16m, nI_add, nI_1, lN_1, ra_p2, ra_2p, ra_n0, ra_p0, ra_q0, ra_q1, ra_q2, ra_q3, ra_n3, ra_n4, ra_n10, ra_n14, ra_n16, ra_n30, ra_n140, ra_y3, ra_y4, ra_y10, ra_y14, ra_y16, ra_y30, ra_y140]
            exact yl_waits hs hp
    · -- a letter
      obtain ⟨p, hp, lp, e1, e2, e3, pl, oth, hL'⟩ := ra_L_out' hc hL hk
      obtain ⟨f1, f2⟩ := hf
      have pf : ra_fl ep lt lo r e p = true := by
        refine decide_eq_true ⟨lp, e2.symm.trans f1, f2.imp id ?_⟩
        rintro ⟨a, ha, ea, ee⟩
        have := ea.symm.trans e1
        rw [nI_eq (by omega) (by omega)] at this
        rw [← this]
        exact ee
      have bp : ra_bl ep lt lo r e 30 = some p := by
        cases hb : ra_bl ep lt lo r e 30 with
        | none =>
          have := ra_best_no hb p hp
          rw [pf] at this
          cases this
        | some b =>
          obtain ⟨hb30, bf⟩ := ra_best_in hb
          by_cases bp : b = p
          · rw [bp]
          · obtain ⟨b1, b2, b3⟩ := of_decide_eq_true bf
            obtain ⟨j, hj, jk, j1, j2, -, j3⟩ := oth b hb30 bp b1
            have jf : ra_yf ep fr tw r e j := ⟨j2.trans b2, b3.imp id (fun z => ⟨b / 3, by omega, j1, z⟩)⟩
            have kj : k < j := by
              rcases Nat.lt_trichotomy j k with z | z | z
              · exact absurd jf (hn j z)
              · exact absurd z jk
              · exact z
            have l1 := j3 kj
            have l2 := ra_best_min (k := fun i => (lo i).toInt) hb p hp pf
            rw [Int64.lt_iff_toInt_lt] at l1
            omega
      have yp := ra_E_y hE (show p / 3 < 10 by omega) pl
      have h2 := ra_R_put (s := r) (k := 2 + 2) (x := ep (p / 3)) (y := nI 2) (w := lv p) (v := tt (2 + 2) + 1) (ra_R_L hR hL') (by omega)
      have n30 := (ra_L_n hc hL).1
      refine Or.inl ⟨2, _, _, Or.inr (Or.inr rfl), ra_RR_mono (ra_in (mk := mk) (vl := vl) (cl := cl) (wt := wt) (wd := wd) (du := du) (oft := oft) (bg := bg) (av := av) (cp := cp) h2) (by omega), fun post hq => ?_, fun post hq => ?_⟩
      · simp only [wpX_getFirst]
        refine xl_firstNote_n hr nn (br_t (by decide) (xl_firstLetter ?_))
        rw [bp]
        simp (disch := omega) only [ra_e, ra_d3, not_true, not_false_iff, true_implies, false_implies, implies_true, true_and, and_true, forall_eq, eq_self, ra_i, ra_c, ra_m3, ra_m4, ra_m16, ra_4m, ra_14m, ra_16m, nI_add, nI_1, lN_1, ra_p2, ra_2p, ra_n0, ra_p0, ra_q0, ra_q1, ra_q2, ra_q3, ra_n3, ra_n4, ra_n10, ra_n14, ra_n16, ra_n30, ra_n140, ra_y3, ra_y4, ra_y10, ra_y14, ra_y16, ra_y30, ra_y140]
        exact xl_putInto (k := 2) hr (by omega) hq
      · refine yl_fetch_n hr hrl hE hN nn (yl_fetch74_s hk n30 hE hfr ⟨f1, f2⟩ hn ?_)
        simp (disch := omega) only [wY_fetch_114, e1, e3, wpY_endpoint, yp, not_true, not_false_iff, true_implies, false_implies, implies_true, true_and, and_true, forall_eq, eq_self, ra_i, ra_c, ra_m3, ra_m4, ra_m16, ra_4m, ra_14m, ra_16m, nI_add, nI_1, lN_1, ra_p2, ra_2p, ra_n0, ra_p0, ra_q0, ra_q1, ra_q2, ra_q3, ra_n3, ra_n4, ra_n10, ra_n14, ra_n16, ra_n30, ra_n140, ra_y3, ra_y4, ra_y10, ra_y14, ra_y16, ra_y30, ra_y140]
        refine yl_gets (k := 2) hr (by omega) ?_
        exact yl_takeOut hk n30 hq
  · -- a note
    have h2 := ra_R_put (s := r) (k := 2 + 1) (x := ra_so ep k) (y := nI 1) (w := 0) (v := tt (2 + 1) + 1) (ra_R_unnote (s := r) (k := k) hR hr hk) (by omega)
    refine Or.inl ⟨1, _, _, Or.inr (Or.inl rfl), ra_RR_mono (ra_in (mk := mk) (vl := vl) (cl := cl) (wt := wt) (wd := wd) (du := du) (oft := oft) (bg := bg) (av := av) (cp := cp) h2) (by omega), fun post hq => ?_, fun post hq => ?_⟩
    · simp only [wpX_getFirst]
      refine xl_firstNote_s hr hk hf hn (br_f (nI_pos (by omega)) (xl_noteSource hk ?_))
      simp (disch := omega) only [not_true, not_false_iff, true_implies, false_implies, implies_true, true_and, and_true, forall_eq, eq_self, ra_i, ra_c, ra_m3, ra_m4, ra_m16, ra_4m, ra_14m, ra_16m, nI_add, nI_1, lN_1, ra_p2, ra_2p, ra_n0, ra_p0, ra_q0, ra_q1, ra_q2, ra_q3, ra_n3, ra_n4, ra_n10, ra_n14, ra_n16, ra_n30, ra_n140, ra_y3, ra_y4, ra_y10, ra_y14, ra_y16, ra_y30, ra_y140]
      exact xl_putInto (k := 1) hr (by omega) hq
    · refine yl_fetch_s hr hrl hE hN hk hf hn ?_
      simp (disch := omega) only [wY_fetch_43, ra_nb0, not_true, not_false_iff, true_implies, false_implies, implies_true, true_and, and_true, forall_eq, eq_self, ra_i, ra_c, ra_m3, ra_m4, ra_m16, ra_4m, ra_14m, ra_16m, nI_add, nI_1, lN_1, ra_p2, ra_2p, ra_n0, ra_p0, ra_q0, ra_q1, ra_q2, ra_q3, ra_n3, ra_n4, ra_n10, ra_n14, ra_n16, ra_n30, ra_n140, ra_y3, ra_y4, ra_y10, ra_y14, ra_y16, ra_y30, ra_y140]
      exact yl_gets (k := 1) hr (by omega) hq
theorem xl_roa {r : Nat} {e : Int32} {post : Int32 → Prop} (hr : r < 10) (h1 : e = -1 → post 0) (h2 : ¬ e = -1 → wpX_refusal post (lN c, ep, st, pt, bs, pr, tk, mk, rs, vl, cl, nb, al, wt, lg, wd, sn, lo, lt, lv, gk, gt, gf, gl, gs, gn, sl, ss, sb, pa, du, oft, bg, av, tt) (nI r) e) : wpX_refusalOrAny post (lN c, ep, st, pt, bs, pr, tk, mk, rs, vl, cl, nb, al, wt, lg, wd, sn, lo, lt, lv, gk, gt, gf, gl, gs, gn, sl, ss, sb, pa, du, oft, bg, av, tt) (nI r) e := by
  simp (disch := omega) only [wpX_refusalOrAny, wX_refusalOrAny_11, not_true, not_false_iff, true_implies, false_implies, implies_true, true_and, and_true, forall_eq, eq_self, ra_i, ra_c, ra_m3, ra_m4, ra_m16, ra_4m, ra_14m, ra_16m, nI_add, nI_1, lN_1, ra_p2, ra_2p, ra_n0, ra_p0, ra_q0, ra_q1, ra_q2, ra_q3, ra_n3, ra_n4, ra_n10, ra_n14, ra_n16, ra_n30, ra_n140, ra_y3, ra_y4, ra_y10, ra_y14, ra_y16, ra_y30, ra_y140]
  exact br_c h1 h2
/-- receive, behind the refusals -/
theorem ra_receive2 {r : Nat} {e b : Int32} (hB : B ≤ 2 ^ 26) (h : ra_R B c m n st pr tk rs al tt pa bs sb ep pt nb lg sn lo lt lv gk gt gf gl gs gn sl ss bo ot so sq go mo nt fr tw tx gr ge g1 g2 g3 sv lf se) (hr : r < 10) (hr1 : st r = 1) (he : e = -1 ∨ ∃ s, s < 10 ∧ st s ≠ 0 ∧ ep s = e ∧ e &&& 15 = nI s) :
    ∃ (w : Int32) (u' : SX) (v' : SY), ra_RR (B + 1) u' v' ∧
    (∀ post : Int32 → SX → Prop, post w u' → wpX_getFirst (fun r_74 u => match u with | (cm, ep, st, pt, bs, pr, tk, mk, rs, vl, cl, nb, al, wt, lg, wd, sn, lo, lt, lv, gk, gt, gf, gl, gs, gn, sl, ss, sb, pa, du, oft, bg, av, tt) => (r_74 = (-6) → (b = 0 → post r_74 (cm, ep, st, pt, bs, pr, tk, mk, rs, vl, cl, nb, al, wt, lg, wd, sn, lo, lt, lv, gk, gt, gf, gl, gs, gn, sl, ss, sb, pa, du, oft, bg, av, tt)) ∧ (¬ b = 0 → wpX_slotOf (fun r_112 => (r_112 < 0 → wX_receive_68 post e (nI r) cm ep st pt bs pr tk mk rs vl cl nb al wt lg wd sn lo lt lv gk gt gf gl gs gn sl ss sb pa du oft bg av tt) ∧ (¬ r_112 < 0 → wpX_isStuckBehind (fun r_185 => (r_185 = 0 → wX_receive_68 post e (nI r) cm ep st pt bs pr tk mk rs vl cl nb al wt lg wd sn lo lt lv gk gt gf gl gs gn sl ss sb pa du oft bg av tt) ∧ (¬ r_185 = 0 → post (-5) (cm, ep, st, pt, bs, pr, tk, mk, rs, vl, cl, nb, al, wt, lg, wd, sn, lo, lt, lv, gk, gt, gf, gl, gs, gn, sl, ss, sb, pa, du, oft, bg, av, tt))) (cm, ep, st, pt, bs, pr, tk, mk, rs, vl, cl, nb, al, wt, lg, wd, sn, lo, lt, lv, gk, gt, gf, gl, gs, gn, sl, ss, sb, pa, du, oft, bg, av, tt) r_112 (nI r))) (cm, ep, st, pt, bs, pr, tk, mk, rs, vl, cl, nb, al, wt, lg, wd, sn, lo, lt, lv, gk, gt, gf, gl, gs, gn, sl, ss, sb, pa, du, oft, bg, av, tt) e)) ∧ (¬ r_74 = (-6) → post r_74 (cm, ep, st, pt, bs, pr, tk, mk, rs, vl, cl, nb, al, wt, lg, wd, sn, lo, lt, lv, gk, gt, gf, gl, gs, gn, sl, ss, sb, pa, du, oft, bg, av, tt))) (lN c, ep, st, pt, bs, pr, tk, mk, rs, vl, cl, nb, al, wt, lg, wd, sn, lo, lt, lv, gk, gt, gf, gl, gs, gn, sl, ss, sb, pa, du, oft, bg, av, tt) (nI r) e) ∧
    (∀ post : Int32 → SY → Prop, post w v' → wY_receive_27 post e b (nI r) 0 (nI n) (nI m) st bo bs pr tk mk ot vl rs al wt so sq go mo cl wd nt fr tw tx gr ge g1 g2 g3 sv sb lf pa du av bg oft se tt cp) := by
  have hrl : st r ≠ 0 := by rw [hr1]; decide
  rcases ra_fetch hB h (e := e) hr hr1 with ⟨w, u', v', hw, hR, hX, hY⟩ | ⟨hX, hY⟩
  · refine ⟨w, u', v', hR, fun post hp => hX _ ?_, fun post hp => ?_⟩
    · obtain ⟨c', m', n', st', pr', bs', tk', mk', vl', cl', rs', al', wt', wd', tt', sb', pa', du', oft', bg', av', ep', pt', nb', lg', lt', lv', gk', gt', gf', gl', gs', gn', sl', ss', bo', ot', so', sq', go', mo', nt', fr', tw', tx', gr', ge', g1', g2', g3', sv', lf', se', cp', sn', lo', rfl, rfl, -⟩ := hR
      refine br_f ?_ hp
      rcases hw with rfl | rfl | rfl <;> decide
    · simp (disch := omega) only [wY_receive_27, Int32.le_refl, not_true, not_false_iff, true_implies, false_implies, implies_true, true_and, and_true, forall_eq, eq_self, ra_i, ra_c, ra_m3, ra_m4, ra_m16, ra_4m, ra_14m, ra_16m, nI_add, nI_1, lN_1, ra_p2, ra_2p, ra_n0, ra_p0, ra_q0, ra_q1, ra_q2, ra_q3, ra_n3, ra_n4, ra_n10, ra_n14, ra_n16, ra_n30, ra_n140, ra_y3, ra_y4, ra_y10, ra_y14, ra_y16, ra_y30, ra_y140]
      refine hY _ ?_
      obtain ⟨c', m', n', st', pr', bs', tk', mk', vl', cl', rs', al', wt', wd', tt', sb', pa', du', oft', bg', av', ep', pt', nb', lg', lt', lv', gk', gt', gf', gl', gs', gn', sl', ss', bo', ot', so', sq', go', mo', nt', fr', tw', tx', gr', ge', g1', g2', g3', sv', lf', se', cp', sn', lo', rfl, rfl, -⟩ := hR
      refine br_f ?_ hp
      rcases hw with rfl | rfl | rfl <;> decide
  · by_cases b0 : b = 0
    · refine ⟨-6, _, _, ra_RR_mono (ra_in (mk := mk) (vl := vl) (cl := cl) (wt := wt) (wd := wd) (du := du) (oft := oft) (bg := bg) (av := av) (cp := cp) h) (by omega), fun post hp => hX _ (br_t rfl (br_t b0 hp)), fun post hp => ?_⟩
      simp (disch := omega) only [wY_receive_27, Int32.le_refl, not_true, not_false_iff, true_implies, false_implies, implies_true, true_and, and_true, forall_eq, eq_self, ra_i, ra_c, ra_m3, ra_m4, ra_m16, ra_4m, ra_14m, ra_16m, nI_add, nI_1, lN_1, ra_p2, ra_2p, ra_n0, ra_p0, ra_q0, ra_q1, ra_q2, ra_q3, ra_n3, ra_n4, ra_n10, ra_n14, ra_n16, ra_n30, ra_n140, ra_y3, ra_y4, ra_y10, ra_y14, ra_y16, ra_y30, ra_y140]
      exact hY _ (br_t (by decide) (br_t b0 hp))
    · rcases he with e1 | ⟨s, hs, hl, ee, ea⟩
      · have h3 := ra_R_wait (s := r) (how := 3) (whom := e) h hr hrl (Or.inr (Or.inl rfl)) (Or.inl e1)
        refine ⟨-2, _, _, ra_in (mk := mk) (vl := vl) (cl := cl) (wt := wt) (wd := wd) (du := du) (oft := oft) (bg := bg) (av := av) (cp := cp) h3, fun post hp => hX _ (br_t rfl (br_f b0 (xl_slotOf_n (fun s hs _ => ?_) (br_t (by decide) ?_)))), fun post hp => ?_⟩
        · rw [e1]; exact ra_E_ne hB h.1 hs
        · simp only [wX_receive_68]
          exact xl_startWaiting hr hp
        · simp (disch := omega) only [wY_receive_27, Int32.le_refl, not_true, not_false_iff, true_implies, false_implies, implies_true, true_and, and_true, forall_eq, eq_self, ra_i, ra_c, ra_m3, ra_m4, ra_m16, ra_4m, ra_14m, ra_16m, nI_add, nI_1, lN_1, ra_p2, ra_2p, ra_n0, ra_p0, ra_q0, ra_q1, ra_q2, ra_q3, ra_n3, ra_n4, ra_n10, ra_n14, ra_n16, ra_n30, ra_n140, ra_y3, ra_y4, ra_y10, ra_y14, ra_y16, ra_y30, ra_y140]
          refine hY _ (br_t (by decide) (br_f b0 (br_t e1 ?_)))
          simp only [wY_receive_80]
          exact yl_waits hr hp
      · have ne : ¬ e = -1 := by rw [← ee]; exact ra_E_ne hB h.1 hs
        obtain ⟨g, hg, gX, gY⟩ := ra_stuck_both (mk := mk) (vl := vl) (cl := cl) (wt := wt) (wd := wd) (du := du) (oft := oft) (bg := bg) (av := av) (cp := cp) hB h hr hs
        rcases hg with rfl | rfl
        · have h3 := ra_R_wait (s := r) (how := 3) (whom := e) h hr hrl (Or.inr (Or.inl rfl)) (Or.inr ⟨s, hs, hl, ee.symm⟩)
          refine ⟨-2, _, _, ra_in (mk := mk) (vl := vl) (cl := cl) (wt := wt) (wd := wd) (du := du) (oft := oft) (bg := bg) (av := av) (cp := cp) h3, fun post hp => hX _ (br_t rfl (br_f b0 (xl_slotOf_s hs hl ee ea (br_f (nI_pos (by omega)) (gX _ (br_t rfl ?_)))))), fun post hp => ?_⟩
          · simp only [wX_receive_68]
            exact xl_startWaiting hr hp
          · simp (disch := omega) only [wY_receive_27, Int32.le_refl, not_true, not_false_iff, true_implies, false_implies, implies_true, true_and, and_true, forall_eq, eq_self, ra_i, ra_c, ra_m3, ra_m4, ra_m16, ra_4m, ra_14m, ra_16m, nI_add, nI_1, lN_1, ra_p2, ra_2p, ra_n0, ra_p0, ra_q0, ra_q1, ra_q2, ra_q3, ra_n3, ra_n4, ra_n10, ra_n14, ra_n16, ra_n30, ra_n140, ra_y3, ra_y4, ra_y10, ra_y14, ra_y16, ra_y30, ra_y140]
            refine hY _ (br_t (by decide) (br_f b0 (br_f ne ?_)))
            rw [ea]
            refine gY _ (br_t rfl ?_)
            simp only [wY_receive_80]
            exact yl_waits hr hp
        · refine ⟨-5, _, _, ra_RR_mono (ra_in (mk := mk) (vl := vl) (cl := cl) (wt := wt) (wd := wd) (du := du) (oft := oft) (bg := bg) (av := av) (cp := cp) h) (by omega), fun post hp => hX _ (br_t rfl (br_f b0 (xl_slotOf_s hs hl ee ea (br_f (nI_pos (by omega)) (gX _ (br_f (by decide) hp)))))), fun post hp => ?_⟩
          simp (disch := omega) only [wY_receive_27, Int32.le_refl, not_true, not_false_iff, true_implies, false_implies, implies_true, true_and, and_true, forall_eq, eq_self, ra_i, ra_c, ra_m3, ra_m4, ra_m16, ra_4m, ra_14m, ra_16m, nI_add, nI_1, lN_1, ra_p2, ra_2p, ra_n0, ra_p0, ra_q0, ra_q1, ra_q2, ra_q3, ra_n3, ra_n4, ra_n10, ra_n14, ra_n16, ra_n30, ra_n140, ra_y3, ra_y4, ra_y10, ra_y14, ra_y16, ra_y30, ra_y140]
          refine hY _ (br_t (by decide) (br_f b0 (br_f ne ?_)))
          rw [ea]
          exact gY _ (br_f (by decide) hp)
theorem ra_receive {e b : Int32} (hB : B ≤ 2 ^ 26) (h : ra_R B c m n st pr tk rs al tt pa bs sb ep pt nb lg sn lo lt lv gk gt gf gl gs gn sl ss bo ot so sq go mo nt fr tw tx gr ge g1 g2 g3 sv lf se) : ∃ (w : Int32) (u' : SX) (v' : SY), ra_RR (B + 1) u' v' ∧ (∀ post : Int32 → SX → Prop, post w u' → wpX_receive post (lN c, ep, st, pt, bs, pr, tk, mk, rs, vl, cl, nb, al, wt, lg, wd, sn, lo, lt, lv, gk, gt, gf, gl, gs, gn, sl, ss, sb, pa, du, oft, bg, av, tt) e b) ∧ (∀ post : Int32 → SY → Prop, post w v' → wpY_receive post (nI n, nI m, st, bo, bs, pr, tk, mk, ot, vl, rs, al, wt, so, sq, go, mo, cl, wd, nt, fr, tw, tx, gr, ge, g1, g2, g3, sv, sb, lf, pa, du, av, bg, oft, se, tt, cp) e b) := by
  rcases ra_run_both (mk := mk) (vl := vl) (cl := cl) (wt := wt) (wd := wd) (du := du) (oft := oft) (bg := bg) (av := av) (cp := cp) hB h with ⟨rX, rY⟩ | ⟨r, hr, hr1, rX, rY⟩
  · refine ⟨-1, _, _, ra_RR_mono (ra_in (mk := mk) (vl := vl) (cl := cl) (wt := wt) (wd := wd) (du := du) (oft := oft) (bg := bg) (av := av) (cp := cp) h) (by omega), fun post hp => ?_, fun post hp => ?_⟩
    · simp only [wpX_receive]
      refine rX _ ?_
      simp only [wpX_refusalOrAny, wX_refusalOrAny_11, wpX_refusal, ra_q0, ra_q1, ra_q5, not_true, not_false_iff, true_implies, false_implies, true_and, and_true]
      exact hp
    · simp only [wpY_receive]
      exact rY _ (br_f (by decide) hp)
  · by_cases e1 : e = -1
    · obtain ⟨w, u', v', hR, hX, hY⟩ := ra_receive2 (mk := mk) (vl := vl) (cl := cl) (wt := wt) (wd := wd) (du := du) (oft := oft) (bg := bg) (av := av) (cp := cp) (b := b) hB h hr hr1 (Or.inl e1)
      refine ⟨w, u', v', hR, fun post hp => ?_, fun post hp => ?_⟩
      · simp only [wpX_receive]
        exact rX _ (xl_roa hr (fun _ => br_t rfl (hX post hp)) (fun z => absurd e1 z))
      · simp only [wpY_receive]
        exact rY _ (br_t (nI_pos' (by omega)) (br_t e1 (hY post hp)))
    · rcases ra_ref0 (mk := mk) (vl := vl) (cl := cl) (wt := wt) (wd := wd) (du := du) (oft := oft) (bg := bg) (av := av) (cp := cp) hB h hr hr1 e with ⟨w, hw, hX, -, hY⟩ | ⟨s, hs, z, hl, he, ha, hX, hY⟩
      · have w0 : ¬ w = 0 := by rcases hw with rfl | rfl <;> decide
        have w1 : ¬ 0 ≤ w := by rcases hw with rfl | rfl <;> decide
        refine ⟨w, _, _, ra_RR_mono (ra_in (mk := mk) (vl := vl) (cl := cl) (wt := wt) (wd := wd) (du := du) (oft := oft) (bg := bg) (av := av) (cp := cp) h) (by omega), fun post hp => ?_, fun post hp => ?_⟩
        · simp only [wpX_receive]
          exact rX _ (xl_roa hr (fun y => absurd y e1) (fun _ => hX _ (br_f w0 hp)))
        · simp only [wpY_receive]
          refine rY _ (br_t (nI_pos' (by omega)) (br_f e1 (hY _ 0 ?_)))
          simp only [wY_receive_27]
          exact br_f w1 hp
      · obtain ⟨w, u', v', hR, gX, gY⟩ := ra_receive2 (mk := mk) (vl := vl) (cl := cl) (wt := wt) (wd := wd) (du := du) (oft := oft) (bg := bg) (av := av) (cp := cp) (b := b) hB h hr hr1 (Or.inr ⟨s, hs, hl, he, ha⟩)
        refine ⟨w, u', v', hR, fun post hp => ?_, fun post hp => ?_⟩
        · simp only [wpX_receive]
          exact rX _ (xl_roa hr (fun y => absurd y e1) (fun _ => hX _ (br_t rfl (gX post hp))))
        · simp only [wpY_receive]
          exact rY _ (br_t (nI_pos' (by omega)) (br_f e1 (hY _ (gY post hp))))
end
