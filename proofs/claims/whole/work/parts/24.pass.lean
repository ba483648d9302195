/-! pass, revoke -/
section
variable {B c m n : Nat} {st pr bs tk mk vl cl rs al wt wd tt sb pa du oft bg av ep pt nb lg lt lv gk gt gf gl gs gn sl ss bo ot so sq go mo nt fr tw tx gr ge g1 g2 g3 sv lf se cp : Nat → Int32} {sn lo : Nat → Int64}
theorem ra_pass {v1 v2 v3 v4 : Int32} (hB : B ≤ 2 ^ 26) (h : ra_R B c m n st pr tk rs al tt pa bs sb ep pt nb lg sn lo lt lv gk gt gf gl gs gn sl ss bo ot so sq go mo nt fr tw tx gr ge g1 g2 g3 sv lf se) : ∃ (w : Int32) (u' : SX) (v' : SY), ra_RR (B + 1) u' v' ∧ (∀ post : Int32 → SX → Prop, post w u' → wpX_pass post (lN c, ep, st, pt, bs, pr, tk, mk, rs, vl, cl, nb, al, wt, lg, wd, sn, lo, lt, lv, gk, gt, gf, gl, gs, gn, sl, ss, sb, pa, du, oft, bg, av, tt) v1 v2 v3 v4) ∧ (∀ post : Int32 → SY → Prop, post w v' → wpY_pass post (nI n, nI m, st, bo, bs, pr, tk, mk, ot, vl, rs, al, wt, so, sq, go, mo, cl, wd, nt, fr, tw, tx, gr, ge, g1, g2, g3, sv, sb, lf, pa, du, av, bg, oft, se, tt, cp) v1 v2 v3 v4) := by
  rcases ra_run_both (mk := mk) (vl := vl) (cl := cl) (wt := wt) (wd := wd) (du := du) (oft := oft) (bg := bg) (av := av) (cp := cp) hB h with ⟨rX, rY⟩ | ⟨r, hr, hr1, rX, rY⟩
  · refine ⟨-1, _, _, ra_RR_mono (ra_in (mk := mk) (vl := vl) (cl := cl) (wt := wt) (wd := wd) (du := du) (oft := oft) (bg := bg) (av := av) (cp := cp) h) (by omega), fun post hp => ?_, fun post hp => ?_⟩
    · simp only [wpX_pass]
      exact rX _ (br_t (by decide) hp)
    · simp only [wpY_pass]
      exact rY _ (br_t (by decide) hp)
  · have rl : st r ≠ 0 := by rw [hr1]; decide
    by_cases good : ¬ v1 < 0 ∧ ¬ 4 ≤ v1 ∧ ¬ v4 < 0 ∧ ¬ 4 ≤ v4
    · obtain ⟨a1, a2, a3, a4⟩ := good
      obtain ⟨i, hi, rfl⟩ := ra_nat (n := 4) (by omega) a1 a2
      obtain ⟨k, hk, rfl⟩ := ra_nat (n := 4) (by omega) a3 a4
      have b1 : ¬ (3 : Int32) < nI i := by rw [ra_ll _ (by decide : (4 : Int32).toInt = (3 : Int32).toInt + 1)]; exact a2
      have b2 : ¬ (3 : Int32) < nI k := by rw [ra_ll _ (by decide : (4 : Int32).toInt = (3 : Int32).toInt + 1)]; exact a4
      have X0 : ∀ (w : Int32) (post : Int32 → SX → Prop), (∀ q : Int32 → Prop, q w → wpX_refusalOrAny q (lN c, ep, st, pt, bs, pr, tk, mk, rs, vl, cl, nb, al, wt, lg, wd, sn, lo, lt, lv, gk, gt, gf, gl, gs, gn, sl, ss, sb, pa, du, oft, bg, av, tt) (nI r) v2) → ((w = 0 → wpX_refusal (fun r_159 => wX_pass_53 post (nI i) v2 v3 (nI k) (nI r) r_159 (lN c) ep st pt bs pr tk mk rs vl cl nb al wt lg wd sn lo lt lv gk gt gf gl gs gn sl ss sb pa du oft bg av tt) (lN c, ep, st, pt, bs, pr, tk, mk, rs, vl, cl, nb, al, wt, lg, wd, sn, lo, lt, lv, gk, gt, gf, gl, gs, gn, sl, ss, sb, pa, du, oft, bg, av, tt) (nI r) v3) ∧ (¬ w = 0 → wX_pass_53 post (nI i) v2 v3 (nI k) (nI r) w (lN c) ep st pt bs pr tk mk rs vl cl nb al wt lg wd sn lo lt lv gk gt gf gl gs gn sl ss sb pa du oft bg av tt)) → wpX_pass post (lN c, ep, st, pt, bs, pr, tk, mk, rs, vl, cl, nb, al, wt, lg, wd, sn, lo, lt, lv, gk, gt, gf, gl, gs, gn, sl, ss, sb, pa, du, oft, bg, av, tt) (nI i) v2 v3 (nI k) := by
        intro w post hX hp
        simp only [wpX_pass]
        exact rX _ (br_f (nI_pos (by omega)) (xl_isG (fun y => absurd y (fun z => z.elim a1 a2)) (fun _ _ => br_f (by decide) (xl_isG (fun y => absurd y (fun z => z.elim a3 a4)) (fun _ _ => br_f (by decide) (hX _ hp))))))
      have X1 : ∀ (post : Int32 → SX → Prop), post 0 (lN c, ep, st, pt, bs, pr, tk, mk, rs, vl, cl, nb, al, wt, lg, wd, sn, lo, lt, lv, upd gk (4 * r + i) 4, upd gt (4 * r + i) v2, gf, gl, upd gs (4 * r + i) v3, upd gn (4 * r + i) (nI k), sl, ss, sb, pa, du, oft, bg, av, tt) → wX_pass_53 post (nI i) v2 v3 (nI k) (nI r) 0 (lN c) ep st pt bs pr tk mk rs vl cl nb al wt lg wd sn lo lt lv gk gt gf gl gs gn sl ss sb pa du oft bg av tt := by
        intro post hp
        simp (disch := omega) only [wX_pass_53, not_true, not_false_iff, true_implies, false_implies, implies_true, true_and, and_true, forall_eq, eq_self, ra_i, ra_c, ra_m3, ra_m4, ra_m16, ra_4m, ra_14m, ra_16m, nI_add, nI_1, lN_1, ra_p2, ra_2p, ra_n0, ra_p0, ra_q0, ra_q1, ra_q2, ra_q3, ra_n3, ra_n4, ra_n10, ra_n14, ra_n16, ra_n30, ra_n140, ra_y3, ra_y4, ra_y10, ra_y14, ra_y16, ra_y30, ra_y140]
        exact hp
      have X2 : ∀ (w : Int32) (post : Int32 → SX → Prop), ¬ w = 0 → post w (lN c, ep, st, pt, bs, pr, tk, mk, rs, vl, cl, nb, al, wt, lg, wd, sn, lo, lt, lv, gk, gt, gf, gl, gs, gn, sl, ss, sb, pa, du, oft, bg, av, tt) → wX_pass_53 post (nI i) v2 v3 (nI k) (nI r) w (lN c) ep st pt bs pr tk mk rs vl cl nb al wt lg wd sn lo lt lv gk gt gf gl gs gn sl ss sb pa du oft bg av tt := by
        intro w post hw hp
        simp only [wX_pass_53]
        exact br_f hw hp
      have Y0 : ∀ (post : Int32 → SY → Prop), ((v2 = -1 → wY_pass_49 post (nI i) v2 v3 (nI k) (nI r) 0 (nI n) (nI m) st bo bs pr tk mk ot vl rs al wt so sq go mo cl wd nt fr tw tx gr ge g1 g2 g3 sv sb lf pa du av bg oft se tt cp) ∧ (¬ v2 = -1 → wpY_wrong (fun r_47 => wY_pass_49 post (nI i) v2 v3 (nI k) (nI r) r_47 (nI n) (nI m) st bo bs pr tk mk ot vl rs al wt so sq go mo cl wd nt fr tw tx gr ge g1 g2 g3 sv sb lf pa du av bg oft se tt cp) (nI n, nI m, st, bo, bs, pr, tk, mk, ot, vl, rs, al, wt, so, sq, go, mo, cl, wd, nt, fr, tw, tx, gr, ge, g1, g2, g3, sv, sb, lf, pa, du, av, bg, oft, se, tt, cp) (nI r) v2 0)) → wpY_pass post (nI n, nI m, st, bo, bs, pr, tk, mk, ot, vl, rs, al, wt, so, sq, go, mo, cl, wd, nt, fr, tw, tx, gr, ge, g1, g2, g3, sv, sb, lf, pa, du, av, bg, oft, se, tt, cp) (nI i) v2 v3 (nI k) := by
        intro post hp
        simp only [wpY_pass]
        exact rY _ (br_f (nI_pos (by omega)) (yl_within (fun y => absurd y (fun z => z.elim a1 b1)) (fun _ _ => br_f (by decide) (yl_within (fun y => absurd y (fun z => z.elim a3 b2)) (fun _ _ => br_f (by decide) hp)))))
      have Y1 : ∀ (w : Int32) (post : Int32 → SY → Prop), ¬ w = 0 → ¬ 0 ≤ w → post w (nI n, nI m, st, bo, bs, pr, tk, mk, ot, vl, rs, al, wt, so, sq, go, mo, cl, wd, nt, fr, tw, tx, gr, ge, g1, g2, g3, sv, sb, lf, pa, du, av, bg, oft, se, tt, cp) → wY_pass_49 post (nI i) v2 v3 (nI k) (nI r) w (nI n) (nI m) st bo bs pr tk mk ot vl rs al wt so sq go mo cl wd nt fr tw tx gr ge g1 g2 g3 sv sb lf pa du av bg oft se tt cp := by
        intro w post hw hw' hp
        simp only [wY_pass_49, wY_pass_66]
        exact br_f hw (br_f hw' hp)
      have hG := ra_R_G h (ra_G_pass (to := v2) (wh := v3) (x := 0) h.2.2.2.2.2.2.1 hr rl hi hk)
      -- what the granter gives
      have fin : ∃ (w : Int32) (u' : SX) (v' : SY), ra_RR (B + 1) u' v' ∧ (∀ post : Int32 → SX → Prop, post w u' → wpX_refusal (fun r_159 => wX_pass_53 post (nI i) v2 v3 (nI k) (nI r) r_159 (lN c) ep st pt bs pr tk mk rs vl cl nb al wt lg wd sn lo lt lv gk gt gf gl gs gn sl ss sb pa du oft bg av tt) (lN c, ep, st, pt, bs, pr, tk, mk, rs, vl, cl, nb, al, wt, lg, wd, sn, lo, lt, lv, gk, gt, gf, gl, gs, gn, sl, ss, sb, pa, du, oft, bg, av, tt) (nI r) v3) ∧ (∀ post : Int32 → SY → Prop, post w v' → wY_pass_49 post (nI i) v2 v3 (nI k) (nI r) 0 (nI n) (nI m) st bo bs pr tk mk ot vl rs al wt so sq go mo cl wd nt fr tw tx gr ge g1 g2 g3 sv sb lf pa du av bg oft se tt cp) := by
        rcases ra_ref0 (mk := mk) (vl := vl) (cl := cl) (wt := wt) (wd := wd) (du := du) (oft := oft) (bg := bg) (av := av) (cp := cp) hB h hr hr1 v3 with ⟨w, hw, hX, -, hY⟩ | ⟨s, hs, z, hl, he, ha, hX, hY⟩
        · have w0 : ¬ w = 0 := by rcases hw with rfl | rfl <;> decide
          have w1 : ¬ 0 ≤ w := by rcases hw with rfl | rfl <;> decide
          refine ⟨w, _, _, ra_RR_mono (ra_in (mk := mk) (vl := vl) (cl := cl) (wt := wt) (wd := wd) (du := du) (oft := oft) (bg := bg) (av := av) (cp := cp) h) (by omega), fun post hp => hX _ (X2 w post w0 hp), fun post hp => ?_⟩
          simp only [wY_pass_49, wY_pass_66]
          exact br_t trivial (hY _ 0 (br_f w1 hp))
        · refine ⟨0, _, _, ra_RR_mono (ra_in (mk := mk) (vl := vl) (cl := cl) (wt := wt) (wd := wd) (du := du) (oft := oft) (bg := bg) (av := av) (cp := cp) hG) (by omega), fun post hp => hX _ (X1 post hp), fun post hp => ?_⟩
          simp only [wY_pass_49, wY_pass_66]
          exact br_t trivial (hY _ (br_t (by decide) (yl_grant hr hi hp)))
      obtain ⟨w', u', v', hR, fX, fY⟩ := fin
      rcases ra_any (mk := mk) (vl := vl) (cl := cl) (wt := wt) (wd := wd) (du := du) (oft := oft) (bg := bg) (av := av) (cp := cp) hB h hr hr1 v2 with ⟨e1, hX⟩ | ⟨e1, w, hw, hX, hY⟩
      · exact ⟨w', u', v', hR, fun post hp => X0 0 post hX (br_t rfl (fX post hp)), fun post hp => Y0 post (br_t e1 (fY post hp))⟩
      · rcases hw with rfl | hw
        · exact ⟨w', u', v', hR, fun post hp => X0 0 post hX (br_t rfl (fX post hp)), fun post hp => Y0 post (br_f e1 (hY _ (fY post hp)))⟩
        · have w0 : ¬ w = 0 := by rcases hw with rfl | rfl <;> decide
          have w1 : ¬ 0 ≤ w := by rcases hw with rfl | rfl <;> decide
          exact ⟨w, _, _, ra_RR_mono (ra_in (mk := mk) (vl := vl) (cl := cl) (wt := wt) (wd := wd) (du := du) (oft := oft) (bg := bg) (av := av) (cp := cp) h) (by omega), fun post hp => X0 w post hX (br_f w0 (X2 w post w0 hp)), fun post hp => Y0 post (br_f e1 (hY _ (Y1 w post w0 w1 hp)))⟩
    · refine ⟨-1, _, _, ra_RR_mono (ra_in (mk := mk) (vl := vl) (cl := cl) (wt := wt) (wd := wd) (du := du) (oft := oft) (bg := bg) (av := av) (cp := cp) h) (by omega), fun post hp => ?_, fun post hp => ?_⟩
      · simp only [wpX_pass]
        exact rX _ (br_f (nI_pos (by omega)) (xl_isG (fun _ => br_t rfl hp) (fun a1 a2 => br_f (by decide) (xl_isG (fun _ => br_t rfl hp) (fun a3 a4 => absurd ⟨a1, a2, a3, a4⟩ good)))))
      · simp only [wpY_pass]
        refine rY _ (br_f (nI_pos (by omega)) (yl_within (fun _ => br_t rfl hp) (fun a1 a2 => br_f (by decide) (yl_within (fun _ => br_t rfl hp) (fun a3 a4 => absurd ⟨a1, ?_, a3, ?_⟩ good)))))
        · rw [← ra_ll _ (by decide : (4 : Int32).toInt = (3 : Int32).toInt + 1)]; exact a2
        · rw [← ra_ll _ (by decide : (4 : Int32).toInt = (3 : Int32).toInt + 1)]; exact a4
theorem ra_revoke {v1 : Int32} (hB : B ≤ 2 ^ 26) (h : ra_R B c m n st pr tk rs al tt pa bs sb ep pt nb lg sn lo lt lv gk gt gf gl gs gn sl ss bo ot so sq go mo nt fr tw tx gr ge g1 g2 g3 sv lf se) : ∃ (w : Int32) (u' : SX) (v' : SY), ra_RR (B + 1) u' v' ∧ (∀ post : Int32 → SX → Prop, post w u' → wpX_revoke post (lN c, ep, st, pt, bs, pr, tk, mk, rs, vl, cl, nb, al, wt, lg, wd, sn, lo, lt, lv, gk, gt, gf, gl, gs, gn, sl, ss, sb, pa, du, oft, bg, av, tt) v1) ∧ (∀ post : Int32 → SY → Prop, post w v' → wpY_revoke post (nI n, nI m, st, bo, bs, pr, tk, mk, ot, vl, rs, al, wt, so, sq, go, mo, cl, wd, nt, fr, tw, tx, gr, ge, g1, g2, g3, sv, sb, lf, pa, du, av, bg, oft, se, tt, cp) v1) := by
  rcases ra_run_both (mk := mk) (vl := vl) (cl := cl) (wt := wt) (wd := wd) (du := du) (oft := oft) (bg := bg) (av := av) (cp := cp) hB h with ⟨rX, rY⟩ | ⟨r, hr, hr1, rX, rY⟩
  · refine ⟨-1, _, _, ra_RR_mono (ra_in (mk := mk) (vl := vl) (cl := cl) (wt := wt) (wd := wd) (du := du) (oft := oft) (bg := bg) (av := av) (cp := cp) h) (by omega), fun post hp => ?_, fun post hp => ?_⟩
    · simp only [wpX_revoke]
      exact rX _ (br_t (by decide) hp)
    · simp only [wpY_revoke]
      exact rY _ (br_t (by decide) hp)
  · have rl : st r ≠ 0 := by rw [hr1]; decide
    by_cases good : ¬ v1 < 0 ∧ ¬ 4 ≤ v1
    · obtain ⟨a1, a2⟩ := good
      obtain ⟨i, hi, rfl⟩ := ra_nat (n := 4) (by omega) a1 a2
      have b1 : ¬ (3 : Int32) < nI i := by rw [ra_ll _ (by decide : (4 : Int32).toInt = (3 : Int32).toInt + 1)]; exact a2
      have hK := (h.2.2.2.2.2.2.1 r hr i hi).2 rl
      by_cases z : gk (4 * r + i) = 0
      · have z' : gr (4 * r + i) = 0 := by
          rcases hK with ⟨-, y⟩ | ⟨-, -, y, -⟩ | ⟨-, y, -⟩
          · exact y
          · rw [z] at y; rcases y with y | y | y <;> exact absurd y (by decide)
          · rw [z] at y; exact absurd y (by decide)
        refine ⟨-6, _, _, ra_RR_mono (ra_in (mk := mk) (vl := vl) (cl := cl) (wt := wt) (wd := wd) (du := du) (oft := oft) (bg := bg) (av := av) (cp := cp) h) (by omega), fun post hp => ?_, fun post hp => ?_⟩
        · simp only [wpX_revoke]
          refine rX _ (br_f (nI_pos (by omega)) (xl_isG (fun y => absurd y (fun z => z.elim a1 a2)) (fun _ _ => br_f (by decide) ?_)))
          simp (disch := omega) only [z, not_true, not_false_iff, true_implies, false_implies, implies_true, true_and, and_true, forall_eq, eq_self, ra_i, ra_c, ra_m3, ra_m4, ra_m16, ra_4m, ra_14m, ra_16m, nI_add, nI_1, lN_1, ra_p2, ra_2p, ra_n0, ra_p0, ra_q0, ra_q1, ra_q2, ra_q3, ra_n3, ra_n4, ra_n10, ra_n14, ra_n16, ra_n30, ra_n140, ra_y3, ra_y4, ra_y10, ra_y14, ra_y16, ra_y30, ra_y140]
          exact hp
        · simp only [wpY_revoke]
          refine rY _ (br_f (nI_pos (by omega)) (yl_within (fun y => absurd y (fun z => z.elim a1 b1)) (fun _ _ => br_f (by decide) ?_)))
          have e : upd gr (4 * r + i) 0 = gr := ra_us z'
          simp (disch := omega) only [z', e, not_true, not_false_iff, true_implies, false_implies, implies_true, true_and, and_true, forall_eq, eq_self, ra_i, ra_c, ra_m3, ra_m4, ra_m16, ra_4m, ra_14m, ra_16m, nI_add, nI_1, lN_1, ra_p2, ra_2p, ra_n0, ra_p0, ra_q0, ra_q1, ra_q2, ra_q3, ra_n3, ra_n4, ra_n10, ra_n14, ra_n16, ra_n30, ra_n140, ra_y3, ra_y4, ra_y10, ra_y14, ra_y16, ra_y30, ra_y140]
          exact hp
      · have z' : ¬ gr (4 * r + i) = 0 := by
          rcases hK with ⟨y, -⟩ | ⟨y, -⟩ | ⟨y, -⟩
          · exact absurd y z
          · rw [y]; decide
          · rw [y]; decide
        refine ⟨0, _, _, ra_RR_mono (ra_in (mk := mk) (vl := vl) (cl := cl) (wt := wt) (wd := wd) (du := du) (oft := oft) (bg := bg) (av := av) (cp := cp) (ra_R_G h (ra_G_rev h.2.2.2.2.2.2.1 hr hi))) (by omega), fun post hp => ?_, fun post hp => ?_⟩
        · simp only [wpX_revoke]
          refine rX _ (br_f (nI_pos (by omega)) (xl_isG (fun y => absurd y (fun z => z.elim a1 a2)) (fun _ _ => br_f (by decide) ?_)))
          simp (disch := omega) only [z, not_true, not_false_iff, true_implies, false_implies, implies_true, true_and, and_true, forall_eq, eq_self, ra_i, ra_c, ra_m3, ra_m4, ra_m16, ra_4m, ra_14m, ra_16m, nI_add, nI_1, lN_1, ra_p2, ra_2p, ra_n0, ra_p0, ra_q0, ra_q1, ra_q2, ra_q3, ra_n3, ra_n4, ra_n10, ra_n14, ra_n16, ra_n30, ra_n140, ra_y3, ra_y4, ra_y10, ra_y14, ra_y16, ra_y30, ra_y140]
          exact hp
        · simp only [wpY_revoke]
          refine rY _ (br_f (nI_pos (by omega)) (yl_within (fun y => absurd y (fun z => z.elim a1 b1)) (fun _ _ => br_f (by decide) ?_)))
          simp (disch := omega) only [z', not_true, not_false_iff, true_implies, false_implies, implies_true, true_and, and_true, forall_eq, eq_self, ra_i, ra_c, ra_m3, ra_m4, ra_m16, ra_4m, ra_14m, ra_16m, nI_add, nI_1, lN_1, ra_p2, ra_2p, ra_n0, ra_p0, ra_q0, ra_q1, ra_q2, ra_q3, ra_n3, ra_n4, ra_n10, ra_n14, ra_n16, ra_n30, ra_n140, ra_y3, ra_y4, ra_y10, ra_y14, ra_y16, ra_y30, ra_y140]
          exact hp
    · refine ⟨-1, _, _, ra_RR_mono (ra_in (mk := mk) (vl := vl) (cl := cl) (wt := wt) (wd := wd) (du := du) (oft := oft) (bg := bg) (av := av) (cp := cp) h) (by omega), fun post hp => ?_, fun post hp => ?_⟩
      · simp only [wpX_revoke]
        exact rX _ (br_f (nI_pos (by omega)) (xl_isG (fun _ => br_t rfl hp) (fun a1 a2 => absurd ⟨a1, a2⟩ good)))
      · simp only [wpY_revoke]
        refine rY _ (br_f (nI_pos (by omega)) (yl_within (fun _ => br_t rfl hp) (fun a1 a2 => absurd ⟨a1, ?_⟩ good)))
        rw [← ra_ll _ (by decide : (4 : Int32).toInt = (3 : Int32).toInt + 1)]; exact a2
end
