/-! copy, all together -/
theorem ra_d4 {i : Nat} (h : i < 1000) : nI i / 4 = nI (i / 4) := pk_div (a := i) (d := 4) (by omega) (by omega) (by omega)
section
variable {B c m n : Nat} {st pr bs tk mk vl cl rs al wt wd tt sb pa du oft bg av ep pt nb lg lt lv gk gt gf gl gs gn sl ss bo ot so sq go mo nt fr tw tx gr ge g1 g2 g3 sv lf se cp : Nat → Int32} {sn lo : Nat → Int64}
theorem ra_R_tt {k : Nat} {v : Int32} (h : ra_R B c m n st pr tk rs al tt pa bs sb ep pt nb lg sn lo lt lv gk gt gf gl gs gn sl ss bo ot so sq go mo nt fr tw tx gr ge g1 g2 g3 sv lf se) (hk : k ≠ 0) : ra_R B c m n st pr tk rs al (upd tt k v) pa bs sb ep pt nb lg sn lo lt lv gk gt gf gl gs gn sl ss bo ot so sq go mo nt fr tw tx gr ge g1 g2 g3 sv lf se := by
  obtain ⟨h1, h2, h3, h4, h5, h6, h7, h8, h9, h10, h11⟩ := h
  exact ⟨h1, h2, h3, h4, h5, h6, h7, h8, h9, ra_I_u h10 hk, h11⟩
theorem ra_copy9 {r s j A N : Nat} {off b z : Int32} (h : ra_R B c m n st pr tk rs al tt pa bs sb ep pt nb lg sn lo lt lv gk gt gf gl gs gn sl ss bo ot so sq go mo nt fr tw tx gr ge g1 g2 g3 sv lf se) (hr : r < 10) (hs : s < 10) (hj : j < 4) (hN1 : 1 ≤ N) (hA : A + N ≤ 16) (hz : (b = 0 ∧ z = 1) ∨ (¬ b = 0 ∧ z = 2)) (hg : gr (4 * s + j) = 1) (hK : ra_K gk gt gf gl gs gn gr ge g1 g2 g3 (4 * s + j)) :
    ∃ (w : Int32) (u' : SX) (v' : SY), ra_RR (B + 1) u' v' ∧ (∀ post : Int32 → SX → Prop, post w u' → wX_copy_99 post off (nI A) (nI N) b (nI r) (nI (4 * s + j)) z (lN c) ep st pt bs pr tk mk rs vl cl nb al wt lg wd sn lo lt lv gk gt gf gl gs gn sl ss sb pa du oft bg av tt) ∧ (∀ post : Int32 → SY → Prop, post w v' → wY_copy_204 post off (nI A) (nI N) b (nI r) (nI (4 * s + j)) (nI n) (nI m) st bo bs pr tk mk ot vl rs al wt so sq go mo cl wd nt fr tw tx gr ge g1 g2 g3 sv sb lf pa du av bg oft se tt cp) := by
  have q4 : ¬ ((4 : Int32) = 0) := by decide
  have g4 : (4 * s + j) / 4 = s := by omega
  rcases hK with ⟨-, y⟩ | ⟨-, k1, -, -, k4, k5, F, L, hFL, k7, k8⟩ | ⟨y, -⟩
  · rw [hg] at y; exact absurd y (by decide)
  · by_cases ok : ¬ off < 0 ∧ ¬ gl (4 * s + j) - nI N < off ∧ ¬ (gk (4 * s + j) &&& z) = 0
    · obtain ⟨o1, o2, o3⟩ := ok
      obtain ⟨O, hO, rfl⟩ := nI_of o1
      have o2g : ¬ g2 (4 * s + j) - nI N < nI O := by rw [← k5]; exact o2
      have o3g : ¬ (g3 (4 * s + j) &&& z) = 0 := by rw [← k1]; exact o3
      have hLN : O + N ≤ L := by
        have o2' := o2
        rw [k8] at o2'
        by_cases y : N ≤ L
        · rw [pk_sub y] at o2'
          have := Int32.not_lt.mp o2'
          rw [nI_leI (by omega) (by omega)] at this
          omega
        · exfalso
          have a := pk_sneg (a := L) (b := N) (by omega) (by omega)
          have b : (0 : Int32) ≤ nI O := nI_pos' hO
          exact o2' (Int32.lt_of_lt_of_le a b)
      have hR := ra_R_tt (k := 6) (v := tt 6 + nI N) h (by omega)
      rcases hz with ⟨b0, rfl⟩ | ⟨b0, rfl⟩
      · refine ⟨0, _, _, ra_RR_mono (ra_in (mk := mk) (vl := vl) (cl := cl) (wt := wt) (wd := ra_mv wd (16 * s + F + O) (16 * r + A) N) (du := du) (oft := oft) (bg := bg) (av := av) (cp := ra_cp cp wd (16 * s + F + O) N) hR) (by omega), fun post hp => ?_, fun post hp => ?_⟩
        · simp (disch := omega) only [wX_copy_99, o2, o3, q4, b0, k7, ra_d4, g4, not_true, not_false_iff, true_implies, false_implies, implies_true, true_and, and_true, forall_eq, eq_self, ra_i, ra_c, ra_m3, ra_m4, ra_m16, ra_4m, ra_14m, ra_16m, nI_add, nI_1, lN_1, ra_p2, ra_2p, ra_n0, ra_p0, ra_q0, ra_q1, ra_q2, ra_q3, ra_n3, ra_n4, ra_n10, ra_n14, ra_n16, ra_n30, ra_n140, ra_y3, ra_y4, ra_y10, ra_y14, ra_y16, ra_y30, ra_y140]
          refine xl_moveWords (by omega) (by omega) hN1 ?_
          simp only [wX_copy_192, forall_eq]
          exact hp
        · simp (disch := omega) only [wY_copy_204, wY_copy_239, o2g, o3g, q4, b0, ← k4, k7, ra_d4, g4, not_true, not_false_iff, true_implies, false_implies, implies_true, true_and, and_true, forall_eq, eq_self, ra_i, ra_c, ra_m3, ra_m4, ra_m16, ra_4m, ra_14m, ra_16m, nI_add, nI_1, lN_1, ra_p2, ra_2p, ra_n0, ra_p0, ra_q0, ra_q1, ra_q2, ra_q3, ra_n3, ra_n4, ra_n10, ra_n14, ra_n16, ra_n30, ra_n140, ra_y3, ra_y4, ra_y10, ra_y14, ra_y16, ra_y30, ra_y140]
          exact yl_copy278 (a := 16 * s + F + O) (b := 16 * r + A) (by omega) (by omega) (by omega) (Or.inl ⟨rfl, rfl, rfl⟩) hp
      · refine ⟨0, _, _, ra_RR_mono (ra_in (mk := mk) (vl := vl) (cl := cl) (wt := wt) (wd := ra_mv wd (16 * r + A) (16 * s + F + O) N) (du := du) (oft := oft) (bg := bg) (av := av) (cp := ra_cp cp wd (16 * r + A) N) hR) (by omega), fun post hp => ?_, fun post hp => ?_⟩
        · simp (disch := omega) only [wX_copy_99, o2, o3, q4, b0, k7, ra_d4, g4, not_true, not_false_iff, true_implies, false_implies, implies_true, true_and, and_true, forall_eq, eq_self, ra_i, ra_c, ra_m3, ra_m4, ra_m16, ra_4m, ra_14m, ra_16m, nI_add, nI_1, lN_1, ra_p2, ra_2p, ra_n0, ra_p0, ra_q0, ra_q1, ra_q2, ra_q3, ra_n3, ra_n4, ra_n10, ra_n14, ra_n16, ra_n30, ra_n140, ra_y3, ra_y4, ra_y10, ra_y14, ra_y16, ra_y30, ra_y140]
          refine xl_moveWords (by omega) (by omega) hN1 ?_
          simp only [wX_copy_192, forall_eq]
          exact hp
        · simp (disch := omega) only [wY_copy_204, wY_copy_239, o2g, o3g, q4, b0, ← k4, k7, ra_d4, g4, not_true, not_false_iff, true_implies, false_implies, implies_true, true_and, and_true, forall_eq, eq_self, ra_i, ra_c, ra_m3, ra_m4, ra_m16, ra_4m, ra_14m, ra_16m, nI_add, nI_1, lN_1, ra_p2, ra_2p, ra_n0, ra_p0, ra_q0, ra_q1, ra_q2, ra_q3, ra_n3, ra_n4, ra_n10, ra_n14, ra_n16, ra_n30, ra_n140, ra_y3, ra_y4, ra_y10, ra_y14, ra_y16, ra_y30, ra_y140]
          exact yl_copy278 (a := 16 * r + A) (b := 16 * s + F + O) (by omega) (by omega) (by omega) (Or.inr ⟨b0, rfl, rfl⟩) hp
    · have hv : vp_in (nI (4 * s + j)) 40 := vp_in_nI (by omega) (by decide)
      refine ⟨-4, _, _, ra_RR_mono (ra_in (mk := mk) (vl := vl) (cl := cl) (wt := wt) (wd := wd) (du := du) (oft := oft) (bg := bg) (av := av) (cp := cp) h) (by omega), fun post hp => ?_, fun post hp => ?_⟩
      · simp only [wX_copy_99]
        rw [ra_c (show 4 * s + j < 1000 by omega)]
        exact br_c (fun _ => hp) (fun o1 => ⟨hv, br_c (fun _ => hp) (fun o2 => ⟨hv, br_c (fun _ => hp) (fun o3 => absurd ⟨o1, o2, o3⟩ ok)⟩)⟩)
      · simp only [wY_copy_204, wY_copy_239]
        rw [ra_c (show 4 * s + j < 1000 by omega)]
        refine br_c (fun _ => hp) (fun o1 => ⟨hv, br_c (fun _ => hp) (fun o2 => ⟨hv, ?_⟩)⟩)
        rw [← k5] at o2
        rcases hz with ⟨b0, rfl⟩ | ⟨b0, rfl⟩
        · refine br_t b0 (br_c (fun _ => hp) (fun o3 => absurd ⟨o1, o2, ?_⟩ ok))
          rw [k1]; exact o3
        · refine br_f b0 (br_c (fun _ => hp) (fun o3 => absurd ⟨o1, o2, ?_⟩ ok))
          rw [k1]; exact o3
  · rw [hg] at y; exact absurd y (by decide)
theorem ra_copy {v1 v2 v3 v4 v5 b : Int32} (hB : B ≤ 2 ^ 26) (h : ra_R B c m n st pr tk rs al tt pa bs sb ep pt nb lg sn lo lt lv gk gt gf gl gs gn sl ss bo ot so sq go mo nt fr tw tx gr ge g1 g2 g3 sv lf se) : ∃ (w : Int32) (u' : SX) (v' : SY), ra_RR (B + 1) u' v' ∧ (∀ post : Int32 → SX → Prop, post w u' → wpX_copy post (lN c, ep, st, pt, bs, pr, tk, mk, rs, vl, cl, nb, al, wt, lg, wd, sn, lo, lt, lv, gk, gt, gf, gl, gs, gn, sl, ss, sb, pa, du, oft, bg, av, tt) v1 v2 v3 v4 v5 b) ∧ (∀ post : Int32 → SY → Prop, post w v' → wpY_copy post (nI n, nI m, st, bo, bs, pr, tk, mk, ot, vl, rs, al, wt, so, sq, go, mo, cl, wd, nt, fr, tw, tx, gr, ge, g1, g2, g3, sv, sb, lf, pa, du, av, bg, oft, se, tt, cp) v1 v2 v3 v4 v5 b) := by
  rcases ra_run_both (mk := mk) (vl := vl) (cl := cl) (wt := wt) (wd := wd) (du := du) (oft := oft) (bg := bg) (av := av) (cp := cp) hB h with ⟨rX, rY⟩ | ⟨r, hr, hr1, rX, rY⟩
  · refine ⟨-1, _, _, ra_RR_mono (ra_in (mk := mk) (vl := vl) (cl := cl) (wt := wt) (wd := wd) (du := du) (oft := oft) (bg := bg) (av := av) (cp := cp) h) (by omega), fun post hp => ?_, fun post hp => ?_⟩
    · simp only [wpX_copy]
      exact rX _ (br_t (by decide) hp)
    · simp only [wpY_copy]
      exact rY _ (br_t (by decide) hp)
  · have rl : st r ≠ 0 := by rw [hr1]; decide
    have yr : 16 * (bo r - 1) + nI r = ep r := ra_E_y h.1 hr rl
    by_cases good : ¬ v2 < 0 ∧ ¬ 4 ≤ v2 ∧ ¬ v5 < 1 ∧ ¬ 16 < v5 ∧ ¬ v4 < 0 ∧ v4 ≤ 16 - v5
    · obtain ⟨a1, a2, a3, a4, a5, a6⟩ := good
      obtain ⟨id, hid, rfl⟩ := ra_nat (n := 4) (by omega) a1 a2
      have a4' : ¬ (17 : Int32) ≤ v5 := by rw [← ra_ll _ (by decide : (17 : Int32).toInt = (16 : Int32).toInt + 1)]; exact a4
      obtain ⟨N, hN, rfl⟩ := ra_nat (n := 17) (by omega) (ra_lt1 a3) a4'
      have hN1 : 1 ≤ N := by
        rcases Nat.eq_zero_or_pos N with z | z
        · subst z; exact absurd (by decide) a3
        · exact z
      have a6' := a6
      rw [ra_16s (show N ≤ 16 by omega)] at a6'
      obtain ⟨A, hA0, rfl⟩ := nI_of a5
      rw [nI_leI hA0 (by omega)] at a6'
      have b1 : ¬ (3 : Int32) < nI id := by rw [ra_ll _ (by decide : (4 : Int32).toInt = (3 : Int32).toInt + 1)]; exact a2
      have b2 : ¬ (16 - nI N) < nI A := Int32.not_lt.mpr a6
      have X0 : ∀ (w : Int32) (post : Int32 → SX → Prop), (∀ q : Int32 → Prop, q w → wpX_refusal q (lN c, ep, st, pt, bs, pr, tk, mk, rs, vl, cl, nb, al, wt, lg, wd, sn, lo, lt, lv, gk, gt, gf, gl, gs, gn, sl, ss, sb, pa, du, oft, bg, av, tt) (nI r) v1) → ((w = 0 → wpX_followGrants (fun r_117 => (0 ≤ r_117 → (b = 0 → wX_copy_99 post v3 (nI A) (nI N) b (nI r) r_117 1 (lN c) ep st pt bs pr tk mk rs vl cl nb al wt lg wd sn lo lt lv gk gt gf gl gs gn sl ss sb pa du oft bg av tt) ∧ (¬ b = 0 → wX_copy_99 post v3 (nI A) (nI N) b (nI r) r_117 2 (lN c) ep st pt bs pr tk mk rs vl cl nb al wt lg wd sn lo lt lv gk gt gf gl gs gn sl ss sb pa du oft bg av tt)) ∧ (¬ 0 ≤ r_117 → post r_117 (lN c, ep, st, pt, bs, pr, tk, mk, rs, vl, cl, nb, al, wt, lg, wd, sn, lo, lt, lv, gk, gt, gf, gl, gs, gn, sl, ss, sb, pa, du, oft, bg, av, tt))) (lN c, ep, st, pt, bs, pr, tk, mk, rs, vl, cl, nb, al, wt, lg, wd, sn, lo, lt, lv, gk, gt, gf, gl, gs, gn, sl, ss, sb, pa, du, oft, bg, av, tt) (ep r) v1 (nI id)) ∧ (¬ w = 0 → post w (lN c, ep, st, pt, bs, pr, tk, mk, rs, vl, cl, nb, al, wt, lg, wd, sn, lo, lt, lv, gk, gt, gf, gl, gs, gn, sl, ss, sb, pa, du, oft, bg, av, tt))) → wpX_copy post (lN c, ep, st, pt, bs, pr, tk, mk, rs, vl, cl, nb, al, wt, lg, wd, sn, lo, lt, lv, gk, gt, gf, gl, gs, gn, sl, ss, sb, pa, du, oft, bg, av, tt) v1 (nI id) v3 (nI A) (nI N) b := by
        intro w post hX hp
        simp only [wpX_copy]
        refine rX _ (br_f (nI_pos (by omega)) (xl_isG (fun y => absurd y (fun z => z.elim a1 a2)) (fun _ _ => br_f (by decide) (br_f a3 (br_f a4 (br_f a5 (br_t a6 (hX _ ?_))))))))
        refine br_c (fun y => ⟨vp_in_nI hr (by decide), ?_⟩) (fun y => hp.2 y)
        rw [ra_c (show r < 1000 by omega)]
        exact hp.1 y
      have Y0 : ∀ (w : Int32) (post : Int32 → SY → Prop), (∀ q : Int32 → Prop, q w → wpY_wrong q (nI n, nI m, st, bo, bs, pr, tk, mk, ot, vl, rs, al, wt, so, sq, go, mo, cl, wd, nt, fr, tw, tx, gr, ge, g1, g2, g3, sv, sb, lf, pa, du, av, bg, oft, se, tt, cp) (nI r) v1 0) → ((0 ≤ w → ∃ q, wY_copy_85 post v3 (nI A) (nI N) b (nI r) (nI n) (nI m) st bo bs pr tk mk ot vl rs al wt so sq go mo cl wd nt fr tw tx gr ge g1 g2 g3 sv sb lf pa du av bg oft se tt cp q (ep r) v1 (nI id) 0 1) ∧ (¬ 0 ≤ w → post w (nI n, nI m, st, bo, bs, pr, tk, mk, ot, vl, rs, al, wt, so, sq, go, mo, cl, wd, nt, fr, tw, tx, gr, ge, g1, g2, g3, sv, sb, lf, pa, du, av, bg, oft, se, tt, cp))) → wpY_copy post (nI n, nI m, st, bo, bs, pr, tk, mk, ot, vl, rs, al, wt, so, sq, go, mo, cl, wd, nt, fr, tw, tx, gr, ge, g1, g2, g3, sv, sb, lf, pa, du, av, bg, oft, se, tt, cp) v1 (nI id) v3 (nI A) (nI N) b := by
        intro w post hY hp
        simp only [wpY_copy]
        refine rY _ (br_f (nI_pos (by omega)) (yl_within (fun y => absurd y (fun z => z.elim a1 b1)) (fun _ _ => br_f (by decide) (yl_within (fun y => absurd y (fun z => z.elim a3 a4)) (fun _ _ => br_f (by decide) (yl_within (fun y => absurd y (fun z => z.elim a5 b2)) (fun _ _ => br_f (by decide) (hY _ ?_))))))))
        refine br_c (fun y => ?_) (fun y => hp.2 y)
        simp (disch := omega) only [wpY_endpoint, yr, not_true, not_false_iff, true_implies, false_implies, implies_true, true_and, and_true, forall_eq, eq_self, ra_i, ra_c, ra_m3, ra_m4, ra_m16, ra_4m, ra_14m, ra_16m, nI_add, nI_1, lN_1, ra_p2, ra_2p, ra_n0, ra_p0, ra_q0, ra_q1, ra_q2, ra_q3, ra_n3, ra_n4, ra_n10, ra_n14, ra_n16, ra_n30, ra_n140, ra_y3, ra_y4, ra_y10, ra_y14, ra_y16, ra_y30, ra_y140]
        exact hp.1 y
      rcases ra_ref0 (mk := mk) (vl := vl) (cl := cl) (wt := wt) (wd := wd) (du := du) (oft := oft) (bg := bg) (av := av) (cp := cp) hB h hr hr1 v1 with ⟨w, hw, hX, -, hY⟩ | ⟨s, hs, z, hl, he, ha, hX, hY⟩
      · have w0 : ¬ w = 0 := by rcases hw with rfl | rfl <;> decide
        have w1 : ¬ 0 ≤ w := by rcases hw with rfl | rfl <;> decide
        exact ⟨w, _, _, ra_RR_mono (ra_in (mk := mk) (vl := vl) (cl := cl) (wt := wt) (wd := wd) (du := du) (oft := oft) (bg := bg) (av := av) (cp := cp) h) (by omega), fun post hp => X0 w post hX (br_f w0 hp), fun post hp => Y0 w post (fun q hq => hY q 0 hq) (br_f w1 hp)⟩
      · rcases ra_chain (mk := mk) (vl := vl) (cl := cl) (wt := wt) (wd := wd) (du := du) (oft := oft) (bg := bg) (av := av) (cp := cp) hB h 4 0 id (ep r) v1 rfl hid with ⟨w, hw, cX, cY⟩ | ⟨s', j, hs', hj, q1, q2, cX, cY⟩
        · have w1 : ¬ 0 ≤ w := by rcases hw with rfl | rfl <;> decide
          refine ⟨w, _, _, ra_RR_mono (ra_in (mk := mk) (vl := vl) (cl := cl) (wt := wt) (wd := wd) (du := du) (oft := oft) (bg := bg) (av := av) (cp := cp) h) (by omega), fun post hp => X0 0 post hX (br_t rfl ?_), fun post hp => Y0 0 post hY (br_t (by decide) ⟨5, cY post _ _ _ _ _ _ hp⟩)⟩
          exact ⟨5, cX _ (br_f w1 hp)⟩
        · by_cases b0 : b = 0
          · obtain ⟨w, u', v', hR, fX, fY⟩ := ra_copy9 (mk := mk) (vl := vl) (cl := cl) (wt := wt) (wd := wd) (du := du) (oft := oft) (bg := bg) (av := av) (cp := cp) (off := v3) h hr hs' hj hN1 (show A + N ≤ 16 by omega) (Or.inl ⟨b0, rfl⟩) q1 q2
            refine ⟨w, u', v', hR, fun post hp => X0 0 post hX (br_t rfl ⟨5, cX _ (br_t (nI_pos' (by omega)) (br_t b0 (fX post hp)))⟩), fun post hp => Y0 0 post hY (br_t (by decide) ⟨5, cY post _ _ _ _ _ _ (fY post hp)⟩)⟩
          · obtain ⟨w, u', v', hR, fX, fY⟩ := ra_copy9 (mk := mk) (vl := vl) (cl := cl) (wt := wt) (wd := wd) (du := du) (oft := oft) (bg := bg) (av := av) (cp := cp) (off := v3) h hr hs' hj hN1 (show A + N ≤ 16 by omega) (Or.inr ⟨b0, rfl⟩) q1 q2
            refine ⟨w, u', v', hR, fun post hp => X0 0 post hX (br_t rfl ⟨5, cX _ (br_t (nI_pos' (by omega)) (br_f b0 (fX post hp)))⟩), fun post hp => Y0 0 post hY (br_t (by decide) ⟨5, cY post _ _ _ _ _ _ (fY post hp)⟩)⟩
    · refine ⟨-1, _, _, ra_RR_mono (ra_in (mk := mk) (vl := vl) (cl := cl) (wt := wt) (wd := wd) (du := du) (oft := oft) (bg := bg) (av := av) (cp := cp) h) (by omega), fun post hp => ?_, fun post hp => ?_⟩
      · simp only [wpX_copy]
        exact rX _ (br_f (nI_pos (by omega)) (xl_isG (fun _ => br_t rfl hp) (fun a1 a2 => br_f (by decide) (br_c (fun _ => hp) (fun a3 => br_c (fun _ => hp) (fun a4 => br_c (fun _ => hp) (fun a5 => br_c (fun a6 => absurd ⟨a1, a2, a3, a4, a5, a6⟩ good) (fun _ => hp))))))))
      · simp only [wpY_copy]
        refine rY _ (br_f (nI_pos (by omega)) (yl_within (fun _ => br_t rfl hp) (fun a1 a2 => br_f (by decide) (yl_within (fun _ => br_t rfl hp) (fun a3 a4 => br_f (by decide) (yl_within (fun _ => br_t rfl hp) (fun a5 a6 => absurd ⟨a1, ?_, a3, a4, a5, Int32.not_lt.mp a6⟩ good)))))))
        rw [← ra_ll _ (by decide : (4 : Int32).toInt = (3 : Int32).toInt + 1)]; exact a2
end
