/-! at, service, memory, running, total, poke, end, leave, birth -/
theorem ra_s10 {a : Nat} (h : 10 ≤ a) : nI a - 10 = nI (a - 10) := pk_sub (a := a) (b := 10) h
section
variable {B c m n : Nat} {st pr bs tk mk vl cl rs al wt wd tt sb pa du oft bg av ep pt nb lg lt lv gk gt gf gl gs gn sl ss bo ot so sq go mo nt fr tw tx gr ge g1 g2 g3 sv lf se cp : Nat → Int32} {sn lo : Nat → Int64}
theorem ra_has {x : Int32} (h : ra_R B c m n st pr tk rs al tt pa bs sb ep pt nb lg sn lo lt lv gk gt gf gl gs gn sl ss bo ot so sq go mo nt fr tw tx gr ge g1 g2 g3 sv lf se) : (∃ s, s < 10 ∧ x = nI s ∧ st s ≠ 0 ∧ (∀ post : Int32 → Prop, post 1 → wpX_hasProcess post (lN c, ep, st, pt, bs, pr, tk, mk, rs, vl, cl, nb, al, wt, lg, wd, sn, lo, lt, lv, gk, gt, gf, gl, gs, gn, sl, ss, sb, pa, du, oft, bg, av, tt) x) ∧ (∀ post : Int32 → Prop, post 1 → wpY_isThere post (nI n, nI m, st, bo, bs, pr, tk, mk, ot, vl, rs, al, wt, so, sq, go, mo, cl, wd, nt, fr, tw, tx, gr, ge, g1, g2, g3, sv, sb, lf, pa, du, av, bg, oft, se, tt, cp) x)) ∨
    ((∀ post : Int32 → Prop, post 0 → wpX_hasProcess post (lN c, ep, st, pt, bs, pr, tk, mk, rs, vl, cl, nb, al, wt, lg, wd, sn, lo, lt, lv, gk, gt, gf, gl, gs, gn, sl, ss, sb, pa, du, oft, bg, av, tt) x) ∧ (∀ post : Int32 → Prop, post 0 → wpY_isThere post (nI n, nI m, st, bo, bs, pr, tk, mk, ot, vl, rs, al, wt, so, sq, go, mo, cl, wd, nt, fr, tw, tx, gr, ge, g1, g2, g3, sv, sb, lf, pa, du, av, bg, oft, se, tt, cp) x)) := by
  have hT := h.2.2.2.2.2.2.2.2.1
  by_cases x0 : x < 0
  · refine Or.inr ⟨fun post hp => ?_, fun post hp => ?_⟩
    · simp only [wpX_hasProcess]
      exact br_t x0 hp
    · simp only [wpY_isThere]
      exact yl_within (fun _ => br_t rfl hp) (fun y => absurd x0 y)
  · by_cases x1 : (10 : Int32) ≤ x
    · refine Or.inr ⟨fun post hp => ?_, fun post hp => ?_⟩
      · simp only [wpX_hasProcess]
        exact br_f x0 (br_t x1 hp)
      · simp only [wpY_isThere]
        refine yl_within (fun _ => br_t rfl hp) (fun _ y => absurd ?_ y)
        rw [ra_ll _ (by decide : (10 : Int32).toInt = (9 : Int32).toInt + 1)]
        exact x1
    · obtain ⟨s, hs, rfl⟩ := ra_nat (n := 10) (by omega) x0 x1
      have e0 := ra_le0 hT hs
      by_cases l : st s = 0
      · have l' : st s ≤ 0 := by rw [e0]; exact l
        refine Or.inr ⟨fun post hp => ?_, fun post hp => ?_⟩
        · simp (disch := omega) only [wpX_hasProcess, l, not_true, not_false_iff, true_implies, false_implies, implies_true, true_and, and_true, forall_eq, eq_self, ra_i, ra_c, ra_m3, ra_m4, ra_m16, ra_4m, ra_14m, ra_16m, nI_add, nI_1, lN_1, ra_p2, ra_2p, ra_n0, ra_p0, ra_q0, ra_q1, ra_q2, ra_q3, ra_n3, ra_n4, ra_n10, ra_n14, ra_n16, ra_n30, ra_n140, ra_y3, ra_y4, ra_y10, ra_y14, ra_y16, ra_y30, ra_y140]
          exact hp
        · simp (disch := omega) only [wpY_isThere, wpY_within, ra_w9, l', not_true, not_false_iff, true_implies, false_implies, implies_true, true_and, and_true, forall_eq, eq_self, ra_i, ra_c, ra_m3, ra_m4, ra_m16, ra_4m, ra_14m, ra_16m, nI_add, nI_1, lN_1, ra_p2, ra_2p, ra_n0, ra_p0, ra_q0, ra_q1, ra_q2, ra_q3, ra_n3, ra_n4, ra_n10, ra_n14, ra_n16, ra_n30, ra_n140, ra_y3, ra_y4, ra_y10, ra_y14, ra_y16, ra_y30, ra_y140]
          exact hp
      · have l' : ¬ st s ≤ 0 := by rw [e0]; exact l
        refine Or.inl ⟨s, hs, rfl, l, fun post hp => ?_, fun post hp => ?_⟩
        · simp (disch := omega) only [wpX_hasProcess, l, not_true, not_false_iff, true_implies, false_implies, implies_true, true_and, and_true, forall_eq, eq_self, ra_i, ra_c, ra_m3, ra_m4, ra_m16, ra_4m, ra_14m, ra_16m, nI_add, nI_1, lN_1, ra_p2, ra_2p, ra_n0, ra_p0, ra_q0, ra_q1, ra_q2, ra_q3, ra_n3, ra_n4, ra_n10, ra_n14, ra_n16, ra_n30, ra_n140, ra_y3, ra_y4, ra_y10, ra_y14, ra_y16, ra_y30, ra_y140]
          exact hp
        · simp (disch := omega) only [wpY_isThere, wpY_within, ra_w9, l', not_true, not_false_iff, true_implies, false_implies, implies_true, true_and, and_true, forall_eq, eq_self, ra_i, ra_c, ra_m3, ra_m4, ra_m16, ra_4m, ra_14m, ra_16m, nI_add, nI_1, lN_1, ra_p2, ra_2p, ra_n0, ra_p0, ra_q0, ra_q1, ra_q2, ra_q3, ra_n3, ra_n4, ra_n10, ra_n14, ra_n16, ra_n30, ra_n140, ra_y3, ra_y4, ra_y10, ra_y14, ra_y16, ra_y30, ra_y140]
          exact hp
set_option maxHeartbeats 4000000 in
theorem ra_at {v1 v2 : Int32} (hB : B ≤ 2 ^ 26) (h : ra_R B c m n st pr tk rs al tt pa bs sb ep pt nb lg sn lo lt lv gk gt gf gl gs gn sl ss bo ot so sq go mo nt fr tw tx gr ge g1 g2 g3 sv lf se) : ∃ w : Int32, (∀ post : Int32 → Prop, post w → wpX_at post (lN c, ep, st, pt, bs, pr, tk, mk, rs, vl, cl, nb, al, wt, lg, wd, sn, lo, lt, lv, gk, gt, gf, gl, gs, gn, sl, ss, sb, pa, du, oft, bg, av, tt) v1 v2) ∧ (∀ post : Int32 → Prop, post w → wpY_at post (nI n, nI m, st, bo, bs, pr, tk, mk, ot, vl, rs, al, wt, so, sq, go, mo, cl, wd, nt, fr, tw, tx, gr, ge, g1, g2, g3, sv, sb, lf, pa, du, av, bg, oft, se, tt, cp) v1 v2) := by
  rcases ra_has (mk := mk) (vl := vl) (cl := cl) (wt := wt) (wd := wd) (du := du) (oft := oft) (bg := bg) (av := av) (cp := cp) (x := v1) h with ⟨s, hs, rfl, hl, pX, pY⟩ | ⟨pX, pY⟩
  · obtain ⟨hE, hO, hW, hD, hN, hL, hG, hS, hT, hI, hP⟩ := h
    have hc : c ≤ 2 ^ 27 := by have := hO.1; omega
    have n30 := (ra_L_n hc hL).1
    have ys := ra_E_y hE hs hl
    have hv : vp_in (nI s) 10 := vp_in_nI hs (by decide)
    by_cases good : ¬ v2 < 0 ∧ ¬ 14 < v2
    · obtain ⟨a1, a2⟩ := good
      have a2' : ¬ (15 : Int32) ≤ v2 := by rw [← ra_ll _ (by decide : (15 : Int32).toInt = (14 : Int32).toInt + 1)]; exact a2
      obtain ⟨w, hw, rfl⟩ := ra_nat (n := 15) (by omega) a1 a2'
      have HX : ∀ post : Int32 → Prop, _ → wpX_at post (lN c, ep, st, pt, bs, pr, tk, mk, rs, vl, cl, nb, al, wt, lg, wd, sn, lo, lt, lv, gk, gt, gf, gl, gs, gn, sl, ss, sb, pa, du, oft, bg, av, tt) (nI s) (nI w) := fun post hp => by
        simp only [wpX_at]
        exact pX _ (br_f (by decide) (br_f a1 (br_f a2 hp)))
      have HY : ∀ post : Int32 → Prop, _ → wpY_at post (nI n, nI m, st, bo, bs, pr, tk, mk, ot, vl, rs, al, wt, so, sq, go, mo, cl, wd, nt, fr, tw, tx, gr, ge, g1, g2, g3, sv, sb, lf, pa, du, av, bg, oft, se, tt, cp) (nI s) (nI w) := fun post hp => by
        simp only [wpY_at]
        exact pY _ (br_f (by decide) (br_f a1 (br_f a2 hp)))
      have hw' : w = 0 ∨ w = 1 ∨ w = 2 ∨ w = 3 ∨ w = 4 ∨ w = 5 ∨ w = 6 ∨ w = 7 ∨ w = 8 ∨ w = 9 ∨ w = 10 ∨ w = 11 ∨ w = 12 ∨ w = 13 ∨ w = 14 := by omega
      clear a1 a2 a2'
      rcases hw' with rfl | rfl | rfl | rfl | rfl | rfl | rfl | rfl | rfl | rfl | rfl | rfl | rfl | rfl | rfl
      · -- 0
        refine ⟨ep s, fun post hp => HX post (br_t (by decide) (⟨hv, by rw [ra_c (show s < 1000 by omega)]; exact hp⟩)), fun post hp => HY post (br_t (by decide) (?_))⟩
        simp (disch := omega) only [wpY_endpoint, ys, not_true, not_false_iff, true_implies, false_implies, implies_true, true_and, and_true, forall_eq, eq_self, ra_i, ra_c, ra_m3, ra_m4, ra_m16, ra_4m, ra_14m, ra_16m, nI_add, nI_1, lN_1, ra_p2, ra_2p, ra_n0, ra_p0, ra_q0, ra_q1, ra_q2, ra_q3, ra_n3, ra_n4, ra_n10, ra_n14, ra_n16, ra_n30, ra_n140, ra_y3, ra_y4, ra_y10, ra_y14, ra_y16, ra_y30, ra_y140]
        exact hp
      · -- 1
        refine ⟨st s, fun post hp => HX post (br_f (by decide) (br_t (by decide) (⟨hv, by rw [ra_c (show s < 1000 by omega)]; exact hp⟩))), fun post hp => HY post (br_f (by decide) (br_t (by decide) (⟨hv, by rw [ra_c (show s < 1000 by omega)]; exact hp⟩)))⟩
      · -- 2
        refine ⟨pt s, fun post hp => HX post (br_f (by decide) (br_f (by decide) (br_t (by decide) (⟨hv, by rw [ra_c (show s < 1000 by omega)]; exact hp⟩)))), fun post hp => HY post (br_f (by decide) (br_f (by decide) (br_t (by decide) (?_))))⟩
        simp (disch := omega) only [wpY_endpoint, ys, not_true, not_false_iff, true_implies, false_implies, implies_true, true_and, and_true, forall_eq, eq_self, ra_i, ra_c, ra_m3, ra_m4, ra_m16, ra_4m, ra_14m, ra_16m, nI_add, nI_1, lN_1, ra_p2, ra_2p, ra_n0, ra_p0, ra_q0, ra_q1, ra_q2, ra_q3, ra_n3, ra_n4, ra_n10, ra_n14, ra_n16, ra_n30, ra_n140, ra_y3, ra_y4, ra_y10, ra_y14, ra_y16, ra_y30, ra_y140]
        refine br_c (fun s1 => ?_) (fun s1 => ?_)
        · rw [← (hW s hs).1 s1]; exact hp
        · rw [← ((hW s hs).2 hl s1).1]; exact hp
      · -- 3
        refine ⟨pr s, fun post hp => HX post (br_f (by decide) (br_f (by decide) (br_f (by decide) (br_t (by decide) (⟨hv, by rw [ra_c (show s < 1000 by omega)]; exact hp⟩))))), fun post hp => HY post (br_f (by decide) (br_f (by decide) (br_f (by decide) (br_t (by decide) (⟨hv, by rw [ra_c (show s < 1000 by omega)]; exact hp⟩)))))⟩
      · -- 4
        refine ⟨tk s, fun post hp => HX post (br_f (by decide) (br_f (by decide) (br_f (by decide) (br_f (by decide) (br_t (by decide) (⟨hv, by rw [ra_c (show s < 1000 by omega)]; exact hp⟩)))))), fun post hp => HY post (br_f (by decide) (br_f (by decide) (br_f (by decide) (br_f (by decide) (br_t (by decide) (⟨hv, by rw [ra_c (show s < 1000 by omega)]; exact hp⟩))))))⟩
      · -- 5
        refine ⟨nI (ra_cn (ra_iq st ep pt s) 10), fun post hp => HX post (br_f (by decide) (br_f (by decide) (br_f (by decide) (br_f (by decide) (br_f (by decide) (br_t (by decide) (xl_queueLength hs hp))))))), fun post hp => HY post (br_f (by decide) (br_f (by decide) (br_f (by decide) (br_f (by decide) (br_f (by decide) (br_t (by decide) (?_)))))))⟩
        simp only [wY_at_136]
        exact yl_c5_5 hs hl n30 hE hW hp
      · -- 6
        refine ⟨nI (ra_cn (fun k => bt (nb s) k) 14), fun post hp => HX post (br_f (by decide) (br_f (by decide) (br_f (by decide) (br_f (by decide) (br_f (by decide) (br_f (by decide) (br_t (by decide) (xl_noteCount hs hp)))))))), fun post hp => HY post (br_f (by decide) (br_f (by decide) (br_f (by decide) (br_f (by decide) (br_f (by decide) (br_f (by decide) (br_t (by decide) (?_))))))))⟩
        simp only [wY_at_136]
        refine yl_c5_0 (by decide) (yl_c55_6 hs (yl_c95_0 n30 (by decide) ?_))
        have e : ra_cn (fun k => decide (¬ nt (14 * s + k) = 0)) 14 = ra_cn (fun k => bt (nb s) k) 14 := by
          refine ra_cn_eq (fun k hk => ?_)
          obtain ⟨-, n2, -⟩ := (hN s hs).2 hl k hk
          by_cases y : bt (nb s) k = true
          · rw [y]; exact decide_eq_true (n2.mp y)
          · rw [ra_nt y]; exact decide_eq_false (fun z => y (n2.mpr z))
        rw [e]
        exact hp
      · -- 7
        refine ⟨nI (ra_cn (fun p => decide (¬ lo p = 0) && decide (lt p = nI s)) 30), fun post hp => HX post (br_f (by decide) (br_f (by decide) (br_f (by decide) (br_f (by decide) (br_f (by decide) (br_f (by decide) (br_f (by decide) (br_t (by decide) (xl_lettersFor hp))))))))), fun post hp => HY post (br_f (by decide) (br_f (by decide) (br_f (by decide) (br_f (by decide) (br_f (by decide) (br_f (by decide) (br_f (by decide) (br_t (by decide) (?_)))))))))⟩
        simp only [wY_at_136]
        refine yl_c5_0 (by decide) (yl_c55_0 (by decide) (yl_c95_7 n30 ?_))
        rw [ra_for hc hL]
        exact hp
      · -- 8
        refine ⟨nI (ra_cn (fun i => decide (¬ lo (3 * s + i) = 0)) 3), fun post hp => HX post (br_f (by decide) (br_f (by decide) (br_f (by decide) (br_f (by decide) (br_f (by decide) (br_f (by decide) (br_f (by decide) (br_f (by decide) (br_t (by decide) (xl_lettersFrom hs hp)))))))))), fun post hp => HY post (br_f (by decide) (br_f (by decide) (br_f (by decide) (br_f (by decide) (br_f (by decide) (br_f (by decide) (br_f (by decide) (br_f (by decide) (br_t (by decide) (?_))))))))))⟩
        simp only [wY_at_136]
        refine yl_c5_0 (by decide) (yl_c55_0 (by decide) (yl_c95_8 n30 ?_))
        rw [ra_own hc hL hs]
        exact hp
      · -- 9
        by_cases s1 : st s = 1
        · refine ⟨nI (ra_cn (ra_pl st pr sn s) 10), fun post hp => HX post (br_f (by decide) (br_f (by decide) (br_f (by decide) (br_f (by decide) (br_f (by decide) (br_f (by decide) (br_f (by decide) (br_f (by decide) (br_f (by decide) (br_t (by decide) (xl_placeInRow hs s1 hp))))))))))), fun post hp => HY post (br_f (by decide) (br_f (by decide) (br_f (by decide) (br_f (by decide) (br_f (by decide) (br_f (by decide) (br_f (by decide) (br_f (by decide) (br_f (by decide) (br_t (by decide) (yl_placeOf hs s1 ?_)))))))))))⟩
          have e : ra_cn (ra_plY st pr mo s) 10 = ra_cn (ra_pl st pr sn s) 10 := ra_cn_eq (fun i hi => decide_eq_decide.mpr (and_congr Iff.rfl (and_congr Iff.rfl (ra_O_lt hB hO hi hs).symm)))
          rw [e]
          exact hp
        · refine ⟨-1, fun post hp => HX post (br_f (by decide) (br_f (by decide) (br_f (by decide) (br_f (by decide) (br_f (by decide) (br_f (by decide) (br_f (by decide) (br_f (by decide) (br_f (by decide) (br_t (by decide) (?_))))))))))), fun post hp => HY post (br_f (by decide) (br_f (by decide) (br_f (by decide) (br_f (by decide) (br_f (by decide) (br_f (by decide) (br_f (by decide) (br_f (by decide) (br_f (by decide) (br_t (by decide) (?_)))))))))))⟩
          · simp (disch := omega) only [wpX_placeInRow, s1, not_true, not_false_iff, true_implies, false_implies, implies_true, true_and, and_true, forall_eq, eq_self, ra_i, ra_c, ra_m3, ra_m4, ra_m16, ra_4m, ra_14m, ra_16m, nI_add, nI_1, lN_1, ra_p2, ra_2p, ra_n0, ra_p0, ra_q0, ra_q1, ra_q2, ra_q3, ra_n3, ra_n4, ra_n10, ra_n14, ra_n16, ra_n30, ra_n140, ra_y3, ra_y4, ra_y10, ra_y14, ra_y16, ra_y30, ra_y140]
            exact hp
          · simp (disch := omega) only [wpY_placeOf, s1, not_true, not_false_iff, true_implies, false_implies, implies_true, true_and, and_true, forall_eq, eq_self, ra_i, ra_c, ra_m3, ra_m4, ra_m16, ra_4m, ra_14m, ra_16m, nI_add, nI_1, lN_1, ra_p2, ra_2p, ra_n0, ra_p0, ra_q0, ra_q1, ra_q2, ra_q3, ra_n3, ra_n4, ra_n10, ra_n14, ra_n16, ra_n30, ra_n140, ra_y3, ra_y4, ra_y10, ra_y14, ra_y16, ra_y30, ra_y140]
            exact hp
      · -- 10
        refine ⟨so s, fun post hp => HX post (br_f (by decide) (br_f (by decide) (br_f (by decide) (br_f (by decide) (br_f (by decide) (br_f (by decide) (br_f (by decide) (br_f (by decide) (br_f (by decide) (br_f (by decide) (br_t (by decide) (?_)))))))))))), fun post hp => HY post (br_f (by decide) (br_f (by decide) (br_f (by decide) (br_f (by decide) (br_f (by decide) (br_f (by decide) (br_f (by decide) (br_f (by decide) (br_f (by decide) (br_f (by decide) (br_t (by decide) (⟨hv, by rw [ra_c (show s < 1000 by omega)]; exact hp⟩))))))))))))⟩
        simp (disch := omega) only [wX_at_149, ra_s10, not_true, not_false_iff, true_implies, false_implies, implies_true, true_and, and_true, forall_eq, eq_self, ra_i, ra_c, ra_m3, ra_m4, ra_m16, ra_4m, ra_14m, ra_16m, nI_add, nI_1, lN_1, ra_p2, ra_2p, ra_n0, ra_p0, ra_q0, ra_q1, ra_q2, ra_q3, ra_n3, ra_n4, ra_n10, ra_n14, ra_n16, ra_n30, ra_n140, ra_y3, ra_y4, ra_y10, ra_y14, ra_y16, ra_y30, ra_y140]
        rw [show 3 * s + 10 - 10 = 3 * s by omega, (hD s hs).1]
        exact hp
      · -- 11
        refine ⟨sq s, fun post hp => HX post (br_f (by decide) (br_f (by decide) (br_f (by decide) (br_f (by decide) (br_f (by decide) (br_f (by decide) (br_f (by decide) (br_f (by decide) (br_f (by decide) (br_f (by decide) (br_f (by decide) (br_t (by decide) (?_))))))))))))), fun post hp => HY post (br_f (by decide) (br_f (by decide) (br_f (by decide) (br_f (by decide) (br_f (by decide) (br_f (by decide) (br_f (by decide) (br_f (by decide) (br_f (by decide) (br_f (by decide) (br_f (by decide) (br_t (by decide) (⟨hv, by rw [ra_c (show s < 1000 by omega)]; exact hp⟩)))))))))))))⟩
        simp (disch := omega) only [wX_at_149, ra_s10, not_true, not_false_iff, true_implies, false_implies, implies_true, true_and, and_true, forall_eq, eq_self, ra_i, ra_c, ra_m3, ra_m4, ra_m16, ra_4m, ra_14m, ra_16m, nI_add, nI_1, lN_1, ra_p2, ra_2p, ra_n0, ra_p0, ra_q0, ra_q1, ra_q2, ra_q3, ra_n3, ra_n4, ra_n10, ra_n14, ra_n16, ra_n30, ra_n140, ra_y3, ra_y4, ra_y10, ra_y14, ra_y16, ra_y30, ra_y140]
        rw [show 3 * s + 11 - 10 = 3 * s + 1 by omega, (hD s hs).2.1]
        exact hp
      · -- 12
        refine ⟨go s, fun post hp => HX post (br_f (by decide) (br_f (by decide) (br_f (by decide) (br_f (by decide) (br_f (by decide) (br_f (by decide) (br_f (by decide) (br_f (by decide) (br_f (by decide) (br_f (by decide) (br_f (by decide) (br_f (by decide) (br_t (by decide) (?_)))))))))))))), fun post hp => HY post (br_f (by decide) (br_f (by decide) (br_f (by decide) (br_f (by decide) (br_f (by decide) (br_f (by decide) (br_f (by decide) (br_f (by decide) (br_f (by decide) (br_f (by decide) (br_f (by decide) (br_f (by decide) (br_t (by decide) (⟨hv, by rw [ra_c (show s < 1000 by omega)]; exact hp⟩))))))))))))))⟩
        simp (disch := omega) only [wX_at_149, ra_s10, not_true, not_false_iff, true_implies, false_implies, implies_true, true_and, and_true, forall_eq, eq_self, ra_i, ra_c, ra_m3, ra_m4, ra_m16, ra_4m, ra_14m, ra_16m, nI_add, nI_1, lN_1, ra_p2, ra_2p, ra_n0, ra_p0, ra_q0, ra_q1, ra_q2, ra_q3, ra_n3, ra_n4, ra_n10, ra_n14, ra_n16, ra_n30, ra_n140, ra_y3, ra_y4, ra_y10, ra_y14, ra_y16, ra_y30, ra_y140]
        rw [show 3 * s + 12 - 10 = 3 * s + 2 by omega, (hD s hs).2.2]
        exact hp
      · -- 13
        refine ⟨rs s, fun post hp => HX post (br_f (by decide) (br_f (by decide) (br_f (by decide) (br_f (by decide) (br_f (by decide) (br_f (by decide) (br_f (by decide) (br_f (by decide) (br_f (by decide) (br_f (by decide) (br_f (by decide) (br_f (by decide) (br_f (by decide) (br_t (by decide) (⟨hv, by rw [ra_c (show s < 1000 by omega)]; exact hp⟩))))))))))))))), fun post hp => HY post (br_f (by decide) (br_f (by decide) (br_f (by decide) (br_f (by decide) (br_f (by decide) (br_f (by decide) (br_f (by decide) (br_f (by decide) (br_f (by decide) (br_f (by decide) (br_f (by decide) (br_f (by decide) (br_f (by decide) (br_t (by decide) (⟨hv, by rw [ra_c (show s < 1000 by omega)]; exact hp⟩)))))))))))))))⟩
      · -- 14
        refine ⟨al s, fun post hp => HX post (br_f (by decide) (br_f (by decide) (br_f (by decide) (br_f (by decide) (br_f (by decide) (br_f (by decide) (br_f (by decide) (br_f (by decide) (br_f (by decide) (br_f (by decide) (br_f (by decide) (br_f (by decide) (br_f (by decide) (br_f (by decide) (br_t (by decide) (⟨hv, by rw [ra_c (show s < 1000 by omega)]; exact hp⟩)))))))))))))))), fun post hp => HY post (br_f (by decide) (br_f (by decide) (br_f (by decide) (br_f (by decide) (br_f (by decide) (br_f (by decide) (br_f (by decide) (br_f (by decide) (br_f (by decide) (br_f (by decide) (br_f (by decide) (br_f (by decide) (br_f (by decide) (br_f (by decide) (br_t (by decide) (⟨hv, by rw [ra_c (show s < 1000 by omega)]; exact hp⟩))))))))))))))))⟩
    · refine ⟨-1, fun post hp => ?_, fun post hp => ?_⟩
      · simp only [wpX_at]
        exact pX _ (br_f (by decide) (br_c (fun _ => hp) (fun a1 => br_c (fun _ => hp) (fun a2 => absurd ⟨a1, a2⟩ good))))
      · simp only [wpY_at]
        exact pY _ (br_f (by decide) (br_c (fun _ => hp) (fun a1 => br_c (fun _ => hp) (fun a2 => absurd ⟨a1, a2⟩ good))))
  · refine ⟨-1, fun post hp => ?_, fun post hp => ?_⟩
    · simp only [wpX_at]
      exact pX _ (br_t rfl hp)
    · simp only [wpY_at]
      exact pY _ (br_t rfl hp)
end
