/-! letters are counted; post -/
theorem ra_own {c n r : Nat} {st : Nat → Int32} {lo : Nat → Int64} {lt lv fr tw tx : Nat → Int32} (hc : c ≤ 2 ^ 27) (h : ra_L c n st lo lt lv fr tw tx) (hr : r < 10) : ra_cn (fun j => decide (fr j = nI r)) n = ra_cn (fun i => decide (¬ lo (3 * r + i) = 0)) 3 := by
  obtain ⟨pl, h1, h2⟩ := ra_L_cn hc h
  have e1 : ra_cn (fun j => decide (fr j = nI r)) n = ra_cn (fun j => decide (pl j / 3 = r)) n := by
    refine ra_cn_eq (fun j hj => ?_)
    obtain ⟨a, b, -⟩ := h1 j hj
    rw [b]
    exact decide_eq_decide.mpr (nI_eq (by omega) (by omega))
  rw [e1, h2 (fun p => decide (p / 3 = r))]
  have e2 : (30 : Nat) = 3 * r + (3 + (27 - 3 * r)) := by omega
  rw [e2, ra_cn_add, ra_cn_add]
  have z1 : ra_cn (fun p => decide (¬ lo p = 0) && decide (p / 3 = r)) (3 * r) = 0 := by
    refine ra_cn_0 (fun k hk => ?_)
    show (decide (¬ lo k = 0) && decide (k / 3 = r)) = false
    rw [decide_eq_false (p := k / 3 = r) (by omega), Bool.and_false]
  have z2 : ra_cn (fun i => (fun i => (fun p => decide (¬ lo p = 0) && decide (p / 3 = r)) (3 * r + i)) (3 + i)) (27 - 3 * r) = 0 := by
    refine ra_cn_0 (fun k hk => ?_)
    show (decide (¬ lo (3 * r + (3 + k)) = 0) && decide ((3 * r + (3 + k)) / 3 = r)) = false
    rw [decide_eq_false (p := (3 * r + (3 + k)) / 3 = r) (by omega), Bool.and_false]
  have z3 : ra_cn (fun i => (fun p => decide (¬ lo p = 0) && decide (p / 3 = r)) (3 * r + i)) 3 = ra_cn (fun i => decide (¬ lo (3 * r + i) = 0)) 3 := by
    refine ra_cn_eq (fun k hk => ?_)
    show (decide (¬ lo (3 * r + k) = 0) && decide ((3 * r + k) / 3 = r)) = decide (¬ lo (3 * r + k) = 0)
    rw [decide_eq_true (p := (3 * r + k) / 3 = r) (by omega), Bool.and_true]
  rw [z1, z2, z3]
  omega
theorem ra_for {c n r : Nat} {st : Nat → Int32} {lo : Nat → Int64} {lt lv fr tw tx : Nat → Int32} (hc : c ≤ 2 ^ 27) (h : ra_L c n st lo lt lv fr tw tx) : ra_cn (fun j => decide (tw j = nI r)) n = ra_cn (fun p => decide (¬ lo p = 0) && decide (lt p = nI r)) 30 := by
  obtain ⟨pl, h1, h2⟩ := ra_L_cn hc h
  rw [← h2 (fun p => decide (lt p = nI r))]
  refine ra_cn_eq (fun j hj => ?_)
  obtain ⟨-, -, b⟩ := h1 j hj
  rw [b]
theorem ra_cn3 (f : Nat → Bool) : ra_cn f 3 = (if f 0 = true then 1 else 0) + (if f 1 = true then 1 else 0) + (if f 2 = true then 1 else 0) := by
  simp only [ra_cn]
  omega
theorem ra_cn3_all {f : Nat → Bool} (h : ∀ i, i < 3 → f i = true) : ra_cn f 3 = 3 := by
  rw [ra_cn3, if_pos (h 0 (by omega)), if_pos (h 1 (by omega)), if_pos (h 2 (by omega))]
theorem ra_cn3_not {f : Nat → Bool} {i : Nat} (hi : i < 3) (h : ¬ f i = true) : ra_cn f 3 < 3 := by
  rw [ra_cn3]
  have : i = 0 ∨ i = 1 ∨ i = 2 := by omega
  rcases this with rfl | rfl | rfl
  · rw [if_neg h]; split <;> split <;> omega
  · rw [if_neg h]; split <;> split <;> omega
  · rw [if_neg h]; split <;> split <;> omega
section
variable {B c m n : Nat} {st pr bs tk mk vl cl rs al wt wd tt sb pa du oft bg av ep pt nb lg lt lv gk gt gf gl gs gn sl ss bo ot so sq go mo nt fr tw tx gr ge g1 g2 g3 sv lf se cp : Nat → Int32} {sn lo : Nat → Int64}
theorem yl_own {r : Nat} {post : Int32 → Prop} (hn : n ≤ 30) (h : post (nI (ra_cn (fun j => decide (fr j = nI r)) n))) : wpY_own post (nI n, nI m, st, bo, bs, pr, tk, mk, ot, vl, rs, al, wt, so, sq, go, mo, cl, wd, nt, fr, tw, tx, gr, ge, g1, g2, g3, sv, sb, lf, pa, du, av, bg, oft, se, tt, cp) (nI r) := by
  refine ra_run (fun q i => wY_own_4 post (nI r) (nI n) (nI m) st bo bs pr tk mk ot vl rs al wt so sq go mo cl wd nt fr tw tx gr ge g1 g2 g3 sv sb lf pa du av bg oft se tt cp q (nI (ra_cn (fun j => decide (fr j = nI r)) i)) (nI i)) n (fun q => ?_) (fun q i hi ih => ?_)
  · have le : nI n ≤ nI n := Int32.le_refl _
    simp (disch := omega) only [wY_own_4, le, not_true, not_false_iff, true_implies, false_implies, implies_true, true_and, and_true, forall_eq, eq_self, ra_i, ra_c, ra_m3, ra_m4, ra_m16, ra_4m, ra_14m, ra_16m, nI_add, nI_1, lN_1, ra_p2, ra_2p, ra_n0, ra_p0, ra_q0, ra_q1, ra_q2, ra_q3, ra_n3, ra_n4, ra_n10, ra_n14, ra_n16, ra_n30, ra_n140, ra_y3, ra_y4, ra_y10, ra_y14, ra_y16, ra_y30, ra_y140]
    exact h
  · have le : ¬ nI n ≤ nI i := nI_ge (by omega) (by omega)
    have e : ra_cn (fun j => decide (fr j = nI r)) (i + 1) = ra_cn (fun j => decide (fr j = nI r)) i + (if decide (fr i = nI r) = true then 1 else 0) := rfl
    rw [e] at ih
    by_cases a : fr i = nI r
    · rw [if_pos (decide_eq_true a)] at ih
      simp (disch := omega) only [wY_own_4, le, a, not_true, not_false_iff, true_implies, false_implies, implies_true, true_and, and_true, forall_eq, eq_self, ra_i, ra_c, ra_m3, ra_m4, ra_m16, ra_4m, ra_14m, ra_16m, nI_add, nI_1, lN_1, ra_p2, ra_2p, ra_n0, ra_p0, ra_q0, ra_q1, ra_q2, ra_q3, ra_n3, ra_n4, ra_n10, ra_n14, ra_n16, ra_n30, ra_n140, ra_y3, ra_y4, ra_y10, ra_y14, ra_y16, ra_y30, ra_y140]
      exact ih
    · rw [if_neg (fun z => a (of_decide_eq_true z))] at ih
      simp (disch := omega) only [wY_own_4, le, a, not_true, not_false_iff, true_implies, false_implies, implies_true, true_and, and_true, forall_eq, eq_self, ra_i, ra_c, ra_m3, ra_m4, ra_m16, ra_4m, ra_14m, ra_16m, nI_add, nI_1, lN_1, ra_p2, ra_2p, ra_n0, ra_p0, ra_q0, ra_q1, ra_q2, ra_q3, ra_n3, ra_n4, ra_n10, ra_n14, ra_n16, ra_n30, ra_n140, ra_y3, ra_y4, ra_y10, ra_y14, ra_y16, ra_y30, ra_y140]
      exact ih
theorem xl_place_n {r : Nat} {post : Int32 → Prop} (hr : r < 10) (hn : ∀ i, i < 3 → lo (3 * r + i) ≠ 0) (h : post (-1)) : wpX_freeLetterPlace post (lN c, ep, st, pt, bs, pr, tk, mk, rs, vl, cl, nb, al, wt, lg, wd, sn, lo, lt, lv, gk, gt, gf, gl, gs, gn, sl, ss, sb, pa, du, oft, bg, av, tt) (nI r) := by
  refine ra_run (fun n i => wX_freeLetterPlace_2 post (nI r) (lN c) ep st pt bs pr tk mk rs vl cl nb al wt lg wd sn lo lt lv gk gt gf gl gs gn sl ss sb pa du oft bg av tt n (nI i)) 3 (fun n => ?_) (fun n i hi ih => ?_)
  · simp (disch := omega) only [wX_freeLetterPlace_2, not_true, not_false_iff, true_implies, false_implies, implies_true, true_and, and_true, forall_eq, eq_self, ra_i, ra_c, ra_m3, ra_m4, ra_m16, ra_4m, ra_14m, ra_16m, nI_add, nI_1, lN_1, ra_p2, ra_2p, ra_n0, ra_p0, ra_q0, ra_q1, ra_q2, ra_q3, ra_n3, ra_n4, ra_n10, ra_n14, ra_n16, ra_n30, ra_n140, ra_y3, ra_y4, ra_y10, ra_y14, ra_y16, ra_y30, ra_y140]
    exact h
  · have := hn i hi
    simp (disch := omega) only [wX_freeLetterPlace_2, this, not_true, not_false_iff, true_implies, false_implies, implies_true, true_and, and_true, forall_eq, eq_self, ra_i, ra_c, ra_m3, ra_m4, ra_m16, ra_4m, ra_14m, ra_16m, nI_add, nI_1, lN_1, ra_p2, ra_2p, ra_n0, ra_p0, ra_q0, ra_q1, ra_q2, ra_q3, ra_n3, ra_n4, ra_n10, ra_n14, ra_n16, ra_n30, ra_n140, ra_y3, ra_y4, ra_y10, ra_y14, ra_y16, ra_y30, ra_y140]
    exact ih
theorem xl_place_s {r k : Nat} {post : Int32 → Prop} (hr : r < 10) (hk : k < 3) (h0 : lo (3 * r + k) = 0) (hn : ∀ i, i < k → lo (3 * r + i) ≠ 0) (h : post (nI (3 * r + k))) : wpX_freeLetterPlace post (lN c, ep, st, pt, bs, pr, tk, mk, rs, vl, cl, nb, al, wt, lg, wd, sn, lo, lt, lv, gk, gt, gf, gl, gs, gn, sl, ss, sb, pa, du, oft, bg, av, tt) (nI r) := by
  refine ra_run (fun n i => wX_freeLetterPlace_2 post (nI r) (lN c) ep st pt bs pr tk mk rs vl cl nb al wt lg wd sn lo lt lv gk gt gf gl gs gn sl ss sb pa du oft bg av tt n (nI i)) k (fun n => ?_) (fun n i hi ih => ?_)
  · simp (disch := omega) only [wX_freeLetterPlace_2, h0, not_true, not_false_iff, true_implies, false_implies, implies_true, true_and, and_true, forall_eq, eq_self, ra_i, ra_c, ra_m3, ra_m4, ra_m16, ra_4m, ra_14m, ra_16m, nI_add, nI_1, lN_1, ra_p2, ra_2p, ra_n0, ra_p0, ra_q0, ra_q1, ra_q2, ra_q3, ra_n3, ra_n4, ra_n10, ra_n14, ra_n16, ra_n30, ra_n140, ra_y3, ra_y4, ra_y10, ra_y14, ra_y16, ra_y30, ra_y140]
    exact h
  · have := hn i hi
    simp (disch := omega) only [wX_freeLetterPlace_2, this, not_true, not_false_iff, true_implies, false_implies, implies_true, true_and, and_true, forall_eq, eq_self, ra_i, ra_c, ra_m3, ra_m4, ra_m16, ra_4m, ra_14m, ra_16m, nI_add, nI_1, lN_1, ra_p2, ra_2p, ra_n0, ra_p0, ra_q0, ra_q1, ra_q2, ra_q3, ra_n3, ra_n4, ra_n10, ra_n14, ra_n16, ra_n30, ra_n140, ra_y3, ra_y4, ra_y10, ra_y14, ra_y16, ra_y30, ra_y140]
    exact ih
theorem ra_R_post {p : Nat} {a x : Int32} (hB : B ≤ 2 ^ 26) (h : ra_R B c m n st pr tk rs al tt pa bs sb ep pt nb lg sn lo lt lv gk gt gf gl gs gn sl ss bo ot so sq go mo nt fr tw tx gr ge g1 g2 g3 sv lf se) (hp : p < 30) (hz : lo p = 0) (hl : st (p / 3) ≠ 0) : ra_R (B + 1) (c + 1) m (n + 1) st pr tk rs al tt pa bs sb ep pt nb lg sn (vp_updL lo p (lN (c + 1))) (upd lt p a) (upd lv p x) gk gt gf gl gs gn sl ss bo ot so sq go mo nt (upd fr n (nI (p / 3))) (upd tw n a) (upd tx n x) gr ge g1 g2 g3 sv lf se := by
  obtain ⟨h1, h2, h3, h4, h5, h6, h7, h8, h9, h10, h11⟩ := h
  have := h2.1
  exact ⟨ra_E_mono (Nat.le_succ _) h1, ra_O_c h2, h3, h4, h5, ra_L_put (by omega) h6 hp hz hl, h7, h8, h9, ra_I_mono (Nat.le_succ _) h10, h11⟩
theorem ra_post {to x : Int32} (hB : B ≤ 2 ^ 26) (h : ra_R B c m n st pr tk rs al tt pa bs sb ep pt nb lg sn lo lt lv gk gt gf gl gs gn sl ss bo ot so sq go mo nt fr tw tx gr ge g1 g2 g3 sv lf se) : ∃ (w : Int32) (u' : SX) (v' : SY), ra_RR (B + 1) u' v' ∧ (∀ post : Int32 → SX → Prop, post w u' → wpX_post post (lN c, ep, st, pt, bs, pr, tk, mk, rs, vl, cl, nb, al, wt, lg, wd, sn, lo, lt, lv, gk, gt, gf, gl, gs, gn, sl, ss, sb, pa, du, oft, bg, av, tt) to x) ∧ (∀ post : Int32 → SY → Prop, post w v' → wpY_post post (nI n, nI m, st, bo, bs, pr, tk, mk, ot, vl, rs, al, wt, so, sq, go, mo, cl, wd, nt, fr, tw, tx, gr, ge, g1, g2, g3, sv, sb, lf, pa, du, av, bg, oft, se, tt, cp) to x) := by
  have hE := h.1
  have hW := h.2.2.1
  have hL := h.2.2.2.2.2.1
  have hc : c ≤ 2 ^ 27 := by have := h.2.1.1; omega
  obtain ⟨n30, n29⟩ := ra_L_n hc hL
  rcases ra_run_both (mk := mk) (vl := vl) (cl := cl) (wt := wt) (wd := wd) (du := du) (oft := oft) (bg := bg) (av := av) (cp := cp) hB h with ⟨rX, rY⟩ | ⟨r, hr, hr1, rX, rY⟩
  · refine ⟨-1, _, _, ra_RR_mono (ra_in (mk := mk) (vl := vl) (cl := cl) (wt := wt) (wd := wd) (du := du) (oft := oft) (bg := bg) (av := av) (cp := cp) h) (by omega), fun post hp => ?_, fun post hp => ?_⟩
    · simp only [wpX_post]
      refine rX _ ?_
      simp only [wpX_refusalToReach, wpX_refusal, ra_q1, ra_q5, not_false_iff, true_implies, false_implies, true_and]
      exact hp
    · simp only [wpY_post]
      exact rY _ (br_f (by decide) hp)
  · have rl : st r ≠ 0 := by rw [hr1]; decide
    have yr : 16 * (bo r - 1) + nI r = ep r := ra_E_y hE hr rl
    have own := ra_own hc hL hr
    rcases ra_ref1 (mk := mk) (vl := vl) (cl := cl) (wt := wt) (wd := wd) (du := du) (oft := oft) (bg := bg) (av := av) (cp := cp) hB h hr hr1 to with ⟨w, hw, hX, hY⟩ | ⟨s, hs, z, hl, he, ha, hX, hY⟩
    · have w0 : ¬ w = 0 := by rcases hw with rfl | rfl | rfl <;> decide
      have w1 : ¬ 0 ≤ w := by rcases hw with rfl | rfl | rfl <;> decide
      refine ⟨w, _, _, ra_RR_mono (ra_in (mk := mk) (vl := vl) (cl := cl) (wt := wt) (wd := wd) (du := du) (oft := oft) (bg := bg) (av := av) (cp := cp) h) (by omega), fun post hp => ?_, fun post hp => ?_⟩
      · simp only [wpX_post]
        exact rX _ (hX _ (br_f w0 hp))
      · simp only [wpY_post]
        exact rY _ (br_t (nI_pos' (by omega)) (hY _ (nm_e (yl_own n30 (br_f w1 hp)))))
    · rcases ra_first (fun i => lo (3 * r + i) = 0) 3 with full | ⟨k, hk, hk0, hkn⟩
      · have e3 : ra_cn (fun j => decide (fr j = nI r)) n = 3 := own.trans (ra_cn3_all (fun i hi => decide_eq_true (full i hi)))
        refine ⟨-7, _, _, ra_RR_mono (ra_in (mk := mk) (vl := vl) (cl := cl) (wt := wt) (wd := wd) (du := du) (oft := oft) (bg := bg) (av := av) (cp := cp) h) (by omega), fun post hp => ?_, fun post hp => ?_⟩
        · simp only [wpX_post]
          exact rX _ (hX _ (br_t rfl (xl_place_n hr full (br_f (by decide) hp))))
        · simp only [wpY_post]
          refine rY _ (br_t (nI_pos' (by omega)) (hY _ (nm_e (yl_own n30 (br_t (by decide) (br_t ?_ hp))))))
          rw [e3]; rfl
      · have l3 : ra_cn (fun j => decide (fr j = nI r)) n < 3 := by
          rw [own]
          exact ra_cn3_not hk (fun y => of_decide_eq_true y hk0)
        have ne3 : ¬ nI (ra_cn (fun j => decide (fr j = nI r)) n) = 3 := by
          intro y
          have : nI (ra_cn (fun j => decide (fr j = nI r)) n) = nI 3 := y
          rw [nI_eq (by omega) (by omega)] at this
          omega
        by_cases t : ra_tk st pt s (ep r) 2
        · obtain ⟨w0, w1⟩ := ra_tk_w t
          have e := ra_R_rs0 h hs w0 w1
          have h2 := ra_R_ready0 (ra_R_put (s := s) (k := 2 + 2) (x := ep r) (y := nI 2) (w := x) (v := tt (2 + 2) + 1) h (by omega)) hs hl
          refine ⟨0, _, _, ra_in (mk := mk) (vl := vl) (cl := cl) (wt := wt) (wd := wd) (du := du) (oft := oft) (bg := bg) (av := av) (cp := cp) h2, fun post hp => ?_, fun post hp => ?_⟩
          · simp only [wpX_post]
            refine rX _ (hX _ (br_t rfl (xl_place_s hr hk hk0 hkn (br_t (nI_pos' (by omega)) (xl_slotOf_s hs hl he ha ⟨vp_in_nI hr (by decide), ?_⟩)))))
            rw [ra_c (show r < 1000 by omega)]
            refine xl_takes (k := 2) hs (by omega) (fun _ => br_f (by decide) ⟨vp_in_nI hr (by decide), ?_⟩) (fun y => absurd t y)
            exact xl_putInto (k := 2) hs (by omega) (xl_makeReady hs hp)
          · simp only [wpY_post]
            refine rY _ (br_t (nI_pos' (by omega)) (hY _ (nm_r ha (yl_own n30 (br_t (by decide) (br_f ne3 ?_))))))
            simp (disch := omega) only [wpY_endpoint, yr, not_true, not_false_iff, true_implies, false_implies, implies_true, true_and, and_true, forall_eq, eq_self, ra_i, ra_c, ra_m3, ra_m4, ra_m16, ra_4m, ra_14m, ra_16m, nI_add, nI_1, lN_1, ra_p2, ra_2p, ra_n0, ra_p0, ra_q0, ra_q1, ra_q2, ra_q3, ra_n3, ra_n4, ra_n10, ra_n14, ra_n16, ra_n30, ra_n140, ra_y3, ra_y4, ra_y10, ra_y14, ra_y16, ra_y30, ra_y140]
            refine yl_takes (k := 2) hs (by omega) hW (fun _ => br_f (by decide) ?_) (fun y => absurd t y)
            refine yl_gets (k := 2) hs (by omega) (yl_ready hs ?_)
            rw [e]
            exact hp
        · have nlt := n29 (3 * r + k) (by omega) hk0
          have pr3 : (3 * r + k) / 3 = r := by omega
          have h2 := ra_R_post (p := 3 * r + k) (a := nI s) (x := x) hB h (by omega) hk0 (by rw [pr3]; exact rl)
          rw [pr3] at h2
          refine ⟨0, _, _, ra_in (mk := mk) (vl := vl) (cl := cl) (wt := wt) (wd := wd) (du := du) (oft := oft) (bg := bg) (av := av) (cp := cp) h2, fun post hp => ?_, fun post hp => ?_⟩
          · simp only [wpX_post]
            refine rX _ (hX _ (br_t rfl (xl_place_s hr hk hk0 hkn (br_t (nI_pos' (by omega)) (xl_slotOf_s hs hl he ha ⟨vp_in_nI hr (by decide), ?_⟩)))))
            rw [ra_c (show r < 1000 by omega)]
            refine xl_takes (k := 2) hs (by omega) (fun y => absurd y t) (fun _ => br_t rfl ?_)
            simp (disch := omega) only [not_true, not_false_iff, true_implies, false_implies, implies_true, true_and, and_true, forall_eq, eq_self, ra_i, ra_c, ra_m3, ra_m4, ra_m16, ra_4m, ra_14m, ra_16m, nI_add, nI_1, lN_1, ra_p2, ra_2p, ra_n0, ra_p0, ra_q0, ra_q1, ra_q2, ra_q3, ra_n3, ra_n4, ra_n10, ra_n14, ra_n16, ra_n30, ra_n140, ra_y3, ra_y4, ra_y10, ra_y14, ra_y16, ra_y30, ra_y140]
            exact hp
          · simp only [wpY_post]
            refine rY _ (br_t (nI_pos' (by omega)) (hY _ (nm_r ha (yl_own n30 (br_t (by decide) (br_f ne3 ?_))))))
            simp (disch := omega) only [wpY_endpoint, yr, not_true, not_false_iff, true_implies, false_implies, implies_true, true_and, and_true, forall_eq, eq_self, ra_i, ra_c, ra_m3, ra_m4, ra_m16, ra_4m, ra_14m, ra_16m, nI_add, nI_1, lN_1, ra_p2, ra_2p, ra_n0, ra_p0, ra_q0, ra_q1, ra_q2, ra_q3, ra_n3, ra_n4, ra_n10, ra_n14, ra_n16, ra_n30, ra_n140, ra_y3, ra_y4, ra_y10, ra_y14, ra_y16, ra_y30, ra_y140]
            refine yl_takes (k := 2) hs (by omega) hW (fun y => absurd y t) (fun _ => br_t rfl ?_)
            exact hp
end
