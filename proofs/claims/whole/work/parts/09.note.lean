/-! a note is brought; a message is handed over -/
theorem ra_nb0 : vp_nar .boolean 0 = 0 := rfl
theorem ra_nb1 : vp_nar .boolean 1 = 1 := rfl
def ra_so (ep : Nat → Int32) (k : Nat) : Int32 := if k < 10 then ep k else (-2) - (nI k - 10)
section
variable {B c m n : Nat} {st pr bs tk mk vl cl rs al wt wd tt sb pa du oft bg av ep pt nb lg lt lv gk gt gf gl gs gn sl ss bo ot so sq go mo nt fr tw tx gr ge g1 g2 g3 sv lf se cp : Nat → Int32} {sn lo : Nat → Int64}
theorem xl_noteSource {k : Nat} {post : Int32 → Prop} (hk : k < 14) (h : post (ra_so ep k)) : wpX_noteSource post (lN c, ep, st, pt, bs, pr, tk, mk, rs, vl, cl, nb, al, wt, lg, wd, sn, lo, lt, lv, gk, gt, gf, gl, gs, gn, sl, ss, sb, pa, du, oft, bg, av, tt) (nI k) := by
  unfold ra_so at h
  by_cases z : k < 10
  · rw [if_pos z] at h
    simp (disch := omega) only [wpX_noteSource, not_true, not_false_iff, true_implies, false_implies, implies_true, true_and, and_true, forall_eq, eq_self, ra_i, ra_c, ra_m3, ra_m4, ra_m16, ra_4m, ra_14m, ra_16m, nI_add, nI_1, lN_1, ra_p2, ra_2p, ra_n0, ra_p0, ra_q0, ra_q1, ra_q2, ra_q3, ra_n3, ra_n4, ra_n10, ra_n14, ra_n16, ra_n30, ra_n140, ra_y3, ra_y4, ra_y10, ra_y14, ra_y16, ra_y30, ra_y140]
    exact h
  · rw [if_neg z] at h
    simp (disch := omega) only [wpX_noteSource, ra_g10, not_true, not_false_iff, true_implies, false_implies, implies_true, true_and, and_true, forall_eq, eq_self, ra_i, ra_c, ra_m3, ra_m4, ra_m16, ra_4m, ra_14m, ra_16m, nI_add, nI_1, lN_1, ra_p2, ra_2p, ra_n0, ra_p0, ra_q0, ra_q1, ra_q2, ra_q3, ra_n3, ra_n4, ra_n10, ra_n14, ra_n16, ra_n30, ra_n140, ra_y3, ra_y4, ra_y10, ra_y14, ra_y16, ra_y30, ra_y140]
    exact h
theorem yl_sourceOf_l {k : Nat} {post : Int32 → Prop} (hk : k < 10) (h : post (16 * (bo k - 1) + nI k)) : wpY_sourceOf post (nI n, nI m, st, bo, bs, pr, tk, mk, ot, vl, rs, al, wt, so, sq, go, mo, cl, wd, nt, fr, tw, tx, gr, ge, g1, g2, g3, sv, sb, lf, pa, du, av, bg, oft, se, tt, cp) (nI k) := by
  simp (disch := omega) only [wpY_sourceOf, wpY_endpoint, not_true, not_false_iff, true_implies, false_implies, implies_true, true_and, and_true, forall_eq, eq_self, ra_i, ra_c, ra_m3, ra_m4, ra_m16, ra_4m, ra_14m, ra_16m, nI_add, nI_1, lN_1, ra_p2, ra_2p, ra_n0, ra_p0, ra_q0, ra_q1, ra_q2, ra_q3, ra_n3, ra_n4, ra_n10, ra_n14, ra_n16, ra_n30, ra_n140, ra_y3, ra_y4, ra_y10, ra_y14, ra_y16, ra_y30, ra_y140]
  exact h
theorem yl_sourceOf {k : Nat} {post : Int32 → Prop} (hk : k < 14) (hl : k < 10 → 16 * (bo k - 1) + nI k = ep k) (h : post (ra_so ep k)) : wpY_sourceOf post (nI n, nI m, st, bo, bs, pr, tk, mk, ot, vl, rs, al, wt, so, sq, go, mo, cl, wd, nt, fr, tw, tx, gr, ge, g1, g2, g3, sv, sb, lf, pa, du, av, bg, oft, se, tt, cp) (nI k) := by
  unfold ra_so at h
  by_cases z : k < 10
  · rw [if_pos z] at h
    refine yl_sourceOf_l z ?_
    rw [hl z]
    exact h
  · rw [if_neg z] at h
    have : k = 10 ∨ k = 11 ∨ k = 12 ∨ k = 13 := by omega
    rcases this with rfl | rfl | rfl | rfl
    · have a : nI 10 = 10 := by decide
      simp (disch := omega) only [wpY_sourceOf, ra_g10, a, not_true, not_false_iff, true_implies, false_implies, implies_true, true_and, and_true, forall_eq, eq_self, ra_i, ra_c, ra_m3, ra_m4, ra_m16, ra_4m, ra_14m, ra_16m, nI_add, nI_1, lN_1, ra_p2, ra_2p, ra_n0, ra_p0, ra_q0, ra_q1, ra_q2, ra_q3, ra_n3, ra_n4, ra_n10, ra_n14, ra_n16, ra_n30, ra_n140, ra_y3, ra_y4, ra_y10, ra_y14, ra_y16, ra_y30, ra_y140]
      exact br_t (by decide) h
    · have a : ¬ nI 11 = 10 := by decide
      simp (disch := omega) only [wpY_sourceOf, ra_g10, a, not_true, not_false_iff, true_implies, false_implies, implies_true, true_and, and_true, forall_eq, eq_self, ra_i, ra_c, ra_m3, ra_m4, ra_m16, ra_4m, ra_14m, ra_16m, nI_add, nI_1, lN_1, ra_p2, ra_2p, ra_n0, ra_p0, ra_q0, ra_q1, ra_q2, ra_q3, ra_n3, ra_n4, ra_n10, ra_n14, ra_n16, ra_n30, ra_n140, ra_y3, ra_y4, ra_y10, ra_y14, ra_y16, ra_y30, ra_y140]
      exact h
    · have a : ¬ nI 12 = 10 := by decide
      simp (disch := omega) only [wpY_sourceOf, ra_g10, a, not_true, not_false_iff, true_implies, false_implies, implies_true, true_and, and_true, forall_eq, eq_self, ra_i, ra_c, ra_m3, ra_m4, ra_m16, ra_4m, ra_14m, ra_16m, nI_add, nI_1, lN_1, ra_p2, ra_2p, ra_n0, ra_p0, ra_q0, ra_q1, ra_q2, ra_q3, ra_n3, ra_n4, ra_n10, ra_n14, ra_n16, ra_n30, ra_n140, ra_y3, ra_y4, ra_y10, ra_y14, ra_y16, ra_y30, ra_y140]
      exact h
    · have a : ¬ nI 13 = 10 := by decide
      simp (disch := omega) only [wpY_sourceOf, ra_g10, a, not_true, not_false_iff, true_implies, false_implies, implies_true, true_and, and_true, forall_eq, eq_self, ra_i, ra_c, ra_m3, ra_m4, ra_m16, ra_4m, ra_14m, ra_16m, nI_add, nI_1, lN_1, ra_p2, ra_2p, ra_n0, ra_p0, ra_q0, ra_q1, ra_q2, ra_q3, ra_n3, ra_n4, ra_n10, ra_n14, ra_n16, ra_n30, ra_n140, ra_y3, ra_y4, ra_y10, ra_y14, ra_y16, ra_y30, ra_y140]
      exact h
theorem ra_R_note {s k : Nat} (h : ra_R B c m n st pr tk rs al tt pa bs sb ep pt nb lg sn lo lt lv gk gt gf gl gs gn sl ss bo ot so sq go mo nt fr tw tx gr ge g1 g2 g3 sv lf se) (hs : s < 10) (hl : st s ≠ 0) (hk : k < 14) (hkl : k < 10 → st k ≠ 0) : ra_R B c m n st pr tk rs al tt pa bs sb ep pt (upd nb s (nb s ||| ((1 : Int32) <<< (nI k &&& 31)))) lg sn lo lt lv gk gt gf gl gs gn sl ss bo ot so sq go mo (upd nt (14 * s + k) 1) fr tw tx gr ge g1 g2 g3 sv lf se := by
  obtain ⟨h1, h2, h3, h4, h5, h6, h7, h8, h9, h10, h11⟩ := h
  exact ⟨h1, h2, h3, h4, ra_N_set h5 hs hl hk hkl, h6, h7, h8, h9, h10, h11⟩
theorem ra_tk_w {s k : Nat} {x : Int32} (t : ra_tk st pt s x k) : st s ≠ 0 ∧ st s ≠ 1 := by
  rcases t with ⟨a, -⟩ | ⟨a, -⟩ <;> rw [a] <;> exact ⟨by decide, by decide⟩
theorem ra_notify {s k : Nat} (h : ra_R B c m n st pr tk rs al tt pa bs sb ep pt nb lg sn lo lt lv gk gt gf gl gs gn sl ss bo ot so sq go mo nt fr tw tx gr ge g1 g2 g3 sv lf se) (hs : s < 10) (hl : st s ≠ 0) (hk : k < 14) (hkl : k < 10 → st k ≠ 0) : ∃ (u' : SX) (v' : SY), ra_RR (B + 1) u' v' ∧ (∀ post : SX → Prop, post u' → wpX_bringNote post (lN c, ep, st, pt, bs, pr, tk, mk, rs, vl, cl, nb, al, wt, lg, wd, sn, lo, lt, lv, gk, gt, gf, gl, gs, gn, sl, ss, sb, pa, du, oft, bg, av, tt) (nI s) (nI k)) ∧ (∀ post : SY → Prop, post v' → wpY_notify post (nI n, nI m, st, bo, bs, pr, tk, mk, ot, vl, rs, al, wt, so, sq, go, mo, cl, wd, nt, fr, tw, tx, gr, ge, g1, g2, g3, sv, sb, lf, pa, du, av, bg, oft, se, tt, cp) (nI s) (nI k)) := by
  have hE := h.1
  have hW := h.2.2.1
  have hy : k < 10 → 16 * (bo k - 1) + nI k = ep k := fun z => ra_E_y hE z (hkl z)
  by_cases t : ra_tk st pt s (ra_so ep k) 1
  · obtain ⟨w0, w1⟩ := ra_tk_w t
    have e := ra_R_rs0 h hs w0 w1
    refine ⟨_, _, ra_in (mk := mk) (vl := vl) (cl := cl) (wt := wt) (wd := wd) (du := du) (oft := oft) (bg := bg) (av := av) (cp := cp) (ra_R_ready0 (ra_R_put (s := s) (k := 2 + 1) (x := ra_so ep k) (y := nI 1) (w := 0) (v := tt (2 + 1) + 1) h (by omega)) hs hl), fun post hp => ?_, fun post hp => ?_⟩
    · simp only [wpX_bringNote]
      refine xl_noteSource hk ?_
      refine xl_takes (k := 1) hs (by omega) (fun _ => ?_) (fun y => absurd t y)
      refine br_f (by decide) ?_
      refine xl_putInto (k := 1) hs (by omega) ?_
      refine xl_makeReady hs ?_
      exact hp
    · simp only [wpY_notify]
      refine yl_sourceOf hk hy ?_
      refine yl_takes (k := 1) hs (by omega) hW (fun _ => ?_) (fun y => absurd t y)
      refine br_f (by decide) ?_
      refine yl_gets (k := 1) hs (by omega) ?_
      refine yl_ready hs ?_
      rw [e]
      exact hp
  · refine ⟨_, _, ra_RR_mono (ra_in (mk := mk) (vl := vl) (cl := cl) (wt := wt) (wd := wd) (du := du) (oft := oft) (bg := bg) (av := av) (cp := cp) (ra_R_note h hs hl hk hkl)) (Nat.le_succ _), fun post hp => ?_, fun post hp => ?_⟩
    · simp only [wpX_bringNote]
      refine xl_noteSource hk ?_
      refine xl_takes (k := 1) hs (by omega) (fun y => absurd y t) (fun _ => ?_)
      refine br_t rfl ?_
      simp (disch := omega) only [not_true, not_false_iff, true_implies, false_implies, implies_true, true_and, and_true, forall_eq, eq_self, ra_i, ra_c, ra_m3, ra_m4, ra_m16, ra_4m, ra_14m, ra_16m, nI_add, nI_1, lN_1, ra_p2, ra_2p, ra_n0, ra_p0, ra_q0, ra_q1, ra_q2, ra_q3, ra_n3, ra_n4, ra_n10, ra_n14, ra_n16, ra_n30, ra_n140, ra_y3, ra_y4, ra_y10, ra_y14, ra_y16, ra_y30, ra_y140]
      exact hp
    · simp only [wpY_notify]
      refine yl_sourceOf hk hy ?_
      refine yl_takes (k := 1) hs (by omega) hW (fun y => absurd y t) (fun _ => ?_)
      refine br_t rfl ?_
      simp (disch := omega) only [ra_nb1, not_true, not_false_iff, true_implies, false_implies, implies_true, true_and, and_true, forall_eq, eq_self, ra_i, ra_c, ra_m3, ra_m4, ra_m16, ra_4m, ra_14m, ra_16m, nI_add, nI_1, lN_1, ra_p2, ra_2p, ra_n0, ra_p0, ra_q0, ra_q1, ra_q2, ra_q3, ra_n3, ra_n4, ra_n10, ra_n14, ra_n16, ra_n30, ra_n140, ra_y3, ra_y4, ra_y10, ra_y14, ra_y16, ra_y30, ra_y140]
      exact hp
theorem ra_hand {to x b : Int32} (hB : B ≤ 2 ^ 26) (h : ra_R B c m n st pr tk rs al tt pa bs sb ep pt nb lg sn lo lt lv gk gt gf gl gs gn sl ss bo ot so sq go mo nt fr tw tx gr ge g1 g2 g3 sv lf se) : ∃ (w : Int32) (u' : SX) (v' : SY), ra_RR (B + 2) u' v' ∧ (∀ post : Int32 → SX → Prop, post w u' → wpX_handMessage post (lN c, ep, st, pt, bs, pr, tk, mk, rs, vl, cl, nb, al, wt, lg, wd, sn, lo, lt, lv, gk, gt, gf, gl, gs, gn, sl, ss, sb, pa, du, oft, bg, av, tt) to x b) ∧ (∀ post : Int32 → SY → Prop, post w v' → wpY_hand post (nI n, nI m, st, bo, bs, pr, tk, mk, ot, vl, rs, al, wt, so, sq, go, mo, cl, wd, nt, fr, tw, tx, gr, ge, g1, g2, g3, sv, sb, lf, pa, du, av, bg, oft, se, tt, cp) to x b) := by
  have hE := h.1
  have hW := h.2.2.1
  rcases ra_run_both hB h with ⟨rX, rY⟩ | ⟨r, hr, hr1, rX, rY⟩
  · refine ⟨-1, _, _, ra_RR_mono (ra_in (mk := mk) (vl := vl) (cl := cl) (wt := wt) (wd := wd) (du := du) (oft := oft) (bg := bg) (av := av) (cp := cp) h) (by omega), fun post hp => ?_, fun post hp => ?_⟩
    · simp only [wpX_handMessage]
      refine rX _ ?_
      simp only [wpX_refusalToReach, wpX_refusal, ra_q1, ra_q5, not_false_iff, true_implies, false_implies, true_and]
      exact hp
    · simp only [wpY_hand]
      refine rY _ ?_
      simp only [ra_q1, not_false_iff, true_implies, false_implies, true_and]
      exact hp
  · have yr : 16 * (bo r - 1) + nI r = ep r := ra_E_y hE hr (by rw [hr1]; decide)
    have rl : st r ≠ 0 := by rw [hr1]; decide
    rcases ra_ref1 hB h hr hr1 to with ⟨w, hw, hX, hY⟩ | ⟨s, hs, z, hl, he, ha, hX, hY⟩
    · have w0 : ¬ w = 0 := by rcases hw with rfl | rfl | rfl <;> decide
      have w1 : ¬ 0 ≤ w := by rcases hw with rfl | rfl | rfl <;> decide
      refine ⟨w, _, _, ra_RR_mono (ra_in (mk := mk) (vl := vl) (cl := cl) (wt := wt) (wd := wd) (du := du) (oft := oft) (bg := bg) (av := av) (cp := cp) h) (by omega), fun post hp => ?_, fun post hp => ?_⟩
      · simp only [wpX_handMessage]
        refine rX _ ?_
        refine hX _ ?_
        exact br_f w0 hp
      · simp only [wpY_hand]
        refine rY _ ?_
        refine br_t (nI_pos' (by omega)) ?_
        refine hY _ ?_
        refine nm_e ?_
        exact br_f w1 hp
    · by_cases t : ra_tk st pt s (ep r) 0
      · obtain ⟨w0, w1⟩ := ra_tk_w t
        have e := ra_R_rs0 h hs w0 w1
        have h2 := ra_R_ready0 (ra_R_put (s := s) (k := 2 + 0) (x := ep r) (y := nI 0) (w := x) (v := tt (2 + 0) + 1) h (by omega)) hs hl
        by_cases b0 : b = 0
        · refine ⟨0, _, _, ra_RR_mono (ra_in (mk := mk) (vl := vl) (cl := cl) (wt := wt) (wd := wd) (du := du) (oft := oft) (bg := bg) (av := av) (cp := cp) h2) (by omega), fun post hp => ?_, fun post hp => ?_⟩
          · simp only [wpX_handMessage]
            refine rX _ (hX _ (br_t rfl (xl_slotOf_s hs hl he ha ⟨vp_in_nI hr (by decide), ?_⟩)))
            rw [ra_c (show r < 1000 by omega)]
            refine xl_takes (k := 0) hs (by omega) (fun _ => br_f (by decide) ⟨vp_in_nI hr (by decide), ?_⟩) (fun y => absurd t y)
            refine xl_putInto (k := 0) hs (by omega) (xl_makeReady hs (br_t b0 hp))
          · simp only [wpY_hand]
            refine rY _ (br_t (nI_pos' (by omega)) (hY _ (nm_r ha (br_t (by decide) ?_))))
            simp (disch := omega) only [wpY_endpoint, yr, not_true, not_false_iff, true_implies, false_implies, implies_true, true_and, and_true, forall_eq, eq_self, ra_i, ra_c, ra_m3, ra_m4, ra_m16, ra_4m, ra_14m, ra_16m, nI_add, nI_1, lN_1, ra_p2, ra_2p, ra_n0, ra_p0, ra_q0, ra_q1, ra_q2, ra_q3, ra_n3, ra_n4, ra_n10, ra_n14, ra_n16, ra_n30, ra_n140, ra_y3, ra_y4, ra_y10, ra_y14, ra_y16, ra_y30, ra_y140]
            refine yl_takes (k := 0) hs (by omega) hW (fun _ => br_f (by decide) (br_f (by decide) ?_)) (fun y => absurd t y)
            refine yl_gets (k := 0) hs (by omega) (yl_ready hs (br_t b0 ?_))
            rw [e]
            exact hp
        · have rs1 : upd st s 1 r ≠ 0 := by rw [pk_un (fun y => z y.symm)]; exact rl
          have h3 := ra_R_wait (s := r) (how := 4) (whom := to) h2 hr rs1 (Or.inr (Or.inr rfl)) (Or.inr ⟨s, hs, by rw [pk_us]; decide, he.symm⟩)
          refine ⟨-2, _, _, ra_in (mk := mk) (vl := vl) (cl := cl) (wt := wt) (wd := wd) (du := du) (oft := oft) (bg := bg) (av := av) (cp := cp) h3, fun post hp => ?_, fun post hp => ?_⟩
          · simp only [wpX_handMessage]
            refine rX _ (hX _ (br_t rfl (xl_slotOf_s hs hl he ha ⟨vp_in_nI hr (by decide), ?_⟩)))
            rw [ra_c (show r < 1000 by omega)]
            refine xl_takes (k := 0) hs (by omega) (fun _ => br_f (by decide) ⟨vp_in_nI hr (by decide), ?_⟩) (fun y => absurd t y)
            refine xl_putInto (k := 0) hs (by omega) (xl_makeReady hs (br_f b0 (xl_startWaiting hr hp)))
          · simp only [wpY_hand]
            refine rY _ (br_t (nI_pos' (by omega)) (hY _ (nm_r ha (br_t (by decide) ?_))))
            simp (disch := omega) only [wpY_endpoint, yr, not_true, not_false_iff, true_implies, false_implies, implies_true, true_and, and_true, forall_eq, eq_self, ra_i, ra_c, ra_m3, ra_m4, ra_m16, ra_4m, ra_14m, ra_16m, nI_add, nI_1, lN_1, ra_p2, ra_2p, ra_n0, ra_p0, ra_q0, ra_q1, ra_q2, ra_q3, ra_n3, ra_n4, ra_n10, ra_n14, ra_n16, ra_n30, ra_n140, ra_y3, ra_y4, ra_y10, ra_y14, ra_y16, ra_y30, ra_y140]
            refine yl_takes (k := 0) hs (by omega) hW (fun _ => br_f (by decide) (br_f (by decide) ?_)) (fun y => absurd t y)
            refine yl_gets (k := 0) hs (by omega) (yl_ready hs (br_f b0 (yl_waits hr ?_)))
            rw [e]
            exact hp
      · obtain ⟨g, hg, gX, gY⟩ := ra_stuck_both hB h hr hs
        rcases hg with rfl | rfl
        · have h3 := ra_R_wait (s := r) (how := 2) (whom := to) h hr rl (Or.inl rfl) (Or.inr ⟨s, hs, hl, he.symm⟩)
          refine ⟨-2, _, _, ra_RR_mono (ra_in (mk := mk) (vl := upd vl r x) (cl := upd cl r (vp_nar .boolean b)) (wt := wt) (wd := wd) (du := du) (oft := oft) (bg := bg) (av := av) (cp := cp) h3) (by omega), fun post hp => ?_, fun post hp => ?_⟩
          · simp only [wpX_handMessage]
            refine rX _ (hX _ (br_t rfl (xl_slotOf_s hs hl he ha ⟨vp_in_nI hr (by decide), ?_⟩)))
            rw [ra_c (show r < 1000 by omega)]
            refine xl_takes (k := 0) hs (by omega) (fun y => absurd y t) (fun _ => br_t rfl (gX _ (br_t rfl ?_)))
            simp (disch := omega) only [not_true, not_false_iff, true_implies, false_implies, implies_true, true_and, and_true, forall_eq, eq_self, ra_i, ra_c, ra_m3, ra_m4, ra_m16, ra_4m, ra_14m, ra_16m, nI_add, nI_1, lN_1, ra_p2, ra_2p, ra_n0, ra_p0, ra_q0, ra_q1, ra_q2, ra_q3, ra_n3, ra_n4, ra_n10, ra_n14, ra_n16, ra_n30, ra_n140, ra_y3, ra_y4, ra_y10, ra_y14, ra_y16, ra_y30, ra_y140]
            exact xl_startWaiting hr hp
          · simp only [wpY_hand]
            refine rY _ (br_t (nI_pos' (by omega)) (hY _ (nm_r ha (br_t (by decide) ?_))))
            simp (disch := omega) only [wpY_endpoint, yr, not_true, not_false_iff, true_implies, false_implies, implies_true, true_and, and_true, forall_eq, eq_self, ra_i, ra_c, ra_m3, ra_m4, ra_m16, ra_4m, ra_14m, ra_16m, nI_add, nI_1, lN_1, ra_p2, ra_2p, ra_n0, ra_p0, ra_q0, ra_q1, ra_q2, ra_q3, ra_n3, ra_n4, ra_n10, ra_n14, ra_n16, ra_n30, ra_n140, ra_y3, ra_y4, ra_y10, ra_y14, ra_y16, ra_y30, ra_y140]
            refine yl_takes (k := 0) hs (by omega) hW (fun y => absurd y t) (fun _ => br_t rfl (gY _ (br_t rfl (br_t rfl ?_))))
            simp (disch := omega) only [not_true, not_false_iff, true_implies, false_implies, implies_true, true_and, and_true, forall_eq, eq_self, ra_i, ra_c, ra_m3, ra_m4, ra_m16, ra_4m, ra_14m, ra_16m, nI_add, nI_1, lN_1, ra_p2, ra_2p, ra_n0, ra_p0, ra_q0, ra_q1, ra_q2, ra_q3, ra_n3, ra_n4, ra_n10, ra_n14, ra_n16, ra_n30, ra_n140, ra_y3, ra_y4, ra_y10, ra_y14, ra_y16, ra_y30, ra_y140]
            exact yl_waits hr hp
        · refine ⟨-5, _, _, ra_RR_mono (ra_in (mk := mk) (vl := vl) (cl := cl) (wt := wt) (wd := wd) (du := du) (oft := oft) (bg := bg) (av := av) (cp := cp) h) (by omega), fun post hp => ?_, fun post hp => ?_⟩
          · simp only [wpX_handMessage]
            refine rX _ (hX _ (br_t rfl (xl_slotOf_s hs hl he ha ⟨vp_in_nI hr (by decide), ?_⟩)))
            rw [ra_c (show r < 1000 by omega)]
            exact xl_takes (k := 0) hs (by omega) (fun y => absurd y t) (fun _ => br_t rfl (gX _ (br_f (by decide) hp)))
          · simp only [wpY_hand]
            refine rY _ (br_t (nI_pos' (by omega)) (hY _ (nm_r ha (br_t (by decide) ?_))))
            simp (disch := omega) only [wpY_endpoint, yr, not_true, not_false_iff, true_implies, false_implies, implies_true, true_and, and_true, forall_eq, eq_self, ra_i, ra_c, ra_m3, ra_m4, ra_m16, ra_4m, ra_14m, ra_16m, nI_add, nI_1, lN_1, ra_p2, ra_2p, ra_n0, ra_p0, ra_q0, ra_q1, ra_q2, ra_q3, ra_n3, ra_n4, ra_n10, ra_n14, ra_n16, ra_n30, ra_n140, ra_y3, ra_y4, ra_y10, ra_y14, ra_y16, ra_y30, ra_y140]
            exact yl_takes (k := 0) hs (by omega) hW (fun y => absurd y t) (fun _ => br_t rfl (gY _ (br_f (by decide) hp)))
end
