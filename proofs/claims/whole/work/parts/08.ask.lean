/-! endpoints asked, refusals, who takes, who is stuck -/
theorem ra_le0 {st : Nat → Int32} {s : Nat} (hT : ra_T st) (hs : s < 10) : (st s ≤ 0) = (st s = 0) := by
  rcases hT s hs with h | h | h | h | h <;> rw [h] <;> decide
theorem ra_le1 {st : Nat → Int32} {s : Nat} (hT : ra_T st) (hs : s < 10) : (st s ≤ 1) = (st s = 0 ∨ st s = 1) := by
  rcases hT s hs with h | h | h | h | h <;> rw [h] <;> decide
theorem ra_w9 {j : Nat} (h : j < 10) : ((9 : Int32) < nI j) = False := eq_false (nI_nlt (a := 9) (b := j) (by omega) (by omega))
theorem ra_w9' {j : Nat} (h : 10 ≤ j) (h' : j < 1000) : ((9 : Int32) < nI j) = True := eq_true (nI_lt (a := 9) (b := j) (by omega) (by omega))
theorem ra_g10 {j : Nat} (h : 10 ≤ j) (h' : j < 1000) : ((10 : Int32) ≤ nI j) = True := eq_true (nI_le (a := 10) (b := j) (by omega) (by omega))
section
variable {B c m n : Nat} {st pr bs tk mk vl cl rs al wt wd tt sb pa du oft bg av ep pt nb lg lt lv gk gt gf gl gs gn sl ss bo ot so sq go mo nt fr tw tx gr ge g1 g2 g3 sv lf se cp : Nat → Int32} {sn lo : Nat → Int64}
theorem xl_slotOf_s {s : Nat} {e : Int32} {post : Int32 → Prop} (hs : s < 10) (hl : st s ≠ 0) (he : ep s = e) (ha : e &&& 15 = nI s) (h : post (nI s)) : wpX_slotOf post (lN c, ep, st, pt, bs, pr, tk, mk, rs, vl, cl, nb, al, wt, lg, wd, sn, lo, lt, lv, gk, gt, gf, gl, gs, gn, sl, ss, sb, pa, du, oft, bg, av, tt) e := by
  simp (disch := omega) only [wpX_slotOf, wpX_hasProcess, ha, he, hl, not_true, not_false_iff, true_implies, false_implies, implies_true, true_and, and_true, forall_eq, eq_self, ra_i, ra_c, ra_m3, ra_m4, ra_m16, ra_4m, ra_14m, ra_16m, nI_add, nI_1, lN_1, ra_p2, ra_2p, ra_n0, ra_p0, ra_q0, ra_q1, ra_q2, ra_q3, ra_n3, ra_n4, ra_n10, ra_n14, ra_n16, ra_n30, ra_n140, ra_y3, ra_y4, ra_y10, ra_y14, ra_y16, ra_y30, ra_y140]
  exact h
theorem xl_slotOf_n {e : Int32} {post : Int32 → Prop} (hn : ∀ s, s < 10 → st s ≠ 0 → ep s ≠ e) (h : post (-1)) : wpX_slotOf post (lN c, ep, st, pt, bs, pr, tk, mk, rs, vl, cl, nb, al, wt, lg, wd, sn, lo, lt, lv, gk, gt, gf, gl, gs, gn, sl, ss, sb, pa, du, oft, bg, av, tt) e := by
  obtain ⟨j, hj, ej⟩ := pk_andE e (m := 15) 4 (by decide)
  by_cases h10 : j < 10
  · by_cases hl : st j = 0
    · simp (disch := omega) only [wpX_slotOf, wpX_hasProcess, ej, hl, not_true, not_false_iff, true_implies, false_implies, implies_true, true_and, and_true, forall_eq, eq_self, ra_i, ra_c, ra_m3, ra_m4, ra_m16, ra_4m, ra_14m, ra_16m, nI_add, nI_1, lN_1, ra_p2, ra_2p, ra_n0, ra_p0, ra_q0, ra_q1, ra_q2, ra_q3, ra_n3, ra_n4, ra_n10, ra_n14, ra_n16, ra_n30, ra_n140, ra_y3, ra_y4, ra_y10, ra_y14, ra_y16, ra_y30, ra_y140]
      exact h
    · have := hn j h10 hl
      simp (disch := omega) only [wpX_slotOf, wpX_hasProcess, ej, hl, this, not_true, not_false_iff, true_implies, false_implies, implies_true, true_and, and_true, forall_eq, eq_self, ra_i, ra_c, ra_m3, ra_m4, ra_m16, ra_4m, ra_14m, ra_16m, nI_add, nI_1, lN_1, ra_p2, ra_2p, ra_n0, ra_p0, ra_q0, ra_q1, ra_q2, ra_q3, ra_n3, ra_n4, ra_n10, ra_n14, ra_n16, ra_n30, ra_n140, ra_y3, ra_y4, ra_y10, ra_y14, ra_y16, ra_y30, ra_y140]
      exact h
  · simp (disch := omega) only [wpX_slotOf, wpX_hasProcess, ej, ra_g10, not_true, not_false_iff, true_implies, false_implies, implies_true, true_and, and_true, forall_eq, eq_self, ra_i, ra_c, ra_m3, ra_m4, ra_m16, ra_4m, ra_14m, ra_16m, nI_add, nI_1, lN_1, ra_p2, ra_2p, ra_n0, ra_p0, ra_q0, ra_q1, ra_q2, ra_q3, ra_n3, ra_n4, ra_n10, ra_n14, ra_n16, ra_n30, ra_n140, ra_y3, ra_y4, ra_y10, ra_y14, ra_y16, ra_y30, ra_y140]
    exact h
theorem yl_slotOf_s {s : Nat} {e : Int32} {post : Int32 → Prop} (hs : s < 10) (hl : ¬ st s ≤ 0) (he : 16 * (bo s - 1) + nI s = e) (hp : ¬ e < 0) (ha : e &&& 15 = nI s) (h : post (nI s)) : wpY_slotOf post (nI n, nI m, st, bo, bs, pr, tk, mk, ot, vl, rs, al, wt, so, sq, go, mo, cl, wd, nt, fr, tw, tx, gr, ge, g1, g2, g3, sv, sb, lf, pa, du, av, bg, oft, se, tt, cp) e := by
  simp (disch := omega) only [wpY_slotOf, wpY_isThere, wpY_within, wpY_endpoint, ha, he, hl, hp, ra_w9, not_true, not_false_iff, true_implies, false_implies, implies_true, true_and, and_true, forall_eq, eq_self, ra_i, ra_c, ra_m3, ra_m4, ra_m16, ra_4m, ra_14m, ra_16m, nI_add, nI_1, lN_1, ra_p2, ra_2p, ra_n0, ra_p0, ra_q0, ra_q1, ra_q2, ra_q3, ra_n3, ra_n4, ra_n10, ra_n14, ra_n16, ra_n30, ra_n140, ra_y3, ra_y4, ra_y10, ra_y14, ra_y16, ra_y30, ra_y140]
  exact h
theorem yl_slotOf_n {e : Int32} {post : Int32 → Prop} (hT : ra_T st) (hn : ∀ s, s < 10 → st s ≠ 0 → 16 * (bo s - 1) + nI s ≠ e) (h : post (-1)) : wpY_slotOf post (nI n, nI m, st, bo, bs, pr, tk, mk, ot, vl, rs, al, wt, so, sq, go, mo, cl, wd, nt, fr, tw, tx, gr, ge, g1, g2, g3, sv, sb, lf, pa, du, av, bg, oft, se, tt, cp) e := by
  by_cases hp : e < 0
  · simp (disch := omega) only [wpY_slotOf, hp, not_true, not_false_iff, true_implies, false_implies, implies_true, true_and, and_true, forall_eq, eq_self, ra_i, ra_c, ra_m3, ra_m4, ra_m16, ra_4m, ra_14m, ra_16m, nI_add, nI_1, lN_1, ra_p2, ra_2p, ra_n0, ra_p0, ra_q0, ra_q1, ra_q2, ra_q3, ra_n3, ra_n4, ra_n10, ra_n14, ra_n16, ra_n30, ra_n140, ra_y3, ra_y4, ra_y10, ra_y14, ra_y16, ra_y30, ra_y140]
    exact h
  · obtain ⟨j, hj, ej⟩ := pk_andE e (m := 15) 4 (by decide)
    by_cases h10 : j < 10
    · by_cases hl : st j = 0
      · have hl0 : st j ≤ 0 := by rw [ra_le0 hT h10]; exact hl
        simp (disch := omega) only [wpY_slotOf, wpY_isThere, wpY_within, hp, ej, hl0, ra_w9, not_true, not_false_iff, true_implies, false_implies, implies_true, true_and, and_true, forall_eq, eq_self, ra_i, ra_c, ra_m3, ra_m4, ra_m16, ra_4m, ra_14m, ra_16m, nI_add, nI_1, lN_1, ra_p2, ra_2p, ra_n0, ra_p0, ra_q0, ra_q1, ra_q2, ra_q3, ra_n3, ra_n4, ra_n10, ra_n14, ra_n16, ra_n30, ra_n140, ra_y3, ra_y4, ra_y10, ra_y14, ra_y16, ra_y30, ra_y140]
        exact h
      · have := hn j h10 hl
        simp (disch := omega) only [wpY_slotOf, wpY_isThere, wpY_within, wpY_endpoint, hp, ej, ra_le0 hT h10, hl, this, ra_w9, not_true, not_false_iff, true_implies, false_implies, implies_true, true_and, and_true, forall_eq, eq_self, ra_i, ra_c, ra_m3, ra_m4, ra_m16, ra_4m, ra_14m, ra_16m, nI_add, nI_1, lN_1, ra_p2, ra_2p, ra_n0, ra_p0, ra_q0, ra_q1, ra_q2, ra_q3, ra_n3, ra_n4, ra_n10, ra_n14, ra_n16, ra_n30, ra_n140, ra_y3, ra_y4, ra_y10, ra_y14, ra_y16, ra_y30, ra_y140]
        exact h
    · simp (disch := omega) only [wpY_slotOf, wpY_isThere, wpY_within, hp, ej, ra_w9', not_true, not_false_iff, true_implies, false_implies, implies_true, true_and, and_true, forall_eq, eq_self, ra_i, ra_c, ra_m3, ra_m4, ra_m16, ra_4m, ra_14m, ra_16m, nI_add, nI_1, lN_1, ra_p2, ra_2p, ra_n0, ra_p0, ra_q0, ra_q1, ra_q2, ra_q3, ra_n3, ra_n4, ra_n10, ra_n14, ra_n16, ra_n30, ra_n140, ra_y3, ra_y4, ra_y10, ra_y14, ra_y16, ra_y30, ra_y140]
      exact h
theorem ra_slot_both (hB : B ≤ 2 ^ 26) (h : ra_R B c m n st pr tk rs al tt pa bs sb ep pt nb lg sn lo lt lv gk gt gf gl gs gn sl ss bo ot so sq go mo nt fr tw tx gr ge g1 g2 g3 sv lf se) (e : Int32) : ((∀ s, s < 10 → st s ≠ 0 → ep s ≠ e) ∧ (∀ post : Int32 → Prop, post (-1) → wpX_slotOf post (lN c, ep, st, pt, bs, pr, tk, mk, rs, vl, cl, nb, al, wt, lg, wd, sn, lo, lt, lv, gk, gt, gf, gl, gs, gn, sl, ss, sb, pa, du, oft, bg, av, tt) e) ∧ (∀ post : Int32 → Prop, post (-1) → wpY_slotOf post (nI n, nI m, st, bo, bs, pr, tk, mk, ot, vl, rs, al, wt, so, sq, go, mo, cl, wd, nt, fr, tw, tx, gr, ge, g1, g2, g3, sv, sb, lf, pa, du, av, bg, oft, se, tt, cp) e)) ∨
    ∃ s, s < 10 ∧ st s ≠ 0 ∧ ep s = e ∧ e &&& 15 = nI s ∧ ¬ e < 0 ∧ (∀ post : Int32 → Prop, post (nI s) → wpX_slotOf post (lN c, ep, st, pt, bs, pr, tk, mk, rs, vl, cl, nb, al, wt, lg, wd, sn, lo, lt, lv, gk, gt, gf, gl, gs, gn, sl, ss, sb, pa, du, oft, bg, av, tt) e) ∧ (∀ post : Int32 → Prop, post (nI s) → wpY_slotOf post (nI n, nI m, st, bo, bs, pr, tk, mk, ot, vl, rs, al, wt, so, sq, go, mo, cl, wd, nt, fr, tw, tx, gr, ge, g1, g2, g3, sv, sb, lf, pa, du, av, bg, oft, se, tt, cp) e) := by
  obtain ⟨hE, -, -, -, -, -, -, -, hT, -, -⟩ := h
  by_cases z : ∃ s, s < 10 ∧ st s ≠ 0 ∧ ep s = e
  · obtain ⟨s, hs, hl, he⟩ := z
    have ha : e &&& 15 = nI s := by rw [← he]; exact ra_E_and hB hE hs
    have hp : ¬ e < 0 := by rw [← he]; exact Int32.not_lt.mpr (ra_E_pos hB hE hs)
    refine Or.inr ⟨s, hs, hl, he, ha, hp, fun post hp => xl_slotOf_s hs hl he ha hp, fun post hq => yl_slotOf_s hs ?_ ?_ hp ha hq⟩
    · rw [ra_le0 hT hs]; exact hl
    · rw [ra_E_y hE hs hl]; exact he
  · have z' : ∀ s, s < 10 → st s ≠ 0 → ep s ≠ e := fun s hs hl he => z ⟨s, hs, hl, he⟩
    refine Or.inl ⟨z', fun post hp => xl_slotOf_n z' hp, fun post hp => yl_slotOf_n hT (fun s hs hl => ?_) hp⟩
    rw [ra_E_y hE hs hl]
    exact z' s hs hl
theorem ra_ref0 {r : Nat} (hB : B ≤ 2 ^ 26) (h : ra_R B c m n st pr tk rs al tt pa bs sb ep pt nb lg sn lo lt lv gk gt gf gl gs gn sl ss bo ot so sq go mo nt fr tw tx gr ge g1 g2 g3 sv lf se) (hr : r < 10) (h1 : st r = 1) (e : Int32) : (∃ w : Int32, (w = -1 ∨ w = -3) ∧ (∀ post : Int32 → Prop, post w → wpX_refusal post (lN c, ep, st, pt, bs, pr, tk, mk, rs, vl, cl, nb, al, wt, lg, wd, sn, lo, lt, lv, gk, gt, gf, gl, gs, gn, sl, ss, sb, pa, du, oft, bg, av, tt) (nI r) e) ∧ (∀ post : Int32 → Prop, post w → wpX_refusalToReach post (lN c, ep, st, pt, bs, pr, tk, mk, rs, vl, cl, nb, al, wt, lg, wd, sn, lo, lt, lv, gk, gt, gf, gl, gs, gn, sl, ss, sb, pa, du, oft, bg, av, tt) (nI r) e) ∧ (∀ (post : Int32 → Prop) (b : Int32), post w → wpY_wrong post (nI n, nI m, st, bo, bs, pr, tk, mk, ot, vl, rs, al, wt, so, sq, go, mo, cl, wd, nt, fr, tw, tx, gr, ge, g1, g2, g3, sv, sb, lf, pa, du, av, bg, oft, se, tt, cp) (nI r) e b)) ∨
    ∃ s, s < 10 ∧ s ≠ r ∧ st s ≠ 0 ∧ ep s = e ∧ e &&& 15 = nI s ∧ (∀ post : Int32 → Prop, post 0 → wpX_refusal post (lN c, ep, st, pt, bs, pr, tk, mk, rs, vl, cl, nb, al, wt, lg, wd, sn, lo, lt, lv, gk, gt, gf, gl, gs, gn, sl, ss, sb, pa, du, oft, bg, av, tt) (nI r) e) ∧ (∀ post : Int32 → Prop, post 0 → wpY_wrong post (nI n, nI m, st, bo, bs, pr, tk, mk, ot, vl, rs, al, wt, so, sq, go, mo, cl, wd, nt, fr, tw, tx, gr, ge, g1, g2, g3, sv, sb, lf, pa, du, av, bg, oft, se, tt, cp) (nI r) e 0) := by
  rcases ra_slot_both hB h e with ⟨hn, hX, hY⟩ | ⟨s, hs, hl, he, ha, hp, hX, hY⟩
  · refine Or.inl ⟨-3, Or.inr rfl, fun post hp => ?_, fun post hp => ?_, fun post b hp => ?_⟩
    · simp (disch := omega) only [wpX_refusal, not_true, not_false_iff, true_implies, false_implies, implies_true, true_and, and_true, forall_eq, eq_self, ra_i, ra_c, ra_m3, ra_m4, ra_m16, ra_4m, ra_14m, ra_16m, nI_add, nI_1, lN_1, ra_p2, ra_2p, ra_n0, ra_p0, ra_q0, ra_q1, ra_q2, ra_q3, ra_n3, ra_n4, ra_n10, ra_n14, ra_n16, ra_n30, ra_n140, ra_y3, ra_y4, ra_y10, ra_y14, ra_y16, ra_y30, ra_y140]
      refine hX _ ?_
      simp (disch := omega) only [not_true, not_false_iff, true_implies, false_implies, implies_true, true_and, and_true, forall_eq, eq_self, ra_i, ra_c, ra_m3, ra_m4, ra_m16, ra_4m, ra_14m, ra_16m, nI_add, nI_1, lN_1, ra_p2, ra_2p, ra_n0, ra_p0, ra_q0, ra_q1, ra_q2, ra_q3, ra_n3, ra_n4, ra_n10, ra_n14, ra_n16, ra_n30, ra_n140, ra_y3, ra_y4, ra_y10, ra_y14, ra_y16, ra_y30, ra_y140]
      exact hp
    · simp (disch := omega) only [wpX_refusalToReach, wpX_refusal, not_true, not_false_iff, true_implies, false_implies, implies_true, true_and, and_true, forall_eq, eq_self, ra_i, ra_c, ra_m3, ra_m4, ra_m16, ra_4m, ra_14m, ra_16m, nI_add, nI_1, lN_1, ra_p2, ra_2p, ra_n0, ra_p0, ra_q0, ra_q1, ra_q2, ra_q3, ra_n3, ra_n4, ra_n10, ra_n14, ra_n16, ra_n30, ra_n140, ra_y3, ra_y4, ra_y10, ra_y14, ra_y16, ra_y30, ra_y140]
      refine hX _ ?_
      simp (disch := omega) only [ra_q4, not_true, not_false_iff, true_implies, false_implies, implies_true, true_and, and_true, forall_eq, eq_self, ra_i, ra_c, ra_m3, ra_m4, ra_m16, ra_4m, ra_14m, ra_16m, nI_add, nI_1, lN_1, ra_p2, ra_2p, ra_n0, ra_p0, ra_q0, ra_q1, ra_q2, ra_q3, ra_n3, ra_n4, ra_n10, ra_n14, ra_n16, ra_n30, ra_n140, ra_y3, ra_y4, ra_y10, ra_y14, ra_y16, ra_y30, ra_y140]
      exact hp
    · simp only [wpY_wrong]
      refine hY _ ?_
      simp (disch := omega) only [not_true, not_false_iff, true_implies, false_implies, implies_true, true_and, and_true, forall_eq, eq_self, ra_i, ra_c, ra_m3, ra_m4, ra_m16, ra_4m, ra_14m, ra_16m, nI_add, nI_1, lN_1, ra_p2, ra_2p, ra_n0, ra_p0, ra_q0, ra_q1, ra_q2, ra_q3, ra_n3, ra_n4, ra_n10, ra_n14, ra_n16, ra_n30, ra_n140, ra_y3, ra_y4, ra_y10, ra_y14, ra_y16, ra_y30, ra_y140]
      exact hp
  · by_cases z : s = r
    · subst z
      refine Or.inl ⟨-1, Or.inl rfl, fun post hp => ?_, fun post hp => ?_, fun post b hp => ?_⟩
      · simp (disch := omega) only [wpX_refusal, not_true, not_false_iff, true_implies, false_implies, implies_true, true_and, and_true, forall_eq, eq_self, ra_i, ra_c, ra_m3, ra_m4, ra_m16, ra_4m, ra_14m, ra_16m, nI_add, nI_1, lN_1, ra_p2, ra_2p, ra_n0, ra_p0, ra_q0, ra_q1, ra_q2, ra_q3, ra_n3, ra_n4, ra_n10, ra_n14, ra_n16, ra_n30, ra_n140, ra_y3, ra_y4, ra_y10, ra_y14, ra_y16, ra_y30, ra_y140]
        refine hX _ ?_
        simp (disch := omega) only [he, not_true, not_false_iff, true_implies, false_implies, implies_true, true_and, and_true, forall_eq, eq_self, ra_i, ra_c, ra_m3, ra_m4, ra_m16, ra_4m, ra_14m, ra_16m, nI_add, nI_1, lN_1, ra_p2, ra_2p, ra_n0, ra_p0, ra_q0, ra_q1, ra_q2, ra_q3, ra_n3, ra_n4, ra_n10, ra_n14, ra_n16, ra_n30, ra_n140, ra_y3, ra_y4, ra_y10, ra_y14, ra_y16, ra_y30, ra_y140]
        exact hp
      · simp (disch := omega) only [wpX_refusalToReach, wpX_refusal, not_true, not_false_iff, true_implies, false_implies, implies_true, true_and, and_true, forall_eq, eq_self, ra_i, ra_c, ra_m3, ra_m4, ra_m16, ra_4m, ra_14m, ra_16m, nI_add, nI_1, lN_1, ra_p2, ra_2p, ra_n0, ra_p0, ra_q0, ra_q1, ra_q2, ra_q3, ra_n3, ra_n4, ra_n10, ra_n14, ra_n16, ra_n30, ra_n140, ra_y3, ra_y4, ra_y10, ra_y14, ra_y16, ra_y30, ra_y140]
        refine hX _ ?_
        simp (disch := omega) only [he, ra_q5, not_true, not_false_iff, true_implies, false_implies, implies_true, true_and, and_true, forall_eq, eq_self, ra_i, ra_c, ra_m3, ra_m4, ra_m16, ra_4m, ra_14m, ra_16m, nI_add, nI_1, lN_1, ra_p2, ra_2p, ra_n0, ra_p0, ra_q0, ra_q1, ra_q2, ra_q3, ra_n3, ra_n4, ra_n10, ra_n14, ra_n16, ra_n30, ra_n140, ra_y3, ra_y4, ra_y10, ra_y14, ra_y16, ra_y30, ra_y140]
        exact hp
      · simp only [wpY_wrong]
        refine hY _ ?_
        simp (disch := omega) only [not_true, not_false_iff, true_implies, false_implies, implies_true, true_and, and_true, forall_eq, eq_self, ra_i, ra_c, ra_m3, ra_m4, ra_m16, ra_4m, ra_14m, ra_16m, nI_add, nI_1, lN_1, ra_p2, ra_2p, ra_n0, ra_p0, ra_q0, ra_q1, ra_q2, ra_q3, ra_n3, ra_n4, ra_n10, ra_n14, ra_n16, ra_n30, ra_n140, ra_y3, ra_y4, ra_y10, ra_y14, ra_y16, ra_y30, ra_y140]
        exact hp
    · have ne : ¬ e = ep r := by
        intro y
        exact z (ra_E_inj hB h.1 hs hr (he.trans y))
      have nn : ¬ nI s = nI r := by
        rw [nI_eq (by omega) (by omega)]; exact z
      refine Or.inr ⟨s, hs, z, hl, he, ha, fun post hp => ?_, fun post hp => ?_⟩
      · simp (disch := omega) only [wpX_refusal, not_true, not_false_iff, true_implies, false_implies, implies_true, true_and, and_true, forall_eq, eq_self, ra_i, ra_c, ra_m3, ra_m4, ra_m16, ra_4m, ra_14m, ra_16m, nI_add, nI_1, lN_1, ra_p2, ra_2p, ra_n0, ra_p0, ra_q0, ra_q1, ra_q2, ra_q3, ra_n3, ra_n4, ra_n10, ra_n14, ra_n16, ra_n30, ra_n140, ra_y3, ra_y4, ra_y10, ra_y14, ra_y16, ra_y30, ra_y140]
        refine hX _ ?_
        simp (disch := omega) only [ne, not_true, not_false_iff, true_implies, false_implies, implies_true, true_and, and_true, forall_eq, eq_self, ra_i, ra_c, ra_m3, ra_m4, ra_m16, ra_4m, ra_14m, ra_16m, nI_add, nI_1, lN_1, ra_p2, ra_2p, ra_n0, ra_p0, ra_q0, ra_q1, ra_q2, ra_q3, ra_n3, ra_n4, ra_n10, ra_n14, ra_n16, ra_n30, ra_n140, ra_y3, ra_y4, ra_y10, ra_y14, ra_y16, ra_y30, ra_y140]
        exact hp
      · simp only [wpY_wrong]
        refine hY _ ?_
        simp (disch := omega) only [nn, not_true, not_false_iff, true_implies, false_implies, implies_true, true_and, and_true, forall_eq, eq_self, ra_i, ra_c, ra_m3, ra_m4, ra_m16, ra_4m, ra_14m, ra_16m, nI_add, nI_1, lN_1, ra_p2, ra_2p, ra_n0, ra_p0, ra_q0, ra_q1, ra_q2, ra_q3, ra_n3, ra_n4, ra_n10, ra_n14, ra_n16, ra_n30, ra_n140, ra_y3, ra_y4, ra_y10, ra_y14, ra_y16, ra_y30, ra_y140]
        exact hp
theorem ra_ref1 {r : Nat} (hB : B ≤ 2 ^ 26) (h : ra_R B c m n st pr tk rs al tt pa bs sb ep pt nb lg sn lo lt lv gk gt gf gl gs gn sl ss bo ot so sq go mo nt fr tw tx gr ge g1 g2 g3 sv lf se) (hr : r < 10) (h1 : st r = 1) (e : Int32) : (∃ w : Int32, (w = -1 ∨ w = -3 ∨ w = -4) ∧ (∀ post : Int32 → Prop, post w → wpX_refusalToReach post (lN c, ep, st, pt, bs, pr, tk, mk, rs, vl, cl, nb, al, wt, lg, wd, sn, lo, lt, lv, gk, gt, gf, gl, gs, gn, sl, ss, sb, pa, du, oft, bg, av, tt) (nI r) e) ∧ (∀ post : Int32 → Prop, post w → wpY_wrong post (nI n, nI m, st, bo, bs, pr, tk, mk, ot, vl, rs, al, wt, so, sq, go, mo, cl, wd, nt, fr, tw, tx, gr, ge, g1, g2, g3, sv, sb, lf, pa, du, av, bg, oft, se, tt, cp) (nI r) e 1)) ∨
    ∃ s, s < 10 ∧ s ≠ r ∧ st s ≠ 0 ∧ ep s = e ∧ e &&& 15 = nI s ∧ (∀ post : Int32 → Prop, post 0 → wpX_refusalToReach post (lN c, ep, st, pt, bs, pr, tk, mk, rs, vl, cl, nb, al, wt, lg, wd, sn, lo, lt, lv, gk, gt, gf, gl, gs, gn, sl, ss, sb, pa, du, oft, bg, av, tt) (nI r) e) ∧ (∀ post : Int32 → Prop, post 0 → wpY_wrong post (nI n, nI m, st, bo, bs, pr, tk, mk, ot, vl, rs, al, wt, so, sq, go, mo, cl, wd, nt, fr, tw, tx, gr, ge, g1, g2, g3, sv, sb, lf, pa, du, av, bg, oft, se, tt, cp) (nI r) e 1) := by
  rcases ra_ref0 hB h hr h1 e with ⟨w, hw, -, hX, hY⟩ | ⟨s, hs, z, hl, he, ha, hX, hY⟩
  · exact Or.inl ⟨w, hw.imp id Or.inl, hX, fun post hp => hY post 1 hp⟩
  · rcases ra_slot_both hB h e with ⟨hn, -, -⟩ | ⟨s', hs', -, -, ha', hp', hX', hY'⟩
    · exact absurd he (hn s hs hl)
    · have es : s' = s := by
        have := ha'.symm.trans ha
        rw [nI_eq (by omega) (by omega)] at this
        exact this
      subst es
      have nn : ¬ nI s' = nI r := by
        rw [nI_eq (by omega) (by omega)]; exact z
      by_cases g : ((mk r >>> (nI s' &&& 31)) &&& 1) = 0
      · refine Or.inl ⟨-4, Or.inr (Or.inr rfl), fun post hp => ?_, fun post hp => ?_⟩
        · simp only [wpX_refusalToReach]
          refine hX _ ?_
          simp (disch := omega) only [not_true, not_false_iff, true_implies, false_implies, implies_true, true_and, and_true, forall_eq, eq_self, ra_i, ra_c, ra_m3, ra_m4, ra_m16, ra_4m, ra_14m, ra_16m, nI_add, nI_1, lN_1, ra_p2, ra_2p, ra_n0, ra_p0, ra_q0, ra_q1, ra_q2, ra_q3, ra_n3, ra_n4, ra_n10, ra_n14, ra_n16, ra_n30, ra_n140, ra_y3, ra_y4, ra_y10, ra_y14, ra_y16, ra_y30, ra_y140]
          refine hX' _ ?_
          simp (disch := omega) only [g, not_true, not_false_iff, true_implies, false_implies, implies_true, true_and, and_true, forall_eq, eq_self, ra_i, ra_c, ra_m3, ra_m4, ra_m16, ra_4m, ra_14m, ra_16m, nI_add, nI_1, lN_1, ra_p2, ra_2p, ra_n0, ra_p0, ra_q0, ra_q1, ra_q2, ra_q3, ra_n3, ra_n4, ra_n10, ra_n14, ra_n16, ra_n30, ra_n140, ra_y3, ra_y4, ra_y10, ra_y14, ra_y16, ra_y30, ra_y140]
          exact hp
        · simp only [wpY_wrong]
          refine hY' _ ?_
          simp (disch := omega) only [nn, g, not_true, not_false_iff, true_implies, false_implies, implies_true, true_and, and_true, forall_eq, eq_self, ra_i, ra_c, ra_m3, ra_m4, ra_m16, ra_4m, ra_14m, ra_16m, nI_add, nI_1, lN_1, ra_p2, ra_2p, ra_n0, ra_p0, ra_q0, ra_q1, ra_q2, ra_q3, ra_n3, ra_n4, ra_n10, ra_n14, ra_n16, ra_n30, ra_n140, ra_y3, ra_y4, ra_y10, ra_y14, ra_y16, ra_y30, ra_y140]
          exact hp
      · refine Or.inr ⟨s', hs', z, hl, he, ha, fun post hp => ?_, fun post hp => ?_⟩
        · simp only [wpX_refusalToReach]
          refine hX _ ?_
          simp (disch := omega) only [not_true, not_false_iff, true_implies, false_implies, implies_true, true_and, and_true, forall_eq, eq_self, ra_i, ra_c, ra_m3, ra_m4, ra_m16, ra_4m, ra_14m, ra_16m, nI_add, nI_1, lN_1, ra_p2, ra_2p, ra_n0, ra_p0, ra_q0, ra_q1, ra_q2, ra_q3, ra_n3, ra_n4, ra_n10, ra_n14, ra_n16, ra_n30, ra_n140, ra_y3, ra_y4, ra_y10, ra_y14, ra_y16, ra_y30, ra_y140]
          refine hX' _ ?_
          simp (disch := omega) only [g, not_true, not_false_iff, true_implies, false_implies, implies_true, true_and, and_true, forall_eq, eq_self, ra_i, ra_c, ra_m3, ra_m4, ra_m16, ra_4m, ra_14m, ra_16m, nI_add, nI_1, lN_1, ra_p2, ra_2p, ra_n0, ra_p0, ra_q0, ra_q1, ra_q2, ra_q3, ra_n3, ra_n4, ra_n10, ra_n14, ra_n16, ra_n30, ra_n140, ra_y3, ra_y4, ra_y10, ra_y14, ra_y16, ra_y30, ra_y140]
          exact hp
        · simp only [wpY_wrong]
          refine hY' _ ?_
          simp (disch := omega) only [nn, g, not_true, not_false_iff, true_implies, false_implies, implies_true, true_and, and_true, forall_eq, eq_self, ra_i, ra_c, ra_m3, ra_m4, ra_m16, ra_4m, ra_14m, ra_16m, nI_add, nI_1, lN_1, ra_p2, ra_2p, ra_n0, ra_p0, ra_q0, ra_q1, ra_q2, ra_q3, ra_n3, ra_n4, ra_n10, ra_n14, ra_n16, ra_n30, ra_n140, ra_y3, ra_y4, ra_y10, ra_y14, ra_y16, ra_y30, ra_y140]
          exact hp
/-- who takes -/
def ra_tk (st pt : Nat → Int32) (s : Nat) (src : Int32) (k : Nat) : Prop := (st s = 3 ∧ (pt s = -1 ∨ pt s = src)) ∨ (st s = 4 ∧ pt s = src ∧ k = 0)
theorem xl_takes {s k : Nat} {src : Int32} {post : Int32 → Prop} (hs : s < 10) (hk : k < 1000) (h1 : ra_tk st pt s src k → post 1) (h0 : ¬ ra_tk st pt s src k → post 0) : wpX_takes post (lN c, ep, st, pt, bs, pr, tk, mk, rs, vl, cl, nb, al, wt, lg, wd, sn, lo, lt, lv, gk, gt, gf, gl, gs, gn, sl, ss, sb, pa, du, oft, bg, av, tt) (nI s) src (nI k) := by
  have hk0 : (nI k = 0) = (k = 0) := propext (by rw [← nI_0]; exact nI_eq (by omega) (by omega))
  simp (disch := omega) only [wpX_takes, hk0, not_true, not_false_iff, true_implies, false_implies, implies_true, true_and, and_true, forall_eq, eq_self, ra_i, ra_c, ra_m3, ra_m4, ra_m16, ra_4m, ra_14m, ra_16m, nI_add, nI_1, lN_1, ra_p2, ra_2p, ra_n0, ra_p0, ra_q0, ra_q1, ra_q2, ra_q3, ra_n3, ra_n4, ra_n10, ra_n14, ra_n16, ra_n30, ra_n140, ra_y3, ra_y4, ra_y10, ra_y14, ra_y16, ra_y30, ra_y140]
  refine br_c (fun a => br_c (fun b => h1 (Or.inl ⟨a, Or.inl b⟩)) (fun b => br_c (fun d => h1 (Or.inl ⟨a, Or.inr d⟩)) (fun d => h0 ?_))) (fun a => br_c (fun b => br_c (fun d => br_c (fun f => h1 (Or.inr ⟨b, d, f⟩)) (fun f => h0 ?_)) (fun d => h0 ?_)) (fun b => h0 ?_))
  · rintro (⟨-, y | y⟩ | ⟨y, -⟩)
    · exact b y
    · exact d y
    · rw [a] at y; exact absurd y (by decide)
  · rintro (⟨y, -⟩ | ⟨-, -, y⟩)
    · exact a y
    · exact f y
  · rintro (⟨y, -⟩ | ⟨-, y, -⟩)
    · exact a y
    · exact d y
  · rintro (⟨y, -⟩ | ⟨y, -⟩)
    · exact a y
    · exact b y
theorem yl_takes {s k : Nat} {src : Int32} {post : Int32 → Prop} (hs : s < 10) (hk : k < 1000) (hW : ra_W st ep pt ot rs) (h1 : ra_tk st pt s src k → post 1) (h0 : ¬ ra_tk st pt s src k → post 0) : wpY_takes post (nI n, nI m, st, bo, bs, pr, tk, mk, ot, vl, rs, al, wt, so, sq, go, mo, cl, wd, nt, fr, tw, tx, gr, ge, g1, g2, g3, sv, sb, lf, pa, du, av, bg, oft, se, tt, cp) (nI s) src (nI k) := by
  have hk0 : (nI k = 0) = (k = 0) := propext (by rw [← nI_0]; exact nI_eq (by omega) (by omega))
  have e3 : st s = 3 → pt s = ot s := fun z => ((hW s hs).2 (by rw [z]; decide) (by rw [z]; decide)).1
  have e4 : st s = 4 → pt s = ot s := fun z => ((hW s hs).2 (by rw [z]; decide) (by rw [z]; decide)).1
  have w30 : (∀ a : st s ≠ 3 ∨ (ot s ≠ -1 ∧ ot s ≠ src), True) → (st s ≠ 3 ∨ (ot s ≠ -1 ∧ ot s ≠ src)) → wY_takes_30 post (nI s) src (nI k) (nI n) (nI m) st bo bs pr tk mk ot vl rs al wt so sq go mo cl wd nt fr tw tx gr ge g1 g2 g3 sv sb lf pa du av bg oft se tt cp := by
    intro _ a
    simp (disch := omega) only [wY_takes_30, hk0, not_true, not_false_iff, true_implies, false_implies, implies_true, true_and, and_true, forall_eq, eq_self, ra_i, ra_c, ra_m3, ra_m4, ra_m16, ra_4m, ra_14m, ra_16m, nI_add, nI_1, lN_1, ra_p2, ra_2p, ra_n0, ra_p0, ra_q0, ra_q1, ra_q2, ra_q3, ra_n3, ra_n4, ra_n10, ra_n14, ra_n16, ra_n30, ra_n140, ra_y3, ra_y4, ra_y10, ra_y14, ra_y16, ra_y30, ra_y140]
    refine br_c (fun b => br_c (fun f => br_c (fun d => h1 (Or.inr ⟨b, (e4 b).trans d, f⟩)) (fun d => h0 ?_)) (fun f => h0 ?_)) (fun b => h0 ?_)
    · rintro (⟨y, -⟩ | ⟨-, y, -⟩)
      · rw [b] at y; exact absurd y (by decide)
      · exact d ((e4 b).symm.trans y)
    · rintro (⟨y, -⟩ | ⟨-, -, y⟩)
      · rw [b] at y; exact absurd y (by decide)
      · exact f y
    · rintro (⟨y, w⟩ | ⟨y, -⟩)
      · rcases a with a | ⟨a, a'⟩
        · exact a y
        · rw [e3 y] at w; exact w.elim a a'
      · exact b y
  simp (disch := omega) only [wpY_takes, not_true, not_false_iff, true_implies, false_implies, implies_true, true_and, and_true, forall_eq, eq_self, ra_i, ra_c, ra_m3, ra_m4, ra_m16, ra_4m, ra_14m, ra_16m, nI_add, nI_1, lN_1, ra_p2, ra_2p, ra_n0, ra_p0, ra_q0, ra_q1, ra_q2, ra_q3, ra_n3, ra_n4, ra_n10, ra_n14, ra_n16, ra_n30, ra_n140, ra_y3, ra_y4, ra_y10, ra_y14, ra_y16, ra_y30, ra_y140]
  exact br_c (fun a => br_c (fun b => h1 (Or.inl ⟨a, Or.inl ((e3 a).trans b)⟩)) (fun b => br_c (fun d => h1 (Or.inl ⟨a, Or.inr ((e3 a).trans d)⟩)) (fun d => w30 (fun _ => trivial) (Or.inr ⟨b, d⟩)))) (fun a => w30 (fun _ => trivial) (Or.inl a))
theorem xl_isWaiting_t {s : Nat} {post : Int32 → Prop} (hs : s < 10) (hT : ra_T st) (h0 : st s ≠ 0) (h1 : st s ≠ 1) (h : post 1) : wpX_isWaiting post (lN c, ep, st, pt, bs, pr, tk, mk, rs, vl, cl, nb, al, wt, lg, wd, sn, lo, lt, lv, gk, gt, gf, gl, gs, gn, sl, ss, sb, pa, du, oft, bg, av, tt) (nI s) := by
  simp (disch := omega) only [wpX_isWaiting, not_true, not_false_iff, true_implies, false_implies, implies_true, true_and, and_true, forall_eq, eq_self, ra_i, ra_c, ra_m3, ra_m4, ra_m16, ra_4m, ra_14m, ra_16m, nI_add, nI_1, lN_1, ra_p2, ra_2p, ra_n0, ra_p0, ra_q0, ra_q1, ra_q2, ra_q3, ra_n3, ra_n4, ra_n10, ra_n14, ra_n16, ra_n30, ra_n140, ra_y3, ra_y4, ra_y10, ra_y14, ra_y16, ra_y30, ra_y140]
  refine br_c (fun _ => h) (fun a => br_c (fun _ => h) (fun b => br_c (fun _ => h) (fun d => ?_)))
  rcases hT s hs with y | y | y | y | y
  · exact absurd y h0
  · exact absurd y h1
  · exact absurd y a
  · exact absurd y b
  · exact absurd y d
theorem xl_isWaiting_f {s : Nat} {post : Int32 → Prop} (hs : s < 10) (hw : st s = 0 ∨ st s = 1) (h : post 0) : wpX_isWaiting post (lN c, ep, st, pt, bs, pr, tk, mk, rs, vl, cl, nb, al, wt, lg, wd, sn, lo, lt, lv, gk, gt, gf, gl, gs, gn, sl, ss, sb, pa, du, oft, bg, av, tt) (nI s) := by
  have a2 : ¬ st s = 2 := by rcases hw with y | y <;> rw [y] <;> decide
  have a3 : ¬ st s = 3 := by rcases hw with y | y <;> rw [y] <;> decide
  have a4 : ¬ st s = 4 := by rcases hw with y | y <;> rw [y] <;> decide
  simp (disch := omega) only [wpX_isWaiting, a2, a3, a4, not_true, not_false_iff, true_implies, false_implies, implies_true, true_and, and_true, forall_eq, eq_self, ra_i, ra_c, ra_m3, ra_m4, ra_m16, ra_4m, ra_14m, ra_16m, nI_add, nI_1, lN_1, ra_p2, ra_2p, ra_n0, ra_p0, ra_q0, ra_q1, ra_q2, ra_q3, ra_n3, ra_n4, ra_n10, ra_n14, ra_n16, ra_n30, ra_n140, ra_y3, ra_y4, ra_y10, ra_y14, ra_y16, ra_y30, ra_y140]
  exact h
theorem ra_stuck {r : Nat} (hB : B ≤ 2 ^ 26) (h : ra_R B c m n st pr tk rs al tt pa bs sb ep pt nb lg sn lo lt lv gk gt gf gl gs gn sl ss bo ot so sq go mo nt fr tw tx gr ge g1 g2 g3 sv lf se) (hr : r < 10) : ∀ d i p : Nat, i + d = 10 → p < 10 → ∃ b : Int32, (b = 0 ∨ b = 1) ∧ (∀ post : Int32 → Prop, post b → wX_isStuckBehind_5 post (nI r) (lN c) ep st pt bs pr tk mk rs vl cl nb al wt lg wd sn lo lt lv gk gt gf gl gs gn sl ss sb pa du oft bg av tt (d + 1) (nI p) (nI i)) ∧ (∀ post : Int32 → Prop, post b → wY_isStuck_5 post (nI r) (nI n) (nI m) st bo bs pr tk mk ot vl rs al wt so sq go mo cl wd nt fr tw tx gr ge g1 g2 g3 sv sb lf pa du av bg oft se tt cp (d + 1) (nI p) (nI i)) := by
  have hT := h.2.2.2.2.2.2.2.2.1
  have hE := h.1
  intro d
  induction d with
  | zero =>
    intro i p hi hp
    have : i = 10 := by omega
    subst this
    refine ⟨0, Or.inl rfl, fun post hq => ?_, fun post hq => ?_⟩
    · simp (disch := omega) only [wX_isStuckBehind_5, not_true, not_false_iff, true_implies, false_implies, implies_true, true_and, and_true, forall_eq, eq_self, ra_i, ra_c, ra_m3, ra_m4, ra_m16, ra_4m, ra_14m, ra_16m, nI_add, nI_1, lN_1, ra_p2, ra_2p, ra_n0, ra_p0, ra_q0, ra_q1, ra_q2, ra_q3, ra_n3, ra_n4, ra_n10, ra_n14, ra_n16, ra_n30, ra_n140, ra_y3, ra_y4, ra_y10, ra_y14, ra_y16, ra_y30, ra_y140]
      exact hq
    · simp (disch := omega) only [wY_isStuck_5, not_true, not_false_iff, true_implies, false_implies, implies_true, true_and, and_true, forall_eq, eq_self, ra_i, ra_c, ra_m3, ra_m4, ra_m16, ra_4m, ra_14m, ra_16m, nI_add, nI_1, lN_1, ra_p2, ra_2p, ra_n0, ra_p0, ra_q0, ra_q1, ra_q2, ra_q3, ra_n3, ra_n4, ra_n10, ra_n14, ra_n16, ra_n30, ra_n140, ra_y3, ra_y4, ra_y10, ra_y14, ra_y16, ra_y30, ra_y140]
      exact hq
  | succ d ih =>
    intro i p hi hp
    have i10 : i < 10 := by omega
    by_cases w : st p = 0 ∨ st p = 1
    · have w' : st p ≤ 1 := by rw [ra_le1 hT hp]; exact w
      refine ⟨0, Or.inl rfl, fun post hq => ?_, fun post hq => ?_⟩
      · simp (disch := omega) only [wX_isStuckBehind_5, not_true, not_false_iff, true_implies, false_implies, implies_true, true_and, and_true, forall_eq, eq_self, ra_i, ra_c, ra_m3, ra_m4, ra_m16, ra_4m, ra_14m, ra_16m, nI_add, nI_1, lN_1, ra_p2, ra_2p, ra_n0, ra_p0, ra_q0, ra_q1, ra_q2, ra_q3, ra_n3, ra_n4, ra_n10, ra_n14, ra_n16, ra_n30, ra_n140, ra_y3, ra_y4, ra_y10, ra_y14, ra_y16, ra_y30, ra_y140]
        refine xl_isWaiting_f hp w ?_
        simp (disch := omega) only [not_true, not_false_iff, true_implies, false_implies, implies_true, true_and, and_true, forall_eq, eq_self, ra_i, ra_c, ra_m3, ra_m4, ra_m16, ra_4m, ra_14m, ra_16m, nI_add, nI_1, lN_1, ra_p2, ra_2p, ra_n0, ra_p0, ra_q0, ra_q1, ra_q2, ra_q3, ra_n3, ra_n4, ra_n10, ra_n14, ra_n16, ra_n30, ra_n140, ra_y3, ra_y4, ra_y10, ra_y14, ra_y16, ra_y30, ra_y140]
        exact hq
      · simp (disch := omega) only [wY_isStuck_5, w', not_true, not_false_iff, true_implies, false_implies, implies_true, true_and, and_true, forall_eq, eq_self, ra_i, ra_c, ra_m3, ra_m4, ra_m16, ra_4m, ra_14m, ra_16m, nI_add, nI_1, lN_1, ra_p2, ra_2p, ra_n0, ra_p0, ra_q0, ra_q1, ra_q2, ra_q3, ra_n3, ra_n4, ra_n10, ra_n14, ra_n16, ra_n30, ra_n140, ra_y3, ra_y4, ra_y10, ra_y14, ra_y16, ra_y30, ra_y140]
        exact hq
    · have w0 : st p ≠ 0 := fun y => w (Or.inl y)
      have w1 : st p ≠ 1 := fun y => w (Or.inr y)
      have w' : ¬ st p ≤ 1 := by rw [ra_le1 hT hp]; exact w
      obtain ⟨e1, -, e2⟩ := (h.2.2.1 p hp).2 w0 w1
      rcases e2 with e2 | ⟨t, ht, hl, e2⟩
      · have en : ¬ 0 ≤ ot p := by rw [← e1, e2]; decide
        refine ⟨0, Or.inl rfl, fun post hq => ?_, fun post hq => ?_⟩
        · simp (disch := omega) only [wX_isStuckBehind_5, not_true, not_false_iff, true_implies, false_implies, implies_true, true_and, and_true, forall_eq, eq_self, ra_i, ra_c, ra_m3, ra_m4, ra_m16, ra_4m, ra_14m, ra_16m, nI_add, nI_1, lN_1, ra_p2, ra_2p, ra_n0, ra_p0, ra_q0, ra_q1, ra_q2, ra_q3, ra_n3, ra_n4, ra_n10, ra_n14, ra_n16, ra_n30, ra_n140, ra_y3, ra_y4, ra_y10, ra_y14, ra_y16, ra_y30, ra_y140]
          refine xl_isWaiting_t hp hT w0 w1 ?_
          simp (disch := omega) only [not_true, not_false_iff, true_implies, false_implies, implies_true, true_and, and_true, forall_eq, eq_self, ra_i, ra_c, ra_m3, ra_m4, ra_m16, ra_4m, ra_14m, ra_16m, nI_add, nI_1, lN_1, ra_p2, ra_2p, ra_n0, ra_p0, ra_q0, ra_q1, ra_q2, ra_q3, ra_n3, ra_n4, ra_n10, ra_n14, ra_n16, ra_n30, ra_n140, ra_y3, ra_y4, ra_y10, ra_y14, ra_y16, ra_y30, ra_y140]
          refine xl_slotOf_n (fun s hs _ => ?_) ?_
          · rw [e2]; exact ra_E_ne hB hE hs
          · simp (disch := omega) only [not_true, not_false_iff, true_implies, false_implies, implies_true, true_and, and_true, forall_eq, eq_self, ra_i, ra_c, ra_m3, ra_m4, ra_m16, ra_4m, ra_14m, ra_16m, nI_add, nI_1, lN_1, ra_p2, ra_2p, ra_n0, ra_p0, ra_q0, ra_q1, ra_q2, ra_q3, ra_n3, ra_n4, ra_n10, ra_n14, ra_n16, ra_n30, ra_n140, ra_y3, ra_y4, ra_y10, ra_y14, ra_y16, ra_y30, ra_y140]
            exact hq
        · simp (disch := omega) only [wY_isStuck_5, w', en, not_true, not_false_iff, true_implies, false_implies, implies_true, true_and, and_true, forall_eq, eq_self, ra_i, ra_c, ra_m3, ra_m4, ra_m16, ra_4m, ra_14m, ra_16m, nI_add, nI_1, lN_1, ra_p2, ra_2p, ra_n0, ra_p0, ra_q0, ra_q1, ra_q2, ra_q3, ra_n3, ra_n4, ra_n10, ra_n14, ra_n16, ra_n30, ra_n140, ra_y3, ra_y4, ra_y10, ra_y14, ra_y16, ra_y30, ra_y140]
          exact hq
      · have ha : pt p &&& 15 = nI t := by rw [e2]; exact ra_E_and hB hE ht
        have ha' : ot p &&& 15 = nI t := by rw [← e1]; exact ha
        have en : 0 ≤ ot p := by rw [← e1, e2]; exact ra_E_pos hB hE ht
        by_cases z : t = r
        · subst z
          refine ⟨1, Or.inr rfl, fun post hq => ?_, fun post hq => ?_⟩
          · simp (disch := omega) only [wX_isStuckBehind_5, not_true, not_false_iff, true_implies, false_implies, implies_true, true_and, and_true, forall_eq, eq_self, ra_i, ra_c, ra_m3, ra_m4, ra_m16, ra_4m, ra_14m, ra_16m, nI_add, nI_1, lN_1, ra_p2, ra_2p, ra_n0, ra_p0, ra_q0, ra_q1, ra_q2, ra_q3, ra_n3, ra_n4, ra_n10, ra_n14, ra_n16, ra_n30, ra_n140, ra_y3, ra_y4, ra_y10, ra_y14, ra_y16, ra_y30, ra_y140]
            refine xl_isWaiting_t hp hT w0 w1 ?_
            simp (disch := omega) only [not_true, not_false_iff, true_implies, false_implies, implies_true, true_and, and_true, forall_eq, eq_self, ra_i, ra_c, ra_m3, ra_m4, ra_m16, ra_4m, ra_14m, ra_16m, nI_add, nI_1, lN_1, ra_p2, ra_2p, ra_n0, ra_p0, ra_q0, ra_q1, ra_q2, ra_q3, ra_n3, ra_n4, ra_n10, ra_n14, ra_n16, ra_n30, ra_n140, ra_y3, ra_y4, ra_y10, ra_y14, ra_y16, ra_y30, ra_y140]
            refine xl_slotOf_s ht hl e2.symm ha ?_
            simp (disch := omega) only [not_true, not_false_iff, true_implies, false_implies, implies_true, true_and, and_true, forall_eq, eq_self, ra_i, ra_c, ra_m3, ra_m4, ra_m16, ra_4m, ra_14m, ra_16m, nI_add, nI_1, lN_1, ra_p2, ra_2p, ra_n0, ra_p0, ra_q0, ra_q1, ra_q2, ra_q3, ra_n3, ra_n4, ra_n10, ra_n14, ra_n16, ra_n30, ra_n140, ra_y3, ra_y4, ra_y10, ra_y14, ra_y16, ra_y30, ra_y140]
            exact hq
          · simp (disch := omega) only [wY_isStuck_5, w', en, ha', not_true, not_false_iff, true_implies, false_implies, implies_true, true_and, and_true, forall_eq, eq_self, ra_i, ra_c, ra_m3, ra_m4, ra_m16, ra_4m, ra_14m, ra_16m, nI_add, nI_1, lN_1, ra_p2, ra_2p, ra_n0, ra_p0, ra_q0, ra_q1, ra_q2, ra_q3, ra_n3, ra_n4, ra_n10, ra_n14, ra_n16, ra_n30, ra_n140, ra_y3, ra_y4, ra_y10, ra_y14, ra_y16, ra_y30, ra_y140]
            exact hq
        · have nn : ¬ nI t = nI r := by rw [nI_eq (by omega) (by omega)]; exact z
          obtain ⟨b, hb, hX, hY⟩ := ih (i + 1) t (by omega) ht
          refine ⟨b, hb, fun post hq => ?_, fun post hq => ?_⟩
          · rw [wX_isStuckBehind_5]
            simp (disch := omega) only [not_true, not_false_iff, true_implies, false_implies, implies_true, true_and, and_true, forall_eq, eq_self, ra_i, ra_c, ra_m3, ra_m4, ra_m16, ra_4m, ra_14m, ra_16m, nI_add, nI_1, lN_1, ra_p2, ra_2p, ra_n0, ra_p0, ra_q0, ra_q1, ra_q2, ra_q3, ra_n3, ra_n4, ra_n10, ra_n14, ra_n16, ra_n30, ra_n140, ra_y3, ra_y4, ra_y10, ra_y14, ra_y16, ra_y30, ra_y140]
            refine xl_isWaiting_t hp hT w0 w1 ?_
            simp (disch := omega) only [not_true, not_false_iff, true_implies, false_implies, implies_true, true_and, and_true, forall_eq, eq_self, ra_i, ra_c, ra_m3, ra_m4, ra_m16, ra_4m, ra_14m, ra_16m, nI_add, nI_1, lN_1, ra_p2, ra_2p, ra_n0, ra_p0, ra_q0, ra_q1, ra_q2, ra_q3, ra_n3, ra_n4, ra_n10, ra_n14, ra_n16, ra_n30, ra_n140, ra_y3, ra_y4, ra_y10, ra_y14, ra_y16, ra_y30, ra_y140]
            refine xl_slotOf_s ht hl e2.symm ha ?_
            simp (disch := omega) only [nn, not_true, not_false_iff, true_implies, false_implies, implies_true, true_and, and_true, forall_eq, eq_self, ra_i, ra_c, ra_m3, ra_m4, ra_m16, ra_4m, ra_14m, ra_16m, nI_add, nI_1, lN_1, ra_p2, ra_2p, ra_n0, ra_p0, ra_q0, ra_q1, ra_q2, ra_q3, ra_n3, ra_n4, ra_n10, ra_n14, ra_n16, ra_n30, ra_n140, ra_y3, ra_y4, ra_y10, ra_y14, ra_y16, ra_y30, ra_y140]
            exact hX post hq
          · rw [wY_isStuck_5]
            simp (disch := omega) only [w', en, ha', nn, not_true, not_false_iff, true_implies, false_implies, implies_true, true_and, and_true, forall_eq, eq_self, ra_i, ra_c, ra_m3, ra_m4, ra_m16, ra_4m, ra_14m, ra_16m, nI_add, nI_1, lN_1, ra_p2, ra_2p, ra_n0, ra_p0, ra_q0, ra_q1, ra_q2, ra_q3, ra_n3, ra_n4, ra_n10, ra_n14, ra_n16, ra_n30, ra_n140, ra_y3, ra_y4, ra_y10, ra_y14, ra_y16, ra_y30, ra_y140]
            exact hY post hq
theorem ra_stuck_both {r s : Nat} (hB : B ≤ 2 ^ 26) (h : ra_R B c m n st pr tk rs al tt pa bs sb ep pt nb lg sn lo lt lv gk gt gf gl gs gn sl ss bo ot so sq go mo nt fr tw tx gr ge g1 g2 g3 sv lf se) (hr : r < 10) (hs : s < 10) : ∃ b : Int32, (b = 0 ∨ b = 1) ∧ (∀ post : Int32 → Prop, post b → wpX_isStuckBehind post (lN c, ep, st, pt, bs, pr, tk, mk, rs, vl, cl, nb, al, wt, lg, wd, sn, lo, lt, lv, gk, gt, gf, gl, gs, gn, sl, ss, sb, pa, du, oft, bg, av, tt) (nI s) (nI r)) ∧ (∀ post : Int32 → Prop, post b → wpY_isStuck post (nI n, nI m, st, bo, bs, pr, tk, mk, ot, vl, rs, al, wt, so, sq, go, mo, cl, wd, nt, fr, tw, tx, gr, ge, g1, g2, g3, sv, sb, lf, pa, du, av, bg, oft, se, tt, cp) (nI s) (nI r)) := by
  obtain ⟨b, hb, hX, hY⟩ := ra_stuck hB h hr 10 0 s rfl hs
  exact ⟨b, hb, fun post hq => ⟨11, hX post hq⟩, fun post hq => ⟨11, hY post hq⟩⟩
end
