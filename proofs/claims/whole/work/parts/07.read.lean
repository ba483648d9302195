/-! walks that only read -/
section
variable {B c m n : Nat} {st pr bs tk mk vl cl rs al wt wd tt sb pa du oft bg av ep pt nb lg lt lv gk gt gf gl gs gn sl ss bo ot so sq go mo nt fr tw tx gr ge g1 g2 g3 sv lf se cp : Nat → Int32} {sn lo : Nat → Int64}
theorem xl_free_n {post : Int32 → Prop} (hn : ∀ s, s < 10 → st s ≠ 0) (h : post (-1)) : wpX_freeSlot post (lN c, ep, st, pt, bs, pr, tk, mk, rs, vl, cl, nb, al, wt, lg, wd, sn, lo, lt, lv, gk, gt, gf, gl, gs, gn, sl, ss, sb, pa, du, oft, bg, av, tt) := by
  refine ra_run (fun n i => wX_freeSlot_2 post (lN c) ep st pt bs pr tk mk rs vl cl nb al wt lg wd sn lo lt lv gk gt gf gl gs gn sl ss sb pa du oft bg av tt n (nI i)) 10 (fun n => ?_) (fun n i hi ih => ?_)
  · simp (disch := omega) only [wX_freeSlot_2, not_true, not_false_iff, true_implies, false_implies, implies_true, true_and, and_true, forall_eq, eq_self, ra_i, ra_c, ra_m3, ra_m4, ra_m16, ra_4m, ra_14m, ra_16m, nI_add, nI_1, lN_1, ra_p2, ra_2p, ra_n0, ra_p0, ra_q0, ra_q1, ra_q2, ra_q3, ra_n3, ra_n4, ra_n10, ra_n14, ra_n16, ra_n30, ra_n140, ra_y3, ra_y4, ra_y10, ra_y14, ra_y16, ra_y30, ra_y140]
    exact h
  · have := hn i hi
    simp (disch := omega) only [wX_freeSlot_2, this, not_true, not_false_iff, true_implies, false_implies, implies_true, true_and, and_true, forall_eq, eq_self, ra_i, ra_c, ra_m3, ra_m4, ra_m16, ra_4m, ra_14m, ra_16m, nI_add, nI_1, lN_1, ra_p2, ra_2p, ra_n0, ra_p0, ra_q0, ra_q1, ra_q2, ra_q3, ra_n3, ra_n4, ra_n10, ra_n14, ra_n16, ra_n30, ra_n140, ra_y3, ra_y4, ra_y10, ra_y14, ra_y16, ra_y30, ra_y140]
    exact ih
theorem xl_free_s {k : Nat} {post : Int32 → Prop} (hk : k < 10) (h0 : st k = 0) (hn : ∀ s, s < k → st s ≠ 0) (h : post (nI k)) : wpX_freeSlot post (lN c, ep, st, pt, bs, pr, tk, mk, rs, vl, cl, nb, al, wt, lg, wd, sn, lo, lt, lv, gk, gt, gf, gl, gs, gn, sl, ss, sb, pa, du, oft, bg, av, tt) := by
  refine ra_run (fun n i => wX_freeSlot_2 post (lN c) ep st pt bs pr tk mk rs vl cl nb al wt lg wd sn lo lt lv gk gt gf gl gs gn sl ss sb pa du oft bg av tt n (nI i)) k (fun n => ?_) (fun n i hi ih => ?_)
  · simp (disch := omega) only [wX_freeSlot_2, h0, not_true, not_false_iff, true_implies, false_implies, implies_true, true_and, and_true, forall_eq, eq_self, ra_i, ra_c, ra_m3, ra_m4, ra_m16, ra_4m, ra_14m, ra_16m, nI_add, nI_1, lN_1, ra_p2, ra_2p, ra_n0, ra_p0, ra_q0, ra_q1, ra_q2, ra_q3, ra_n3, ra_n4, ra_n10, ra_n14, ra_n16, ra_n30, ra_n140, ra_y3, ra_y4, ra_y10, ra_y14, ra_y16, ra_y30, ra_y140]
    exact h
  · have := hn i hi
    simp (disch := omega) only [wX_freeSlot_2, this, not_true, not_false_iff, true_implies, false_implies, implies_true, true_and, and_true, forall_eq, eq_self, ra_i, ra_c, ra_m3, ra_m4, ra_m16, ra_4m, ra_14m, ra_16m, nI_add, nI_1, lN_1, ra_p2, ra_2p, ra_n0, ra_p0, ra_q0, ra_q1, ra_q2, ra_q3, ra_n3, ra_n4, ra_n10, ra_n14, ra_n16, ra_n30, ra_n140, ra_y3, ra_y4, ra_y10, ra_y14, ra_y16, ra_y30, ra_y140]
    exact ih
theorem yl_free_n {post : Int32 → Prop} (hn : ∀ s, s < 10 → st s ≠ 0) (h : post (-1)) : wpY_free post (nI n, nI m, st, bo, bs, pr, tk, mk, ot, vl, rs, al, wt, so, sq, go, mo, cl, wd, nt, fr, tw, tx, gr, ge, g1, g2, g3, sv, sb, lf, pa, du, av, bg, oft, se, tt, cp) := by
  refine ra_run (fun q i => wY_free_2 post (nI n) (nI m) st bo bs pr tk mk ot vl rs al wt so sq go mo cl wd nt fr tw tx gr ge g1 g2 g3 sv sb lf pa du av bg oft se tt cp q (nI i)) 10 (fun n => ?_) (fun n i hi ih => ?_)
  · simp (disch := omega) only [wY_free_2, not_true, not_false_iff, true_implies, false_implies, implies_true, true_and, and_true, forall_eq, eq_self, ra_i, ra_c, ra_m3, ra_m4, ra_m16, ra_4m, ra_14m, ra_16m, nI_add, nI_1, lN_1, ra_p2, ra_2p, ra_n0, ra_p0, ra_q0, ra_q1, ra_q2, ra_q3, ra_n3, ra_n4, ra_n10, ra_n14, ra_n16, ra_n30, ra_n140, ra_y3, ra_y4, ra_y10, ra_y14, ra_y16, ra_y30, ra_y140]
    exact h
  · have := hn i hi
    simp (disch := omega) only [wY_free_2, this, not_true, not_false_iff, true_implies, false_implies, implies_true, true_and, and_true, forall_eq, eq_self, ra_i, ra_c, ra_m3, ra_m4, ra_m16, ra_4m, ra_14m, ra_16m, nI_add, nI_1, lN_1, ra_p2, ra_2p, ra_n0, ra_p0, ra_q0, ra_q1, ra_q2, ra_q3, ra_n3, ra_n4, ra_n10, ra_n14, ra_n16, ra_n30, ra_n140, ra_y3, ra_y4, ra_y10, ra_y14, ra_y16, ra_y30, ra_y140]
    exact ih
theorem yl_free_s {k : Nat} {post : Int32 → Prop} (hk : k < 10) (h0 : st k = 0) (hn : ∀ s, s < k → st s ≠ 0) (h : post (nI k)) : wpY_free post (nI n, nI m, st, bo, bs, pr, tk, mk, ot, vl, rs, al, wt, so, sq, go, mo, cl, wd, nt, fr, tw, tx, gr, ge, g1, g2, g3, sv, sb, lf, pa, du, av, bg, oft, se, tt, cp) := by
  refine ra_run (fun q i => wY_free_2 post (nI n) (nI m) st bo bs pr tk mk ot vl rs al wt so sq go mo cl wd nt fr tw tx gr ge g1 g2 g3 sv sb lf pa du av bg oft se tt cp q (nI i)) k (fun n => ?_) (fun n i hi ih => ?_)
  · simp (disch := omega) only [wY_free_2, h0, not_true, not_false_iff, true_implies, false_implies, implies_true, true_and, and_true, forall_eq, eq_self, ra_i, ra_c, ra_m3, ra_m4, ra_m16, ra_4m, ra_14m, ra_16m, nI_add, nI_1, lN_1, ra_p2, ra_2p, ra_n0, ra_p0, ra_q0, ra_q1, ra_q2, ra_q3, ra_n3, ra_n4, ra_n10, ra_n14, ra_n16, ra_n30, ra_n140, ra_y3, ra_y4, ra_y10, ra_y14, ra_y16, ra_y30, ra_y140]
    exact h
  · have := hn i hi
    simp (disch := omega) only [wY_free_2, this, not_true, not_false_iff, true_implies, false_implies, implies_true, true_and, and_true, forall_eq, eq_self, ra_i, ra_c, ra_m3, ra_m4, ra_m16, ra_4m, ra_14m, ra_16m, nI_add, nI_1, lN_1, ra_p2, ra_2p, ra_n0, ra_p0, ra_q0, ra_q1, ra_q2, ra_q3, ra_n3, ra_n4, ra_n10, ra_n14, ra_n16, ra_n30, ra_n140, ra_y3, ra_y4, ra_y10, ra_y14, ra_y16, ra_y30, ra_y140]
    exact ih
/-- who runs -/
def ra_q (pr : Nat → Int32) (sn : Nat → Int64) : Nat → Nat → Bool := fun i j => decide (pr i < pr j ∨ (pr i = pr j ∧ sn i < sn j))
def ra_r (st pr : Nat → Int32) (sn : Nat → Int64) (n : Nat) : Option Nat := ra_best (fun i => decide (st i = 1)) (ra_q pr sn) n
theorem xl_runningSlot {post : Int32 → Prop} (h : post (ra_e (ra_r st pr sn 10))) : wpX_runningSlot post (lN c, ep, st, pt, bs, pr, tk, mk, rs, vl, cl, nb, al, wt, lg, wd, sn, lo, lt, lv, gk, gt, gf, gl, gs, gn, sl, ss, sb, pa, du, oft, bg, av, tt) := by
  refine ra_run (fun n i => wX_runningSlot_4 post (lN c) ep st pt bs pr tk mk rs vl cl nb al wt lg wd sn lo lt lv gk gt gf gl gs gn sl ss sb pa du oft bg av tt n (ra_e (ra_r st pr sn i)) (nI i)) 10 (fun n => ?_) (fun n i hi ih => ?_)
  · simp (disch := omega) only [wX_runningSlot_4, not_true, not_false_iff, true_implies, false_implies, implies_true, true_and, and_true, forall_eq, eq_self, ra_i, ra_c, ra_m3, ra_m4, ra_m16, ra_4m, ra_14m, ra_16m, nI_add, nI_1, lN_1, ra_p2, ra_2p, ra_n0, ra_p0, ra_q0, ra_q1, ra_q2, ra_q3, ra_n3, ra_n4, ra_n10, ra_n14, ra_n16, ra_n30, ra_n140, ra_y3, ra_y4, ra_y10, ra_y14, ra_y16, ra_y30, ra_y140]
    exact h
  · have e : ra_r st pr sn (i + 1) = match ra_r st pr sn i with
      | none => if decide (st i = 1) = true then some i else none
      | some b => if (decide (st i = 1) && ra_q pr sn i b) = true then some i else some b := rfl
    rw [e] at ih
    by_cases h1 : st i = 1
    · cases hb : ra_r st pr sn i with
      | none =>
        rw [hb] at ih
        simp only [h1, decide_true, if_true] at ih
        simp (disch := omega) only [wX_runningSlot_4, h1, ra_e, not_true, not_false_iff, true_implies, false_implies, implies_true, true_and, and_true, forall_eq, eq_self, ra_i, ra_c, ra_m3, ra_m4, ra_m16, ra_4m, ra_14m, ra_16m, nI_add, nI_1, lN_1, ra_p2, ra_2p, ra_n0, ra_p0, ra_q0, ra_q1, ra_q2, ra_q3, ra_n3, ra_n4, ra_n10, ra_n14, ra_n16, ra_n30, ra_n140, ra_y3, ra_y4, ra_y10, ra_y14, ra_y16, ra_y30, ra_y140]
        exact ih
      | some b =>
        have hb' : b < 10 := by have := (ra_best_in hb).1; omega
        rw [hb] at ih
        simp only [h1, decide_true, Bool.true_and, ra_q, decide_eq_true_eq] at ih
        simp (disch := omega) only [wX_runningSlot_4, wpX_runsBefore, h1, ra_e, not_true, not_false_iff, true_implies, false_implies, implies_true, true_and, and_true, forall_eq, eq_self, ra_i, ra_c, ra_m3, ra_m4, ra_m16, ra_4m, ra_14m, ra_16m, nI_add, nI_1, lN_1, ra_p2, ra_2p, ra_n0, ra_p0, ra_q0, ra_q1, ra_q2, ra_q3, ra_n3, ra_n4, ra_n10, ra_n14, ra_n16, ra_n30, ra_n140, ra_y3, ra_y4, ra_y10, ra_y14, ra_y16, ra_y30, ra_y140]
        by_cases a : pr i < pr b
        · simp only [a, true_or, if_true] at ih
          simp (disch := omega) only [a, not_true, not_false_iff, true_implies, false_implies, implies_true, true_and, and_true, forall_eq, eq_self, ra_i, ra_c, ra_m3, ra_m4, ra_m16, ra_4m, ra_14m, ra_16m, nI_add, nI_1, lN_1, ra_p2, ra_2p, ra_n0, ra_p0, ra_q0, ra_q1, ra_q2, ra_q3, ra_n3, ra_n4, ra_n10, ra_n14, ra_n16, ra_n30, ra_n140, ra_y3, ra_y4, ra_y10, ra_y14, ra_y16, ra_y30, ra_y140]
          exact ih
        · by_cases a2 : pr i = pr b
          · by_cases a3 : sn i < sn b
            · have a4 : ¬ sn b ≤ sn i := Int64.not_le.mpr a3
              simp only [a, a2, a3, and_self, or_true, if_true] at ih
              simp (disch := omega) only [a, a2, a4, Int32.lt_irrefl, not_true, not_false_iff, true_implies, false_implies, implies_true, true_and, and_true, forall_eq, eq_self, ra_i, ra_c, ra_m3, ra_m4, ra_m16, ra_4m, ra_14m, ra_16m, nI_add, nI_1, lN_1, ra_p2, ra_2p, ra_n0, ra_p0, ra_q0, ra_q1, ra_q2, ra_q3, ra_n3, ra_n4, ra_n10, ra_n14, ra_n16, ra_n30, ra_n140, ra_y3, ra_y4, ra_y10, ra_y14, ra_y16, ra_y30, ra_y140]
              exact ih
            · have a4 : sn b ≤ sn i := Int64.not_lt.mp a3
              simp only [a, a2, a3, and_false, Int32.lt_irrefl, or_self, if_false] at ih
              simp (disch := omega) only [a, a2, a4, Int32.lt_irrefl, not_true, not_false_iff, true_implies, false_implies, implies_true, true_and, and_true, forall_eq, eq_self, ra_i, ra_c, ra_m3, ra_m4, ra_m16, ra_4m, ra_14m, ra_16m, nI_add, nI_1, lN_1, ra_p2, ra_2p, ra_n0, ra_p0, ra_q0, ra_q1, ra_q2, ra_q3, ra_n3, ra_n4, ra_n10, ra_n14, ra_n16, ra_n30, ra_n140, ra_y3, ra_y4, ra_y10, ra_y14, ra_y16, ra_y30, ra_y140]
              exact ih
          · simp only [a, a2, false_and, or_self, if_false] at ih
            simp (disch := omega) only [a, a2, not_true, not_false_iff, true_implies, false_implies, implies_true, true_and, and_true, forall_eq, eq_self, ra_i, ra_c, ra_m3, ra_m4, ra_m16, ra_4m, ra_14m, ra_16m, nI_add, nI_1, lN_1, ra_p2, ra_2p, ra_n0, ra_p0, ra_q0, ra_q1, ra_q2, ra_q3, ra_n3, ra_n4, ra_n10, ra_n14, ra_n16, ra_n30, ra_n140, ra_y3, ra_y4, ra_y10, ra_y14, ra_y16, ra_y30, ra_y140]
            exact ih
    · cases hb : ra_r st pr sn i with
      | none =>
        rw [hb] at ih
        simp only [h1, decide_false, if_false, Bool.false_eq_true] at ih
        simp (disch := omega) only [wX_runningSlot_4, h1, not_true, not_false_iff, true_implies, false_implies, implies_true, true_and, and_true, forall_eq, eq_self, ra_i, ra_c, ra_m3, ra_m4, ra_m16, ra_4m, ra_14m, ra_16m, nI_add, nI_1, lN_1, ra_p2, ra_2p, ra_n0, ra_p0, ra_q0, ra_q1, ra_q2, ra_q3, ra_n3, ra_n4, ra_n10, ra_n14, ra_n16, ra_n30, ra_n140, ra_y3, ra_y4, ra_y10, ra_y14, ra_y16, ra_y30, ra_y140]
        exact ih
      | some b =>
        rw [hb] at ih
        simp only [h1, decide_false, Bool.false_and, if_false, Bool.false_eq_true] at ih
        simp (disch := omega) only [wX_runningSlot_4, h1, not_true, not_false_iff, true_implies, false_implies, implies_true, true_and, and_true, forall_eq, eq_self, ra_i, ra_c, ra_m3, ra_m4, ra_m16, ra_4m, ra_14m, ra_16m, nI_add, nI_1, lN_1, ra_p2, ra_2p, ra_n0, ra_p0, ra_q0, ra_q1, ra_q2, ra_q3, ra_n3, ra_n4, ra_n10, ra_n14, ra_n16, ra_n30, ra_n140, ra_y3, ra_y4, ra_y10, ra_y14, ra_y16, ra_y30, ra_y140]
        exact ih
def ra_qY (pr mo : Nat → Int32) : Nat → Nat → Bool := fun i j => decide (pr i < pr j ∨ (pr i = pr j ∧ mo i < mo j))
def ra_rY (st pr mo : Nat → Int32) (n : Nat) : Option Nat := ra_best (fun i => decide (st i = 1)) (ra_qY pr mo) n
theorem yl_first {post : Int32 → Prop} (h : post (ra_e (ra_rY st pr mo 10))) : wpY_first post (nI n, nI m, st, bo, bs, pr, tk, mk, ot, vl, rs, al, wt, so, sq, go, mo, cl, wd, nt, fr, tw, tx, gr, ge, g1, g2, g3, sv, sb, lf, pa, du, av, bg, oft, se, tt, cp) := by
  refine ra_run (fun q i => wY_first_4 post (nI n) (nI m) st bo bs pr tk mk ot vl rs al wt so sq go mo cl wd nt fr tw tx gr ge g1 g2 g3 sv sb lf pa du av bg oft se tt cp q (ra_e (ra_rY st pr mo i)) (nI i)) 10 (fun n => ?_) (fun n i hi ih => ?_)
  · simp (disch := omega) only [wY_first_4, not_true, not_false_iff, true_implies, false_implies, implies_true, true_and, and_true, forall_eq, eq_self, ra_i, ra_c, ra_m3, ra_m4, ra_m16, ra_4m, ra_14m, ra_16m, nI_add, nI_1, lN_1, ra_p2, ra_2p, ra_n0, ra_p0, ra_q0, ra_q1, ra_q2, ra_q3, ra_n3, ra_n4, ra_n10, ra_n14, ra_n16, ra_n30, ra_n140, ra_y3, ra_y4, ra_y10, ra_y14, ra_y16, ra_y30, ra_y140]
    exact h
  · have e : ra_rY st pr mo (i + 1) = match ra_rY st pr mo i with
      | none => if decide (st i = 1) = true then some i else none
      | some b => if (decide (st i = 1) && ra_qY pr mo i b) = true then some i else some b := rfl
    rw [e] at ih
    by_cases h1 : st i = 1
    · cases hb : ra_rY st pr mo i with
      | none =>
        rw [hb] at ih
        simp only [h1, decide_true, if_true] at ih
        simp (disch := omega) only [wY_first_4, wY_first_25, h1, ra_e, not_true, not_false_iff, true_implies, false_implies, implies_true, true_and, and_true, forall_eq, eq_self, ra_i, ra_c, ra_m3, ra_m4, ra_m16, ra_4m, ra_14m, ra_16m, nI_add, nI_1, lN_1, ra_p2, ra_2p, ra_n0, ra_p0, ra_q0, ra_q1, ra_q2, ra_q3, ra_n3, ra_n4, ra_n10, ra_n14, ra_n16, ra_n30, ra_n140, ra_y3, ra_y4, ra_y10, ra_y14, ra_y16, ra_y30, ra_y140]
        exact ih
      | some b =>
        have hb' : b < 10 := by have := (ra_best_in hb).1; omega
        rw [hb] at ih
        simp only [h1, decide_true, Bool.true_and, ra_qY, decide_eq_true_eq] at ih
        simp (disch := omega) only [wY_first_4, wY_first_25, h1, ra_e, not_true, not_false_iff, true_implies, false_implies, implies_true, true_and, and_true, forall_eq, eq_self, ra_i, ra_c, ra_m3, ra_m4, ra_m16, ra_4m, ra_14m, ra_16m, nI_add, nI_1, lN_1, ra_p2, ra_2p, ra_n0, ra_p0, ra_q0, ra_q1, ra_q2, ra_q3, ra_n3, ra_n4, ra_n10, ra_n14, ra_n16, ra_n30, ra_n140, ra_y3, ra_y4, ra_y10, ra_y14, ra_y16, ra_y30, ra_y140]
        by_cases a : pr i < pr b
        · simp only [a, true_or, if_true] at ih
          simp (disch := omega) only [a, not_true, not_false_iff, true_implies, false_implies, implies_true, true_and, and_true, forall_eq, eq_self, ra_i, ra_c, ra_m3, ra_m4, ra_m16, ra_4m, ra_14m, ra_16m, nI_add, nI_1, lN_1, ra_p2, ra_2p, ra_n0, ra_p0, ra_q0, ra_q1, ra_q2, ra_q3, ra_n3, ra_n4, ra_n10, ra_n14, ra_n16, ra_n30, ra_n140, ra_y3, ra_y4, ra_y10, ra_y14, ra_y16, ra_y30, ra_y140]
          exact ih
        · by_cases a2 : pr i = pr b
          · by_cases a3 : mo i < mo b
            · have a4 : ¬ mo b ≤ mo i := Int32.not_le.mpr a3
              simp only [a, a2, a3, and_self, or_true, if_true] at ih
              simp (disch := omega) only [a, a2, a4, Int32.lt_irrefl, not_true, not_false_iff, true_implies, false_implies, implies_true, true_and, and_true, forall_eq, eq_self, ra_i, ra_c, ra_m3, ra_m4, ra_m16, ra_4m, ra_14m, ra_16m, nI_add, nI_1, lN_1, ra_p2, ra_2p, ra_n0, ra_p0, ra_q0, ra_q1, ra_q2, ra_q3, ra_n3, ra_n4, ra_n10, ra_n14, ra_n16, ra_n30, ra_n140, ra_y3, ra_y4, ra_y10, ra_y14, ra_y16, ra_y30, ra_y140]
              exact ih
            · have a4 : mo b ≤ mo i := Int32.not_lt.mp a3
              simp only [a, a2, a3, and_false, Int32.lt_irrefl, or_self, if_false] at ih
              simp (disch := omega) only [a, a2, a4, Int32.lt_irrefl, not_true, not_false_iff, true_implies, false_implies, implies_true, true_and, and_true, forall_eq, eq_self, ra_i, ra_c, ra_m3, ra_m4, ra_m16, ra_4m, ra_14m, ra_16m, nI_add, nI_1, lN_1, ra_p2, ra_2p, ra_n0, ra_p0, ra_q0, ra_q1, ra_q2, ra_q3, ra_n3, ra_n4, ra_n10, ra_n14, ra_n16, ra_n30, ra_n140, ra_y3, ra_y4, ra_y10, ra_y14, ra_y16, ra_y30, ra_y140]
              exact ih
          · simp only [a, a2, false_and, or_self, if_false] at ih
            simp (disch := omega) only [a, a2, not_true, not_false_iff, true_implies, false_implies, implies_true, true_and, and_true, forall_eq, eq_self, ra_i, ra_c, ra_m3, ra_m4, ra_m16, ra_4m, ra_14m, ra_16m, nI_add, nI_1, lN_1, ra_p2, ra_2p, ra_n0, ra_p0, ra_q0, ra_q1, ra_q2, ra_q3, ra_n3, ra_n4, ra_n10, ra_n14, ra_n16, ra_n30, ra_n140, ra_y3, ra_y4, ra_y10, ra_y14, ra_y16, ra_y30, ra_y140]
            exact ih
    · cases hb : ra_rY st pr mo i with
      | none =>
        rw [hb] at ih
        simp only [h1, decide_false, if_false, Bool.false_eq_true] at ih
        simp (disch := omega) only [wY_first_4, wY_first_25, h1, not_true, not_false_iff, true_implies, false_implies, implies_true, true_and, and_true, forall_eq, eq_self, ra_i, ra_c, ra_m3, ra_m4, ra_m16, ra_4m, ra_14m, ra_16m, nI_add, nI_1, lN_1, ra_p2, ra_2p, ra_n0, ra_p0, ra_q0, ra_q1, ra_q2, ra_q3, ra_n3, ra_n4, ra_n10, ra_n14, ra_n16, ra_n30, ra_n140, ra_y3, ra_y4, ra_y10, ra_y14, ra_y16, ra_y30, ra_y140]
        exact ih
      | some b =>
        rw [hb] at ih
        simp only [h1, decide_false, Bool.false_and, if_false, Bool.false_eq_true] at ih
        simp (disch := omega) only [wY_first_4, wY_first_25, h1, not_true, not_false_iff, true_implies, false_implies, implies_true, true_and, and_true, forall_eq, eq_self, ra_i, ra_c, ra_m3, ra_m4, ra_m16, ra_4m, ra_14m, ra_16m, nI_add, nI_1, lN_1, ra_p2, ra_2p, ra_n0, ra_p0, ra_q0, ra_q1, ra_q2, ra_q3, ra_n3, ra_n4, ra_n10, ra_n14, ra_n16, ra_n30, ra_n140, ra_y3, ra_y4, ra_y10, ra_y14, ra_y16, ra_y30, ra_y140]
        exact ih
theorem ra_r_eq (hB : B ≤ 2 ^ 26) (h : ra_O B c m sn mo) : ra_rY st pr mo 10 = ra_r st pr sn 10 := by
  refine ra_best_eq (fun _ _ => rfl) (fun i j hi hj _ _ => ?_)
  exact decide_eq_decide.mpr (or_congr Iff.rfl (and_congr Iff.rfl (ra_O_lt hB h hi hj).symm))
/-- one that runs, or none: the same on both sides -/
theorem ra_run_both (hB : B ≤ 2 ^ 26) (h : ra_R B c m n st pr tk rs al tt pa bs sb ep pt nb lg sn lo lt lv gk gt gf gl gs gn sl ss bo ot so sq go mo nt fr tw tx gr ge g1 g2 g3 sv lf se) : ((∀ post : Int32 → Prop, post (-1) → wpX_runningSlot post (lN c, ep, st, pt, bs, pr, tk, mk, rs, vl, cl, nb, al, wt, lg, wd, sn, lo, lt, lv, gk, gt, gf, gl, gs, gn, sl, ss, sb, pa, du, oft, bg, av, tt)) ∧ (∀ post : Int32 → Prop, post (-1) → wpY_first post (nI n, nI m, st, bo, bs, pr, tk, mk, ot, vl, rs, al, wt, so, sq, go, mo, cl, wd, nt, fr, tw, tx, gr, ge, g1, g2, g3, sv, sb, lf, pa, du, av, bg, oft, se, tt, cp))) ∨
    ∃ r, r < 10 ∧ st r = 1 ∧ (∀ post : Int32 → Prop, post (nI r) → wpX_runningSlot post (lN c, ep, st, pt, bs, pr, tk, mk, rs, vl, cl, nb, al, wt, lg, wd, sn, lo, lt, lv, gk, gt, gf, gl, gs, gn, sl, ss, sb, pa, du, oft, bg, av, tt)) ∧ (∀ post : Int32 → Prop, post (nI r) → wpY_first post (nI n, nI m, st, bo, bs, pr, tk, mk, ot, vl, rs, al, wt, so, sq, go, mo, cl, wd, nt, fr, tw, tx, gr, ge, g1, g2, g3, sv, sb, lf, pa, du, av, bg, oft, se, tt, cp)) := by
  have e := ra_r_eq (st := st) (pr := pr) hB h.2.1
  cases hb : ra_r st pr sn 10 with
  | none =>
    refine Or.inl ⟨fun post hp => xl_runningSlot ?_, fun post hp => yl_first ?_⟩
    · rw [hb]; exact hp
    · rw [e, hb]; exact hp
  | some r =>
    have hr := ra_best_in hb
    refine Or.inr ⟨r, hr.1, of_decide_eq_true hr.2, fun post hp => xl_runningSlot ?_, fun post hp => yl_first ?_⟩
    · rw [hb]; exact hp
    · rw [e, hb]; exact hp
end
