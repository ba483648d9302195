/-! at: what is counted -/
section
variable {B c m n : Nat} {st pr bs tk mk vl cl rs al wt wd tt sb pa du oft bg av ep pt nb lg lt lv gk gt gf gl gs gn sl ss bo ot so sq go mo nt fr tw tx gr ge g1 g2 g3 sv lf se cp : Nat → Int32} {sn lo : Nat → Int64}
def ra_iq (st ep pt : Nat → Int32) (s : Nat) (i : Nat) : Bool := decide (st i = 2 ∧ pt i = ep s)
theorem xl_queueLength {s : Nat} {post : Int32 → Prop} (hs : s < 10) (h : post (nI (ra_cn (ra_iq st ep pt s) 10))) : wpX_queueLength post (lN c, ep, st, pt, bs, pr, tk, mk, rs, vl, cl, nb, al, wt, lg, wd, sn, lo, lt, lv, gk, gt, gf, gl, gs, gn, sl, ss, sb, pa, du, oft, bg, av, tt) (nI s) := by
  refine ra_run (fun n i => wX_queueLength_4 post (nI s) (lN c) ep st pt bs pr tk mk rs vl cl nb al wt lg wd sn lo lt lv gk gt gf gl gs gn sl ss sb pa du oft bg av tt n (nI (ra_cn (ra_iq st ep pt s) i)) (nI i)) 10 (fun n => ?_) (fun n i hi ih => ?_)
  · simp (disch := omega) only [wX_queueLength_4, not_true, not_false_iff, true_implies, false_implies, implies_true, true_and, and_true, forall_eq, eq_self, ra_i, ra_c, ra_m3, ra_m4, ra_m16, ra_4m, ra_14m, ra_16m, nI_add, nI_1, lN_1, ra_p2, ra_2p, ra_n0, ra_p0, ra_q0, ra_q1, ra_q2, ra_q3, ra_n3, ra_n4, ra_n10, ra_n14, ra_n16, ra_n30, ra_n140, ra_y3, ra_y4, ra_y10, ra_y14, ra_y16, ra_y30, ra_y140]
    exact h
  · have e : ra_cn (ra_iq st ep pt s) (i + 1) = ra_cn (ra_iq st ep pt s) i + (if ra_iq st ep pt s i = true then 1 else 0) := rfl
    rw [e] at ih
    by_cases a : st i = 2
    · by_cases b : pt i = ep s
      · rw [if_pos (show ra_iq st ep pt s i = true from decide_eq_true ⟨a, b⟩)] at ih
        simp (disch := omega) only [wX_queueLength_4, wpX_isInQueue, a, b, not_true, not_false_iff, true_implies, false_implies, implies_true, true_and, and_true, forall_eq, eq_self, ra_i, ra_c, ra_m3, ra_m4, ra_m16, ra_4m, ra_14m, ra_16m, nI_add, nI_1, lN_1, ra_p2, ra_2p, ra_n0, ra_p0, ra_q0, ra_q1, ra_q2, ra_q3, ra_n3, ra_n4, ra_n10, ra_n14, ra_n16, ra_n30, ra_n140, ra_y3, ra_y4, ra_y10, ra_y14, ra_y16, ra_y30, ra_y140]
        exact ih
      · rw [if_neg (fun z => b (of_decide_eq_true z).2)] at ih
        simp (disch := omega) only [wX_queueLength_4, wpX_isInQueue, a, b, not_true, not_false_iff, true_implies, false_implies, implies_true, true_and, and_true, forall_eq, eq_self, ra_i, ra_c, ra_m3, ra_m4, ra_m16, ra_4m, ra_14m, ra_16m, nI_add, nI_1, lN_1, ra_p2, ra_2p, ra_n0, ra_p0, ra_q0, ra_q1, ra_q2, ra_q3, ra_n3, ra_n4, ra_n10, ra_n14, ra_n16, ra_n30, ra_n140, ra_y3, ra_y4, ra_y10, ra_y14, ra_y16, ra_y30, ra_y140]
        exact ih
    · rw [if_neg (fun z => a (of_decide_eq_true z).1)] at ih
      simp (disch := omega) only [wX_queueLength_4, wpX_isInQueue, a, not_true, not_false_iff, true_implies, false_implies, implies_true, true_and, and_true, forall_eq, eq_self, ra_i, ra_c, ra_m3, ra_m4, ra_m16, ra_4m, ra_14m, ra_16m, nI_add, nI_1, lN_1, ra_p2, ra_2p, ra_n0, ra_p0, ra_q0, ra_q1, ra_q2, ra_q3, ra_n3, ra_n4, ra_n10, ra_n14, ra_n16, ra_n30, ra_n140, ra_y3, ra_y4, ra_y10, ra_y14, ra_y16, ra_y30, ra_y140]
      exact ih
theorem ra_cl3 {i : Nat} (h : i < 3) : ¬ ((3 : Int32) ≤ nI i) := nI_ge (b := 3) h (by decide)
theorem xl_noteCount {s : Nat} {post : Int32 → Prop} (hs : s < 10) (h : post (nI (ra_cn (fun k => bt (nb s) k) 14))) : wpX_noteCount post (lN c, ep, st, pt, bs, pr, tk, mk, rs, vl, cl, nb, al, wt, lg, wd, sn, lo, lt, lv, gk, gt, gf, gl, gs, gn, sl, ss, sb, pa, du, oft, bg, av, tt) (nI s) := by
  refine ra_run (fun n i => wX_noteCount_4 post (nI s) (lN c) ep st pt bs pr tk mk rs vl cl nb al wt lg wd sn lo lt lv gk gt gf gl gs gn sl ss sb pa du oft bg av tt n (nI (ra_cn (fun k => bt (nb s) k) i)) (nI i)) 14 (fun n => ?_) (fun n i hi ih => ?_)
  · simp (disch := omega) only [wX_noteCount_4, not_true, not_false_iff, true_implies, false_implies, implies_true, true_and, and_true, forall_eq, eq_self, ra_i, ra_c, ra_m3, ra_m4, ra_m16, ra_4m, ra_14m, ra_16m, nI_add, nI_1, lN_1, ra_p2, ra_2p, ra_n0, ra_p0, ra_q0, ra_q1, ra_q2, ra_q3, ra_n3, ra_n4, ra_n10, ra_n14, ra_n16, ra_n30, ra_n140, ra_y3, ra_y4, ra_y10, ra_y14, ra_y16, ra_y30, ra_y140]
    exact h
  · have e : ra_cn (fun k => bt (nb s) k) (i + 1) = ra_cn (fun k => bt (nb s) k) i + (if bt (nb s) i = true then 1 else 0) := rfl
    have bb := ra_bit (nb s) (k := i) (by omega)
    rw [e] at ih
    by_cases a : bt (nb s) i = true
    · rw [if_pos a] at ih bb
      simp (disch := omega) only [wX_noteCount_4, bb, not_true, not_false_iff, true_implies, false_implies, implies_true, true_and, and_true, forall_eq, eq_self, ra_i, ra_c, ra_m3, ra_m4, ra_m16, ra_4m, ra_14m, ra_16m, nI_add, nI_1, lN_1, ra_p2, ra_2p, ra_n0, ra_p0, ra_q0, ra_q1, ra_q2, ra_q3, ra_n3, ra_n4, ra_n10, ra_n14, ra_n16, ra_n30, ra_n140, ra_y3, ra_y4, ra_y10, ra_y14, ra_y16, ra_y30, ra_y140]
      exact ih
    · rw [if_neg a] at ih bb
      simp (disch := omega) only [wX_noteCount_4, bb, Int32.add_zero, not_true, not_false_iff, true_implies, false_implies, implies_true, true_and, and_true, forall_eq, eq_self, ra_i, ra_c, ra_m3, ra_m4, ra_m16, ra_4m, ra_14m, ra_16m, nI_add, nI_1, lN_1, ra_p2, ra_2p, ra_n0, ra_p0, ra_q0, ra_q1, ra_q2, ra_q3, ra_n3, ra_n4, ra_n10, ra_n14, ra_n16, ra_n30, ra_n140, ra_y3, ra_y4, ra_y10, ra_y14, ra_y16, ra_y30, ra_y140]
      exact ih
theorem xl_lettersFor {s : Nat} {post : Int32 → Prop} (h : post (nI (ra_cn (fun p => decide (¬ lo p = 0) && decide (lt p = nI s)) 30))) : wpX_lettersFor post (lN c, ep, st, pt, bs, pr, tk, mk, rs, vl, cl, nb, al, wt, lg, wd, sn, lo, lt, lv, gk, gt, gf, gl, gs, gn, sl, ss, sb, pa, du, oft, bg, av, tt) (nI s) := by
  refine ra_run (fun n i => wX_lettersFor_4 post (nI s) (lN c) ep st pt bs pr tk mk rs vl cl nb al wt lg wd sn lo lt lv gk gt gf gl gs gn sl ss sb pa du oft bg av tt n (nI (ra_cn (fun p => decide (¬ lo p = 0) && decide (lt p = nI s)) i)) (nI i)) 30 (fun n => ?_) (fun n i hi ih => ?_)
  · simp (disch := omega) only [wX_lettersFor_4, not_true, not_false_iff, true_implies, false_implies, implies_true, true_and, and_true, forall_eq, eq_self, ra_i, ra_c, ra_m3, ra_m4, ra_m16, ra_4m, ra_14m, ra_16m, nI_add, nI_1, lN_1, ra_p2, ra_2p, ra_n0, ra_p0, ra_q0, ra_q1, ra_q2, ra_q3, ra_n3, ra_n4, ra_n10, ra_n14, ra_n16, ra_n30, ra_n140, ra_y3, ra_y4, ra_y10, ra_y14, ra_y16, ra_y30, ra_y140]
    exact h
  · have e : ra_cn (fun p => decide (¬ lo p = 0) && decide (lt p = nI s)) (i + 1) = ra_cn (fun p => decide (¬ lo p = 0) && decide (lt p = nI s)) i + (if (decide (¬ lo i = 0) && decide (lt i = nI s)) = true then 1 else 0) := rfl
    rw [e] at ih
    by_cases a : lo i = 0
    · rw [if_neg (by rw [decide_eq_false (p := ¬ lo i = 0) (fun z => z a)]; simp)] at ih
      simp (disch := omega) only [wX_lettersFor_4, wpX_isLetterFor, a, not_true, not_false_iff, true_implies, false_implies, implies_true, true_and, and_true, forall_eq, eq_self, ra_i, ra_c, ra_m3, ra_m4, ra_m16, ra_4m, ra_14m, ra_16m, nI_add, nI_1, lN_1, ra_p2, ra_2p, ra_n0, ra_p0, ra_q0, ra_q1, ra_q2, ra_q3, ra_n3, ra_n4, ra_n10, ra_n14, ra_n16, ra_n30, ra_n140, ra_y3, ra_y4, ra_y10, ra_y14, ra_y16, ra_y30, ra_y140]
      exact ih
    · by_cases b : lt i = nI s
      · rw [if_pos (by rw [decide_eq_true (p := ¬ lo i = 0) a, decide_eq_true b]; rfl)] at ih
        simp (disch := omega) only [wX_lettersFor_4, wpX_isLetterFor, a, b, not_true, not_false_iff, true_implies, false_implies, implies_true, true_and, and_true, forall_eq, eq_self, ra_i, ra_c, ra_m3, ra_m4, ra_m16, ra_4m, ra_14m, ra_16m, nI_add, nI_1, lN_1, ra_p2, ra_2p, ra_n0, ra_p0, ra_q0, ra_q1, ra_q2, ra_q3, ra_n3, ra_n4, ra_n10, ra_n14, ra_n16, ra_n30, ra_n140, ra_y3, ra_y4, ra_y10, ra_y14, ra_y16, ra_y30, ra_y140]
        exact ih
      · rw [if_neg (by rw [decide_eq_false b, Bool.and_false]; simp)] at ih
        simp (disch := omega) only [wX_lettersFor_4, wpX_isLetterFor, a, b, not_true, not_false_iff, true_implies, false_implies, implies_true, true_and, and_true, forall_eq, eq_self, ra_i, ra_c, ra_m3, ra_m4, ra_m16, ra_4m, ra_14m, ra_16m, nI_add, nI_1, lN_1, ra_p2, ra_2p, ra_n0, ra_p0, ra_q0, ra_q1, ra_q2, ra_q3, ra_n3, ra_n4, ra_n10, ra_n14, ra_n16, ra_n30, ra_n140, ra_y3, ra_y4, ra_y10, ra_y14, ra_y16, ra_y30, ra_y140]
        exact ih
theorem xl_lettersFrom {s : Nat} {post : Int32 → Prop} (hs : s < 10) (h : post (nI (ra_cn (fun i => decide (¬ lo (3 * s + i) = 0)) 3))) : wpX_lettersFrom post (lN c, ep, st, pt, bs, pr, tk, mk, rs, vl, cl, nb, al, wt, lg, wd, sn, lo, lt, lv, gk, gt, gf, gl, gs, gn, sl, ss, sb, pa, du, oft, bg, av, tt) (nI s) := by
  refine ra_run (fun n i => wX_lettersFrom_4 post (nI s) (lN c) ep st pt bs pr tk mk rs vl cl nb al wt lg wd sn lo lt lv gk gt gf gl gs gn sl ss sb pa du oft bg av tt n (nI (ra_cn (fun i => decide (¬ lo (3 * s + i) = 0)) i)) (nI i)) 3 (fun n => ?_) (fun n i hi ih => ?_)
  · simp (disch := omega) only [wX_lettersFrom_4, not_true, not_false_iff, true_implies, false_implies, implies_true, true_and, and_true, forall_eq, eq_self, ra_i, ra_c, ra_m3, ra_m4, ra_m16, ra_4m, ra_14m, ra_16m, nI_add, nI_1, lN_1, ra_p2, ra_2p, ra_n0, ra_p0, ra_q0, ra_q1, ra_q2, ra_q3, ra_n3, ra_n4, ra_n10, ra_n14, ra_n16, ra_n30, ra_n140, ra_y3, ra_y4, ra_y10, ra_y14, ra_y16, ra_y30, ra_y140]
    exact h
  · have e : ra_cn (fun i => decide (¬ lo (3 * s + i) = 0)) (i + 1) = ra_cn (fun i => decide (¬ lo (3 * s + i) = 0)) i + (if decide (¬ lo (3 * s + i) = 0) = true then 1 else 0) := rfl
    rw [e] at ih
    by_cases a : lo (3 * s + i) = 0
    · rw [if_neg (show ¬ decide (¬ lo (3 * s + i) = 0) = true from fun z => of_decide_eq_true z a)] at ih
      simp (disch := omega) only [wX_lettersFrom_4, a, not_true, not_false_iff, true_implies, false_implies, implies_true, true_and, and_true, forall_eq, eq_self, ra_i, ra_c, ra_m3, ra_m4, ra_m16, ra_4m, ra_14m, ra_16m, nI_add, nI_1, lN_1, ra_p2, ra_2p, ra_n0, ra_p0, ra_q0, ra_q1, ra_q2, ra_q3, ra_n3, ra_n4, ra_n10, ra_n14, ra_n16, ra_n30, ra_n140, ra_y3, ra_y4, ra_y10, ra_y14, ra_y16, ra_y30, ra_y140]
      exact ih
    · rw [if_pos (decide_eq_true a)] at ih
      simp (disch := omega) only [wX_lettersFrom_4, a, not_true, not_false_iff, true_implies, false_implies, implies_true, true_and, and_true, forall_eq, eq_self, ra_i, ra_c, ra_m3, ra_m4, ra_m16, ra_4m, ra_14m, ra_16m, nI_add, nI_1, lN_1, ra_p2, ra_2p, ra_n0, ra_p0, ra_q0, ra_q1, ra_q2, ra_q3, ra_n3, ra_n4, ra_n10, ra_n14, ra_n16, ra_n30, ra_n140, ra_y3, ra_y4, ra_y10, ra_y14, ra_y16, ra_y30, ra_y140]
      exact ih
def ra_pl (st pr : Nat → Int32) (sn : Nat → Int64) (s i : Nat) : Bool := decide (st i = 1 ∧ pr i = pr s ∧ sn i < sn s)
theorem xl_placeInRow {s : Nat} {post : Int32 → Prop} (hs : s < 10) (h1 : st s = 1) (h : post (nI (ra_cn (ra_pl st pr sn s) 10))) : wpX_placeInRow post (lN c, ep, st, pt, bs, pr, tk, mk, rs, vl, cl, nb, al, wt, lg, wd, sn, lo, lt, lv, gk, gt, gf, gl, gs, gn, sl, ss, sb, pa, du, oft, bg, av, tt) (nI s) := by
  simp (disch := omega) only [wpX_placeInRow, h1, not_true, not_false_iff, true_implies, false_implies, implies_true, true_and, and_true, forall_eq, eq_self, ra_i, ra_c, ra_m3, ra_m4, ra_m16, ra_4m, ra_14m, ra_16m, nI_add, nI_1, lN_1, ra_p2, ra_2p, ra_n0, ra_p0, ra_q0, ra_q1, ra_q2, ra_q3, ra_n3, ra_n4, ra_n10, ra_n14, ra_n16, ra_n30, ra_n140, ra_y3, ra_y4, ra_y10, ra_y14, ra_y16, ra_y30, ra_y140]
  refine ra_run (fun n i => wX_placeInRow_16 post (nI s) (lN c) ep st pt bs pr tk mk rs vl cl nb al wt lg wd sn lo lt lv gk gt gf gl gs gn sl ss sb pa du oft bg av tt n (nI (ra_cn (ra_pl st pr sn s) i)) (nI i)) 10 (fun n => ?_) (fun n i hi ih => ?_)
  · simp (disch := omega) only [wX_placeInRow_16, not_true, not_false_iff, true_implies, false_implies, implies_true, true_and, and_true, forall_eq, eq_self, ra_i, ra_c, ra_m3, ra_m4, ra_m16, ra_4m, ra_14m, ra_16m, nI_add, nI_1, lN_1, ra_p2, ra_2p, ra_n0, ra_p0, ra_q0, ra_q1, ra_q2, ra_q3, ra_n3, ra_n4, ra_n10, ra_n14, ra_n16, ra_n30, ra_n140, ra_y3, ra_y4, ra_y10, ra_y14, ra_y16, ra_y30, ra_y140]
    exact h
  · have e : ra_cn (ra_pl st pr sn s) (i + 1) = ra_cn (ra_pl st pr sn s) i + (if ra_pl st pr sn s i = true then 1 else 0) := rfl
    rw [e] at ih
    by_cases a : st i = 1
    · by_cases b : pr i = pr s
      · by_cases d : sn i < sn s
        · have d' : ¬ sn s ≤ sn i := Int64.not_le.mpr d
          rw [if_pos (show ra_pl st pr sn s i = true from decide_eq_true ⟨a, b, d⟩)] at ih
          simp (disch := omega) only [wX_placeInRow_16, a, b, d', not_true, not_false_iff, true_implies, false_implies, implies_true, true_and, and_true, forall_eq, eq_self, ra_i, ra_c, ra_m3, ra_m4, ra_m16, ra_4m, ra_14m, ra_16m, nI_add, nI_1, lN_1, ra_p2, ra_2p, ra_n0, ra_p0, ra_q0, ra_q1, ra_q2, ra_q3, ra_n3, ra_n4, ra_n10, ra_n14, ra_n16, ra_n30, ra_n140, ra_y3, ra_y4, ra_y10, ra_y14, ra_y16, ra_y30, ra_y140]
          exact ih
        · have d' : sn s ≤ sn i := Int64.not_lt.mp d
          rw [if_neg (fun z => d (of_decide_eq_true z).2.2)] at ih
          simp (disch := omega) only [wX_placeInRow_16, a, b, d', not_true, not_false_iff, true_implies, false_implies, implies_true, true_and, and_true, forall_eq, eq_self, ra_i, ra_c, ra_m3, ra_m4, ra_m16, ra_4m, ra_14m, ra_16m, nI_add, nI_1, lN_1, ra_p2, ra_2p, ra_n0, ra_p0, ra_q0, ra_q1, ra_q2, ra_q3, ra_n3, ra_n4, ra_n10, ra_n14, ra_n16, ra_n30, ra_n140, ra_y3, ra_y4, ra_y10, ra_y14, ra_y16, ra_y30, ra_y140]
          exact ih
      · rw [if_neg (fun z => b (of_decide_eq_true z).2.1)] at ih
        simp (disch := omega) only [wX_placeInRow_16, a, b, not_true, not_false_iff, true_implies, false_implies, implies_true, true_and, and_true, forall_eq, eq_self, ra_i, ra_c, ra_m3, ra_m4, ra_m16, ra_4m, ra_14m, ra_16m, nI_add, nI_1, lN_1, ra_p2, ra_2p, ra_n0, ra_p0, ra_q0, ra_q1, ra_q2, ra_q3, ra_n3, ra_n4, ra_n10, ra_n14, ra_n16, ra_n30, ra_n140, ra_y3, ra_y4, ra_y10, ra_y14, ra_y16, ra_y30, ra_y140]
        exact ih
    · rw [if_neg (fun z => a (of_decide_eq_true z).1)] at ih
      simp (disch := omega) only [wX_placeInRow_16, a, not_true, not_false_iff, true_implies, false_implies, implies_true, true_and, and_true, forall_eq, eq_self, ra_i, ra_c, ra_m3, ra_m4, ra_m16, ra_4m, ra_14m, ra_16m, nI_add, nI_1, lN_1, ra_p2, ra_2p, ra_n0, ra_p0, ra_q0, ra_q1, ra_q2, ra_q3, ra_n3, ra_n4, ra_n10, ra_n14, ra_n16, ra_n30, ra_n140, ra_y3, ra_y4, ra_y10, ra_y14, ra_y16, ra_y30, ra_y140]
      exact ih
def ra_plY (st pr mo : Nat → Int32) (s i : Nat) : Bool := decide (st i = 1 ∧ pr i = pr s ∧ mo i < mo s)
theorem yl_placeOf {s : Nat} {post : Int32 → Prop} (hs : s < 10) (h1 : st s = 1) (h : post (nI (ra_cn (ra_plY st pr mo s) 10))) : wpY_placeOf post (nI n, nI m, st, bo, bs, pr, tk, mk, ot, vl, rs, al, wt, so, sq, go, mo, cl, wd, nt, fr, tw, tx, gr, ge, g1, g2, g3, sv, sb, lf, pa, du, av, bg, oft, se, tt, cp) (nI s) := by
  simp (disch := omega) only [wpY_placeOf, h1, not_true, not_false_iff, true_implies, false_implies, implies_true, true_and, and_true, forall_eq, eq_self, ra_i, ra_c, ra_m3, ra_m4, ra_m16, ra_4m, ra_14m, ra_16m, nI_add, nI_1, lN_1, ra_p2, ra_2p, ra_n0, ra_p0, ra_q0, ra_q1, ra_q2, ra_q3, ra_n3, ra_n4, ra_n10, ra_n14, ra_n16, ra_n30, ra_n140, ra_y3, ra_y4, ra_y10, ra_y14, ra_y16, ra_y30, ra_y140]
  refine ra_run (fun q i => wY_placeOf_16 post (nI s) (nI n) (nI m) st bo bs pr tk mk ot vl rs al wt so sq go mo cl wd nt fr tw tx gr ge g1 g2 g3 sv sb lf pa du av bg oft se tt cp q (nI (ra_cn (ra_plY st pr mo s) i)) (nI i)) 10 (fun q => ?_) (fun q i hi ih => ?_)
  · simp (disch := omega) only [wY_placeOf_16, not_true, not_false_iff, true_implies, false_implies, implies_true, true_and, and_true, forall_eq, eq_self, ra_i, ra_c, ra_m3, ra_m4, ra_m16, ra_4m, ra_14m, ra_16m, nI_add, nI_1, lN_1, ra_p2, ra_2p, ra_n0, ra_p0, ra_q0, ra_q1, ra_q2, ra_q3, ra_n3, ra_n4, ra_n10, ra_n14, ra_n16, ra_n30, ra_n140, ra_y3, ra_y4, ra_y10, ra_y14, ra_y16, ra_y30, ra_y140]
    exact h
  · have e : ra_cn (ra_plY st pr mo s) (i + 1) = ra_cn (ra_plY st pr mo s) i + (if ra_plY st pr mo s i = true then 1 else 0) := rfl
    rw [e] at ih
    by_cases a : st i = 1
    · by_cases b : pr i = pr s
      · by_cases d : mo i < mo s
        · have d' : ¬ mo s ≤ mo i := Int32.not_le.mpr d
          rw [if_pos (show ra_plY st pr mo s i = true from decide_eq_true ⟨a, b, d⟩)] at ih
          simp (disch := omega) only [wY_placeOf_16, a, b, d', not_true, not_false_iff, true_implies, false_implies, implies_true, true_and, and_true, forall_eq, eq_self, ra_i, ra_c, ra_m3, ra_m4, ra_m16, ra_4m, ra_14m, ra_16m, nI_add, nI_1, lN_1, ra_p2, ra_2p, ra_n0, ra_p0, ra_q0, ra_q1, ra_q2, ra_q3, ra_n3, ra_n4, ra_n10, ra_n14, ra_n16, ra_n30, ra_n140, ra_y3, ra_y4, ra_y10, ra_y14, ra_y16, ra_y30, ra_y140]
          exact ih
        · have d' : mo s ≤ mo i := Int32.not_lt.mp d
          rw [if_neg (fun z => d (of_decide_eq_true z).2.2)] at ih
          simp (disch := omega) only [wY_placeOf_16, a, b, d', not_true, not_false_iff, true_implies, false_implies, implies_true, true_and, and_true, forall_eq, eq_self, ra_i, ra_c, ra_m3, ra_m4, ra_m16, ra_4m, ra_14m, ra_16m, nI_add, nI_1, lN_1, ra_p2, ra_2p, ra_n0, ra_p0, ra_q0, ra_q1, ra_q2, ra_q3, ra_n3, ra_n4, ra_n10, ra_n14, ra_n16, ra_n30, ra_n140, ra_y3, ra_y4, ra_y10, ra_y14, ra_y16, ra_y30, ra_y140]
          exact ih
      · rw [if_neg (fun z => b (of_decide_eq_true z).2.1)] at ih
        simp (disch := omega) only [wY_placeOf_16, a, b, not_true, not_false_iff, true_implies, false_implies, implies_true, true_and, and_true, forall_eq, eq_self, ra_i, ra_c, ra_m3, ra_m4, ra_m16, ra_4m, ra_14m, ra_16m, nI_add, nI_1, lN_1, ra_p2, ra_2p, ra_n0, ra_p0, ra_q0, ra_q1, ra_q2, ra_q3, ra_n3, ra_n4, ra_n10, ra_n14, ra_n16, ra_n30, ra_n140, ra_y3, ra_y4, ra_y10, ra_y14, ra_y16, ra_y30, ra_y140]
        exact ih
    · rw [if_neg (fun z => a (of_decide_eq_true z).1)] at ih
      simp (disch := omega) only [wY_placeOf_16, a, not_true, not_false_iff, true_implies, false_implies, implies_true, true_and, and_true, forall_eq, eq_self, ra_i, ra_c, ra_m3, ra_m4, ra_m16, ra_4m, ra_14m, ra_16m, nI_add, nI_1, lN_1, ra_p2, ra_2p, ra_n0, ra_p0, ra_q0, ra_q1, ra_q2, ra_q3, ra_n3, ra_n4, ra_n10, ra_n14, ra_n16, ra_n30, ra_n140, ra_y3, ra_y4, ra_y10, ra_y14, ra_y16, ra_y30, ra_y140]
      exact ih
/-! Y's counted: three loops, of which one counts -/
theorem yl_c95_0 {s : Nat} {w z : Int32} {post : Int32 → Prop} (hn : n ≤ 30) (hw : w ≤ 6) (h : post z) : ∃ q, wY_counted_95 post (nI s) w (nI n) (nI m) st bo bs pr tk mk ot vl rs al wt so sq go mo cl wd nt fr tw tx gr ge g1 g2 g3 sv sb lf pa du av bg oft se tt cp q z 0 := by
  refine ⟨1, ?_⟩
  rw [wY_counted_95]
  exact br_c (fun _ => h) (fun _ => br_t hw h)
theorem yl_c95_7 {s : Nat} {post : Int32 → Prop} (hn : n ≤ 30) (h : post (nI (ra_cn (fun j => decide (tw j = nI s)) n))) : ∃ q, wY_counted_95 post (nI s) 7 (nI n) (nI m) st bo bs pr tk mk ot vl rs al wt so sq go mo cl wd nt fr tw tx gr ge g1 g2 g3 sv sb lf pa du av bg oft se tt cp q 0 0 := by
  have w6 : ¬ (7 : Int32) ≤ 6 := by decide
  refine ra_run (fun q i => wY_counted_95 post (nI s) 7 (nI n) (nI m) st bo bs pr tk mk ot vl rs al wt so sq go mo cl wd nt fr tw tx gr ge g1 g2 g3 sv sb lf pa du av bg oft se tt cp q (nI (ra_cn (fun j => decide (tw j = nI s)) i)) (nI i)) n (fun q => ?_) (fun q i hi ih => ?_)
  · have le : nI n ≤ nI n := Int32.le_refl _
    simp (disch := omega) only [wY_counted_95, le, not_true, not_false_iff, true_implies, false_implies, implies_true, true_and, and_true, forall_eq, eq_self, ra_i, ra_c, ra_m3, ra_m4, ra_m16, ra_4m, ra_14m, ra_16m, nI_add, nI_1, lN_1, ra_p2, ra_2p, ra_n0, ra_p0, ra_q0, ra_q1, ra_q2, ra_q3, ra_n3, ra_n4, ra_n10, ra_n14, ra_n16, ra_n30, ra_n140, ra_y3, ra_y4, ra_y10, ra_y14, ra_y16, ra_y30, ra_y140]
    exact h
  · have le : ¬ nI n ≤ nI i := nI_ge (by omega) (by omega)
    have e : ra_cn (fun j => decide (tw j = nI s)) (i + 1) = ra_cn (fun j => decide (tw j = nI s)) i + (if decide (tw i = nI s) = true then 1 else 0) := rfl
    rw [e] at ih
    by_cases a : tw i = nI s
    · rw [if_pos (decide_eq_true a)] at ih
      simp (disch := omega) only [wY_counted_95, wY_counted_133, le, w6, a, not_true, not_false_iff, true_implies, false_implies, implies_true, true_and, and_true, forall_eq, eq_self, ra_i, ra_c, ra_m3, ra_m4, ra_m16, ra_4m, ra_14m, ra_16m, nI_add, nI_1, lN_1, ra_p2, ra_2p, ra_n0, ra_p0, ra_q0, ra_q1, ra_q2, ra_q3, ra_n3, ra_n4, ra_n10, ra_n14, ra_n16, ra_n30, ra_n140, ra_y3, ra_y4, ra_y10, ra_y14, ra_y16, ra_y30, ra_y140]
      exact ih
    · rw [if_neg (fun z => a (of_decide_eq_true z))] at ih
      simp (disch := omega) only [wY_counted_95, wY_counted_133, le, w6, a, not_true, not_false_iff, true_implies, false_implies, implies_true, true_and, and_true, forall_eq, eq_self, ra_i, ra_c, ra_m3, ra_m4, ra_m16, ra_4m, ra_14m, ra_16m, nI_add, nI_1, lN_1, ra_p2, ra_2p, ra_n0, ra_p0, ra_q0, ra_q1, ra_q2, ra_q3, ra_n3, ra_n4, ra_n10, ra_n14, ra_n16, ra_n30, ra_n140, ra_y3, ra_y4, ra_y10, ra_y14, ra_y16, ra_y30, ra_y140]
      exact ih
theorem yl_c95_8 {s : Nat} {post : Int32 → Prop} (hn : n ≤ 30) (h : post (nI (ra_cn (fun j => decide (fr j = nI s)) n))) : ∃ q, wY_counted_95 post (nI s) 8 (nI n) (nI m) st bo bs pr tk mk ot vl rs al wt so sq go mo cl wd nt fr tw tx gr ge g1 g2 g3 sv sb lf pa du av bg oft se tt cp q 0 0 := by
  have w6 : ¬ (8 : Int32) ≤ 6 := by decide
  have w7 : ¬ (8 : Int32) = 7 := by decide
  refine ra_run (fun q i => wY_counted_95 post (nI s) 8 (nI n) (nI m) st bo bs pr tk mk ot vl rs al wt so sq go mo cl wd nt fr tw tx gr ge g1 g2 g3 sv sb lf pa du av bg oft se tt cp q (nI (ra_cn (fun j => decide (fr j = nI s)) i)) (nI i)) n (fun q => ?_) (fun q i hi ih => ?_)
  · have le : nI n ≤ nI n := Int32.le_refl _
    simp (disch := omega) only [wY_counted_95, le, not_true, not_false_iff, true_implies, false_implies, implies_true, true_and, and_true, forall_eq, eq_self, ra_i, ra_c, ra_m3, ra_m4, ra_m16, ra_4m, ra_14m, ra_16m, nI_add, nI_1, lN_1, ra_p2, ra_2p, ra_n0, ra_p0, ra_q0, ra_q1, ra_q2, ra_q3, ra_n3, ra_n4, ra_n10, ra_n14, ra_n16, ra_n30, ra_n140, ra_y3, ra_y4, ra_y10, ra_y14, ra_y16, ra_y30, ra_y140]
    exact h
  · have le : ¬ nI n ≤ nI i := nI_ge (by omega) (by omega)
    have e : ra_cn (fun j => decide (fr j = nI s)) (i + 1) = ra_cn (fun j => decide (fr j = nI s)) i + (if decide (fr i = nI s) = true then 1 else 0) := rfl
    rw [e] at ih
    by_cases a : fr i = nI s
    · rw [if_pos (decide_eq_true a)] at ih
      simp (disch := omega) only [wY_counted_95, wY_counted_133, le, w6, w7, a, not_true, not_false_iff, true_implies, false_implies, implies_true, true_and, and_true, forall_eq, eq_self, ra_i, ra_c, ra_m3, ra_m4, ra_m16, ra_4m, ra_14m, ra_16m, nI_add, nI_1, lN_1, ra_p2, ra_2p, ra_n0, ra_p0, ra_q0, ra_q1, ra_q2, ra_q3, ra_n3, ra_n4, ra_n10, ra_n14, ra_n16, ra_n30, ra_n140, ra_y3, ra_y4, ra_y10, ra_y14, ra_y16, ra_y30, ra_y140]
      exact ih
    · rw [if_neg (fun z => a (of_decide_eq_true z))] at ih
      simp (disch := omega) only [wY_counted_95, wY_counted_133, le, w6, w7, a, not_true, not_false_iff, true_implies, false_implies, implies_true, true_and, and_true, forall_eq, eq_self, ra_i, ra_c, ra_m3, ra_m4, ra_m16, ra_4m, ra_14m, ra_16m, nI_add, nI_1, lN_1, ra_p2, ra_2p, ra_n0, ra_p0, ra_q0, ra_q1, ra_q2, ra_q3, ra_n3, ra_n4, ra_n10, ra_n14, ra_n16, ra_n30, ra_n140, ra_y3, ra_y4, ra_y10, ra_y14, ra_y16, ra_y30, ra_y140]
      exact ih
theorem yl_c55_0 {s : Nat} {w z : Int32} {post : Int32 → Prop} (hw : ¬ w = 6) (h : ∃ q, wY_counted_95 post (nI s) w (nI n) (nI m) st bo bs pr tk mk ot vl rs al wt so sq go mo cl wd nt fr tw tx gr ge g1 g2 g3 sv sb lf pa du av bg oft se tt cp q z 0) : ∃ q, wY_counted_55 post (nI s) w (nI n) (nI m) st bo bs pr tk mk ot vl rs al wt so sq go mo cl wd nt fr tw tx gr ge g1 g2 g3 sv sb lf pa du av bg oft se tt cp q z 0 := by
  refine ⟨1, ?_⟩
  rw [wY_counted_55]
  exact br_f (by decide) (br_f hw h)
theorem yl_c55_6 {s : Nat} {post : Int32 → Prop} (hs : s < 10) (h : ∃ q, wY_counted_95 post (nI s) 6 (nI n) (nI m) st bo bs pr tk mk ot vl rs al wt so sq go mo cl wd nt fr tw tx gr ge g1 g2 g3 sv sb lf pa du av bg oft se tt cp q (nI (ra_cn (fun k => decide (¬ nt (14 * s + k) = 0)) 14)) 0) : ∃ q, wY_counted_55 post (nI s) 6 (nI n) (nI m) st bo bs pr tk mk ot vl rs al wt so sq go mo cl wd nt fr tw tx gr ge g1 g2 g3 sv sb lf pa du av bg oft se tt cp q 0 0 := by
  refine ra_run (fun q i => wY_counted_55 post (nI s) 6 (nI n) (nI m) st bo bs pr tk mk ot vl rs al wt so sq go mo cl wd nt fr tw tx gr ge g1 g2 g3 sv sb lf pa du av bg oft se tt cp q (nI (ra_cn (fun k => decide (¬ nt (14 * s + k) = 0)) i)) (nI i)) 14 (fun q => ?_) (fun q i hi ih => ?_)
  · simp (disch := omega) only [wY_counted_55, not_true, not_false_iff, true_implies, false_implies, implies_true, true_and, and_true, forall_eq, eq_self, ra_i, ra_c, ra_m3, ra_m4, ra_m16, ra_4m, ra_14m, ra_16m, nI_add, nI_1, lN_1, ra_p2, ra_2p, ra_n0, ra_p0, ra_q0, ra_q1, ra_q2, ra_q3, ra_n3, ra_n4, ra_n10, ra_n14, ra_n16, ra_n30, ra_n140, ra_y3, ra_y4, ra_y10, ra_y14, ra_y16, ra_y30, ra_y140]
    exact h
  · have e : ra_cn (fun k => decide (¬ nt (14 * s + k) = 0)) (i + 1) = ra_cn (fun k => decide (¬ nt (14 * s + k) = 0)) i + (if decide (¬ nt (14 * s + i) = 0) = true then 1 else 0) := rfl
    rw [e] at ih
    by_cases a : nt (14 * s + i) = 0
    · rw [if_neg (show ¬ decide (¬ nt (14 * s + i) = 0) = true from fun z => of_decide_eq_true z a)] at ih
      simp (disch := omega) only [wY_counted_55, a, not_true, not_false_iff, true_implies, false_implies, implies_true, true_and, and_true, forall_eq, eq_self, ra_i, ra_c, ra_m3, ra_m4, ra_m16, ra_4m, ra_14m, ra_16m, nI_add, nI_1, lN_1, ra_p2, ra_2p, ra_n0, ra_p0, ra_q0, ra_q1, ra_q2, ra_q3, ra_n3, ra_n4, ra_n10, ra_n14, ra_n16, ra_n30, ra_n140, ra_y3, ra_y4, ra_y10, ra_y14, ra_y16, ra_y30, ra_y140]
      exact ih
    · rw [if_pos (decide_eq_true a)] at ih
      simp (disch := omega) only [wY_counted_55, a, not_true, not_false_iff, true_implies, false_implies, implies_true, true_and, and_true, forall_eq, eq_self, ra_i, ra_c, ra_m3, ra_m4, ra_m16, ra_4m, ra_14m, ra_16m, nI_add, nI_1, lN_1, ra_p2, ra_2p, ra_n0, ra_p0, ra_q0, ra_q1, ra_q2, ra_q3, ra_n3, ra_n4, ra_n10, ra_n14, ra_n16, ra_n30, ra_n140, ra_y3, ra_y4, ra_y10, ra_y14, ra_y16, ra_y30, ra_y140]
      exact ih
theorem yl_c5_0 {s : Nat} {w : Int32} {post : Int32 → Prop} (hw : ¬ w = 5) (h : ∃ q, wY_counted_55 post (nI s) w (nI n) (nI m) st bo bs pr tk mk ot vl rs al wt so sq go mo cl wd nt fr tw tx gr ge g1 g2 g3 sv sb lf pa du av bg oft se tt cp q 0 0) : wpY_counted post (nI n, nI m, st, bo, bs, pr, tk, mk, ot, vl, rs, al, wt, so, sq, go, mo, cl, wd, nt, fr, tw, tx, gr, ge, g1, g2, g3, sv, sb, lf, pa, du, av, bg, oft, se, tt, cp) (nI s) w := by
  simp only [wpY_counted]
  refine ⟨1, ?_⟩
  rw [wY_counted_5]
  exact br_f (by decide) (br_f hw h)
theorem yl_c5_5 {s : Nat} {post : Int32 → Prop} (hs : s < 10) (hsl : st s ≠ 0) (hn : n ≤ 30) (hE : ra_E B st ep bo) (hW : ra_W st ep pt ot rs) (h : post (nI (ra_cn (ra_iq st ep pt s) 10))) : wpY_counted post (nI n, nI m, st, bo, bs, pr, tk, mk, ot, vl, rs, al, wt, so, sq, go, mo, cl, wd, nt, fr, tw, tx, gr, ge, g1, g2, g3, sv, sb, lf, pa, du, av, bg, oft, se, tt, cp) (nI s) 5 := by
  have ys := ra_E_y hE hs hsl
  simp only [wpY_counted]
  refine ra_run (fun q i => wY_counted_5 post (nI s) 5 (nI n) (nI m) st bo bs pr tk mk ot vl rs al wt so sq go mo cl wd nt fr tw tx gr ge g1 g2 g3 sv sb lf pa du av bg oft se tt cp q (nI (ra_cn (ra_iq st ep pt s) i)) (nI i)) 10 (fun q => ?_) (fun q i hi ih => ?_)
  · simp (disch := omega) only [wY_counted_5, not_true, not_false_iff, true_implies, false_implies, implies_true, true_and, and_true, forall_eq, eq_self, ra_i, ra_c, ra_m3, ra_m4, ra_m16, ra_4m, ra_14m, ra_16m, nI_add, nI_1, lN_1, ra_p2, ra_2p, ra_n0, ra_p0, ra_q0, ra_q1, ra_q2, ra_q3, ra_n3, ra_n4, ra_n10, ra_n14, ra_n16, ra_n30, ra_n140, ra_y3, ra_y4, ra_y10, ra_y14, ra_y16, ra_y30, ra_y140]
    exact yl_c55_0 (by decide) (yl_c95_0 hn (by decide) h)
  · have e : ra_cn (ra_iq st ep pt s) (i + 1) = ra_cn (ra_iq st ep pt s) i + (if ra_iq st ep pt s i = true then 1 else 0) := rfl
    rw [e] at ih
    by_cases a : st i = 2
    · have w2 : pt i = ot i := ((hW i hi).2 (by rw [a]; decide) (by rw [a]; decide)).1
      by_cases b : pt i = ep s
      · have b' : ot i = ep s := w2.symm.trans b
        rw [if_pos (show ra_iq st ep pt s i = true from decide_eq_true ⟨a, b⟩)] at ih
        simp (disch := omega) only [wY_counted_5, wpY_endpoint, a, ys, b', not_true, not_false_iff, true_implies, false_implies, implies_true, true_and, and_true, forall_eq, eq_self, ra_i, ra_c, ra_m3, ra_m4, ra_m16, ra_4m, ra_14m, ra_16m, nI_add, nI_1, lN_1, ra_p2, ra_2p, ra_n0, ra_p0, ra_q0, ra_q1, ra_q2, ra_q3, ra_n3, ra_n4, ra_n10, ra_n14, ra_n16, ra_n30, ra_n140, ra_y3, ra_y4, ra_y10, ra_y14, ra_y16, ra_y30, ra_y140]
        exact ih
      · have b' : ¬ ot i = ep s := fun z => b (w2.trans z)
        rw [if_neg (fun z => b (of_decide_eq_true z).2)] at ih
        simp (disch := omega) only [wY_counted_5, wpY_endpoint, a, ys, b', not_true, not_false_iff, true_implies, false_implies, implies_true, true_and, and_true, forall_eq, eq_self, ra_i, ra_c, ra_m3, ra_m4, ra_m16, ra_4m, ra_14m, ra_16m, nI_add, nI_1, lN_1, ra_p2, ra_2p, ra_n0, ra_p0, ra_q0, ra_q1, ra_q2, ra_q3, ra_n3, ra_n4, ra_n10, ra_n14, ra_n16, ra_n30, ra_n140, ra_y3, ra_y4, ra_y10, ra_y14, ra_y16, ra_y30, ra_y140]
        exact ih
    · rw [if_neg (fun z => a (of_decide_eq_true z).1)] at ih
      simp (disch := omega) only [wY_counted_5, a, not_true, not_false_iff, true_implies, false_implies, implies_true, true_and, and_true, forall_eq, eq_self, ra_i, ra_c, ra_m3, ra_m4, ra_m16, ra_4m, ra_14m, ra_16m, nI_add, nI_1, lN_1, ra_p2, ra_2p, ra_n0, ra_p0, ra_q0, ra_q1, ra_q2, ra_q3, ra_n3, ra_n4, ra_n10, ra_n14, ra_n16, ra_n30, ra_n140, ra_y3, ra_y4, ra_y10, ra_y14, ra_y16, ra_y30, ra_y140]
      exact ih
end
