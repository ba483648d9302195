/-! a process begins -/
theorem ra_d3 {i : Nat} (h : i < 1000) : nI i / 3 = nI (i / 3) := pk_div (a := i) (d := 3) (by omega) (by omega) (by omega)
theorem ra_d14 {i : Nat} (h : i < 1000) : nI i / 14 = nI (i / 14) := pk_div (a := i) (d := 14) (by omega) (by omega) (by omega)
theorem ra_r14 {i : Nat} (h : i < 1000) : nI i - nI (i / 14) * 14 = nI (i % 14) := by
  have := pk_rem (a := i) (d := 14) (by omega) (by omega) (by omega)
  rw [pk_div (by omega) (by omega) (by omega)] at this
  exact this
theorem ra_eq {a b : Nat} (ha : a < 1000) (hb : b < 1000) : (nI a = nI b) = (a = b) := propext (nI_eq (by omega) (by omega))
theorem ra_uu (f : Nat → Int32) (k : Nat) (x y : Int32) : upd (upd f k x) k y = upd f k y := by
  funext j
  unfold upd
  split <;> rfl
section
variable {B c m n : Nat} {st pr bs tk mk vl cl rs al wt wd tt sb pa du oft bg av ep pt nb lg lt lv gk gt gf gl gs gn sl ss bo ot so sq go mo nt fr tw tx gr ge g1 g2 g3 sv lf se cp : Nat → Int32} {sn lo : Nat → Int64}
theorem xl_beg115 {s : Nat} {post : SX → Prop} (hs : s < 10) (h : post (lN (c + 1), ep, upd st s 1, upd pt s (ep s), bs, pr, tk, mk, rs, vl, cl, nb, al, wt, lg, wd, vp_updL sn s (lN (c + 1)), lo, lt, lv, ra_z gk (4 * s) 4, gt, gf, gl, gs, gn, sl, ss, sb, pa, du, oft, bg, av, upd tt 1 (tt 1 + 1))) : ∃ k, wX_beginProcess_115 post (nI s) (lN c) k 0 ep st pt bs pr tk mk rs vl cl nb al wt lg wd sn lo lt lv gk gt gf gl gs gn sl ss sb pa du oft bg av tt := by
  obtain ⟨k, hk⟩ := ra_run (fun n i => wX_beginProcess_115 post (nI s) (lN c) n (nI i) ep st pt bs pr tk mk rs vl cl nb al wt lg wd sn lo lt lv (ra_z gk (4 * s) i) gt gf gl gs gn sl ss sb pa du oft bg av tt) 4 (fun n => by
    simp (disch := omega) only [wX_beginProcess_115, not_true, not_false_iff, true_implies, false_implies, implies_true, true_and, and_true, forall_eq, eq_self, ra_i, ra_c, ra_m3, ra_m4, ra_m16, ra_4m, ra_14m, ra_16m, nI_add, nI_1, lN_1, ra_p2, ra_2p, ra_n0, ra_p0, ra_q0, ra_q1, ra_q2, ra_q3, ra_n3, ra_n4, ra_n10, ra_n14, ra_n16, ra_n30, ra_n140, ra_y3, ra_y4, ra_y10, ra_y14, ra_y16, ra_y30, ra_y140]
    exact xl_makeReady hs h) (fun n i hi ih => by
    simp (disch := omega) only [wX_beginProcess_115, ra_z_s, not_true, not_false_iff, true_implies, false_implies, implies_true, true_and, and_true, forall_eq, eq_self, ra_i, ra_c, ra_m3, ra_m4, ra_m16, ra_4m, ra_14m, ra_16m, nI_add, nI_1, lN_1, ra_p2, ra_2p, ra_n0, ra_p0, ra_q0, ra_q1, ra_q2, ra_q3, ra_n3, ra_n4, ra_n10, ra_n14, ra_n16, ra_n30, ra_n140, ra_y3, ra_y4, ra_y10, ra_y14, ra_y16, ra_y30, ra_y140]
    exact ih)
  try dsimp only at hk
  rw [ra_z_0] at hk
  exact ⟨k, hk⟩
theorem xl_beg86 {s : Nat} {post : SX → Prop} (hs : s < 10) (h : post (lN (c + 1), ep, upd st s 1, upd pt s (ep s), bs, pr, tk, mk, rs, vl, cl, nb, al, wt, lg, ra_z wd (16 * s) 16, vp_updL sn s (lN (c + 1)), lo, lt, lv, ra_z gk (4 * s) 4, gt, gf, gl, gs, gn, sl, ss, sb, pa, du, oft, bg, av, upd tt 1 (tt 1 + 1))) : ∃ k, wX_beginProcess_86 post (nI s) (lN c) k 0 ep st pt bs pr tk mk rs vl cl nb al wt lg wd sn lo lt lv gk gt gf gl gs gn sl ss sb pa du oft bg av tt := by
  obtain ⟨k, hk⟩ := ra_run (fun n i => wX_beginProcess_86 post (nI s) (lN c) n (nI i) ep st pt bs pr tk mk rs vl cl nb al wt lg (ra_z wd (16 * s) i) sn lo lt lv gk gt gf gl gs gn sl ss sb pa du oft bg av tt) 16 (fun n => by
    simp (disch := omega) only [wX_beginProcess_86, not_true, not_false_iff, true_implies, false_implies, implies_true, true_and, and_true, forall_eq, eq_self, ra_i, ra_c, ra_m3, ra_m4, ra_m16, ra_4m, ra_14m, ra_16m, nI_add, nI_1, lN_1, ra_p2, ra_2p, ra_n0, ra_p0, ra_q0, ra_q1, ra_q2, ra_q3, ra_n3, ra_n4, ra_n10, ra_n14, ra_n16, ra_n30, ra_n140, ra_y3, ra_y4, ra_y10, ra_y14, ra_y16, ra_y30, ra_y140]
    exact xl_beg115 hs h) (fun n i hi ih => by
    simp (disch := omega) only [wX_beginProcess_86, ra_z_s, not_true, not_false_iff, true_implies, false_implies, implies_true, true_and, and_true, forall_eq, eq_self, ra_i, ra_c, ra_m3, ra_m4, ra_m16, ra_4m, ra_14m, ra_16m, nI_add, nI_1, lN_1, ra_p2, ra_2p, ra_n0, ra_p0, ra_q0, ra_q1, ra_q2, ra_q3, ra_n3, ra_n4, ra_n10, ra_n14, ra_n16, ra_n30, ra_n140, ra_y3, ra_y4, ra_y10, ra_y14, ra_y16, ra_y30, ra_y140]
    exact ih)
  try dsimp only at hk
  rw [ra_z_0] at hk
  exact ⟨k, hk⟩
theorem xl_beg59 {s : Nat} {post : SX → Prop} (hs : s < 10) (h : post (lN (c + 1), ep, upd st s 1, upd pt s (ep s), bs, pr, tk, mk, rs, vl, cl, nb, al, wt, ra_z lg (3 * s) 3, ra_z wd (16 * s) 16, vp_updL sn s (lN (c + 1)), lo, lt, lv, ra_z gk (4 * s) 4, gt, gf, gl, gs, gn, sl, ss, sb, pa, du, oft, bg, av, upd tt 1 (tt 1 + 1))) : ∃ k, wX_beginProcess_59 post (nI s) (lN c) k 0 ep st pt bs pr tk mk rs vl cl nb al wt lg wd sn lo lt lv gk gt gf gl gs gn sl ss sb pa du oft bg av tt := by
  obtain ⟨k, hk⟩ := ra_run (fun n i => wX_beginProcess_59 post (nI s) (lN c) n (nI i) ep st pt bs pr tk mk rs vl cl nb al wt (ra_z lg (3 * s) i) wd sn lo lt lv gk gt gf gl gs gn sl ss sb pa du oft bg av tt) 3 (fun n => by
    simp (disch := omega) only [wX_beginProcess_59, not_true, not_false_iff, true_implies, false_implies, implies_true, true_and, and_true, forall_eq, eq_self, ra_i, ra_c, ra_m3, ra_m4, ra_m16, ra_4m, ra_14m, ra_16m, nI_add, nI_1, lN_1, ra_p2, ra_2p, ra_n0, ra_p0, ra_q0, ra_q1, ra_q2, ra_q3, ra_n3, ra_n4, ra_n10, ra_n14, ra_n16, ra_n30, ra_n140, ra_y3, ra_y4, ra_y10, ra_y14, ra_y16, ra_y30, ra_y140]
    exact xl_beg86 hs h) (fun n i hi ih => by
    simp (disch := omega) only [wX_beginProcess_59, ra_z_s, not_true, not_false_iff, true_implies, false_implies, implies_true, true_and, and_true, forall_eq, eq_self, ra_i, ra_c, ra_m3, ra_m4, ra_m16, ra_4m, ra_14m, ra_16m, nI_add, nI_1, lN_1, ra_p2, ra_2p, ra_n0, ra_p0, ra_q0, ra_q1, ra_q2, ra_q3, ra_n3, ra_n4, ra_n10, ra_n14, ra_n16, ra_n30, ra_n140, ra_y3, ra_y4, ra_y10, ra_y14, ra_y16, ra_y30, ra_y140]
    exact ih)
  try dsimp only at hk
  rw [ra_z_0] at hk
  exact ⟨k, hk⟩
theorem xl_beginProcess {s : Nat} {x y : Int32} {post : SX → Prop} (hs : s < 10) (h : post (lN (c + 1), ep, upd st s 1, upd pt s (ep s), upd bs s x, upd pr s x, upd tk s 4, upd mk s y, upd rs s 0, vl, cl, upd nb s 0, upd al s 0, upd wt s 0, ra_z lg (3 * s) 3, ra_z wd (16 * s) 16, vp_updL sn s (lN (c + 1)), lo, lt, lv, ra_z gk (4 * s) 4, gt, gf, gl, gs, gn, sl, ss, sb, pa, du, oft, bg, av, upd tt 1 (tt 1 + 1))) : wpX_beginProcess post (lN c, ep, st, pt, bs, pr, tk, mk, rs, vl, cl, nb, al, wt, lg, wd, sn, lo, lt, lv, gk, gt, gf, gl, gs, gn, sl, ss, sb, pa, du, oft, bg, av, tt) (nI s) x y := by
  simp (disch := omega) only [wpX_beginProcess, not_true, not_false_iff, true_implies, false_implies, implies_true, true_and, and_true, forall_eq, eq_self, ra_i, ra_c, ra_m3, ra_m4, ra_m16, ra_4m, ra_14m, ra_16m, nI_add, nI_1, lN_1, ra_p2, ra_2p, ra_n0, ra_p0, ra_q0, ra_q1, ra_q2, ra_q3, ra_n3, ra_n4, ra_n10, ra_n14, ra_n16, ra_n30, ra_n140, ra_y3, ra_y4, ra_y10, ra_y14, ra_y16, ra_y30, ra_y140]
  exact xl_beg59 hs h
theorem yl_beg76 {s : Nat} {post : Int32 → SY → Prop} (hs : s < 10) (h : post (16 * (bo s - 1) + nI s) (nI n, nI (m + 1), upd st s 1, bo, bs, pr, tk, mk, ot, vl, upd rs s 0, al, wt, so, sq, go, upd mo s (nI (m + 1)), cl, ra_z wd (16 * s) 16, nt, fr, tw, tx, gr, ge, g1, g2, g3, sv, sb, lf, pa, du, av, bg, oft, se, upd tt 1 (tt 1 + 1), cp)) : ∃ k, wY_begin_76 post (nI s) (nI n) (nI m) k 0 st bo bs pr tk mk ot vl rs al wt so sq go mo cl wd nt fr tw tx gr ge g1 g2 g3 sv sb lf pa du av bg oft se tt cp := by
  obtain ⟨k, hk⟩ := ra_run (fun q i => wY_begin_76 post (nI s) (nI n) (nI m) q (nI i) st bo bs pr tk mk ot vl rs al wt so sq go mo cl (ra_z wd (16 * s) i) nt fr tw tx gr ge g1 g2 g3 sv sb lf pa du av bg oft se tt cp) 16 (fun q => by
    simp (disch := omega) only [wY_begin_76, not_true, not_false_iff, true_implies, false_implies, implies_true, true_and, and_true, forall_eq, eq_self, ra_i, ra_c, ra_m3, ra_m4, ra_m16, ra_4m, ra_14m, ra_16m, nI_add, nI_1, lN_1, ra_p2, ra_2p, ra_n0, ra_p0, ra_q0, ra_q1, ra_q2, ra_q3, ra_n3, ra_n4, ra_n10, ra_n14, ra_n16, ra_n30, ra_n140, ra_y3, ra_y4, ra_y10, ra_y14, ra_y16, ra_y30, ra_y140]
    refine yl_ready hs ?_
    simp (disch := omega) only [wpY_endpoint, not_true, not_false_iff, true_implies, false_implies, implies_true, true_and, and_true, forall_eq, eq_self, ra_i, ra_c, ra_m3, ra_m4, ra_m16, ra_4m, ra_14m, ra_16m, nI_add, nI_1, lN_1, ra_p2, ra_2p, ra_n0, ra_p0, ra_q0, ra_q1, ra_q2, ra_q3, ra_n3, ra_n4, ra_n10, ra_n14, ra_n16, ra_n30, ra_n140, ra_y3, ra_y4, ra_y10, ra_y14, ra_y16, ra_y30, ra_y140]
    exact h) (fun q i hi ih => by
    simp (disch := omega) only [wY_begin_76, ra_z_s, not_true, not_false_iff, true_implies, false_implies, implies_true, true_and, and_true, forall_eq, eq_self, ra_i, ra_c, ra_m3, ra_m4, ra_m16, ra_4m, ra_14m, ra_16m, nI_add, nI_1, lN_1, ra_p2, ra_2p, ra_n0, ra_p0, ra_q0, ra_q1, ra_q2, ra_q3, ra_n3, ra_n4, ra_n10, ra_n14, ra_n16, ra_n30, ra_n140, ra_y3, ra_y4, ra_y10, ra_y14, ra_y16, ra_y30, ra_y140]
    exact ih)
  try dsimp only at hk
  rw [ra_z_0] at hk
  exact ⟨k, hk⟩
theorem yl_begin {s : Nat} {x y : Int32} {post : Int32 → SY → Prop} (hs : s < 10) (h : post (16 * (upd bo s (bo s + 1) s - 1) + nI s) (nI n, nI (m + 1), upd st s 1, upd bo s (bo s + 1), upd bs s x, upd pr s x, upd tk s 4, upd mk s y, ot, vl, upd rs s 0, upd al s 0, upd wt s 0, upd so s 0, upd sq s 0, upd go s 0, upd mo s (nI (m + 1)), cl, ra_z wd (16 * s) 16, nt, fr, tw, tx, gr, ge, g1, g2, g3, sv, sb, lf, pa, du, av, bg, oft, se, upd tt 1 (tt 1 + 1), cp)) : wpY_begin post (nI n, nI m, st, bo, bs, pr, tk, mk, ot, vl, rs, al, wt, so, sq, go, mo, cl, wd, nt, fr, tw, tx, gr, ge, g1, g2, g3, sv, sb, lf, pa, du, av, bg, oft, se, tt, cp) (nI s) x y := by
  simp (disch := omega) only [wpY_begin, not_true, not_false_iff, true_implies, false_implies, implies_true, true_and, and_true, forall_eq, eq_self, ra_i, ra_c, ra_m3, ra_m4, ra_m16, ra_4m, ra_14m, ra_16m, nI_add, nI_1, lN_1, ra_p2, ra_2p, ra_n0, ra_p0, ra_q0, ra_q1, ra_q2, ra_q3, ra_n3, ra_n4, ra_n10, ra_n14, ra_n16, ra_n30, ra_n140, ra_y3, ra_y4, ra_y10, ra_y14, ra_y16, ra_y30, ra_y140]
  exact yl_beg76 hs h
end
