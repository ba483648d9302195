/-! a process ends: its service is put down; all together -/
theorem ra_pz : ∀ p, p < 9 → 1 ≤ p → ((8 : Int32) ≤ nI p * 2 → nI (min (2 * p) 8) = 8) ∧ (¬ (8 : Int32) ≤ nI p * 2 → nI p * 2 = nI (min (2 * p) 8)) ∧ (nI p ≤ 4 → 2 * nI p = nI (min (2 * p) 8)) ∧ (¬ nI p ≤ 4 → nI (min (2 * p) 8) = 8) := by decide +kernel
section
variable {B c m n : Nat} {st pr bs tk mk vl cl rs al wt wd tt sb pa du oft bg av ep pt nb lg lt lv gk gt gf gl gs gn sl ss bo ot so sq go mo nt fr tw tx gr ge g1 g2 g3 sv lf se cp : Nat → Int32} {sn lo : Nat → Int64}
theorem xl_putDown27 {k p : Nat} {x : Int32} {post : SX → Prop} (hk : k < 3) (h1 : 1 ≤ p) (h8 : p ≤ 8) (hp : pa k = nI p) (h : post (lN c, ep, st, pt, bs, pr, tk, mk, rs, vl, cl, nb, al, wt, lg, wd, sn, lo, lt, lv, gk, gt, gf, gl, gs, gn, sl, upd ss k (-1), sb, upd pa k (nI (min (2 * p) 8)), upd du k (x + nI p), oft, bg, av, tt)) : wX_putDown_27 post (nI k) x (lN c) ep st pt bs pr tk mk rs vl cl nb al wt lg wd sn lo lt lv gk gt gf gl gs gn sl ss sb pa du oft bg av tt := by
  obtain ⟨z1, z2, -, -⟩ := ra_pz p (by omega) h1
  simp (disch := omega) only [wX_putDown_27, hp, not_true, not_false_iff, true_implies, false_implies, implies_true, true_and, and_true, forall_eq, eq_self, ra_i, ra_c, ra_m3, ra_m4, ra_m16, ra_4m, ra_14m, ra_16m, nI_add, nI_1, lN_1, ra_p2, ra_2p, ra_n0, ra_p0, ra_q0, ra_q1, ra_q2, ra_q3, ra_n3, ra_n4, ra_n10, ra_n14, ra_n16, ra_n30, ra_n140, ra_y3, ra_y4, ra_y10, ra_y14, ra_y16, ra_y30, ra_y140]
  refine br_c (fun y => ?_) (fun y => ?_)
  · rw [← z1 y]; exact h
  · rw [z2 y]; exact h
theorem xl_putDown {k p : Nat} {post : SX → Prop} (hk : k < 3) (h1 : 1 ≤ p) (h8 : p ≤ 8) (hp : pa k = nI p) (h : ∀ q : Nat, q = (if tt 0 - bg k < 16 then p else 1) → post (lN c, ep, st, pt, bs, pr, tk, mk, rs, vl, cl, nb, al, wt, lg, wd, sn, lo, lt, lv, gk, gt, gf, gl, gs, gn, sl, upd ss k (-1), sb, upd pa k (nI (min (2 * q) 8)), upd du k (tt 0 + nI q), oft, bg, av, tt)) : wpX_putDown post (lN c, ep, st, pt, bs, pr, tk, mk, rs, vl, cl, nb, al, wt, lg, wd, sn, lo, lt, lv, gk, gt, gf, gl, gs, gn, sl, ss, sb, pa, du, oft, bg, av, tt) (nI k) := by
  simp (disch := omega) only [wpX_putDown, not_true, not_false_iff, true_implies, false_implies, implies_true, true_and, and_true, forall_eq, eq_self, ra_i, ra_c, ra_m3, ra_m4, ra_m16, ra_4m, ra_14m, ra_16m, nI_add, nI_1, lN_1, ra_p2, ra_2p, ra_n0, ra_p0, ra_q0, ra_q1, ra_q2, ra_q3, ra_n3, ra_n4, ra_n10, ra_n14, ra_n16, ra_n30, ra_n140, ra_y3, ra_y4, ra_y10, ra_y14, ra_y16, ra_y30, ra_y140]
  refine br_c (fun y => ?_) (fun y => ?_)
  · exact xl_putDown27 hk h1 h8 hp (h p (by rw [if_pos y]))
  · refine xl_putDown27 (p := 1) hk (by omega) (by omega) pk_us ?_
    rw [ra_uu]
    exact h 1 (by rw [if_neg y])
theorem yl_down25 {k p : Nat} {post : SY → Prop} (hk : k < 3) (h1 : 1 ≤ p) (h8 : p ≤ 8) (hp : pa k = nI p) (h : post (nI n, nI m, st, bo, bs, pr, tk, mk, ot, vl, rs, al, wt, so, sq, go, mo, cl, wd, nt, fr, tw, tx, gr, ge, g1, g2, g3, upd sv k 2, sb, lf, upd pa k (nI (min (2 * p) 8)), upd du k (tt 0 + nI p), av, bg, oft, upd se k (-1), tt, cp)) : wY_down_25 post (nI k) (nI n) (nI m) st bo bs pr tk mk ot vl rs al wt so sq go mo cl wd nt fr tw tx gr ge g1 g2 g3 sv sb lf pa du av bg oft se tt cp := by
  obtain ⟨-, -, z1, z2⟩ := ra_pz p (by omega) h1
  simp (disch := omega) only [wY_down_25, hp, not_true, not_false_iff, true_implies, false_implies, implies_true, true_and, and_true, forall_eq, eq_self, ra_i, ra_c, ra_m3, ra_m4, ra_m16, ra_4m, ra_14m, ra_16m, nI_add, nI_1, lN_1, ra_p2, ra_2p, ra_n0, ra_p0, ra_q0, ra_q1, ra_q2, ra_q3, ra_n3, ra_n4, ra_n10, ra_n14, ra_n16, ra_n30, ra_n140, ra_y3, ra_y4, ra_y10, ra_y14, ra_y16, ra_y30, ra_y140]
  refine br_c (fun y => ?_) (fun y => ?_)
  · rw [z1 y]; exact h
  · rw [← z2 y]; exact h
theorem yl_down {k p : Nat} {post : SY → Prop} (hk : k < 3) (h1 : 1 ≤ p) (h8 : p ≤ 8) (hp : pa k = nI p) (h : ∀ q : Nat, q = (if tt 0 - bg k < 16 then p else 1) → post (nI n, nI m, st, bo, bs, pr, tk, mk, ot, vl, rs, al, wt, so, sq, go, mo, cl, wd, nt, fr, tw, tx, gr, ge, g1, g2, g3, upd sv k 2, sb, lf, upd pa k (nI (min (2 * q) 8)), upd du k (tt 0 + nI q), av, bg, oft, upd se k (-1), tt, cp)) : wpY_down post (nI n, nI m, st, bo, bs, pr, tk, mk, ot, vl, rs, al, wt, so, sq, go, mo, cl, wd, nt, fr, tw, tx, gr, ge, g1, g2, g3, sv, sb, lf, pa, du, av, bg, oft, se, tt, cp) (nI k) := by
  simp (disch := omega) only [wpY_down, not_true, not_false_iff, true_implies, false_implies, implies_true, true_and, and_true, forall_eq, eq_self, ra_i, ra_c, ra_m3, ra_m4, ra_m16, ra_4m, ra_14m, ra_16m, nI_add, nI_1, lN_1, ra_p2, ra_2p, ra_n0, ra_p0, ra_q0, ra_q1, ra_q2, ra_q3, ra_n3, ra_n4, ra_n10, ra_n14, ra_n16, ra_n30, ra_n140, ra_y3, ra_y4, ra_y10, ra_y14, ra_y16, ra_y30, ra_y140]
  refine br_c (fun y => ?_) (fun y => ?_)
  · exact yl_down25 hk h1 h8 hp (h p (by rw [if_pos y]))
  · refine yl_down25 (p := 1) hk (by omega) (by omega) pk_us ?_
    rw [ra_uu]
    exact h 1 (by rw [if_neg y])
theorem xl_serviceOf_n {s : Nat} {post : Int32 → Prop} (hn : ∀ k, k < 3 → ¬ (sl k ≠ 0 ∧ ss k = nI s)) (h : post (-1)) : wpX_serviceOf post (lN c, ep, st, pt, bs, pr, tk, mk, rs, vl, cl, nb, al, wt, lg, wd, sn, lo, lt, lv, gk, gt, gf, gl, gs, gn, sl, ss, sb, pa, du, oft, bg, av, tt) (nI s) := by
  refine ra_run (fun n i => wX_serviceOf_2 post (nI s) (lN c) ep st pt bs pr tk mk rs vl cl nb al wt lg wd sn lo lt lv gk gt gf gl gs gn sl ss sb pa du oft bg av tt n (nI i)) 3 (fun n => ?_) (fun n i hi ih => ?_)
  · simp (disch := omega) only [wX_serviceOf_2, not_true, not_false_iff, true_implies, false_implies, implies_true, true_and, and_true, forall_eq, eq_self, ra_i, ra_c, ra_m3, ra_m4, ra_m16, ra_4m, ra_14m, ra_16m, nI_add, nI_1, lN_1, ra_p2, ra_2p, ra_n0, ra_p0, ra_q0, ra_q1, ra_q2, ra_q3, ra_n3, ra_n4, ra_n10, ra_n14, ra_n16, ra_n30, ra_n140, ra_y3, ra_y4, ra_y10, ra_y14, ra_y16, ra_y30, ra_y140]
    exact h
  · by_cases a : sl i = 0
    · simp (disch := omega) only [wX_serviceOf_2, a, not_true, not_false_iff, true_implies, false_implies, implies_true, true_and, and_true, forall_eq, eq_self, ra_i, ra_c, ra_m3, ra_m4, ra_m16, ra_4m, ra_14m, ra_16m, nI_add, nI_1, lN_1, ra_p2, ra_2p, ra_n0, ra_p0, ra_q0, ra_q1, ra_q2, ra_q3, ra_n3, ra_n4, ra_n10, ra_n14, ra_n16, ra_n30, ra_n140, ra_y3, ra_y4, ra_y10, ra_y14, ra_y16, ra_y30, ra_y140]
      exact ih
    · have b : ¬ ss i = nI s := fun z => hn i hi ⟨a, z⟩
      simp (disch := omega) only [wX_serviceOf_2, a, b, not_true, not_false_iff, true_implies, false_implies, implies_true, true_and, and_true, forall_eq, eq_self, ra_i, ra_c, ra_m3, ra_m4, ra_m16, ra_4m, ra_14m, ra_16m, nI_add, nI_1, lN_1, ra_p2, ra_2p, ra_n0, ra_p0, ra_q0, ra_q1, ra_q2, ra_q3, ra_n3, ra_n4, ra_n10, ra_n14, ra_n16, ra_n30, ra_n140, ra_y3, ra_y4, ra_y10, ra_y14, ra_y16, ra_y30, ra_y140]
      exact ih
theorem xl_serviceOf_s {s k : Nat} {post : Int32 → Prop} (hk : k < 3) (h1 : sl k ≠ 0) (h2 : ss k = nI s) (hn : ∀ j, j < k → ¬ (sl j ≠ 0 ∧ ss j = nI s)) (h : post (nI k)) : wpX_serviceOf post (lN c, ep, st, pt, bs, pr, tk, mk, rs, vl, cl, nb, al, wt, lg, wd, sn, lo, lt, lv, gk, gt, gf, gl, gs, gn, sl, ss, sb, pa, du, oft, bg, av, tt) (nI s) := by
  refine ra_run (fun n i => wX_serviceOf_2 post (nI s) (lN c) ep st pt bs pr tk mk rs vl cl nb al wt lg wd sn lo lt lv gk gt gf gl gs gn sl ss sb pa du oft bg av tt n (nI i)) k (fun n => ?_) (fun n i hi ih => ?_)
  · simp (disch := omega) only [wX_serviceOf_2, h1, h2, not_true, not_false_iff, true_implies, false_implies, implies_true, true_and, and_true, forall_eq, eq_self, ra_i, ra_c, ra_m3, ra_m4, ra_m16, ra_4m, ra_14m, ra_16m, nI_add, nI_1, lN_1, ra_p2, ra_2p, ra_n0, ra_p0, ra_q0, ra_q1, ra_q2, ra_q3, ra_n3, ra_n4, ra_n10, ra_n14, ra_n16, ra_n30, ra_n140, ra_y3, ra_y4, ra_y10, ra_y14, ra_y16, ra_y30, ra_y140]
    exact h
  · by_cases a : sl i = 0
    · simp (disch := omega) only [wX_serviceOf_2, a, not_true, not_false_iff, true_implies, false_implies, implies_true, true_and, and_true, forall_eq, eq_self, ra_i, ra_c, ra_m3, ra_m4, ra_m16, ra_4m, ra_14m, ra_16m, nI_add, nI_1, lN_1, ra_p2, ra_2p, ra_n0, ra_p0, ra_q0, ra_q1, ra_q2, ra_q3, ra_n3, ra_n4, ra_n10, ra_n14, ra_n16, ra_n30, ra_n140, ra_y3, ra_y4, ra_y10, ra_y14, ra_y16, ra_y30, ra_y140]
      exact ih
    · have b : ¬ ss i = nI s := fun z => hn i hi ⟨a, z⟩
      simp (disch := omega) only [wX_serviceOf_2, a, b, not_true, not_false_iff, true_implies, false_implies, implies_true, true_and, and_true, forall_eq, eq_self, ra_i, ra_c, ra_m3, ra_m4, ra_m16, ra_4m, ra_14m, ra_16m, nI_add, nI_1, lN_1, ra_p2, ra_2p, ra_n0, ra_p0, ra_q0, ra_q1, ra_q2, ra_q3, ra_n3, ra_n4, ra_n10, ra_n14, ra_n16, ra_n30, ra_n140, ra_y3, ra_y4, ra_y10, ra_y14, ra_y16, ra_y30, ra_y140]
      exact ih
/-- Y's services from i on: none is the one's -/
theorem yl_ends182_n {gone : Int32} {post : SY → Prop} : ∀ (d i : Nat), i + d = 3 → (∀ k, i ≤ k → k < 3 → ¬ (sv k = 1 ∧ se k = gone)) → post (nI n, nI m, st, bo, bs, pr, tk, mk, ot, vl, rs, al, wt, so, sq, go, mo, cl, wd, nt, fr, tw, tx, gr, ge, g1, g2, g3, sv, sb, lf, pa, du, av, bg, oft, se, tt, cp) → wY_ends_182 post gone (d + 1) (nI i) (nI n) (nI m) st bo bs pr tk mk ot vl rs al wt so sq go mo cl wd nt fr tw tx gr ge g1 g2 g3 sv sb lf pa du av bg oft se tt cp := by
  intro d
  induction d with
  | zero =>
    intro i hi hn h
    have : i = 3 := by omega
    subst this
    simp (disch := omega) only [wY_ends_182, not_true, not_false_iff, true_implies, false_implies, implies_true, true_and, and_true, forall_eq, eq_self, ra_i, ra_c, ra_m3, ra_m4, ra_m16, ra_4m, ra_14m, ra_16m, nI_add, nI_1, lN_1, ra_p2, ra_2p, ra_n0, ra_p0, ra_q0, ra_q1, ra_q2, ra_q3, ra_n3, ra_n4, ra_n10, ra_n14, ra_n16, ra_n30, ra_n140, ra_y3, ra_y4, ra_y10, ra_y14, ra_y16, ra_y30, ra_y140]
    exact h
  | succ d ih =>
    intro i hi hn h
    have w := ih (i + 1) (by omega) (fun k hk => hn k (by omega)) h
    by_cases a : sv i = 1
    · have b : ¬ se i = gone := fun z => hn i (by omega) (by omega) ⟨a, z⟩
      rw [wY_ends_182]
      simp (disch := omega) only [a, b, not_true, not_false_iff, true_implies, false_implies, implies_true, true_and, and_true, forall_eq, eq_self, ra_i, ra_c, ra_m3, ra_m4, ra_m16, ra_4m, ra_14m, ra_16m, nI_add, nI_1, lN_1, ra_p2, ra_2p, ra_n0, ra_p0, ra_q0, ra_q1, ra_q2, ra_q3, ra_n3, ra_n4, ra_n10, ra_n14, ra_n16, ra_n30, ra_n140, ra_y3, ra_y4, ra_y10, ra_y14, ra_y16, ra_y30, ra_y140]
      exact w
    · rw [wY_ends_182]
      simp (disch := omega) only [a, not_true, not_false_iff, true_implies, false_implies, implies_true, true_and, and_true, forall_eq, eq_self, ra_i, ra_c, ra_m3, ra_m4, ra_m16, ra_4m, ra_14m, ra_16m, nI_add, nI_1, lN_1, ra_p2, ra_2p, ra_n0, ra_p0, ra_q0, ra_q1, ra_q2, ra_q3, ra_n3, ra_n4, ra_n10, ra_n14, ra_n16, ra_n30, ra_n140, ra_y3, ra_y4, ra_y10, ra_y14, ra_y16, ra_y30, ra_y140]
      exact w
theorem yl_ends182_s {gone : Int32} {k p : Nat} {post : SY → Prop} (hk : k < 3) (hv : sv k = 1) (he : se k = gone) (hn : ∀ j, j < 3 → j ≠ k → ¬ (sv j = 1 ∧ se j = gone)) (h1 : 1 ≤ p) (h8 : p ≤ 8) (hp : pa k = nI p)
    (h : ∀ q : Nat, q = (if tt 0 - bg k < 16 then p else 1) → post (nI n, nI m, st, bo, bs, pr, tk, mk, ot, vl, rs, al, wt, so, sq, go, mo, cl, wd, nt, fr, tw, tx, gr, ge, g1, g2, g3, upd sv k 2, sb, lf, upd pa k (nI (min (2 * q) 8)), upd du k (tt 0 + nI q), av, bg, oft, upd se k (-1), tt, cp)) : ∀ (d i : Nat), i + d = 3 → i ≤ k → wY_ends_182 post gone (d + 1) (nI i) (nI n) (nI m) st bo bs pr tk mk ot vl rs al wt so sq go mo cl wd nt fr tw tx gr ge g1 g2 g3 sv sb lf pa du av bg oft se tt cp := by
  intro d
  induction d with
  | zero => intro i hi hik; omega
  | succ d ih =>
    intro i hi hik
    by_cases e : i = k
    · subst e
      rw [wY_ends_182]
      simp (disch := omega) only [hv, he, not_true, not_false_iff, true_implies, false_implies, implies_true, true_and, and_true, forall_eq, eq_self, ra_i, ra_c, ra_m3, ra_m4, ra_m16, ra_4m, ra_14m, ra_16m, nI_add, nI_1, lN_1, ra_p2, ra_2p, ra_n0, ra_p0, ra_q0, ra_q1, ra_q2, ra_q3, ra_n3, ra_n4, ra_n10, ra_n14, ra_n16, ra_n30, ra_n140, ra_y3, ra_y4, ra_y10, ra_y14, ra_y16, ra_y30, ra_y140]
      refine yl_down hk h1 h8 hp (fun q hq => ?_)
      simp (disch := omega) only [not_true, not_false_iff, true_implies, false_implies, implies_true, true_and, and_true, forall_eq, eq_self, ra_i, ra_c, ra_m3, ra_m4, ra_m16, ra_4m, ra_14m, ra_16m, nI_add, nI_1, lN_1, ra_p2, ra_2p, ra_n0, ra_p0, ra_q0, ra_q1, ra_q2, ra_q3, ra_n3, ra_n4, ra_n10, ra_n14, ra_n16, ra_n30, ra_n140, ra_y3, ra_y4, ra_y10, ra_y14, ra_y16, ra_y30, ra_y140]
      refine yl_ends182_n d (i + 1) (by omega) (fun j hj hj3 => ?_) (h q hq)
      rw [pk_un (by omega), pk_un (by omega)]
      exact hn j hj3 (by omega)
    · have w := ih (i + 1) (by omega) (by omega)
      have nn := hn i (by omega) e
      by_cases a : sv i = 1
      · have b : ¬ se i = gone := fun z => nn ⟨a, z⟩
        rw [wY_ends_182]
        simp (disch := omega) only [a, b, not_true, not_false_iff, true_implies, false_implies, implies_true, true_and, and_true, forall_eq, eq_self, ra_i, ra_c, ra_m3, ra_m4, ra_m16, ra_4m, ra_14m, ra_16m, nI_add, nI_1, lN_1, ra_p2, ra_2p, ra_n0, ra_p0, ra_q0, ra_q1, ra_q2, ra_q3, ra_n3, ra_n4, ra_n10, ra_n14, ra_n16, ra_n30, ra_n140, ra_y3, ra_y4, ra_y10, ra_y14, ra_y16, ra_y30, ra_y140]
        exact w
      · rw [wY_ends_182]
        simp (disch := omega) only [a, not_true, not_false_iff, true_implies, false_implies, implies_true, true_and, and_true, forall_eq, eq_self, ra_i, ra_c, ra_m3, ra_m4, ra_m16, ra_4m, ra_14m, ra_16m, nI_add, nI_1, lN_1, ra_p2, ra_2p, ra_n0, ra_p0, ra_q0, ra_q1, ra_q2, ra_q3, ra_n3, ra_n4, ra_n10, ra_n14, ra_n16, ra_n30, ra_n140, ra_y3, ra_y4, ra_y10, ra_y14, ra_y16, ra_y30, ra_y140]
        exact w
theorem ra_ends {s : Nat} (hB : B + 20 ≤ 2 ^ 26) (h : ra_R B c m n st pr tk rs al tt pa bs sb ep pt nb lg sn lo lt lv gk gt gf gl gs gn sl ss bo ot so sq go mo nt fr tw tx gr ge g1 g2 g3 sv lf se) (hs : s < 10) (hl : st s ≠ 0) : ∃ (c' m' n' : Nat) (st' pt' rs' nb' mo' nt' fr' tw' tx' gr' pa' ss' sv' se' du' tt' : Nat → Int32) (sn' lo' : Nat → Int64),
    ra_R (B + 11) c' m' n' st' pr tk rs' al tt' pa' bs sb (upd ep s (ep s + 16)) pt' nb' lg sn' lo' lt lv gk gt gf gl gs gn sl ss' bo ot so sq go mo' nt' fr' tw' tx' gr' ge g1 g2 g3 sv' lf se' ∧
    (∀ k, k < 3 → sv k = 1 → se k = ep s → tt' 0 < du' k) ∧
    (∀ post : SX → Prop, post (lN (c'), upd ep s (ep s + 16), st', pt', bs, pr, tk, mk, rs', vl, cl, nb', al, wt, lg, wd, sn', lo', lt, lv, gk, gt, gf, gl, gs, gn, sl, ss', sb, pa', du', oft, bg, av, tt') → wpX_endProcess post (lN c, ep, st, pt, bs, pr, tk, mk, rs, vl, cl, nb, al, wt, lg, wd, sn, lo, lt, lv, gk, gt, gf, gl, gs, gn, sl, ss, sb, pa, du, oft, bg, av, tt) (nI s)) ∧
    (∀ post : SY → Prop, post (nI (n'), nI (m'), st', bo, bs, pr, tk, mk, ot, vl, rs', al, wt, so, sq, go, mo', cl, wd, nt', fr', tw', tx', gr', ge, g1, g2, g3, sv', sb, lf, pa', du', av, bg, oft, se', tt', cp) → wpY_ends post (nI n, nI m, st, bo, bs, pr, tk, mk, ot, vl, rs, al, wt, so, sq, go, mo, cl, wd, nt, fr, tw, tx, gr, ge, g1, g2, g3, sv, sb, lf, pa, du, av, bg, oft, se, tt, cp) (nI s)) := by
  have hR := h
  obtain ⟨hE, hO, hW, hD, hN, hL, hG, hS, hT, hI, hP⟩ := h
  have hcB : c ≤ B := hO.1
  have n30 := (ra_L_n (show c ≤ 2 ^ 27 by omega) hL).1
  have yl : 16 * (bo s - 1) + nI s = ep s := ra_E_y hE hs hl
  -- letters
  obtain ⟨n', lo1, fr', tw', tx', L1, L2, L3, L4⟩ := ra_endL (s := s) (gone := ep s) (st := upd st s 0) (m := m) (bo := bo) (bs := bs) (pr := pr) (tk := tk) (mk := mk) (ot := ot) (vl := vl) (rs := rs) (al := al) (wt := wt) (so := so) (sq := sq) (go := go) (mo := mo) (cl := cl) (wd := wd) (nt := ra_zB nt (fun j => decide (j / 14 = s ∨ j % 14 = s)) 140) (gr := gr) (ge := ge) (g1 := g1) (g2 := g2) (g3 := g3) (sv := sv) (sb := sb) (lf := lf) (pa := pa) (du := du) (av := av) (bg := bg) (oft := oft) (se := se) (tt := upd (upd tt 1 (tt 1 - 1)) 5 (upd tt 1 (tt 1 - 1) 5 + 1)) (cp := cp) hs (show c ≤ 2 ^ 27 by omega) n n lo fr tw tx (Nat.le_refl _) hL (fun j h1 h2 => by omega)
  have hL' : ra_L c n' (upd st s 0) (ra_zL lo (fun p => decide (p / 3 = s ∨ lt p = nI s)) 30) lt lv fr' tw' tx' := ra_L_drop (n := n) (by omega) hs L1 L2 L3 (fun p hp => by
    unfold ra_zL
    by_cases y : p / 3 = s ∨ lt p = nI s
    · rw [if_pos ⟨hp, decide_eq_true y⟩, if_pos y]
    · rw [if_neg (fun z => y (of_decide_eq_true z.2)), if_neg y])
  -- those that waited
  have hWg : ∀ t, t < 10 → (upd st s 0 t = 1 → pt t = upd ep s (ep s + 16) t) ∧ (upd st s 0 t ≠ 0 → upd st s 0 t ≠ 1 → pt t = ot t ∧ ((pt t ≠ ep s → rs t = 0 ∧ (pt t = -1 ∨ ∃ w, w < 10 ∧ upd st s 0 w ≠ 0 ∧ pt t = upd ep s (ep s + 16) w)) ∧ (pt t = ep s → 0 ≤ t))) := by
    intro t ht
    by_cases y : t = s
    · subst y
      refine ⟨fun z => ?_, fun z => absurd pk_us z⟩
      rw [pk_us] at z; exact absurd z (by decide)
    · rw [pk_un y, pk_un y]
      obtain ⟨a, b⟩ := hW t ht
      refine ⟨a, fun u v => ?_⟩
      obtain ⟨b1, b2, b3⟩ := b u v
      refine ⟨b1, fun z => ⟨b2, b3.imp id ?_⟩, fun _ => Nat.zero_le _⟩
      rintro ⟨w, hw, hlw, e⟩
      have ws : w ≠ s := fun q => z (by rw [e, q])
      exact ⟨w, hw, by rw [pk_un ws]; exact hlw, by rw [pk_un ws]; exact e⟩
  obtain ⟨c', m', st', pt', rs', nb', mo', sn', q1, q2, q3, q4, q5, q6, q7, q8⟩ := ra_endl (s := s) (gone := ep s) (ep := upd ep s (ep s + 16)) (bs := bs) (pr := pr) (tk := tk) (mk := mk) (vl := vl) (cl := cl) (al := al) (wt := wt) (lg := lg) (wd := wd) (lo := ra_zL lo (fun p => decide (p / 3 = s ∨ lt p = nI s)) 30) (lt := lt) (lv := lv) (gk := gk) (gt := gt) (gf := gf) (gl := gl) (gs := gs) (gn := gn) (sl := sl) (ss := ss) (sb := sb) (pa := pa) (du := du) (oft := oft) (bg := bg) (av := av) (tt := upd (upd tt 1 (tt 1 - 1)) 5 (upd tt 1 (tt 1 - 1) 5 + 1)) (n := n') (bo := bo) (ot := ot) (so := so) (sq := sq) (go := go) (nt := ra_zB nt (fun j => decide (j / 14 = s ∨ j % 14 = s)) 140) (fr := fr') (tw := tw') (tx := tx') (gr := ra_z gr (4 * s) 4) (ge := ge) (g1 := g1) (g2 := g2) (g3 := g3) (sv := sv) (lf := lf) (se := se) (cp := cp) hs 10 0 B c m (upd st s 0) pt rs nb mo sn rfl hO (ra_T_u hT (Or.inl rfl)) hWg
  have hnb : ∀ t, t < 10 → ∀ i, i < 14 → bt (nb' t) i = (bt (nb t) i && decide (i ≠ s)) := by
    intro t ht i hi
    rw [q6 t ht, if_pos (Nat.zero_le _)]
    exact ra_cl (nb t) (by omega) (by omega)
  have hnt : ∀ j, j < 140 → ra_zB nt (fun j => decide (j / 14 = s ∨ j % 14 = s)) 140 j = if j / 14 = s ∨ j % 14 = s then 0 else nt j := by
    intro j hj
    unfold ra_zB
    by_cases y : j / 14 = s ∨ j % 14 = s
    · rw [if_pos ⟨hj, decide_eq_true y⟩, if_pos y]
    · rw [if_neg (fun z => y (of_decide_eq_true z.2)), if_neg y]
  have hgr : ∀ g, g < 40 → ra_z gr (4 * s) 4 g = if 4 * s ≤ g ∧ g < 4 * s + 4 then 0 else gr g := fun g _ => rfl
  -- which service
  have key : ∀ k, k < 3 → ((sv k = 1 ∧ se k = ep s) ↔ (sv k = 1 ∧ ss k = nI s)) ∧ ((sl k ≠ 0 ∧ ss k = nI s) ↔ (sv k = 1 ∧ ss k = nI s)) := by
    intro k hk
    rcases hS.1 k hk with ⟨a, b⟩ | ⟨a, -, -, ⟨b, t, ht, e1, -, e2⟩ | ⟨b, e1, -⟩⟩
    · rw [a, b]
      exact ⟨⟨fun z => absurd z.1 (by decide), fun z => absurd z.1 (by decide)⟩, ⟨fun z => absurd rfl z.1, fun z => absurd z.1 (by decide)⟩⟩
    · refine ⟨⟨fun z => ⟨b, ?_⟩, fun z => ⟨b, ?_⟩⟩, ⟨fun z => ⟨b, z.2⟩, fun z => ⟨a, z.2⟩⟩⟩
      · have := ra_E_inj (by omega) hE ht hs (e2.symm.trans z.2)
        rw [e1, this]
      · have z2 := z.2
        rw [e1, nI_eq (by omega) (by omega)] at z2
        rw [e2, z2]
    · have ne : ¬ ss k = nI s := by
        rw [e1]
        intro z
        have : ¬ nI s < 0 := nI_pos (by omega)
        rw [← z] at this
        exact this (by decide)
      exact ⟨⟨fun z => by rw [b] at z; exact absurd z.1 (by decide), fun z => absurd z.2 ne⟩, ⟨fun z => absurd z.2 ne, fun z => absurd z.2 ne⟩⟩
  obtain ⟨T, hTB, hT0⟩ := hI
  have tt0 : upd (upd tt 1 (tt 1 - 1)) 5 (upd tt 1 (tt 1 - 1) 5 + 1) 0 = tt 0 := rfl
  rcases ra_first (fun k => sv k = 1 ∧ ss k = nI s) 3 with none | ⟨k, hk, hit, -⟩
  · refine ⟨c', m', n', st', pt', rs', nb', mo', _, fr', tw', tx', _, pa, ss, sv, se, du, _, sn', _, ra_R_end (v := tt 1 - 1) (w := upd tt 1 (tt 1 - 1) 5 + 1) hR hs hl q1 q2 q4 q5 q3 hnb hnt hL' hgr (fun k hk => Or.inr ⟨none k hk, rfl, rfl, rfl, rfl⟩), fun k hk a b => absurd ((key k hk).1.mp ⟨a, b⟩) (none k hk), fun post hp => ?_, fun post hp => ?_⟩
    · simp (disch := omega) only [wpX_endProcess, not_true, not_false_iff, true_implies, false_implies, implies_true, true_and, and_true, forall_eq, eq_self, ra_i, ra_c, ra_m3, ra_m4, ra_m16, ra_4m, ra_14m, ra_16m, nI_add, nI_1, lN_1, ra_p2, ra_2p, ra_n0, ra_p0, ra_q0, ra_q1, ra_q2, ra_q3, ra_n3, ra_n4, ra_n10, ra_n14, ra_n16, ra_n30, ra_n140, ra_y3, ra_y4, ra_y10, ra_y14, ra_y16, ra_y30, ra_y140]
      refine xl_dropLetters hs ⟨11, q7 post ?_⟩
      rw [wX_endProcess_51]
      simp (disch := omega) only [not_true, not_false_iff, true_implies, false_implies, implies_true, true_and, and_true, forall_eq, eq_self, ra_i, ra_c, ra_m3, ra_m4, ra_m16, ra_4m, ra_14m, ra_16m, nI_add, nI_1, lN_1, ra_p2, ra_2p, ra_n0, ra_p0, ra_q0, ra_q1, ra_q2, ra_q3, ra_n3, ra_n4, ra_n10, ra_n14, ra_n16, ra_n30, ra_n140, ra_y3, ra_y4, ra_y10, ra_y14, ra_y16, ra_y30, ra_y140]
      refine xl_serviceOf_n (fun k hk z => none k hk ((key k hk).2.mp z)) ?_
      exact br_t (by decide) hp
    · simp (disch := omega) only [wpY_ends, wpY_endpoint, yl, not_true, not_false_iff, true_implies, false_implies, implies_true, true_and, and_true, forall_eq, eq_self, ra_i, ra_c, ra_m3, ra_m4, ra_m16, ra_4m, ra_14m, ra_16m, nI_add, nI_1, lN_1, ra_p2, ra_2p, ra_n0, ra_p0, ra_q0, ra_q1, ra_q2, ra_q3, ra_n3, ra_n4, ra_n10, ra_n14, ra_n16, ra_n30, ra_n140, ra_y3, ra_y4, ra_y10, ra_y14, ra_y16, ra_y30, ra_y140]
      refine yl_ends35 hs ⟨n + 1, L4 post ?_⟩
      rw [wY_ends_78]
      refine br_t (by decide) (nm_e (yl_ends117 hs ⟨11, q8 post ?_⟩))
      rw [wY_ends_141]
      simp (disch := omega) only [not_true, not_false_iff, true_implies, false_implies, implies_true, true_and, and_true, forall_eq, eq_self, ra_i, ra_c, ra_m3, ra_m4, ra_m16, ra_4m, ra_14m, ra_16m, nI_add, nI_1, lN_1, ra_p2, ra_2p, ra_n0, ra_p0, ra_q0, ra_q1, ra_q2, ra_q3, ra_n3, ra_n4, ra_n10, ra_n14, ra_n16, ra_n30, ra_n140, ra_y3, ra_y4, ra_y10, ra_y14, ra_y16, ra_y30, ra_y140]
      exact ⟨4, yl_ends182_n 3 0 rfl (fun k _ hk z => none k hk ((key k hk).1.mp z)) hp⟩
  · obtain ⟨hv, hss⟩ := hit
    obtain ⟨p, hp1, hp8, hpa⟩ : ∃ p : Nat, 1 ≤ p ∧ p ≤ 8 ∧ pa k = nI p := by
      rcases hS.1 k hk with ⟨a, -⟩ | ⟨-, -, a, -⟩
      · rw [hv] at a; exact absurd a (by decide)
      · exact a
    have uniq : ∀ j, j < 3 → j ≠ k → ¬ (sv j = 1 ∧ ss j = nI s) := fun j hj ne z => ne (hS.2 j k hj hk z.1 hv (z.2.trans hss.symm))
    have slk : sl k ≠ 0 := ((key k hk).2.mpr ⟨hv, hss⟩).1
    have sek : se k = ep s := ((key k hk).1.mpr ⟨hv, hss⟩).2
    obtain ⟨q, hq, hq1, hq8⟩ : ∃ q : Nat, q = (if tt 0 - bg k < 16 then p else 1) ∧ 1 ≤ q ∧ q ≤ 8 := by
      refine ⟨_, rfl, ?_, ?_⟩ <;> split <;> omega
    refine ⟨c', m', n', st', pt', rs', nb', mo', _, fr', tw', tx', _, upd pa k (nI (min (2 * q) 8)), upd ss k (-1), upd sv k 2, upd se k (-1), upd du k (tt 0 + nI q), _, sn', _, ra_R_end (v := tt 1 - 1) (w := upd tt 1 (tt 1 - 1) 5 + 1) hR hs hl q1 q2 q4 q5 q3 hnb hnt hL' hgr (fun j hj => ?_), fun j hj a b => ?_, fun post hp => ?_, fun post hp => ?_⟩
    · by_cases y : j = k
      · subst y
        refine Or.inl ⟨hv, hss, pk_us, pk_us, pk_us, min (2 * q) 8, by omega, by omega, pk_us⟩
      · refine Or.inr ⟨uniq j hj y, pk_un y, pk_un y, pk_un y, pk_un y⟩
    · by_cases y : j = k
      · subst y
        rw [pk_us, tt0, hT0, nI_add, nI_ltI (by omega) (by omega)]
        omega
      · exact absurd ((key j hj).1.mp ⟨a, b⟩) (uniq j hj y)
    · simp (disch := omega) only [wpX_endProcess, not_true, not_false_iff, true_implies, false_implies, implies_true, true_and, and_true, forall_eq, eq_self, ra_i, ra_c, ra_m3, ra_m4, ra_m16, ra_4m, ra_14m, ra_16m, nI_add, nI_1, lN_1, ra_p2, ra_2p, ra_n0, ra_p0, ra_q0, ra_q1, ra_q2, ra_q3, ra_n3, ra_n4, ra_n10, ra_n14, ra_n16, ra_n30, ra_n140, ra_y3, ra_y4, ra_y10, ra_y14, ra_y16, ra_y30, ra_y140]
      refine xl_dropLetters hs ⟨11, q7 post ?_⟩
      rw [wX_endProcess_51]
      simp (disch := omega) only [not_true, not_false_iff, true_implies, false_implies, implies_true, true_and, and_true, forall_eq, eq_self, ra_i, ra_c, ra_m3, ra_m4, ra_m16, ra_4m, ra_14m, ra_16m, nI_add, nI_1, lN_1, ra_p2, ra_2p, ra_n0, ra_p0, ra_q0, ra_q1, ra_q2, ra_q3, ra_n3, ra_n4, ra_n10, ra_n14, ra_n16, ra_n30, ra_n140, ra_y3, ra_y4, ra_y10, ra_y14, ra_y16, ra_y30, ra_y140]
      refine xl_serviceOf_s hk slk hss (fun j hj z => uniq j (by omega) (by omega) ((key j (by omega)).2.mp z)) ?_
      refine br_f (nI_pos (by omega)) ?_
      refine xl_putDown hk hp1 hp8 hpa (fun q' hq' => ?_)
      have : q' = q := hq'.trans hq.symm
      subst this
      exact hp
    · simp (disch := omega) only [wpY_ends, wpY_endpoint, yl, not_true, not_false_iff, true_implies, false_implies, implies_true, true_and, and_true, forall_eq, eq_self, ra_i, ra_c, ra_m3, ra_m4, ra_m16, ra_4m, ra_14m, ra_16m, nI_add, nI_1, lN_1, ra_p2, ra_2p, ra_n0, ra_p0, ra_q0, ra_q1, ra_q2, ra_q3, ra_n3, ra_n4, ra_n10, ra_n14, ra_n16, ra_n30, ra_n140, ra_y3, ra_y4, ra_y10, ra_y14, ra_y16, ra_y30, ra_y140]
      refine yl_ends35 hs ⟨n + 1, L4 post ?_⟩
      rw [wY_ends_78]
      refine br_t (by decide) (nm_e (yl_ends117 hs ⟨11, q8 post ?_⟩))
      rw [wY_ends_141]
      simp (disch := omega) only [not_true, not_false_iff, true_implies, false_implies, implies_true, true_and, and_true, forall_eq, eq_self, ra_i, ra_c, ra_m3, ra_m4, ra_m16, ra_4m, ra_14m, ra_16m, nI_add, nI_1, lN_1, ra_p2, ra_2p, ra_n0, ra_p0, ra_q0, ra_q1, ra_q2, ra_q3, ra_n3, ra_n4, ra_n10, ra_n14, ra_n16, ra_n30, ra_n140, ra_y3, ra_y4, ra_y10, ra_y14, ra_y16, ra_y30, ra_y140]
      refine ⟨4, yl_ends182_s hk hv sek (fun j hj y z => uniq j hj y ((key j hj).1.mp z)) hp1 hp8 hpa (fun q' hq' => ?_) 3 0 rfl (Nat.zero_le _)⟩
      have : q' = q := hq'.trans hq.symm
      subst this
      exact hp
end
