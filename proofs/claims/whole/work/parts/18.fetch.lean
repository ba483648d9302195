/-! what is got first: notes -/
theorem ra_g14 {j : Nat} (h : 14 ≤ j) (h' : j < 1000) : ((14 : Int32) ≤ nI j) = True := eq_true (nI_le (a := 14) (b := j) (by omega) (by omega))
section
variable {B c m n : Nat} {st pr bs tk mk vl cl rs al wt wd tt sb pa du oft bg av ep pt nb lg lt lv gk gt gf gl gs gn sl ss bo ot so sq go mo nt fr tw tx gr ge g1 g2 g3 sv lf se cp : Nat → Int32} {sn lo : Nat → Int64}
def ra_fn (ep nb : Nat → Int32) (r : Nat) (e : Int32) (k : Nat) : Prop := bt (nb r) k = true ∧ (e = -1 ∨ ra_so ep k = e)
theorem xl_fn_skip {r k q : Nat} {e : Int32} {post : Int32 → Prop} (hr : r < 10) (hk : k < 14) (hn : ¬ ra_fn ep nb r e k) (h : wX_firstNote_2 post (nI r) e (lN c) ep st pt bs pr tk mk rs vl cl nb al wt lg wd sn lo lt lv gk gt gf gl gs gn sl ss sb pa du oft bg av tt q (nI (k + 1))) : wX_firstNote_2 post (nI r) e (lN c) ep st pt bs pr tk mk rs vl cl nb al wt lg wd sn lo lt lv gk gt gf gl gs gn sl ss sb pa du oft bg av tt (q + 1) (nI k) := by
  have bb := ra_bit (nb r) (k := k) (by omega)
  rw [wX_firstNote_2]
  simp (disch := omega) only [not_true, not_false_iff, true_implies, false_implies, implies_true, true_and, and_true, forall_eq, eq_self, ra_i, ra_c, ra_m3, ra_m4, ra_m16, ra_4m, ra_14m, ra_16m, nI_add, nI_1, lN_1, ra_p2, ra_2p, ra_n0, ra_p0, ra_q0, ra_q1, ra_q2, ra_q3, ra_n3, ra_n4, ra_n10, ra_n14, ra_n16, ra_n30, ra_n140, ra_y3, ra_y4, ra_y10, ra_y14, ra_y16, ra_y30, ra_y140]
  refine xl_noteSource hk ?_
  by_cases b : bt (nb r) k = true
  · rw [if_pos b] at bb
    have e1 : ¬ e = -1 := fun z => hn ⟨b, Or.inl z⟩
    have e2 : ¬ ra_so ep k = e := fun z => hn ⟨b, Or.inr z⟩
    simp (disch := omega) only [bb, wpX_isFrom, e1, e2, not_true, not_false_iff, true_implies, false_implies, implies_true, true_and, and_true, forall_eq, eq_self, ra_i, ra_c, ra_m3, ra_m4, ra_m16, ra_4m, ra_14m, ra_16m, nI_add, nI_1, lN_1, ra_p2, ra_2p, ra_n0, ra_p0, ra_q0, ra_q1, ra_q2, ra_q3, ra_n3, ra_n4, ra_n10, ra_n14, ra_n16, ra_n30, ra_n140, ra_y3, ra_y4, ra_y10, ra_y14, ra_y16, ra_y30, ra_y140]
    exact h
  · rw [if_neg b] at bb
    simp (disch := omega) only [bb, not_true, not_false_iff, true_implies, false_implies, implies_true, true_and, and_true, forall_eq, eq_self, ra_i, ra_c, ra_m3, ra_m4, ra_m16, ra_4m, ra_14m, ra_16m, nI_add, nI_1, lN_1, ra_p2, ra_2p, ra_n0, ra_p0, ra_q0, ra_q1, ra_q2, ra_q3, ra_n3, ra_n4, ra_n10, ra_n14, ra_n16, ra_n30, ra_n140, ra_y3, ra_y4, ra_y10, ra_y14, ra_y16, ra_y30, ra_y140]
    exact h
theorem xl_firstNote_n {r : Nat} {e : Int32} {post : Int32 → Prop} (hr : r < 10) (hn : ∀ k, k < 14 → ¬ ra_fn ep nb r e k) (h : post (-1)) : wpX_firstNote post (lN c, ep, st, pt, bs, pr, tk, mk, rs, vl, cl, nb, al, wt, lg, wd, sn, lo, lt, lv, gk, gt, gf, gl, gs, gn, sl, ss, sb, pa, du, oft, bg, av, tt) (nI r) e := by
  refine ra_run (fun n i => wX_firstNote_2 post (nI r) e (lN c) ep st pt bs pr tk mk rs vl cl nb al wt lg wd sn lo lt lv gk gt gf gl gs gn sl ss sb pa du oft bg av tt n (nI i)) 14 (fun n => ?_) (fun n i hi ih => xl_fn_skip hr hi (hn i hi) ih)
  simp (disch := omega) only [wX_firstNote_2, not_true, not_false_iff, true_implies, false_implies, implies_true, true_and, and_true, forall_eq, eq_self, ra_i, ra_c, ra_m3, ra_m4, ra_m16, ra_4m, ra_14m, ra_16m, nI_add, nI_1, lN_1, ra_p2, ra_2p, ra_n0, ra_p0, ra_q0, ra_q1, ra_q2, ra_q3, ra_n3, ra_n4, ra_n10, ra_n14, ra_n16, ra_n30, ra_n140, ra_y3, ra_y4, ra_y10, ra_y14, ra_y16, ra_y30, ra_y140]
  exact h
theorem xl_firstNote_s {r k : Nat} {e : Int32} {post : Int32 → Prop} (hr : r < 10) (hk : k < 14) (hf : ra_fn ep nb r e k) (hn : ∀ j, j < k → ¬ ra_fn ep nb r e j) (h : post (nI k)) : wpX_firstNote post (lN c, ep, st, pt, bs, pr, tk, mk, rs, vl, cl, nb, al, wt, lg, wd, sn, lo, lt, lv, gk, gt, gf, gl, gs, gn, sl, ss, sb, pa, du, oft, bg, av, tt) (nI r) e := by
  refine ra_run (fun n i => wX_firstNote_2 post (nI r) e (lN c) ep st pt bs pr tk mk rs vl cl nb al wt lg wd sn lo lt lv gk gt gf gl gs gn sl ss sb pa du oft bg av tt n (nI i)) k (fun n => ?_) (fun n i hi ih => xl_fn_skip hr (by omega) (hn i hi) ih)
  have bb := ra_bit (nb r) (k := k) (by omega)
  rw [if_pos hf.1] at bb
  simp (disch := omega) only [wX_firstNote_2, not_true, not_false_iff, true_implies, false_implies, implies_true, true_and, and_true, forall_eq, eq_self, ra_i, ra_c, ra_m3, ra_m4, ra_m16, ra_4m, ra_14m, ra_16m, nI_add, nI_1, lN_1, ra_p2, ra_2p, ra_n0, ra_p0, ra_q0, ra_q1, ra_q2, ra_q3, ra_n3, ra_n4, ra_n10, ra_n14, ra_n16, ra_n30, ra_n140, ra_y3, ra_y4, ra_y10, ra_y14, ra_y16, ra_y30, ra_y140]
  refine xl_noteSource hk ?_
  rcases hf.2 with z | z
  · simp (disch := omega) only [bb, wpX_isFrom, z, not_true, not_false_iff, true_implies, false_implies, implies_true, true_and, and_true, forall_eq, eq_self, ra_i, ra_c, ra_m3, ra_m4, ra_m16, ra_4m, ra_14m, ra_16m, nI_add, nI_1, lN_1, ra_p2, ra_2p, ra_n0, ra_p0, ra_q0, ra_q1, ra_q2, ra_q3, ra_n3, ra_n4, ra_n10, ra_n14, ra_n16, ra_n30, ra_n140, ra_y3, ra_y4, ra_y10, ra_y14, ra_y16, ra_y30, ra_y140]
    exact h
  · by_cases e1 : e = -1
    · simp (disch := omega) only [bb, wpX_isFrom, e1, not_true, not_false_iff, true_implies, false_implies, implies_true, true_and, and_true, forall_eq, eq_self, ra_i, ra_c, ra_m3, ra_m4, ra_m16, ra_4m, ra_14m, ra_16m, nI_add, nI_1, lN_1, ra_p2, ra_2p, ra_n0, ra_p0, ra_q0, ra_q1, ra_q2, ra_q3, ra_n3, ra_n4, ra_n10, ra_n14, ra_n16, ra_n30, ra_n140, ra_y3, ra_y4, ra_y10, ra_y14, ra_y16, ra_y30, ra_y140]
      exact h
    · simp (disch := omega) only [bb, wpX_isFrom, e1, z, not_true, not_false_iff, true_implies, false_implies, implies_true, true_and, and_true, forall_eq, eq_self, ra_i, ra_c, ra_m3, ra_m4, ra_m16, ra_4m, ra_14m, ra_16m, nI_add, nI_1, lN_1, ra_p2, ra_2p, ra_n0, ra_p0, ra_q0, ra_q1, ra_q2, ra_q3, ra_n3, ra_n4, ra_n10, ra_n14, ra_n16, ra_n30, ra_n140, ra_y3, ra_y4, ra_y10, ra_y14, ra_y16, ra_y30, ra_y140]
      exact h
theorem yl_sourceOf_any {k : Nat} {post : Int32 → Prop} (hk : k < 14) (h : ∀ x, post x) : wpY_sourceOf post (nI n, nI m, st, bo, bs, pr, tk, mk, ot, vl, rs, al, wt, so, sq, go, mo, cl, wd, nt, fr, tw, tx, gr, ge, g1, g2, g3, sv, sb, lf, pa, du, av, bg, oft, se, tt, cp) (nI k) := by
  by_cases z : k < 10
  · exact yl_sourceOf_l z (h _)
  · exact yl_sourceOf (ep := fun _ => 0) hk (fun y => absurd y z) (h _)
theorem yl_fn_skip {r k q : Nat} {e : Int32} {post : Int32 → SY → Prop} (hr : r < 10) (hrl : st r ≠ 0) (hk : k < 14) (hE : ra_E B st ep bo) (hN : ra_N st nb nt) (hn : ¬ ra_fn ep nb r e k) (h : wY_fetch_2 post (nI r) e (nI n) (nI m) st bo bs pr tk mk ot vl rs al wt so sq go mo cl wd nt fr tw tx gr ge g1 g2 g3 sv sb lf pa du av bg oft se tt cp q (nI (k + 1))) : wY_fetch_2 post (nI r) e (nI n) (nI m) st bo bs pr tk mk ot vl rs al wt so sq go mo cl wd nt fr tw tx gr ge g1 g2 g3 sv sb lf pa du av bg oft se tt cp (q + 1) (nI k) := by
  obtain ⟨-, n2, n3⟩ := (hN r hr).2 hrl k hk
  rw [wY_fetch_2]
  simp (disch := omega) only [not_true, not_false_iff, true_implies, false_implies, implies_true, true_and, and_true, forall_eq, eq_self, ra_i, ra_c, ra_m3, ra_m4, ra_m16, ra_4m, ra_14m, ra_16m, nI_add, nI_1, lN_1, ra_p2, ra_2p, ra_n0, ra_p0, ra_q0, ra_q1, ra_q2, ra_q3, ra_n3, ra_n4, ra_n10, ra_n14, ra_n16, ra_n30, ra_n140, ra_y3, ra_y4, ra_y10, ra_y14, ra_y16, ra_y30, ra_y140]
  by_cases b : nt (14 * r + k) = 0
  · refine yl_sourceOf_any hk (fun x => ?_)
    simp (disch := omega) only [b, not_true, not_false_iff, true_implies, false_implies, implies_true, true_and, and_true, forall_eq, eq_self, ra_i, ra_c, ra_m3, ra_m4, ra_m16, ra_4m, ra_14m, ra_16m, nI_add, nI_1, lN_1, ra_p2, ra_2p, ra_n0, ra_p0, ra_q0, ra_q1, ra_q2, ra_q3, ra_n3, ra_n4, ra_n10, ra_n14, ra_n16, ra_n30, ra_n140, ra_y3, ra_y4, ra_y10, ra_y14, ra_y16, ra_y30, ra_y140]
    exact h
  · have b' := n2.mpr b
    have e1 : ¬ e = -1 := fun z => hn ⟨b', Or.inl z⟩
    have e2 : ¬ ra_so ep k = e := fun z => hn ⟨b', Or.inr z⟩
    refine yl_sourceOf hk (fun z => ra_E_y hE z (fun y => b (n3 z y))) ?_
    simp (disch := omega) only [b, e1, e2, not_true, not_false_iff, true_implies, false_implies, implies_true, true_and, and_true, forall_eq, eq_self, ra_i, ra_c, ra_m3, ra_m4, ra_m16, ra_4m, ra_14m, ra_16m, nI_add, nI_1, lN_1, ra_p2, ra_2p, ra_n0, ra_p0, ra_q0, ra_q1, ra_q2, ra_q3, ra_n3, ra_n4, ra_n10, ra_n14, ra_n16, ra_n30, ra_n140, ra_y3, ra_y4, ra_y10, ra_y14, ra_y16, ra_y30, ra_y140]
    exact h
theorem yl_fetch_n {r : Nat} {e : Int32} {post : Int32 → SY → Prop} (hr : r < 10) (hrl : st r ≠ 0) (hE : ra_E B st ep bo) (hN : ra_N st nb nt) (hn : ∀ k, k < 14 → ¬ ra_fn ep nb r e k) (h : ∃ q, wY_fetch_74 post (nI r) e (nI n) (nI m) st bo bs pr tk mk ot vl rs al wt so sq go mo cl wd nt fr tw tx gr ge g1 g2 g3 sv sb lf pa du av bg oft se tt cp q 0) : wpY_fetch post (nI n, nI m, st, bo, bs, pr, tk, mk, ot, vl, rs, al, wt, so, sq, go, mo, cl, wd, nt, fr, tw, tx, gr, ge, g1, g2, g3, sv, sb, lf, pa, du, av, bg, oft, se, tt, cp) (nI r) e := by
  refine ra_run (fun q i => wY_fetch_2 post (nI r) e (nI n) (nI m) st bo bs pr tk mk ot vl rs al wt so sq go mo cl wd nt fr tw tx gr ge g1 g2 g3 sv sb lf pa du av bg oft se tt cp q (nI i)) 14 (fun q => ?_) (fun q i hi ih => yl_fn_skip hr hrl hi hE hN (hn i hi) ih)
  simp (disch := omega) only [wY_fetch_2, not_true, not_false_iff, true_implies, false_implies, implies_true, true_and, and_true, forall_eq, eq_self, ra_i, ra_c, ra_m3, ra_m4, ra_m16, ra_4m, ra_14m, ra_16m, nI_add, nI_1, lN_1, ra_p2, ra_2p, ra_n0, ra_p0, ra_q0, ra_q1, ra_q2, ra_q3, ra_n3, ra_n4, ra_n10, ra_n14, ra_n16, ra_n30, ra_n140, ra_y3, ra_y4, ra_y10, ra_y14, ra_y16, ra_y30, ra_y140]
  exact h
theorem yl_fetch_s {r k : Nat} {e : Int32} {post : Int32 → SY → Prop} (hr : r < 10) (hrl : st r ≠ 0) (hE : ra_E B st ep bo) (hN : ra_N st nb nt) (hk : k < 14) (hf : ra_fn ep nb r e k) (hn : ∀ j, j < k → ¬ ra_fn ep nb r e j) (h : wY_fetch_43 post (nI r) (nI k) (ra_so ep k) (nI n) (nI m) st bo bs pr tk mk ot vl rs al wt so sq go mo cl wd nt fr tw tx gr ge g1 g2 g3 sv sb lf pa du av bg oft se tt cp) : wpY_fetch post (nI n, nI m, st, bo, bs, pr, tk, mk, ot, vl, rs, al, wt, so, sq, go, mo, cl, wd, nt, fr, tw, tx, gr, ge, g1, g2, g3, sv, sb, lf, pa, du, av, bg, oft, se, tt, cp) (nI r) e := by
  refine ra_run (fun q i => wY_fetch_2 post (nI r) e (nI n) (nI m) st bo bs pr tk mk ot vl rs al wt so sq go mo cl wd nt fr tw tx gr ge g1 g2 g3 sv sb lf pa du av bg oft se tt cp q (nI i)) k (fun q => ?_) (fun q i hi ih => yl_fn_skip hr hrl (by omega) hE hN (hn i hi) ih)
  obtain ⟨-, n2, n3⟩ := (hN r hr).2 hrl k hk
  have b := n2.mp hf.1
  simp (disch := omega) only [wY_fetch_2, not_true, not_false_iff, true_implies, false_implies, implies_true, true_and, and_true, forall_eq, eq_self, ra_i, ra_c, ra_m3, ra_m4, ra_m16, ra_4m, ra_14m, ra_16m, nI_add, nI_1, lN_1, ra_p2, ra_2p, ra_n0, ra_p0, ra_q0, ra_q1, ra_q2, ra_q3, ra_n3, ra_n4, ra_n10, ra_n14, ra_n16, ra_n30, ra_n140, ra_y3, ra_y4, ra_y10, ra_y14, ra_y16, ra_y30, ra_y140]
  refine yl_sourceOf hk (fun z => ra_E_y hE z (fun y => b (n3 z y))) ?_
  by_cases e1 : e = -1
  · simp (disch := omega) only [b, e1, not_true, not_false_iff, true_implies, false_implies, implies_true, true_and, and_true, forall_eq, eq_self, ra_i, ra_c, ra_m3, ra_m4, ra_m16, ra_4m, ra_14m, ra_16m, nI_add, nI_1, lN_1, ra_p2, ra_2p, ra_n0, ra_p0, ra_q0, ra_q1, ra_q2, ra_q3, ra_n3, ra_n4, ra_n10, ra_n14, ra_n16, ra_n30, ra_n140, ra_y3, ra_y4, ra_y10, ra_y14, ra_y16, ra_y30, ra_y140]
    exact h
  · have z := hf.2.resolve_left e1
    simp (disch := omega) only [b, e1, not_true, not_false_iff, true_implies, false_implies, implies_true, true_and, and_true, forall_eq, eq_self, ra_i, ra_c, ra_m3, ra_m4, ra_m16, ra_4m, ra_14m, ra_16m, nI_add, nI_1, lN_1, ra_p2, ra_2p, ra_n0, ra_p0, ra_q0, ra_q1, ra_q2, ra_q3, ra_n3, ra_n4, ra_n10, ra_n14, ra_n16, ra_n30, ra_n140, ra_y3, ra_y4, ra_y10, ra_y14, ra_y16, ra_y30, ra_y140]
    exact br_t z h
/-! letters -/
def ra_fl (ep lt : Nat → Int32) (lo : Nat → Int64) (r : Nat) (e : Int32) (p : Nat) : Bool := decide (¬ lo p = 0 ∧ lt p = nI r ∧ (e = -1 ∨ ep (p / 3) = e))
def ra_bl (ep lt : Nat → Int32) (lo : Nat → Int64) (r : Nat) (e : Int32) (n : Nat) : Option Nat := ra_best (ra_fl ep lt lo r e) (fun i j => decide ((lo i).toInt < (lo j).toInt)) n
theorem xl_fl_t {r i : Nat} {e : Int32} {z : Int32} {J : Int32 → Int32 → Prop} {post : Int32 → Prop} (hi : i < 30) (h : z = ra_e (ra_bl ep lt lo r e i)) (hf : ra_fl ep lt lo r e i = true) (hJ : J (ra_e (ra_bl ep lt lo r e (i + 1))) (nI (i + 1))) : wX_firstLetter_44 post J (nI r) e z (nI i) 1 (lN c) ep st pt bs pr tk mk rs vl cl nb al wt lg wd sn lo lt lv gk gt gf gl gs gn sl ss sb pa du oft bg av tt := by
  subst h
  have ee : ra_bl ep lt lo r e (i + 1) = match ra_bl ep lt lo r e i with
      | none => if ra_fl ep lt lo r e i = true then some i else none
      | some b => if (ra_fl ep lt lo r e i && decide ((lo i).toInt < (lo b).toInt)) = true then some i else some b := rfl
  rw [ee] at hJ
  cases hb : ra_bl ep lt lo r e i with
  | none =>
    rw [hb] at hJ
    simp only [hf, if_true] at hJ
    simp (disch := omega) only [wX_firstLetter_44, ra_e, not_true, not_false_iff, true_implies, false_implies, implies_true, true_and, and_true, forall_eq, eq_self, ra_i, ra_c, ra_m3, ra_m4, ra_m16, ra_4m, ra_14m, ra_16m, nI_add, nI_1, lN_1, ra_p2, ra_2p, ra_n0, ra_p0, ra_q0, ra_q1, ra_q2, ra_q3, ra_n3, ra_n4, ra_n10, ra_n14, ra_n16, ra_n30, ra_n140, ra_y3, ra_y4, ra_y10, ra_y14, ra_y16, ra_y30, ra_y140]
    exact hJ
  | some b =>
    have hb' : b < 30 := by have := (ra_best_in hb).1; omega
    rw [hb] at hJ
    simp only [hf, Bool.true_and, decide_eq_true_eq] at hJ
    simp (disch := omega) only [wX_firstLetter_44, ra_e, not_true, not_false_iff, true_implies, false_implies, implies_true, true_and, and_true, forall_eq, eq_self, ra_i, ra_c, ra_m3, ra_m4, ra_m16, ra_4m, ra_14m, ra_16m, nI_add, nI_1, lN_1, ra_p2, ra_2p, ra_n0, ra_p0, ra_q0, ra_q1, ra_q2, ra_q3, ra_n3, ra_n4, ra_n10, ra_n14, ra_n16, ra_n30, ra_n140, ra_y3, ra_y4, ra_y10, ra_y14, ra_y16, ra_y30, ra_y140]
    by_cases y : (lo i).toInt < (lo b).toInt
    · have y' : ¬ lo b ≤ lo i := by rw [Int64.le_iff_toInt_le]; omega
      rw [if_pos y] at hJ
      simp (disch := omega) only [y', not_true, not_false_iff, true_implies, false_implies, implies_true, true_and, and_true, forall_eq, eq_self, ra_i, ra_c, ra_m3, ra_m4, ra_m16, ra_4m, ra_14m, ra_16m, nI_add, nI_1, lN_1, ra_p2, ra_2p, ra_n0, ra_p0, ra_q0, ra_q1, ra_q2, ra_q3, ra_n3, ra_n4, ra_n10, ra_n14, ra_n16, ra_n30, ra_n140, ra_y3, ra_y4, ra_y10, ra_y14, ra_y16, ra_y30, ra_y140]
      exact hJ
    · have y' : lo b ≤ lo i := by rw [Int64.le_iff_toInt_le]; omega
      rw [if_neg y] at hJ
      simp (disch := omega) only [y', not_true, not_false_iff, true_implies, false_implies, implies_true, true_and, and_true, forall_eq, eq_self, ra_i, ra_c, ra_m3, ra_m4, ra_m16, ra_4m, ra_14m, ra_16m, nI_add, nI_1, lN_1, ra_p2, ra_2p, ra_n0, ra_p0, ra_q0, ra_q1, ra_q2, ra_q3, ra_n3, ra_n4, ra_n10, ra_n14, ra_n16, ra_n30, ra_n140, ra_y3, ra_y4, ra_y10, ra_y14, ra_y16, ra_y30, ra_y140]
      exact hJ
theorem xl_fl_f {r i : Nat} {e : Int32} {z : Int32} {J : Int32 → Int32 → Prop} {post : Int32 → Prop} (hi : i < 30) (h : z = ra_e (ra_bl ep lt lo r e i)) (hf : ¬ ra_fl ep lt lo r e i = true) (hJ : J (ra_e (ra_bl ep lt lo r e (i + 1))) (nI (i + 1))) : wX_firstLetter_43 post J (nI r) e z (nI i) (lN c) ep st pt bs pr tk mk rs vl cl nb al wt lg wd sn lo lt lv gk gt gf gl gs gn sl ss sb pa du oft bg av tt := by
  subst h
  have ee : ra_bl ep lt lo r e (i + 1) = match ra_bl ep lt lo r e i with
      | none => if ra_fl ep lt lo r e i = true then some i else none
      | some b => if (ra_fl ep lt lo r e i && decide ((lo i).toInt < (lo b).toInt)) = true then some i else some b := rfl
  rw [ee] at hJ
  cases hb : ra_bl ep lt lo r e i with
  | none =>
    rw [hb] at hJ
    simp only [hf, if_false] at hJ
    simp (disch := omega) only [wX_firstLetter_43, wX_firstLetter_44, not_true, not_false_iff, true_implies, false_implies, implies_true, true_and, and_true, forall_eq, eq_self, ra_i, ra_c, ra_m3, ra_m4, ra_m16, ra_4m, ra_14m, ra_16m, nI_add, nI_1, lN_1, ra_p2, ra_2p, ra_n0, ra_p0, ra_q0, ra_q1, ra_q2, ra_q3, ra_n3, ra_n4, ra_n10, ra_n14, ra_n16, ra_n30, ra_n140, ra_y3, ra_y4, ra_y10, ra_y14, ra_y16, ra_y30, ra_y140]
    exact hJ
  | some b =>
    rw [hb] at hJ
    simp only [ra_nt hf, Bool.false_and, Bool.false_eq_true, if_false] at hJ
    simp (disch := omega) only [wX_firstLetter_43, wX_firstLetter_44, not_true, not_false_iff, true_implies, false_implies, implies_true, true_and, and_true, forall_eq, eq_self, ra_i, ra_c, ra_m3, ra_m4, ra_m16, ra_4m, ra_14m, ra_16m, nI_add, nI_1, lN_1, ra_p2, ra_2p, ra_n0, ra_p0, ra_q0, ra_q1, ra_q2, ra_q3, ra_n3, ra_n4, ra_n10, ra_n14, ra_n16, ra_n30, ra_n140, ra_y3, ra_y4, ra_y10, ra_y14, ra_y16, ra_y30, ra_y140]
    exact hJ
theorem xl_firstLetter {r : Nat} {e : Int32} {post : Int32 → Prop} (h : post (ra_e (ra_bl ep lt lo r e 30))) : wpX_firstLetter post (lN c, ep, st, pt, bs, pr, tk, mk, rs, vl, cl, nb, al, wt, lg, wd, sn, lo, lt, lv, gk, gt, gf, gl, gs, gn, sl, ss, sb, pa, du, oft, bg, av, tt) (nI r) e := by
  refine ra_run (fun n i => wX_firstLetter_5 post (nI r) e (lN c) ep st pt bs pr tk mk rs vl cl nb al wt lg wd sn lo lt lv gk gt gf gl gs gn sl ss sb pa du oft bg av tt n (ra_e (ra_bl ep lt lo r e i)) (nI i)) 30 (fun n => ?_) (fun n i hi ih => ?_)
  · simp (disch := omega) only [wX_firstLetter_5, not_true, not_false_iff, true_implies, false_implies, implies_true, true_and, and_true, forall_eq, eq_self, ra_i, ra_c, ra_m3, ra_m4, ra_m16, ra_4m, ra_14m, ra_16m, nI_add, nI_1, lN_1, ra_p2, ra_2p, ra_n0, ra_p0, ra_q0, ra_q1, ra_q2, ra_q3, ra_n3, ra_n4, ra_n10, ra_n14, ra_n16, ra_n30, ra_n140, ra_y3, ra_y4, ra_y10, ra_y14, ra_y16, ra_y30, ra_y140]
    exact h
  · by_cases a : lo i = 0
    · have hf : ¬ ra_fl ep lt lo r e i = true := fun z => (of_decide_eq_true z).1 a
      have w := xl_fl_f (c := c) (st := st) (pt := pt) (bs := bs) (pr := pr) (tk := tk) (mk := mk) (rs := rs) (vl := vl) (cl := cl) (nb := nb) (al := al) (wt := wt) (lg := lg) (wd := wd) (sn := sn) (lv := lv) (gk := gk) (gt := gt) (gf := gf) (gl := gl) (gs := gs) (gn := gn) (sl := sl) (ss := ss) (sb := sb) (pa := pa) (du := du) (oft := oft) (bg := bg) (av := av) (tt := tt) (post := post) (J := wX_firstLetter_5 post (nI r) e (lN c) ep st pt bs pr tk mk rs vl cl nb al wt lg wd sn lo lt lv gk gt gf gl gs gn sl ss sb pa du oft bg av tt n) hi rfl hf ih
      simp (disch := omega) only [wX_firstLetter_5, wpX_isLetterFor, a, not_true, not_false_iff, true_implies, false_implies, implies_true, true_and, and_true, forall_eq, eq_self, ra_i, ra_c, ra_m3, ra_m4, ra_m16, ra_4m, ra_14m, ra_16m, nI_add, nI_1, lN_1, ra_p2, ra_2p, ra_n0, ra_p0, ra_q0, ra_q1, ra_q2, ra_q3, ra_n3, ra_n4, ra_n10, ra_n14, ra_n16, ra_n30, ra_n140, ra_y3, ra_y4, ra_y10, ra_y14, ra_y16, ra_y30, ra_y140]
      exact w
    · by_cases b : lt i = nI r
      · by_cases e1 : e = -1
        · have hf : ra_fl ep lt lo r e i = true := decide_eq_true ⟨a, b, Or.inl e1⟩
          have w := xl_fl_t (c := c) (st := st) (pt := pt) (bs := bs) (pr := pr) (tk := tk) (mk := mk) (rs := rs) (vl := vl) (cl := cl) (nb := nb) (al := al) (wt := wt) (lg := lg) (wd := wd) (sn := sn) (lv := lv) (gk := gk) (gt := gt) (gf := gf) (gl := gl) (gs := gs) (gn := gn) (sl := sl) (ss := ss) (sb := sb) (pa := pa) (du := du) (oft := oft) (bg := bg) (av := av) (tt := tt) (post := post) (J := wX_firstLetter_5 post (nI r) e (lN c) ep st pt bs pr tk mk rs vl cl nb al wt lg wd sn lo lt lv gk gt gf gl gs gn sl ss sb pa du oft bg av tt n) hi rfl hf ih
          simp (disch := omega) only [wX_firstLetter_5, wpX_isLetterFor, wpX_isFrom, a, b, e1, ra_d3, not_true, not_false_iff, true_implies, false_implies, implies_true, true_and, and_true, forall_eq, eq_self, ra_i, ra_c, ra_m3, ra_m4, ra_m16, ra_4m, ra_14m, ra_16m, nI_add, nI_1, lN_1, ra_p2, ra_2p, ra_n0, ra_p0, ra_q0, ra_q1, ra_q2, ra_q3, ra_n3, ra_n4, ra_n10, ra_n14, ra_n16, ra_n30, ra_n140, ra_y3, ra_y4, ra_y10, ra_y14, ra_y16, ra_y30, ra_y140]
          subst e1
          exact w
        · by_cases e2 : ep (i / 3) = e
          · have hf : ra_fl ep lt lo r e i = true := decide_eq_true ⟨a, b, Or.inr e2⟩
            have w := xl_fl_t (c := c) (st := st) (pt := pt) (bs := bs) (pr := pr) (tk := tk) (mk := mk) (rs := rs) (vl := vl) (cl := cl) (nb := nb) (al := al) (wt := wt) (lg := lg) (wd := wd) (sn := sn) (lv := lv) (gk := gk) (gt := gt) (gf := gf) (gl := gl) (gs := gs) (gn := gn) (sl := sl) (ss := ss) (sb := sb) (pa := pa) (du := du) (oft := oft) (bg := bg) (av := av) (tt := tt) (post := post) (J := wX_firstLetter_5 post (nI r) e (lN c) ep st pt bs pr tk mk rs vl cl nb al wt lg wd sn lo lt lv gk gt gf gl gs gn sl ss sb pa du oft bg av tt n) hi rfl hf ih
            simp (disch := omega) only [wX_firstLetter_5, wpX_isLetterFor, wpX_isFrom, a, b, e1, e2, ra_d3, not_true, not_false_iff, true_implies, false_implies, implies_true, true_and, and_true, forall_eq, eq_self, ra_i, ra_c, ra_m3, ra_m4, ra_m16, ra_4m, ra_14m, ra_16m, nI_add, nI_1, lN_1, ra_p2, ra_2p, ra_n0, ra_p0, ra_q0, ra_q1, ra_q2, ra_q3, ra_n3, ra_n4, ra_n10, ra_n14, ra_n16, ra_n30, ra_n140, ra_y3, ra_y4, ra_y10, ra_y14, ra_y16, ra_y30, ra_y140]
            exact w
          · have hf : ¬ ra_fl ep lt lo r e i = true := fun z => (of_decide_eq_true z).2.2.elim e1 e2
            have w := xl_fl_f (c := c) (st := st) (pt := pt) (bs := bs) (pr := pr) (tk := tk) (mk := mk) (rs := rs) (vl := vl) (cl := cl) (nb := nb) (al := al) (wt := wt) (lg := lg) (wd := wd) (sn := sn) (lv := lv) (gk := gk) (gt := gt) (gf := gf) (gl := gl) (gs := gs) (gn := gn) (sl := sl) (ss := ss) (sb := sb) (pa := pa) (du := du) (oft := oft) (bg := bg) (av := av) (tt := tt) (post := post) (J := wX_firstLetter_5 post (nI r) e (lN c) ep st pt bs pr tk mk rs vl cl nb al wt lg wd sn lo lt lv gk gt gf gl gs gn sl ss sb pa du oft bg av tt n) hi rfl hf ih
            simp (disch := omega) only [wX_firstLetter_5, wpX_isLetterFor, wpX_isFrom, a, b, e1, e2, ra_d3, not_true, not_false_iff, true_implies, false_implies, implies_true, true_and, and_true, forall_eq, eq_self, ra_i, ra_c, ra_m3, ra_m4, ra_m16, ra_4m, ra_14m, ra_16m, nI_add, nI_1, lN_1, ra_p2, ra_2p, ra_n0, ra_p0, ra_q0, ra_q1, ra_q2, ra_q3, ra_n3, ra_n4, ra_n10, ra_n14, ra_n16, ra_n30, ra_n140, ra_y3, ra_y4, ra_y10, ra_y14, ra_y16, ra_y30, ra_y140]
            exact w
      · have hf : ¬ ra_fl ep lt lo r e i = true := fun z => b (of_decide_eq_true z).2.1
        have w := xl_fl_f (c := c) (st := st) (pt := pt) (bs := bs) (pr := pr) (tk := tk) (mk := mk) (rs := rs) (vl := vl) (cl := cl) (nb := nb) (al := al) (wt := wt) (lg := lg) (wd := wd) (sn := sn) (lv := lv) (gk := gk) (gt := gt) (gf := gf) (gl := gl) (gs := gs) (gn := gn) (sl := sl) (ss := ss) (sb := sb) (pa := pa) (du := du) (oft := oft) (bg := bg) (av := av) (tt := tt) (post := post) (J := wX_firstLetter_5 post (nI r) e (lN c) ep st pt bs pr tk mk rs vl cl nb al wt lg wd sn lo lt lv gk gt gf gl gs gn sl ss sb pa du oft bg av tt n) hi rfl hf ih
        simp (disch := omega) only [wX_firstLetter_5, wpX_isLetterFor, a, b, not_true, not_false_iff, true_implies, false_implies, implies_true, true_and, and_true, forall_eq, eq_self, ra_i, ra_c, ra_m3, ra_m4, ra_m16, ra_4m, ra_14m, ra_16m, nI_add, nI_1, lN_1, ra_p2, ra_2p, ra_n0, ra_p0, ra_q0, ra_q1, ra_q2, ra_q3, ra_n3, ra_n4, ra_n10, ra_n14, ra_n16, ra_n30, ra_n140, ra_y3, ra_y4, ra_y10, ra_y14, ra_y16, ra_y30, ra_y140]
        exact w
end
