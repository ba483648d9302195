/-! copy -/
section
variable {B c m n : Nat} {st pr bs tk mk vl cl rs al wt wd tt sb pa du oft bg av ep pt nb lg lt lv gk gt gf gl gs gn sl ss bo ot so sq go mo nt fr tw tx gr ge g1 g2 g3 sv lf se cp : Nat → Int32} {sn lo : Nat → Int64}
theorem xl_moveWords {a b N : Nat} {post : SX → Prop} (ha : a + N ≤ 160) (hb : b + N ≤ 160) (hN : 1 ≤ N) (h : post (lN c, ep, st, pt, bs, pr, tk, mk, rs, vl, cl, nb, al, wt, lg, ra_mv wd a b N, sn, lo, lt, lv, gk, gt, gf, gl, gs, gn, sl, ss, sb, pa, du, oft, bg, av, tt)) : wpX_moveWords post (lN c, ep, st, pt, bs, pr, tk, mk, rs, vl, cl, nb, al, wt, lg, wd, sn, lo, lt, lv, gk, gt, gf, gl, gs, gn, sl, ss, sb, pa, du, oft, bg, av, tt) (nI a) (nI b) (nI N) := by
  simp only [wpX_moveWords]
  by_cases ab : a ≤ b
  · refine br_t (nI_le ab (by omega)) ?_
    have key : ∀ i, i ≤ N → wX_moveWords_46 post (nI a) (nI b) (lN c) (i + 1) (nI i - 1) ep st pt bs pr tk mk rs vl cl nb al wt lg (ra_md wd a b i N) sn lo lt lv gk gt gf gl gs gn sl ss sb pa du oft bg av tt := by
      intro i
      induction i with
      | zero =>
        intro _
        rw [wX_moveWords_46]
        refine br_t (by decide) ?_
        rw [ra_md_e]
        exact h
      | succ i ih =>
        intro hi
        have w := ih (by omega)
        rw [wX_moveWords_46, nI_pred]
        simp (disch := omega) only [ra_m1', ra_md_s, not_true, not_false_iff, true_implies, false_implies, implies_true, true_and, and_true, forall_eq, eq_self, ra_i, ra_c, ra_m3, ra_m4, ra_m16, ra_4m, ra_14m, ra_16m, nI_add, nI_1, lN_1, ra_p2, ra_2p, ra_n0, ra_p0, ra_q0, ra_q1, ra_q2, ra_q3, ra_n3, ra_n4, ra_n10, ra_n14, ra_n16, ra_n30, ra_n140, ra_y3, ra_y4, ra_y10, ra_y14, ra_y16, ra_y30, ra_y140]
        exact w
    have w := key N (Nat.le_refl _)
    rw [ra_md_0] at w
    exact nm_e ⟨_, w⟩
  · refine br_f (nI_ge (by omega) (by omega)) ?_
    obtain ⟨k, hk⟩ := ra_run (fun n i => wX_moveWords_8 post (nI a) (nI b) (nI N) (lN c) n (nI i) ep st pt bs pr tk mk rs vl cl nb al wt lg (ra_mv wd a b i) sn lo lt lv gk gt gf gl gs gn sl ss sb pa du oft bg av tt) N (fun n => by
      have le : nI N ≤ nI N := Int32.le_refl _
      simp (disch := omega) only [wX_moveWords_8, le, not_true, not_false_iff, true_implies, false_implies, implies_true, true_and, and_true, forall_eq, eq_self, ra_i, ra_c, ra_m3, ra_m4, ra_m16, ra_4m, ra_14m, ra_16m, nI_add, nI_1, lN_1, ra_p2, ra_2p, ra_n0, ra_p0, ra_q0, ra_q1, ra_q2, ra_q3, ra_n3, ra_n4, ra_n10, ra_n14, ra_n16, ra_n30, ra_n140, ra_y3, ra_y4, ra_y10, ra_y14, ra_y16, ra_y30, ra_y140]
      exact h) (fun n i hi ih => by
      have le : ¬ nI N ≤ nI i := nI_ge (by omega) (by omega)
      simp (disch := omega) only [wX_moveWords_8, le, ra_mv_s, not_true, not_false_iff, true_implies, false_implies, implies_true, true_and, and_true, forall_eq, eq_self, ra_i, ra_c, ra_m3, ra_m4, ra_m16, ra_4m, ra_14m, ra_16m, nI_add, nI_1, lN_1, ra_p2, ra_2p, ra_n0, ra_p0, ra_q0, ra_q1, ra_q2, ra_q3, ra_n3, ra_n4, ra_n10, ra_n14, ra_n16, ra_n30, ra_n140, ra_y3, ra_y4, ra_y10, ra_y14, ra_y16, ra_y30, ra_y140]
      exact ih)
    try dsimp only at hk
    rw [ra_mv_0] at hk
    exact ⟨k, hk⟩
theorem yl_copy278 {a b N : Nat} {x6 x13 x14 : Int32} {post : Int32 → SY → Prop} (ha : a + N ≤ 160) (hb : b + N ≤ 160) (hN : N ≤ 16) (h6 : (x6 = 0 ∧ x14 = nI a ∧ x13 = nI b) ∨ (¬ x6 = 0 ∧ x13 = nI a ∧ x14 = nI b)) (h : post 0 (nI n, nI m, st, bo, bs, pr, tk, mk, ot, vl, rs, al, wt, so, sq, go, mo, cl, ra_mv wd a b N, nt, fr, tw, tx, gr, ge, g1, g2, g3, sv, sb, lf, pa, du, av, bg, oft, se, upd tt 6 (tt 6 + nI N), ra_cp cp wd a N)) : ∃ q, wY_copy_278 post (nI N) x6 x13 x14 (nI n) (nI m) q 0 st bo bs pr tk mk ot vl rs al wt so sq go mo cl wd nt fr tw tx gr ge g1 g2 g3 sv sb lf pa du av bg oft se tt cp := by
  have s2 : ∃ q, wY_copy_321 post (nI N) x6 x13 x14 (nI n) (nI m) q 0 st bo bs pr tk mk ot vl rs al wt so sq go mo cl wd nt fr tw tx gr ge g1 g2 g3 sv sb lf pa du av bg oft se tt (ra_cp cp wd a N) := by
    obtain ⟨k, hk⟩ := ra_run (fun q i => wY_copy_321 post (nI N) x6 x13 x14 (nI n) (nI m) q (nI i) st bo bs pr tk mk ot vl rs al wt so sq go mo cl (ra_mv wd a b i) nt fr tw tx gr ge g1 g2 g3 sv sb lf pa du av bg oft se tt (ra_cp cp wd a N)) N (fun q => by
      have le : nI N ≤ nI N := Int32.le_refl _
      simp (disch := omega) only [wY_copy_321, le, not_true, not_false_iff, true_implies, false_implies, implies_true, true_and, and_true, forall_eq, eq_self, ra_i, ra_c, ra_m3, ra_m4, ra_m16, ra_4m, ra_14m, ra_16m, nI_add, nI_1, lN_1, ra_p2, ra_2p, ra_n0, ra_p0, ra_q0, ra_q1, ra_q2, ra_q3, ra_n3, ra_n4, ra_n10, ra_n14, ra_n16, ra_n30, ra_n140, ra_y3, ra_y4, ra_y10, ra_y14, ra_y16, ra_y30, ra_y140]
      exact h) (fun q i hi ih => by
      have le : ¬ nI N ≤ nI i := nI_ge (by omega) (by omega)
      rcases h6 with ⟨z, e1, e2⟩ | ⟨z, e1, e2⟩
      · subst e1 e2
        simp (disch := omega) only [wY_copy_321, wY_copy_344, le, z, ra_mv_y wd cp hi, not_true, not_false_iff, true_implies, false_implies, implies_true, true_and, and_true, forall_eq, eq_self, ra_i, ra_c, ra_m3, ra_m4, ra_m16, ra_4m, ra_14m, ra_16m, nI_add, nI_1, lN_1, ra_p2, ra_2p, ra_n0, ra_p0, ra_q0, ra_q1, ra_q2, ra_q3, ra_n3, ra_n4, ra_n10, ra_n14, ra_n16, ra_n30, ra_n140, ra_y3, ra_y4, ra_y10, ra_y14, ra_y16, ra_y30, ra_y140]
        subst z
        exact ih
      · subst e1 e2
        simp (disch := omega) only [wY_copy_321, wY_copy_344, le, z, ra_mv_y wd cp hi, not_true, not_false_iff, true_implies, false_implies, implies_true, true_and, and_true, forall_eq, eq_self, ra_i, ra_c, ra_m3, ra_m4, ra_m16, ra_4m, ra_14m, ra_16m, nI_add, nI_1, lN_1, ra_p2, ra_2p, ra_n0, ra_p0, ra_q0, ra_q1, ra_q2, ra_q3, ra_n3, ra_n4, ra_n10, ra_n14, ra_n16, ra_n30, ra_n140, ra_y3, ra_y4, ra_y10, ra_y14, ra_y16, ra_y30, ra_y140]
        exact ih)
    try dsimp only at hk
    rw [ra_mv_0] at hk
    exact ⟨k, hk⟩
  obtain ⟨k, hk⟩ := ra_run (fun q i => wY_copy_278 post (nI N) x6 x13 x14 (nI n) (nI m) q (nI i) st bo bs pr tk mk ot vl rs al wt so sq go mo cl wd nt fr tw tx gr ge g1 g2 g3 sv sb lf pa du av bg oft se tt (ra_cp cp wd a i)) N (fun q => by
    have le : nI N ≤ nI N := Int32.le_refl _
    simp (disch := omega) only [wY_copy_278, le, not_true, not_false_iff, true_implies, false_implies, implies_true, true_and, and_true, forall_eq, eq_self, ra_i, ra_c, ra_m3, ra_m4, ra_m16, ra_4m, ra_14m, ra_16m, nI_add, nI_1, lN_1, ra_p2, ra_2p, ra_n0, ra_p0, ra_q0, ra_q1, ra_q2, ra_q3, ra_n3, ra_n4, ra_n10, ra_n14, ra_n16, ra_n30, ra_n140, ra_y3, ra_y4, ra_y10, ra_y14, ra_y16, ra_y30, ra_y140]
    exact s2) (fun q i hi ih => by
    have le : ¬ nI N ≤ nI i := nI_ge (by omega) (by omega)
    rcases h6 with ⟨z, e1, e2⟩ | ⟨z, e1, e2⟩
    · subst e1 e2
      simp (disch := omega) only [wY_copy_278, le, z, ra_cp_s, not_true, not_false_iff, true_implies, false_implies, implies_true, true_and, and_true, forall_eq, eq_self, ra_i, ra_c, ra_m3, ra_m4, ra_m16, ra_4m, ra_14m, ra_16m, nI_add, nI_1, lN_1, ra_p2, ra_2p, ra_n0, ra_p0, ra_q0, ra_q1, ra_q2, ra_q3, ra_n3, ra_n4, ra_n10, ra_n14, ra_n16, ra_n30, ra_n140, ra_y3, ra_y4, ra_y10, ra_y14, ra_y16, ra_y30, ra_y140]
      subst z
      exact ih
    · subst e1 e2
      simp (disch := omega) only [wY_copy_278, le, z, ra_cp_s, not_true, not_false_iff, true_implies, false_implies, implies_true, true_and, and_true, forall_eq, eq_self, ra_i, ra_c, ra_m3, ra_m4, ra_m16, ra_4m, ra_14m, ra_16m, nI_add, nI_1, lN_1, ra_p2, ra_2p, ra_n0, ra_p0, ra_q0, ra_q1, ra_q2, ra_q3, ra_n3, ra_n4, ra_n10, ra_n14, ra_n16, ra_n30, ra_n140, ra_y3, ra_y4, ra_y10, ra_y14, ra_y16, ra_y30, ra_y140]
      exact ih)
  try dsimp only at hk
  rw [ra_cp_0] at hk
  exact ⟨k, hk⟩
/-- the chain of grants -/
theorem ra_chain (hB : B ≤ 2 ^ 26) (h : ra_R B c m n st pr tk rs al tt pa bs sb ep pt nb lg sn lo lt lv gk gt gf gl gs gn sl ss bo ot so sq go mo nt fr tw tx gr ge g1 g2 g3 sv lf se) : ∀ (d i id : Nat) (taker giver : Int32), i + d = 4 → id < 4 →
    (∃ w : Int32, (w = -3 ∨ w = -4) ∧ (∀ post : Int32 → Prop, post w → wX_followGrants_12 post (lN c) ep st pt bs pr tk mk rs vl cl nb al wt lg wd sn lo lt lv gk gt gf gl gs gn sl ss sb pa du oft bg av tt (d + 1) taker giver (nI id) (nI i)) ∧ (∀ (post : Int32 → SY → Prop) (x3 x4 x5 x6 x7 k : Int32), post w (nI n, nI m, st, bo, bs, pr, tk, mk, ot, vl, rs, al, wt, so, sq, go, mo, cl, wd, nt, fr, tw, tx, gr, ge, g1, g2, g3, sv, sb, lf, pa, du, av, bg, oft, se, tt, cp) → wY_copy_85 post x3 x4 x5 x6 x7 (nI n) (nI m) st bo bs pr tk mk ot vl rs al wt so sq go mo cl wd nt fr tw tx gr ge g1 g2 g3 sv sb lf pa du av bg oft se tt cp (d + 1) taker giver (nI id) k (nI (i + 1)))) ∨
    ∃ s j, s < 10 ∧ j < 4 ∧ gr (4 * s + j) = 1 ∧ ra_K gk gt gf gl gs gn gr ge g1 g2 g3 (4 * s + j) ∧ (∀ post : Int32 → Prop, post (nI (4 * s + j)) → wX_followGrants_12 post (lN c) ep st pt bs pr tk mk rs vl cl nb al wt lg wd sn lo lt lv gk gt gf gl gs gn sl ss sb pa du oft bg av tt (d + 1) taker giver (nI id) (nI i)) ∧ (∀ (post : Int32 → SY → Prop) (x3 x4 x5 x6 x7 k : Int32), wY_copy_204 post x3 x4 x5 x6 x7 (nI (4 * s + j)) (nI n) (nI m) st bo bs pr tk mk ot vl rs al wt so sq go mo cl wd nt fr tw tx gr ge g1 g2 g3 sv sb lf pa du av bg oft se tt cp → wY_copy_85 post x3 x4 x5 x6 x7 (nI n) (nI m) st bo bs pr tk mk ot vl rs al wt so sq go mo cl wd nt fr tw tx gr ge g1 g2 g3 sv sb lf pa du av bg oft se tt cp (d + 1) taker giver (nI id) k (nI (i + 1))) := by
  intro d
  induction d with
  | zero =>
    intro i id taker giver hi hid
    have : i = 4 := by omega
    subst this
    refine Or.inl ⟨-4, Or.inr rfl, fun post hp => ?_, fun post x3 x4 x5 x6 x7 k hp => ?_⟩
    · simp (disch := omega) only [wX_followGrants_12, not_true, not_false_iff, true_implies, false_implies, implies_true, true_and, and_true, forall_eq, eq_self, ra_i, ra_c, ra_m3, ra_m4, ra_m16, ra_4m, ra_14m, ra_16m, nI_add, nI_1, lN_1, ra_p2, ra_2p, ra_n0, ra_p0, ra_q0, ra_q1, ra_q2, ra_q3, ra_n3, ra_n4, ra_n10, ra_n14, ra_n16, ra_n30, ra_n140, ra_y3, ra_y4, ra_y10, ra_y14, ra_y16, ra_y30, ra_y140]
      exact hp
    · rw [wY_copy_85]
      exact br_f (by decide) (br_t rfl hp)
  | succ d ih =>
    intro i id taker giver hi hid
    have n6 : ¬ (6 : Int32) ≤ nI (i + 1) := nI_ge (b := 6) (by omega) (by decide)
    have n5 : ¬ nI (i + 1) = 5 := by
      intro z
      have : nI (i + 1) = nI 5 := z
      rw [nI_eq (by omega) (by omega)] at this
      omega
    rcases ra_slot_both (mk := mk) (vl := vl) (cl := cl) (wt := wt) (wd := wd) (du := du) (oft := oft) (bg := bg) (av := av) (cp := cp) hB h giver with ⟨-, sX, sY⟩ | ⟨s, hs, hl, he, ha, hp0, sX, sY⟩
    · refine Or.inl ⟨-3, Or.inl rfl, fun post hp => ?_, fun post x3 x4 x5 x6 x7 k hp => ?_⟩
      · rw [wX_followGrants_12]
        exact br_f (nI_ge (b := 4) (by omega) (by decide)) (sX _ (br_f (by decide) hp))
      · rw [wY_copy_85]
        exact br_f n6 (br_f n5 (sY _ (br_f (by decide) hp)))
    · have hK := (h.2.2.2.2.2.2.1 s hs id hid).2 hl
      have lt4 : ¬ (4 : Int32) ≤ nI i := nI_ge (b := 4) (by omega) (by decide)
      -- the walks up to the grant
      have X0 : ∀ post : Int32 → Prop, ((gk (4 * s + id) = 0 → post (-4)) ∧ (¬ gk (4 * s + id) = 0 → (gt (4 * s + id) = -1 → wX_followGrants_79 post (wX_followGrants_12 post (lN c) ep st pt bs pr tk mk rs vl cl nb al wt lg wd sn lo lt lv gk gt gf gl gs gn sl ss sb pa du oft bg av tt (d + 1)) giver (nI i) (nI (4 * s + id)) (lN c) ep st pt bs pr tk mk rs vl cl nb al wt lg wd sn lo lt lv gk gt gf gl gs gn sl ss sb pa du oft bg av tt) ∧ (¬ gt (4 * s + id) = -1 → (gt (4 * s + id) = taker → wX_followGrants_79 post (wX_followGrants_12 post (lN c) ep st pt bs pr tk mk rs vl cl nb al wt lg wd sn lo lt lv gk gt gf gl gs gn sl ss sb pa du oft bg av tt (d + 1)) giver (nI i) (nI (4 * s + id)) (lN c) ep st pt bs pr tk mk rs vl cl nb al wt lg wd sn lo lt lv gk gt gf gl gs gn sl ss sb pa du oft bg av tt) ∧ (¬ gt (4 * s + id) = taker → post (-4))))) → wX_followGrants_12 post (lN c) ep st pt bs pr tk mk rs vl cl nb al wt lg wd sn lo lt lv gk gt gf gl gs gn sl ss sb pa du oft bg av tt (d + 1 + 1) taker giver (nI id) (nI i) := by
        intro post hp
        rw [wX_followGrants_12]
        refine br_f lt4 (sX _ (br_t (nI_pos' (by omega)) ?_))
        simp (disch := omega) only [not_true, not_false_iff, true_implies, false_implies, implies_true, true_and, and_true, forall_eq, eq_self, ra_i, ra_c, ra_m3, ra_m4, ra_m16, ra_4m, ra_14m, ra_16m, nI_add, nI_1, lN_1, ra_p2, ra_2p, ra_n0, ra_p0, ra_q0, ra_q1, ra_q2, ra_q3, ra_n3, ra_n4, ra_n10, ra_n14, ra_n16, ra_n30, ra_n140, ra_y3, ra_y4, ra_y10, ra_y14, ra_y16, ra_y30, ra_y140]
        exact hp
      have Y0 : ∀ (post : Int32 → SY → Prop) (x3 x4 x5 x6 x7 k : Int32), ((gr (4 * s + id) = 0 → post (-4) (nI n, nI m, st, bo, bs, pr, tk, mk, ot, vl, rs, al, wt, so, sq, go, mo, cl, wd, nt, fr, tw, tx, gr, ge, g1, g2, g3, sv, sb, lf, pa, du, av, bg, oft, se, tt, cp)) ∧ (¬ gr (4 * s + id) = 0 → (ge (4 * s + id) = -1 → wY_copy_162 post (wY_copy_85 post x3 x4 x5 x6 x7 (nI n) (nI m) st bo bs pr tk mk ot vl rs al wt so sq go mo cl wd nt fr tw tx gr ge g1 g2 g3 sv sb lf pa du av bg oft se tt cp (d + 1)) x3 x4 x5 x6 x7 giver (nI (4 * s + id)) (nI (i + 1)) (nI n) (nI m) st bo bs pr tk mk ot vl rs al wt so sq go mo cl wd nt fr tw tx gr ge g1 g2 g3 sv sb lf pa du av bg oft se tt cp) ∧ (¬ ge (4 * s + id) = -1 → (ge (4 * s + id) = taker → wY_copy_162 post (wY_copy_85 post x3 x4 x5 x6 x7 (nI n) (nI m) st bo bs pr tk mk ot vl rs al wt so sq go mo cl wd nt fr tw tx gr ge g1 g2 g3 sv sb lf pa du av bg oft se tt cp (d + 1)) x3 x4 x5 x6 x7 giver (nI (4 * s + id)) (nI (i + 1)) (nI n) (nI m) st bo bs pr tk mk ot vl rs al wt so sq go mo cl wd nt fr tw tx gr ge g1 g2 g3 sv sb lf pa du av bg oft se tt cp) ∧ (¬ ge (4 * s + id) = taker → post (-4) (nI n, nI m, st, bo, bs, pr, tk, mk, ot, vl, rs, al, wt, so, sq, go, mo, cl, wd, nt, fr, tw, tx, gr, ge, g1, g2, g3, sv, sb, lf, pa, du, av, bg, oft, se, tt, cp))))) → wY_copy_85 post x3 x4 x5 x6 x7 (nI n) (nI m) st bo bs pr tk mk ot vl rs al wt so sq go mo cl wd nt fr tw tx gr ge g1 g2 g3 sv sb lf pa du av bg oft se tt cp (d + 1 + 1) taker giver (nI id) k (nI (i + 1)) := by
        intro post x3 x4 x5 x6 x7 k hp
        rw [wY_copy_85]
        refine br_f n6 (br_f n5 (sY _ (br_t (nI_pos' (by omega)) ?_)))
        simp (disch := omega) only [not_true, not_false_iff, true_implies, false_implies, implies_true, true_and, and_true, forall_eq, eq_self, ra_i, ra_c, ra_m3, ra_m4, ra_m16, ra_4m, ra_14m, ra_16m, nI_add, nI_1, lN_1, ra_p2, ra_2p, ra_n0, ra_p0, ra_q0, ra_q1, ra_q2, ra_q3, ra_n3, ra_n4, ra_n10, ra_n14, ra_n16, ra_n30, ra_n140, ra_y3, ra_y4, ra_y10, ra_y14, ra_y16, ra_y30, ra_y140]
        exact hp
      have hK' := hK
      rcases hK with ⟨k0, r0⟩ | ⟨r1, k1, k2, k3, k4, k5, f, l, k6, k7, k8⟩ | ⟨r1, k1, k2, k3, k4, j, hj, k5⟩
      · exact Or.inl ⟨-4, Or.inr rfl, fun post hp => X0 post (br_t k0 hp), fun post x3 x4 x5 x6 x7 k hp => Y0 post x3 x4 x5 x6 x7 k (br_t r0 hp)⟩
      · have kn : ¬ gk (4 * s + id) = 0 := by rcases k2 with y | y | y <;> rw [y] <;> decide
        have k4' : ¬ gk (4 * s + id) = 4 := by rcases k2 with y | y | y <;> rw [y] <;> decide
        have rn : ¬ gr (4 * s + id) = 0 := by rw [r1]; decide
        by_cases g : gt (4 * s + id) = -1 ∨ gt (4 * s + id) = taker
        · refine Or.inr ⟨s, id, hs, hid, r1, hK', fun post hp => ?_, fun post x3 x4 x5 x6 x7 k hp => ?_⟩
          · have w : wX_followGrants_79 post (wX_followGrants_12 post (lN c) ep st pt bs pr tk mk rs vl cl nb al wt lg wd sn lo lt lv gk gt gf gl gs gn sl ss sb pa du oft bg av tt (d + 1)) giver (nI i) (nI (4 * s + id)) (lN c) ep st pt bs pr tk mk rs vl cl nb al wt lg wd sn lo lt lv gk gt gf gl gs gn sl ss sb pa du oft bg av tt := by
              simp (disch := omega) only [wX_followGrants_79, k4', not_true, not_false_iff, true_implies, false_implies, implies_true, true_and, and_true, forall_eq, eq_self, ra_i, ra_c, ra_m3, ra_m4, ra_m16, ra_4m, ra_14m, ra_16m, nI_add, nI_1, lN_1, ra_p2, ra_2p, ra_n0, ra_p0, ra_q0, ra_q1, ra_q2, ra_q3, ra_n3, ra_n4, ra_n10, ra_n14, ra_n16, ra_n30, ra_n140, ra_y3, ra_y4, ra_y10, ra_y14, ra_y16, ra_y30, ra_y140]
              exact hp
            exact X0 post (br_f kn (br_c (fun _ => w) (fun y => br_t (g.resolve_left y) w)))
          · have w : wY_copy_162 post (wY_copy_85 post x3 x4 x5 x6 x7 (nI n) (nI m) st bo bs pr tk mk ot vl rs al wt so sq go mo cl wd nt fr tw tx gr ge g1 g2 g3 sv sb lf pa du av bg oft se tt cp (d + 1)) x3 x4 x5 x6 x7 giver (nI (4 * s + id)) (nI (i + 1)) (nI n) (nI m) st bo bs pr tk mk ot vl rs al wt so sq go mo cl wd nt fr tw tx gr ge g1 g2 g3 sv sb lf pa du av bg oft se tt cp := by
              simp (disch := omega) only [wY_copy_162, r1, not_true, not_false_iff, true_implies, false_implies, implies_true, true_and, and_true, forall_eq, eq_self, ra_i, ra_c, ra_m3, ra_m4, ra_m16, ra_4m, ra_14m, ra_16m, nI_add, nI_1, lN_1, ra_p2, ra_2p, ra_n0, ra_p0, ra_q0, ra_q1, ra_q2, ra_q3, ra_n3, ra_n4, ra_n10, ra_n14, ra_n16, ra_n30, ra_n140, ra_y3, ra_y4, ra_y10, ra_y14, ra_y16, ra_y30, ra_y140]
              exact hp
            rw [k3] at g
            exact Y0 post x3 x4 x5 x6 x7 k (br_f rn (br_c (fun _ => w) (fun y => br_t (g.resolve_left y) w)))
        · have g1' : ¬ gt (4 * s + id) = -1 := fun y => g (Or.inl y)
          have g2' : ¬ gt (4 * s + id) = taker := fun y => g (Or.inr y)
          refine Or.inl ⟨-4, Or.inr rfl, fun post hp => X0 post (br_f kn (br_f g1' (br_f g2' hp))), fun post x3 x4 x5 x6 x7 k hp => ?_⟩
          rw [k3] at g1' g2'
          exact Y0 post x3 x4 x5 x6 x7 k (br_f rn (br_f g1' (br_f g2' hp)))
      · have kn : ¬ gk (4 * s + id) = 0 := by rw [k1]; decide
        have rn : ¬ gr (4 * s + id) = 0 := by rw [r1]; decide
        have rn1 : ¬ gr (4 * s + id) = 1 := by rw [r1]; decide
        by_cases g : gt (4 * s + id) = -1 ∨ gt (4 * s + id) = taker
        · have X1 : ∀ post : Int32 → Prop, wX_followGrants_12 post (lN c) ep st pt bs pr tk mk rs vl cl nb al wt lg wd sn lo lt lv gk gt gf gl gs gn sl ss sb pa du oft bg av tt (d + 1) giver (gs (4 * s + id)) (nI j) (nI (i + 1)) → wX_followGrants_12 post (lN c) ep st pt bs pr tk mk rs vl cl nb al wt lg wd sn lo lt lv gk gt gf gl gs gn sl ss sb pa du oft bg av tt (d + 1 + 1) taker giver (nI id) (nI i) := by
            intro post hp
            have w : wX_followGrants_79 post (wX_followGrants_12 post (lN c) ep st pt bs pr tk mk rs vl cl nb al wt lg wd sn lo lt lv gk gt gf gl gs gn sl ss sb pa du oft bg av tt (d + 1)) giver (nI i) (nI (4 * s + id)) (lN c) ep st pt bs pr tk mk rs vl cl nb al wt lg wd sn lo lt lv gk gt gf gl gs gn sl ss sb pa du oft bg av tt := by
              simp (disch := omega) only [wX_followGrants_79, k1, k5, not_true, not_false_iff, true_implies, false_implies, implies_true, true_and, and_true, forall_eq, eq_self, ra_i, ra_c, ra_m3, ra_m4, ra_m16, ra_4m, ra_14m, ra_16m, nI_add, nI_1, lN_1, ra_p2, ra_2p, ra_n0, ra_p0, ra_q0, ra_q1, ra_q2, ra_q3, ra_n3, ra_n4, ra_n10, ra_n14, ra_n16, ra_n30, ra_n140, ra_y3, ra_y4, ra_y10, ra_y14, ra_y16, ra_y30, ra_y140]
              exact hp
            exact X0 post (br_f kn (br_c (fun _ => w) (fun y => br_t (g.resolve_left y) w)))
          have Y1 : ∀ (post : Int32 → SY → Prop) (x3 x4 x5 x6 x7 k : Int32), wY_copy_85 post x3 x4 x5 x6 x7 (nI n) (nI m) st bo bs pr tk mk ot vl rs al wt so sq go mo cl wd nt fr tw tx gr ge g1 g2 g3 sv sb lf pa du av bg oft se tt cp (d + 1) giver (gs (4 * s + id)) (nI j) (nI (4 * s + id)) (nI (i + 1 + 1)) → wY_copy_85 post x3 x4 x5 x6 x7 (nI n) (nI m) st bo bs pr tk mk ot vl rs al wt so sq go mo cl wd nt fr tw tx gr ge g1 g2 g3 sv sb lf pa du av bg oft se tt cp (d + 1 + 1) taker giver (nI id) k (nI (i + 1)) := by
            intro post x3 x4 x5 x6 x7 k hp
            have w : wY_copy_162 post (wY_copy_85 post x3 x4 x5 x6 x7 (nI n) (nI m) st bo bs pr tk mk ot vl rs al wt so sq go mo cl wd nt fr tw tx gr ge g1 g2 g3 sv sb lf pa du av bg oft se tt cp (d + 1)) x3 x4 x5 x6 x7 giver (nI (4 * s + id)) (nI (i + 1)) (nI n) (nI m) st bo bs pr tk mk ot vl rs al wt so sq go mo cl wd nt fr tw tx gr ge g1 g2 g3 sv sb lf pa du av bg oft se tt cp := by
              simp (disch := omega) only [wY_copy_162, rn1, ← k3, ← k4, k5, not_true, not_false_iff, true_implies, false_implies, implies_true, true_and, and_true, forall_eq, eq_self, ra_i, ra_c, ra_m3, ra_m4, ra_m16, ra_4m, ra_14m, ra_16m, nI_add, nI_1, lN_1, ra_p2, ra_2p, ra_n0, ra_p0, ra_q0, ra_q1, ra_q2, ra_q3, ra_n3, ra_n4, ra_n10, ra_n14, ra_n16, ra_n30, ra_n140, ra_y3, ra_y4, ra_y10, ra_y14, ra_y16, ra_y30, ra_y140]
              exact hp
            rw [k2] at g
            exact Y0 post x3 x4 x5 x6 x7 k (br_f rn (br_c (fun _ => w) (fun y => br_t (g.resolve_left y) w)))
          rcases ih (i + 1) j giver (gs (4 * s + id)) (by omega) hj with ⟨w, hw, hX, hY⟩ | ⟨s', j', hs', hj', q1, q2, hX, hY⟩
          · exact Or.inl ⟨w, hw, fun post hp => X1 post (hX post hp), fun post x3 x4 x5 x6 x7 k hp => Y1 post x3 x4 x5 x6 x7 k (hY post x3 x4 x5 x6 x7 _ hp)⟩
          · exact Or.inr ⟨s', j', hs', hj', q1, q2, fun post hp => X1 post (hX post hp), fun post x3 x4 x5 x6 x7 k hp => Y1 post x3 x4 x5 x6 x7 k (hY post x3 x4 x5 x6 x7 _ hp)⟩
        · have g1' : ¬ gt (4 * s + id) = -1 := fun y => g (Or.inl y)
          have g2' : ¬ gt (4 * s + id) = taker := fun y => g (Or.inr y)
          refine Or.inl ⟨-4, Or.inr rfl, fun post hp => X0 post (br_f kn (br_f g1' (br_f g2' hp))), fun post x3 x4 x5 x6 x7 k hp => ?_⟩
          rw [k2] at g1' g2'
          exact Y0 post x3 x4 x5 x6 x7 k (br_f rn (br_f g1' (br_f g2' hp)))
end
