/-! a process ends: the letters -/
section
variable {B c m n : Nat} {st pr bs tk mk vl cl rs al wt wd tt sb pa du oft bg av ep pt nb lg lt lv gk gt gf gl gs gn sl ss bo ot so sq go mo nt fr tw tx gr ge g1 g2 g3 sv lf se cp : Nat → Int32} {sn lo : Nat → Int64}
theorem xl_dropLetters {s : Nat} {post : SX → Prop} (hs : s < 10) (h : post (lN c, ep, st, pt, bs, pr, tk, mk, rs, vl, cl, nb, al, wt, lg, wd, sn, ra_zL lo (fun p => decide (p / 3 = s ∨ lt p = nI s)) 30, lt, lv, gk, gt, gf, gl, gs, gn, sl, ss, sb, pa, du, oft, bg, av, tt)) : wpX_dropLetters post (lN c, ep, st, pt, bs, pr, tk, mk, rs, vl, cl, nb, al, wt, lg, wd, sn, lo, lt, lv, gk, gt, gf, gl, gs, gn, sl, ss, sb, pa, du, oft, bg, av, tt) (nI s) := by
  simp only [wpX_dropLetters]
  obtain ⟨k, hk⟩ := ra_run (fun n i => wX_dropLetters_2 post (nI s) (lN c) n (nI i) ep st pt bs pr tk mk rs vl cl nb al wt lg wd sn (ra_zL lo (fun p => decide (p / 3 = s ∨ lt p = nI s)) i) lt lv gk gt gf gl gs gn sl ss sb pa du oft bg av tt) 30 (fun n => by
    simp (disch := omega) only [wX_dropLetters_2, not_true, not_false_iff, true_implies, false_implies, implies_true, true_and, and_true, forall_eq, eq_self, ra_i, ra_c, ra_m3, ra_m4, ra_m16, ra_4m, ra_14m, ra_16m, nI_add, nI_1, lN_1, ra_p2, ra_2p, ra_n0, ra_p0, ra_q0, ra_q1, ra_q2, ra_q3, ra_n3, ra_n4, ra_n10, ra_n14, ra_n16, ra_n30, ra_n140, ra_y3, ra_y4, ra_y10, ra_y14, ra_y16, ra_y30, ra_y140]
    exact h) (fun n i hi ih => by
    try dsimp only at ih
    by_cases a : i / 3 = s
    · rw [← ra_zL_t lo (fun p => decide (p / 3 = s ∨ lt p = nI s)) i (by simp [a])] at ih
      simp (disch := omega) only [wX_dropLetters_2, ra_d3, ra_eq, a, not_true, not_false_iff, true_implies, false_implies, implies_true, true_and, and_true, forall_eq, eq_self, ra_i, ra_c, ra_m3, ra_m4, ra_m16, ra_4m, ra_14m, ra_16m, nI_add, nI_1, lN_1, ra_p2, ra_2p, ra_n0, ra_p0, ra_q0, ra_q1, ra_q2, ra_q3, ra_n3, ra_n4, ra_n10, ra_n14, ra_n16, ra_n30, ra_n140, ra_y3, ra_y4, ra_y10, ra_y14, ra_y16, ra_y30, ra_y140]
      exact ih
    · by_cases b : lt i = nI s
      · rw [← ra_zL_t lo (fun p => decide (p / 3 = s ∨ lt p = nI s)) i (by simp [b])] at ih
        simp (disch := omega) only [wX_dropLetters_2, ra_d3, ra_eq, a, b, not_true, not_false_iff, true_implies, false_implies, implies_true, true_and, and_true, forall_eq, eq_self, ra_i, ra_c, ra_m3, ra_m4, ra_m16, ra_4m, ra_14m, ra_16m, nI_add, nI_1, lN_1, ra_p2, ra_2p, ra_n0, ra_p0, ra_q0, ra_q1, ra_q2, ra_q3, ra_n3, ra_n4, ra_n10, ra_n14, ra_n16, ra_n30, ra_n140, ra_y3, ra_y4, ra_y10, ra_y14, ra_y16, ra_y30, ra_y140]
        exact ih
      · rw [← ra_zL_f lo (fun p => decide (p / 3 = s ∨ lt p = nI s)) i (by simp [a, b])] at ih
        simp (disch := omega) only [wX_dropLetters_2, ra_d3, ra_eq, a, b, not_true, not_false_iff, true_implies, false_implies, implies_true, true_and, and_true, forall_eq, eq_self, ra_i, ra_c, ra_m3, ra_m4, ra_m16, ra_4m, ra_14m, ra_16m, nI_add, nI_1, lN_1, ra_p2, ra_2p, ra_n0, ra_p0, ra_q0, ra_q1, ra_q2, ra_q3, ra_n3, ra_n4, ra_n10, ra_n14, ra_n16, ra_n30, ra_n140, ra_y3, ra_y4, ra_y10, ra_y14, ra_y16, ra_y30, ra_y140]
        exact ih)
  try dsimp only at hk
  rw [ra_zL_0] at hk
  exact ⟨k, hk⟩
theorem yl_takeOut {k : Nat} {post : SY → Prop} (hk : k < n) (hn : n ≤ 30) (h : post (nI (n - 1), nI m, st, bo, bs, pr, tk, mk, ot, vl, rs, al, wt, so, sq, go, mo, cl, wd, nt, ra_sh fr k n, ra_sh tw k n, ra_sh tx k n, gr, ge, g1, g2, g3, sv, sb, lf, pa, du, av, bg, oft, se, tt, cp)) : wpY_takeOut post (nI n, nI m, st, bo, bs, pr, tk, mk, ot, vl, rs, al, wt, so, sq, go, mo, cl, wd, nt, fr, tw, tx, gr, ge, g1, g2, g3, sv, sb, lf, pa, du, av, bg, oft, se, tt, cp) (nI k) := by
  obtain ⟨q, rfl⟩ : ∃ q, n = q + 1 := ⟨n - 1, by omega⟩
  simp (disch := omega) only [wpY_takeOut, nI_pred, not_true, not_false_iff, true_implies, false_implies, implies_true, true_and, and_true, forall_eq, eq_self, ra_i, ra_c, ra_m3, ra_m4, ra_m16, ra_4m, ra_14m, ra_16m, nI_add, nI_1, lN_1, ra_p2, ra_2p, ra_n0, ra_p0, ra_q0, ra_q1, ra_q2, ra_q3, ra_n3, ra_n4, ra_n10, ra_n14, ra_n16, ra_n30, ra_n140, ra_y3, ra_y4, ra_y10, ra_y14, ra_y16, ra_y30, ra_y140]
  have key : ∀ d i, i + d = q → k ≤ i → wY_takeOut_12 post (nI q) (nI m) (d + 1) (nI i) st bo bs pr tk mk ot vl rs al wt so sq go mo cl wd nt (ra_sh fr k (i + 1)) (ra_sh tw k (i + 1)) (ra_sh tx k (i + 1)) gr ge g1 g2 g3 sv sb lf pa du av bg oft se tt cp := by
    intro d
    induction d with
    | zero =>
      intro i hi _
      have : i = q := by omega
      subst this
      have a : nI i ≤ nI i := Int32.le_refl _
      simp (disch := omega) only [wY_takeOut_12, a, not_true, not_false_iff, true_implies, false_implies, implies_true, true_and, and_true, forall_eq, eq_self, ra_i, ra_c, ra_m3, ra_m4, ra_m16, ra_4m, ra_14m, ra_16m, nI_add, nI_1, lN_1, ra_p2, ra_2p, ra_n0, ra_p0, ra_q0, ra_q1, ra_q2, ra_q3, ra_n3, ra_n4, ra_n10, ra_n14, ra_n16, ra_n30, ra_n140, ra_y3, ra_y4, ra_y10, ra_y14, ra_y16, ra_y30, ra_y140]
      exact h
    | succ d ih =>
      intro i hi hki
      have a : ¬ nI q ≤ nI i := nI_ge (by omega) (by omega)
      rw [wY_takeOut_12]
      simp (disch := omega) only [a, ra_sh_s, not_true, not_false_iff, true_implies, false_implies, implies_true, true_and, and_true, forall_eq, eq_self, ra_i, ra_c, ra_m3, ra_m4, ra_m16, ra_4m, ra_14m, ra_16m, nI_add, nI_1, lN_1, ra_p2, ra_2p, ra_n0, ra_p0, ra_q0, ra_q1, ra_q2, ra_q3, ra_n3, ra_n4, ra_n10, ra_n14, ra_n16, ra_n30, ra_n140, ra_y3, ra_y4, ra_y10, ra_y14, ra_y16, ra_y30, ra_y140]
      exact ih (i + 1) (by omega) (by omega)
  have := key (q - k) k (by omega) (Nat.le_refl _)
  rw [ra_sh_0, ra_sh_0, ra_sh_0] at this
  exact ⟨_, this⟩
theorem ra_m1' (i : Nat) : nI i + (-1) = nI i - 1 := (Int32.sub_eq_add_neg _ _).symm
/-- Y's letters of s and to s, from the last to the first -/
theorem ra_endL {s : Nat} {gone : Int32} {st0 : Nat → Int32} (hs : s < 10) (hc : c ≤ 2 ^ 27) : ∀ (i n : Nat) (lo : Nat → Int64) (fr tw tx : Nat → Int32), i ≤ n → ra_L c n st0 lo lt lv fr tw tx → (∀ j, i ≤ j → j < n → ¬ (fr j = nI s ∨ tw j = nI s)) →
    ∃ (n' : Nat) (lo' : Nat → Int64) (fr' tw' tx' : Nat → Int32), ra_L c n' st0 lo' lt lv fr' tw' tx' ∧ (∀ j, j < n' → ¬ (fr' j = nI s ∨ tw' j = nI s)) ∧ (∀ p, p < 30 → lo' p = lo p ∨ (lo' p = 0 ∧ (p / 3 = s ∨ lt p = nI s))) ∧
      ∀ post : SY → Prop, wY_ends_78 post (nI s) gone 1 (-1) (nI (n')) (nI m) st bo bs pr tk mk ot vl rs al wt so sq go mo cl wd nt fr' tw' tx' gr ge g1 g2 g3 sv sb lf pa du av bg oft se tt cp → wY_ends_78 post (nI s) gone (i + 1) (nI i - 1) (nI n) (nI m) st bo bs pr tk mk ot vl rs al wt so sq go mo cl wd nt fr tw tx gr ge g1 g2 g3 sv sb lf pa du av bg oft se tt cp := by
  intro i
  induction i with
  | zero =>
    intro n lo fr tw tx _ hL hn
    exact ⟨n, lo, fr, tw, tx, hL, fun j hj => hn j (by omega) hj, fun p _ => Or.inl rfl, fun post h => h⟩
  | succ i ih =>
    intro n lo fr tw tx hi hL hn
    have n30 := (ra_L_n hc hL).1
    by_cases b : fr i = nI s ∨ tw i = nI s
    · obtain ⟨p, hp, hlo, e1, e2, -, -, -, hL'⟩ := ra_L_out' hc hL (show i < n by omega)
      obtain ⟨n', lo', fr', tw', tx', q1, q2, q3, q4⟩ := ih (n - 1) _ _ _ _ (by omega) hL' (fun j hj hj' => by
        have := hn (j + 1) (by omega) (by omega)
        unfold ra_sh
        rw [if_pos ⟨by omega, by omega⟩, if_pos ⟨by omega, by omega⟩]
        exact this)
      refine ⟨n', lo', fr', tw', tx', q1, q2, fun w hw => ?_, fun post h => ?_⟩
      · by_cases y : w = p
        · subst y
          have : w / 3 = s ∨ lt w = nI s := by
            rcases b with b | b
            · rw [e1, nI_eq (by omega) (by omega)] at b; exact Or.inl b
            · rw [e2] at b; exact Or.inr b
          rcases q3 w hw with z | z
          · rw [pk_uLs] at z; exact Or.inr ⟨z, this⟩
          · exact Or.inr z
        · rcases q3 w hw with z | z
          · rw [pk_uLn y] at z; exact Or.inl z
          · exact Or.inr z
      · have w := q4 post h
        have t : wY_ends_102 post (wY_ends_78 post (nI s) gone (i + 1)) (nI s) gone (nI i) (nI n) (nI m) st bo bs pr tk mk ot vl rs al wt so sq go mo cl wd nt fr tw tx gr ge g1 g2 g3 sv sb lf pa du av bg oft se tt cp := by
          simp only [wY_ends_102]
          refine yl_takeOut (by omega) n30 ?_
          simp only [forall_eq, ra_m1']
          exact w
        by_cases b1 : fr i = nI s
        · rw [wY_ends_78, nI_pred]
          simp (disch := omega) only [b1, not_true, not_false_iff, true_implies, false_implies, implies_true, true_and, and_true, forall_eq, eq_self, ra_i, ra_c, ra_m3, ra_m4, ra_m16, ra_4m, ra_14m, ra_16m, nI_add, nI_1, lN_1, ra_p2, ra_2p, ra_n0, ra_p0, ra_q0, ra_q1, ra_q2, ra_q3, ra_n3, ra_n4, ra_n10, ra_n14, ra_n16, ra_n30, ra_n140, ra_y3, ra_y4, ra_y10, ra_y14, ra_y16, ra_y30, ra_y140]
          exact t
        · have b2 : tw i = nI s := b.resolve_left b1
          rw [wY_ends_78, nI_pred]
          simp (disch := omega) only [b1, b2, not_true, not_false_iff, true_implies, false_implies, implies_true, true_and, and_true, forall_eq, eq_self, ra_i, ra_c, ra_m3, ra_m4, ra_m16, ra_4m, ra_14m, ra_16m, nI_add, nI_1, lN_1, ra_p2, ra_2p, ra_n0, ra_p0, ra_q0, ra_q1, ra_q2, ra_q3, ra_n3, ra_n4, ra_n10, ra_n14, ra_n16, ra_n30, ra_n140, ra_y3, ra_y4, ra_y10, ra_y14, ra_y16, ra_y30, ra_y140]
          exact t
    · obtain ⟨n', lo', fr', tw', tx', q1, q2, q3, q4⟩ := ih n lo fr tw tx (by omega) hL (fun j hj hj' => by
        by_cases y : j = i
        · rw [y]; exact b
        · exact hn j (by omega) hj')
      refine ⟨n', lo', fr', tw', tx', q1, q2, q3, fun post h => ?_⟩
      have w := q4 post h
      have b1 : ¬ fr i = nI s := fun z => b (Or.inl z)
      have b2 : ¬ tw i = nI s := fun z => b (Or.inr z)
      rw [wY_ends_78, nI_pred]
      simp (disch := omega) only [b1, b2, ra_m1', not_true, not_false_iff, true_implies, false_implies, implies_true, true_and, and_true, forall_eq, eq_self, ra_i, ra_c, ra_m3, ra_m4, ra_m16, ra_4m, ra_14m, ra_16m, nI_add, nI_1, lN_1, ra_p2, ra_2p, ra_n0, ra_p0, ra_q0, ra_q1, ra_q2, ra_q3, ra_n3, ra_n4, ra_n10, ra_n14, ra_n16, ra_n30, ra_n140, ra_y3, ra_y4, ra_y10, ra_y14, ra_y16, ra_y30, ra_y140]
      exact w
end
