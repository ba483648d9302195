/-! the last calls -/
section
variable {B c m n : Nat} {st pr bs tk mk vl cl rs al wt wd tt sb pa du oft bg av ep pt nb lg lt lv gk gt gf gl gs gn sl ss bo ot so sq go mo nt fr tw tx gr ge g1 g2 g3 sv lf se cp : Nat → Int32} {sn lo : Nat → Int64}
theorem ra_R_S {pa' sl' ss' sv' lf' se' sb' : Nat → Int32} (h : ra_R B c m n st pr tk rs al tt pa bs sb ep pt nb lg sn lo lt lv gk gt gf gl gs gn sl ss bo ot so sq go mo nt fr tw tx gr ge g1 g2 g3 sv lf se) (hS : ra_S st ep pa' sl' ss' sv' lf' se' sb') : ra_R B c m n st pr tk rs al tt pa' bs sb' ep pt nb lg sn lo lt lv gk gt gf gl gs gn sl' ss' bo ot so sq go mo nt fr tw tx gr ge g1 g2 g3 sv' lf' se' := by
  obtain ⟨h1, h2, h3, h4, h5, h6, h7, h8, h9, h10, h11⟩ := h
  exact ⟨h1, h2, h3, h4, h5, h6, h7, hS, h9, h10, h11⟩
theorem ra_serve {v1 v2 v3 : Int32} (h : ra_R B c m n st pr tk rs al tt pa bs sb ep pt nb lg sn lo lt lv gk gt gf gl gs gn sl ss bo ot so sq go mo nt fr tw tx gr ge g1 g2 g3 sv lf se) : ∃ (w : Int32) (u' : SX) (v' : SY), ra_RR (B + 1) u' v' ∧ (∀ post : Int32 → SX → Prop, post w u' → wpX_serve post (lN c, ep, st, pt, bs, pr, tk, mk, rs, vl, cl, nb, al, wt, lg, wd, sn, lo, lt, lv, gk, gt, gf, gl, gs, gn, sl, ss, sb, pa, du, oft, bg, av, tt) v1 v2 v3) ∧ (∀ post : Int32 → SY → Prop, post w v' → wpY_serve post (nI n, nI m, st, bo, bs, pr, tk, mk, ot, vl, rs, al, wt, so, sq, go, mo, cl, wd, nt, fr, tw, tx, gr, ge, g1, g2, g3, sv, sb, lf, pa, du, av, bg, oft, se, tt, cp) v1 v2 v3) := by
  have hS := h.2.2.2.2.2.2.2.1
  have e23 : ((2 : Int32) < v1) = ((3 : Int32) ≤ v1) := ra_ll _ (by decide)
  by_cases good : ¬ v1 < 0 ∧ ¬ 3 ≤ v1 ∧ ¬ v2 < 0 ∧ ¬ 3 < v2 ∧ ¬ v3 < 2 ∧ v3 ≤ 50
  · obtain ⟨a1, a2, a3, a4, a5, a6⟩ := good
    obtain ⟨k, hk, rfl⟩ := ra_nat (n := 3) (by omega) a1 a2
    have b1 : ¬ (2 : Int32) < nI k := by rw [e23]; exact a2
    have a4' : ¬ (4 : Int32) ≤ v2 := by rw [← ra_ll _ (by decide : (4 : Int32).toInt = (3 : Int32).toInt + 1)]; exact a4
    obtain ⟨p, hp4, rfl⟩ := ra_nat (n := 4) (by omega) a3 a4'
    have b6 : ¬ (50 : Int32) < v3 := Int32.not_lt.mpr a6
    have v30 : v3 ≠ 0 := fun z => a5 (by rw [z]; decide)
    by_cases l : sl k = 0
    · have l' : sv k ≤ 0 := by
        rcases hS.1 k hk with ⟨y, -⟩ | ⟨y, -⟩
        · rw [y]; decide
        · exact absurd l y
      refine ⟨0, _, _, ra_RR_mono (ra_in (mk := mk) (vl := vl) (cl := cl) (wt := wt) (wd := wd) (du := upd du k (tt 0 + 1)) (oft := upd oft k 0) (bg := bg) (av := av) (cp := cp) (ra_R_S h (ra_S_serve (k := k) (b := p) (x := v3) hS v30 (by omega)))) (by omega), fun post hp => ?_, fun post hp => ?_⟩
      · simp only [wpX_serve]
        refine xl_isS (fun y => absurd y (fun z => z.elim a1 a2)) (fun _ _ => br_f (by decide) (br_f a3 (br_f a4 (br_f a5 (br_t a6 ?_)))))
        simp (disch := omega) only [l, not_true, not_false_iff, true_implies, false_implies, implies_true, true_and, and_true, forall_eq, eq_self, ra_i, ra_c, ra_m3, ra_m4, ra_m16, ra_4m, ra_14m, ra_16m, nI_add, nI_1, lN_1, ra_p2, ra_2p, ra_n0, ra_p0, ra_q0, ra_q1, ra_q2, ra_q3, ra_n3, ra_n4, ra_n10, ra_n14, ra_n16, ra_n30, ra_n140, ra_y3, ra_y4, ra_y10, ra_y14, ra_y16, ra_y30, ra_y140]
        exact hp
      · simp only [wpY_serve]
        refine yl_within (fun y => absurd y (fun z => z.elim a1 b1)) (fun _ _ => br_f (by decide) (yl_within (fun y => absurd y (fun z => z.elim a3 a4)) (fun _ _ => br_f (by decide) (yl_within (fun y => absurd y (fun z => z.elim a5 b6)) (fun _ _ => br_f (by decide) ?_)))))
        simp (disch := omega) only [l', not_true, not_false_iff, true_implies, false_implies, implies_true, true_and, and_true, forall_eq, eq_self, ra_i, ra_c, ra_m3, ra_m4, ra_m16, ra_4m, ra_14m, ra_16m, nI_add, nI_1, lN_1, ra_p2, ra_2p, ra_n0, ra_p0, ra_q0, ra_q1, ra_q2, ra_q3, ra_n3, ra_n4, ra_n10, ra_n14, ra_n16, ra_n30, ra_n140, ra_y3, ra_y4, ra_y10, ra_y14, ra_y16, ra_y30, ra_y140]
        exact hp
    · have l' : ¬ sv k ≤ 0 := by
        rcases hS.1 k hk with ⟨-, y⟩ | ⟨-, -, -, ⟨y, -⟩ | ⟨y, -⟩⟩
        · exact absurd y l
        · rw [y]; decide
        · rw [y]; decide
      refine ⟨-7, _, _, ra_RR_mono (ra_in (mk := mk) (vl := vl) (cl := cl) (wt := wt) (wd := wd) (du := du) (oft := oft) (bg := bg) (av := av) (cp := cp) h) (by omega), fun post hp => ?_, fun post hp => ?_⟩
      · simp only [wpX_serve]
        refine xl_isS (fun y => absurd y (fun z => z.elim a1 a2)) (fun _ _ => br_f (by decide) (br_f a3 (br_f a4 (br_f a5 (br_t a6 ?_)))))
        simp (disch := omega) only [l, not_true, not_false_iff, true_implies, false_implies, implies_true, true_and, and_true, forall_eq, eq_self, ra_i, ra_c, ra_m3, ra_m4, ra_m16, ra_4m, ra_14m, ra_16m, nI_add, nI_1, lN_1, ra_p2, ra_2p, ra_n0, ra_p0, ra_q0, ra_q1, ra_q2, ra_q3, ra_n3, ra_n4, ra_n10, ra_n14, ra_n16, ra_n30, ra_n140, ra_y3, ra_y4, ra_y10, ra_y14, ra_y16, ra_y30, ra_y140]
        exact hp
      · simp only [wpY_serve]
        refine yl_within (fun y => absurd y (fun z => z.elim a1 b1)) (fun _ _ => br_f (by decide) (yl_within (fun y => absurd y (fun z => z.elim a3 a4)) (fun _ _ => br_f (by decide) (yl_within (fun y => absurd y (fun z => z.elim a5 b6)) (fun _ _ => br_f (by decide) ?_)))))
        simp (disch := omega) only [l', not_true, not_false_iff, true_implies, false_implies, implies_true, true_and, and_true, forall_eq, eq_self, ra_i, ra_c, ra_m3, ra_m4, ra_m16, ra_4m, ra_14m, ra_16m, nI_add, nI_1, lN_1, ra_p2, ra_2p, ra_n0, ra_p0, ra_q0, ra_q1, ra_q2, ra_q3, ra_n3, ra_n4, ra_n10, ra_n14, ra_n16, ra_n30, ra_n140, ra_y3, ra_y4, ra_y10, ra_y14, ra_y16, ra_y30, ra_y140]
        exact hp
  · refine ⟨-1, _, _, ra_RR_mono (ra_in (mk := mk) (vl := vl) (cl := cl) (wt := wt) (wd := wd) (du := du) (oft := oft) (bg := bg) (av := av) (cp := cp) h) (by omega), fun post hp => ?_, fun post hp => ?_⟩
    · simp only [wpX_serve]
      exact xl_isS (fun _ => br_t rfl hp) (fun a1 a2 => br_f (by decide) (br_c (fun _ => hp) (fun a3 => br_c (fun _ => hp) (fun a4 => br_c (fun _ => hp) (fun a5 => br_c (fun a6 => absurd ⟨a1, a2, a3, a4, a5, a6⟩ good) (fun _ => hp))))))
    · simp only [wpY_serve]
      exact yl_within (fun _ => br_t rfl hp) (fun a1 a2 => br_f (by decide) (yl_within (fun _ => br_t rfl hp) (fun a3 a4 => br_f (by decide) (yl_within (fun _ => br_t rfl hp) (fun a5 a6 => absurd ⟨a1, by rw [← e23]; exact a2, a3, a4, a5, Int32.not_lt.mp a6⟩ good)))))
theorem ra_close {v1 : Int32} (h : ra_R B c m n st pr tk rs al tt pa bs sb ep pt nb lg sn lo lt lv gk gt gf gl gs gn sl ss bo ot so sq go mo nt fr tw tx gr ge g1 g2 g3 sv lf se) : ∃ (w : Int32) (u' : SX) (v' : SY), ra_RR (B + 1) u' v' ∧ (∀ post : Int32 → SX → Prop, post w u' → wpX_close post (lN c, ep, st, pt, bs, pr, tk, mk, rs, vl, cl, nb, al, wt, lg, wd, sn, lo, lt, lv, gk, gt, gf, gl, gs, gn, sl, ss, sb, pa, du, oft, bg, av, tt) v1) ∧ (∀ post : Int32 → SY → Prop, post w v' → wpY_close post (nI n, nI m, st, bo, bs, pr, tk, mk, ot, vl, rs, al, wt, so, sq, go, mo, cl, wd, nt, fr, tw, tx, gr, ge, g1, g2, g3, sv, sb, lf, pa, du, av, bg, oft, se, tt, cp) v1) := by
  have hS := h.2.2.2.2.2.2.2.1
  have e23 : ((2 : Int32) < v1) = ((3 : Int32) ≤ v1) := ra_ll _ (by decide)
  by_cases good : ¬ v1 < 0 ∧ ¬ 3 ≤ v1
  · obtain ⟨a1, a2⟩ := good
    obtain ⟨k, hk, rfl⟩ := ra_nat (n := 3) (by omega) a1 a2
    have b1 : ¬ (2 : Int32) < nI k := by rw [e23]; exact a2
    by_cases l : sl k = 0
    · have l' : sv k = 0 := by
        rcases hS.1 k hk with ⟨y, -⟩ | ⟨y, -⟩
        · exact y
        · exact absurd l y
      refine ⟨0, _, _, ra_RR_mono (ra_in (mk := mk) (vl := vl) (cl := cl) (wt := wt) (wd := wd) (du := du) (oft := oft) (bg := bg) (av := av) (cp := cp) h) (by omega), fun post hp => ?_, fun post hp => ?_⟩
      · simp only [wpX_close]
        refine xl_isS (fun y => absurd y (fun z => z.elim a1 a2)) (fun _ _ => br_f (by decide) ?_)
        simp (disch := omega) only [l, not_true, not_false_iff, true_implies, false_implies, implies_true, true_and, and_true, forall_eq, eq_self, ra_i, ra_c, ra_m3, ra_m4, ra_m16, ra_4m, ra_14m, ra_16m, nI_add, nI_1, lN_1, ra_p2, ra_2p, ra_n0, ra_p0, ra_q0, ra_q1, ra_q2, ra_q3, ra_n3, ra_n4, ra_n10, ra_n14, ra_n16, ra_n30, ra_n140, ra_y3, ra_y4, ra_y10, ra_y14, ra_y16, ra_y30, ra_y140]
        exact hp
      · simp only [wpY_close]
        refine yl_within (fun y => absurd y (fun z => z.elim a1 b1)) (fun _ _ => br_f (by decide) ?_)
        simp (disch := omega) only [l', not_true, not_false_iff, true_implies, false_implies, implies_true, true_and, and_true, forall_eq, eq_self, ra_i, ra_c, ra_m3, ra_m4, ra_m16, ra_4m, ra_14m, ra_16m, nI_add, nI_1, lN_1, ra_p2, ra_2p, ra_n0, ra_p0, ra_q0, ra_q1, ra_q2, ra_q3, ra_n3, ra_n4, ra_n10, ra_n14, ra_n16, ra_n30, ra_n140, ra_y3, ra_y4, ra_y10, ra_y14, ra_y16, ra_y30, ra_y140]
        exact hp
    · have l' : ¬ sv k = 0 := by
        rcases hS.1 k hk with ⟨-, y⟩ | ⟨-, -, -, ⟨y, -⟩ | ⟨y, -⟩⟩
        · exact absurd y l
        · rw [y]; decide
        · rw [y]; decide
      refine ⟨1, _, _, ra_RR_mono (ra_in (mk := mk) (vl := vl) (cl := cl) (wt := wt) (wd := wd) (du := du) (oft := oft) (bg := bg) (av := av) (cp := cp) (ra_R_S h (ra_S_close (k := k) hS))) (by omega), fun post hp => ?_, fun post hp => ?_⟩
      · simp only [wpX_close]
        refine xl_isS (fun y => absurd y (fun z => z.elim a1 a2)) (fun _ _ => br_f (by decide) ?_)
        simp (disch := omega) only [l, not_true, not_false_iff, true_implies, false_implies, implies_true, true_and, and_true, forall_eq, eq_self, ra_i, ra_c, ra_m3, ra_m4, ra_m16, ra_4m, ra_14m, ra_16m, nI_add, nI_1, lN_1, ra_p2, ra_2p, ra_n0, ra_p0, ra_q0, ra_q1, ra_q2, ra_q3, ra_n3, ra_n4, ra_n10, ra_n14, ra_n16, ra_n30, ra_n140, ra_y3, ra_y4, ra_y10, ra_y14, ra_y16, ra_y30, ra_y140]
        exact hp
      · simp only [wpY_close]
        refine yl_within (fun y => absurd y (fun z => z.elim a1 b1)) (fun _ _ => br_f (by decide) ?_)
        simp (disch := omega) only [l', not_true, not_false_iff, true_implies, false_implies, implies_true, true_and, and_true, forall_eq, eq_self, ra_i, ra_c, ra_m3, ra_m4, ra_m16, ra_4m, ra_14m, ra_16m, nI_add, nI_1, lN_1, ra_p2, ra_2p, ra_n0, ra_p0, ra_q0, ra_q1, ra_q2, ra_q3, ra_n3, ra_n4, ra_n10, ra_n14, ra_n16, ra_n30, ra_n140, ra_y3, ra_y4, ra_y10, ra_y14, ra_y16, ra_y30, ra_y140]
        exact hp
  · refine ⟨0, _, _, ra_RR_mono (ra_in (mk := mk) (vl := vl) (cl := cl) (wt := wt) (wd := wd) (du := du) (oft := oft) (bg := bg) (av := av) (cp := cp) h) (by omega), fun post hp => ?_, fun post hp => ?_⟩
    · simp only [wpX_close]
      exact xl_isS (fun _ => br_t rfl hp) (fun a1 a2 => absurd ⟨a1, a2⟩ good)
    · simp only [wpY_close]
      exact yl_within (fun _ => br_t rfl hp) (fun a1 a2 => absurd ⟨a1, by rw [← e23]; exact a2⟩ good)
theorem ra_tick {v1 : Int32} (hB : B + 7000 ≤ 2 ^ 26) (h : ra_R B c m n st pr tk rs al tt pa bs sb ep pt nb lg sn lo lt lv gk gt gf gl gs gn sl ss bo ot so sq go mo nt fr tw tx gr ge g1 g2 g3 sv lf se) : ∃ (w : Int32) (u' : SX) (v' : SY), ra_RR (B + 6000) u' v' ∧ (∀ post : Int32 → SX → Prop, post w u' → wpX_tick post (lN c, ep, st, pt, bs, pr, tk, mk, rs, vl, cl, nb, al, wt, lg, wd, sn, lo, lt, lv, gk, gt, gf, gl, gs, gn, sl, ss, sb, pa, du, oft, bg, av, tt) v1) ∧ (∀ post : Int32 → SY → Prop, post w v' → wpY_tick post (nI n, nI m, st, bo, bs, pr, tk, mk, ot, vl, rs, al, wt, so, sq, go, mo, cl, wd, nt, fr, tw, tx, gr, ge, g1, g2, g3, sv, sb, lf, pa, du, av, bg, oft, se, tt, cp) v1) := by
  by_cases good : ¬ v1 < 1 ∧ v1 ≤ 100
  · obtain ⟨a1, a2⟩ := good
    obtain ⟨N, hN, rfl⟩ := nI_of (ra_lt1 a1)
    have n100 : N ≤ 100 := (nI_leI (a := N) (b := 100) hN (by omega)).mp a2
    obtain ⟨t, u', v', hR, hX, hY⟩ := ra_ticks n100 N 0 B _ _ _ _ _ _ _ mk vl cl _ _ wt wd _ _ _ du oft bg av _ _ _ _ _ _ _ _ _ _ _ _ _ _ _ _ _ _ _ _ _ _ _ _ _ _ _ _ _ _ _ _ cp _ _ (by omega) (by omega) h
    refine ⟨0 + t, u', v', ra_RR_mono hR (by omega), fun post hp => ?_, fun post hp => ?_⟩
    · simp only [wpX_tick]
      exact br_f a1 (br_t a2 ⟨N + 1, hX post 0 hp⟩)
    · simp only [wpY_tick]
      exact yl_within (fun y => absurd y (fun z => z.elim a1 (Int32.not_lt.mpr a2))) (fun _ _ => br_f (by decide) ⟨N + 1, hY post 0 hp⟩)
  · refine ⟨-1, _, _, ra_RR_mono (ra_in (mk := mk) (vl := vl) (cl := cl) (wt := wt) (wd := wd) (du := du) (oft := oft) (bg := bg) (av := av) (cp := cp) h) (by omega), fun post hp => ?_, fun post hp => ?_⟩
    · simp only [wpX_tick]
      exact br_c (fun _ => hp) (fun a1 => br_c (fun a2 => absurd ⟨a1, a2⟩ good) (fun _ => hp))
    · simp only [wpY_tick]
      exact yl_within (fun _ => br_t rfl hp) (fun a1 a2 => absurd ⟨a1, Int32.not_lt.mp a2⟩ good)
theorem ra_poke {v1 v2 v3 : Int32} (h : ra_R B c m n st pr tk rs al tt pa bs sb ep pt nb lg sn lo lt lv gk gt gf gl gs gn sl ss bo ot so sq go mo nt fr tw tx gr ge g1 g2 g3 sv lf se) : ∃ (w : Int32) (u' : SX) (v' : SY), ra_RR (B + 1) u' v' ∧ (∀ post : Int32 → SX → Prop, post w u' → wpX_poke post (lN c, ep, st, pt, bs, pr, tk, mk, rs, vl, cl, nb, al, wt, lg, wd, sn, lo, lt, lv, gk, gt, gf, gl, gs, gn, sl, ss, sb, pa, du, oft, bg, av, tt) v1 v2 v3) ∧ (∀ post : Int32 → SY → Prop, post w v' → wpY_poke post (nI n, nI m, st, bo, bs, pr, tk, mk, ot, vl, rs, al, wt, so, sq, go, mo, cl, wd, nt, fr, tw, tx, gr, ge, g1, g2, g3, sv, sb, lf, pa, du, av, bg, oft, se, tt, cp) v1 v2 v3) := by
  have e15 : ((15 : Int32) < v2) = ((16 : Int32) ≤ v2) := ra_ll _ (by decide)
  rcases ra_has (mk := mk) (vl := vl) (cl := cl) (wt := wt) (wd := wd) (du := du) (oft := oft) (bg := bg) (av := av) (cp := cp) (x := v1) h with ⟨s, hs, rfl, hl, pX, pY⟩ | ⟨pX, pY⟩
  · by_cases good : ¬ v2 < 0 ∧ ¬ 16 ≤ v2
    · obtain ⟨a1, a2⟩ := good
      obtain ⟨a, ha, rfl⟩ := ra_nat (n := 16) (by omega) a1 a2
      refine ⟨1, _, _, ra_RR_mono (ra_in (mk := mk) (vl := vl) (cl := cl) (wt := wt) (wd := upd wd (16 * s + a) v3) (du := du) (oft := oft) (bg := bg) (av := av) (cp := cp) h) (by omega), fun post hp => ?_, fun post hp => ?_⟩
      · simp only [wpX_poke]
        refine pX _ (br_f (by decide) (xl_isW (fun y => absurd y (fun z => z.elim a1 a2)) (fun _ _ => br_f (by decide) ?_)))
        simp (disch := omega) only [not_true, not_false_iff, true_implies, false_implies, implies_true, true_and, and_true, forall_eq, eq_self, ra_i, ra_c, ra_m3, ra_m4, ra_m16, ra_4m, ra_14m, ra_16m, nI_add, nI_1, lN_1, ra_p2, ra_2p, ra_n0, ra_p0, ra_q0, ra_q1, ra_q2, ra_q3, ra_n3, ra_n4, ra_n10, ra_n14, ra_n16, ra_n30, ra_n140, ra_y3, ra_y4, ra_y10, ra_y14, ra_y16, ra_y30, ra_y140]
        exact hp
      · simp only [wpY_poke]
        refine pY _ (br_f (by decide) (yl_within (fun y => absurd y (fun z => z.elim a1 (by rw [e15]; exact a2))) (fun _ _ => br_f (by decide) ?_)))
        simp (disch := omega) only [not_true, not_false_iff, true_implies, false_implies, implies_true, true_and, and_true, forall_eq, eq_self, ra_i, ra_c, ra_m3, ra_m4, ra_m16, ra_4m, ra_14m, ra_16m, nI_add, nI_1, lN_1, ra_p2, ra_2p, ra_n0, ra_p0, ra_q0, ra_q1, ra_q2, ra_q3, ra_n3, ra_n4, ra_n10, ra_n14, ra_n16, ra_n30, ra_n140, ra_y3, ra_y4, ra_y10, ra_y14, ra_y16, ra_y30, ra_y140]
        exact hp
    · refine ⟨0, _, _, ra_RR_mono (ra_in (mk := mk) (vl := vl) (cl := cl) (wt := wt) (wd := wd) (du := du) (oft := oft) (bg := bg) (av := av) (cp := cp) h) (by omega), fun post hp => ?_, fun post hp => ?_⟩
      · simp only [wpX_poke]
        exact pX _ (br_f (by decide) (xl_isW (fun _ => br_t rfl hp) (fun a1 a2 => absurd ⟨a1, a2⟩ good)))
      · simp only [wpY_poke]
        exact pY _ (br_f (by decide) (yl_within (fun _ => br_t rfl hp) (fun a1 a2 => absurd ⟨a1, by rw [← e15]; exact a2⟩ good)))
  · refine ⟨0, _, _, ra_RR_mono (ra_in (mk := mk) (vl := vl) (cl := cl) (wt := wt) (wd := wd) (du := du) (oft := oft) (bg := bg) (av := av) (cp := cp) h) (by omega), fun post hp => ?_, fun post hp => ?_⟩
    · simp only [wpX_poke]
      exact pX _ (br_t rfl hp)
    · simp only [wpY_poke]
      exact pY _ (br_t rfl hp)
theorem ra_memory {v1 v2 : Int32} (h : ra_R B c m n st pr tk rs al tt pa bs sb ep pt nb lg sn lo lt lv gk gt gf gl gs gn sl ss bo ot so sq go mo nt fr tw tx gr ge g1 g2 g3 sv lf se) : ∃ w : Int32, (∀ post : Int32 → Prop, post w → wpX_memory post (lN c, ep, st, pt, bs, pr, tk, mk, rs, vl, cl, nb, al, wt, lg, wd, sn, lo, lt, lv, gk, gt, gf, gl, gs, gn, sl, ss, sb, pa, du, oft, bg, av, tt) v1 v2) ∧ (∀ post : Int32 → Prop, post w → wpY_memory post (nI n, nI m, st, bo, bs, pr, tk, mk, ot, vl, rs, al, wt, so, sq, go, mo, cl, wd, nt, fr, tw, tx, gr, ge, g1, g2, g3, sv, sb, lf, pa, du, av, bg, oft, se, tt, cp) v1 v2) := by
  have e15 : ((15 : Int32) < v2) = ((16 : Int32) ≤ v2) := ra_ll _ (by decide)
  rcases ra_has (mk := mk) (vl := vl) (cl := cl) (wt := wt) (wd := wd) (du := du) (oft := oft) (bg := bg) (av := av) (cp := cp) (x := v1) h with ⟨s, hs, rfl, hl, pX, pY⟩ | ⟨pX, pY⟩
  · by_cases good : ¬ v2 < 0 ∧ ¬ 16 ≤ v2
    · obtain ⟨a1, a2⟩ := good
      obtain ⟨a, ha, rfl⟩ := ra_nat (n := 16) (by omega) a1 a2
      refine ⟨wd (16 * s + a), fun post hp => ?_, fun post hp => ?_⟩
      · simp only [wpX_memory]
        refine pX _ (br_f (by decide) (xl_isW (fun y => absurd y (fun z => z.elim a1 a2)) (fun _ _ => br_f (by decide) ?_)))
        simp (disch := omega) only [not_true, not_false_iff, true_implies, false_implies, implies_true, true_and, and_true, forall_eq, eq_self, ra_i, ra_c, ra_m3, ra_m4, ra_m16, ra_4m, ra_14m, ra_16m, nI_add, nI_1, lN_1, ra_p2, ra_2p, ra_n0, ra_p0, ra_q0, ra_q1, ra_q2, ra_q3, ra_n3, ra_n4, ra_n10, ra_n14, ra_n16, ra_n30, ra_n140, ra_y3, ra_y4, ra_y10, ra_y14, ra_y16, ra_y30, ra_y140]
        exact hp
      · simp only [wpY_memory]
        refine pY _ (br_f (by decide) (yl_within (fun y => absurd y (fun z => z.elim a1 (by rw [e15]; exact a2))) (fun _ _ => br_f (by decide) ?_)))
        simp (disch := omega) only [not_true, not_false_iff, true_implies, false_implies, implies_true, true_and, and_true, forall_eq, eq_self, ra_i, ra_c, ra_m3, ra_m4, ra_m16, ra_4m, ra_14m, ra_16m, nI_add, nI_1, lN_1, ra_p2, ra_2p, ra_n0, ra_p0, ra_q0, ra_q1, ra_q2, ra_q3, ra_n3, ra_n4, ra_n10, ra_n14, ra_n16, ra_n30, ra_n140, ra_y3, ra_y4, ra_y10, ra_y14, ra_y16, ra_y30, ra_y140]
        exact hp
    · refine ⟨0, fun post hp => ?_, fun post hp => ?_⟩
      · simp only [wpX_memory]
        exact pX _ (br_f (by decide) (xl_isW (fun _ => br_t rfl hp) (fun a1 a2 => absurd ⟨a1, a2⟩ good)))
      · simp only [wpY_memory]
        exact pY _ (br_f (by decide) (yl_within (fun _ => br_t rfl hp) (fun a1 a2 => absurd ⟨a1, by rw [← e15]; exact a2⟩ good)))
  · refine ⟨0, fun post hp => ?_, fun post hp => ?_⟩
    · simp only [wpX_memory]
      exact pX _ (br_t rfl hp)
    · simp only [wpY_memory]
      exact pY _ (br_t rfl hp)
theorem ra_running (hB : B ≤ 2 ^ 26) (h : ra_R B c m n st pr tk rs al tt pa bs sb ep pt nb lg sn lo lt lv gk gt gf gl gs gn sl ss bo ot so sq go mo nt fr tw tx gr ge g1 g2 g3 sv lf se) : ∃ w : Int32, (∀ post : Int32 → Prop, post w → wpX_running post (lN c, ep, st, pt, bs, pr, tk, mk, rs, vl, cl, nb, al, wt, lg, wd, sn, lo, lt, lv, gk, gt, gf, gl, gs, gn, sl, ss, sb, pa, du, oft, bg, av, tt)) ∧ (∀ post : Int32 → Prop, post w → wpY_running post (nI n, nI m, st, bo, bs, pr, tk, mk, ot, vl, rs, al, wt, so, sq, go, mo, cl, wd, nt, fr, tw, tx, gr, ge, g1, g2, g3, sv, sb, lf, pa, du, av, bg, oft, se, tt, cp)) := by
  rcases ra_run_both (mk := mk) (vl := vl) (cl := cl) (wt := wt) (wd := wd) (du := du) (oft := oft) (bg := bg) (av := av) (cp := cp) hB h with ⟨rX, rY⟩ | ⟨r, hr, hr1, rX, rY⟩
  · refine ⟨-6, fun post hp => ?_, fun post hp => ?_⟩
    · simp only [wpX_running]
      exact rX _ (br_f (by decide) hp)
    · simp only [wpY_running]
      exact rY _ (br_f (by decide) hp)
  · have yr : 16 * (bo r - 1) + nI r = ep r := ra_E_y h.1 hr (by rw [hr1]; decide)
    refine ⟨ep r, fun post hp => ?_, fun post hp => ?_⟩
    · simp only [wpX_running]
      refine rX _ (br_t (nI_pos' (by omega)) ⟨vp_in_nI hr (by decide), ?_⟩)
      rw [ra_c (show r < 1000 by omega)]
      exact hp
    · simp only [wpY_running]
      refine rY _ (br_t (nI_pos' (by omega)) ?_)
      simp (disch := omega) only [wpY_endpoint, yr, not_true, not_false_iff, true_implies, false_implies, implies_true, true_and, and_true, forall_eq, eq_self, ra_i, ra_c, ra_m3, ra_m4, ra_m16, ra_4m, ra_14m, ra_16m, nI_add, nI_1, lN_1, ra_p2, ra_2p, ra_n0, ra_p0, ra_q0, ra_q1, ra_q2, ra_q3, ra_n3, ra_n4, ra_n10, ra_n14, ra_n16, ra_n30, ra_n140, ra_y3, ra_y4, ra_y10, ra_y14, ra_y16, ra_y30, ra_y140]
      exact hp
theorem ra_total {v1 : Int32} (h : ra_R B c m n st pr tk rs al tt pa bs sb ep pt nb lg sn lo lt lv gk gt gf gl gs gn sl ss bo ot so sq go mo nt fr tw tx gr ge g1 g2 g3 sv lf se) : ∃ w : Int32, (∀ post : Int32 → Prop, post w → wpX_total post (lN c, ep, st, pt, bs, pr, tk, mk, rs, vl, cl, nb, al, wt, lg, wd, sn, lo, lt, lv, gk, gt, gf, gl, gs, gn, sl, ss, sb, pa, du, oft, bg, av, tt) v1) ∧ (∀ post : Int32 → Prop, post w → wpY_total post (nI n, nI m, st, bo, bs, pr, tk, mk, ot, vl, rs, al, wt, so, sq, go, mo, cl, wd, nt, fr, tw, tx, gr, ge, g1, g2, g3, sv, sb, lf, pa, du, av, bg, oft, se, tt, cp) v1) := by
  have e67 : ((6 : Int32) < v1) = ((7 : Int32) ≤ v1) := ra_ll _ (by decide)
  by_cases good : ¬ v1 < 0 ∧ v1 < 7
  · obtain ⟨a1, a2⟩ := good
    obtain ⟨k, hk, rfl⟩ := ra_nat (n := 7) (by omega) a1 (Int32.not_le.mpr a2)
    refine ⟨tt k, fun post hp => ?_, fun post hp => ?_⟩
    · simp only [wpX_total]
      refine br_f a1 (br_t a2 ?_)
      simp (disch := omega) only [not_true, not_false_iff, true_implies, false_implies, implies_true, true_and, and_true, forall_eq, eq_self, ra_i, ra_c, ra_m3, ra_m4, ra_m16, ra_4m, ra_14m, ra_16m, nI_add, nI_1, lN_1, ra_p2, ra_2p, ra_n0, ra_p0, ra_q0, ra_q1, ra_q2, ra_q3, ra_n3, ra_n4, ra_n10, ra_n14, ra_n16, ra_n30, ra_n140, ra_y3, ra_y4, ra_y10, ra_y14, ra_y16, ra_y30, ra_y140]
      exact hp
    · simp only [wpY_total]
      refine yl_within (fun y => absurd y (fun z => z.elim a1 (by rw [e67]; exact Int32.not_le.mpr a2))) (fun _ _ => br_f (by decide) ?_)
      simp (disch := omega) only [not_true, not_false_iff, true_implies, false_implies, implies_true, true_and, and_true, forall_eq, eq_self, ra_i, ra_c, ra_m3, ra_m4, ra_m16, ra_4m, ra_14m, ra_16m, nI_add, nI_1, lN_1, ra_p2, ra_2p, ra_n0, ra_p0, ra_q0, ra_q1, ra_q2, ra_q3, ra_n3, ra_n4, ra_n10, ra_n14, ra_n16, ra_n30, ra_n140, ra_y3, ra_y4, ra_y10, ra_y14, ra_y16, ra_y30, ra_y140]
      exact hp
  · refine ⟨-1, fun post hp => ?_, fun post hp => ?_⟩
    · simp only [wpX_total]
      exact br_c (fun _ => hp) (fun a1 => br_c (fun a2 => absurd ⟨a1, a2⟩ good) (fun _ => hp))
    · simp only [wpY_total]
      exact yl_within (fun _ => br_t rfl hp) (fun a1 a2 => absurd ⟨a1, by rw [e67] at a2; exact Int32.not_le.mp a2⟩ good)
theorem ra_service {v1 v2 : Int32} (h : ra_R B c m n st pr tk rs al tt pa bs sb ep pt nb lg sn lo lt lv gk gt gf gl gs gn sl ss bo ot so sq go mo nt fr tw tx gr ge g1 g2 g3 sv lf se) : ∃ w : Int32, (∀ post : Int32 → Prop, post w → wpX_service post (lN c, ep, st, pt, bs, pr, tk, mk, rs, vl, cl, nb, al, wt, lg, wd, sn, lo, lt, lv, gk, gt, gf, gl, gs, gn, sl, ss, sb, pa, du, oft, bg, av, tt) v1 v2) ∧ (∀ post : Int32 → Prop, post w → wpY_service post (nI n, nI m, st, bo, bs, pr, tk, mk, ot, vl, rs, al, wt, so, sq, go, mo, cl, wd, nt, fr, tw, tx, gr, ge, g1, g2, g3, sv, sb, lf, pa, du, av, bg, oft, se, tt, cp) v1 v2) := by
  have hS := h.2.2.2.2.2.2.2.1
  have e23 : ((2 : Int32) < v1) = ((3 : Int32) ≤ v1) := ra_ll _ (by decide)
  by_cases good : ¬ v1 < 0 ∧ ¬ 3 ≤ v1
  · obtain ⟨a1, a2⟩ := good
    obtain ⟨k, hk, rfl⟩ := ra_nat (n := 3) (by omega) a1 a2
    have b1 : ¬ (2 : Int32) < nI k := by rw [e23]; exact a2
    have hv : vp_in (nI k) 3 := vp_in_nI hk (by decide)
    have ck : (nI k).toNatClampNeg = k := ra_c (by omega)
    by_cases w4 : ¬ v2 < 0 ∧ ¬ 4 ≤ v2
    · obtain ⟨w1, w2⟩ := w4
      have w2' : ¬ (3 : Int32) < v2 := by rw [ra_ll _ (by decide : (4 : Int32).toInt = (3 : Int32).toInt + 1)]; exact w2
      obtain ⟨w, hw, rfl⟩ := ra_nat (n := 4) (by omega) w1 w2
      have hw' : w = 0 ∨ w = 1 ∨ w = 2 ∨ w = 3 := by omega
      rcases hS.1 k hk with ⟨v0, l0⟩ | ⟨l0, -, -, ⟨v1', s, hs, e1, hl, e2⟩ | ⟨v2', e1, e2⟩⟩
      · have HX : ∀ post : Int32 → Prop, ((nI w = 0 → post 0) ∧ (¬ nI w = 0 → post (-1))) → wpX_service post (lN c, ep, st, pt, bs, pr, tk, mk, rs, vl, cl, nb, al, wt, lg, wd, sn, lo, lt, lv, gk, gt, gf, gl, gs, gn, sl, ss, sb, pa, du, oft, bg, av, tt) (nI k) (nI w) := by
          intro post hp
          simp only [wpX_service]
          refine xl_isS (fun y => absurd y (fun z => z.elim a1 a2)) (fun _ _ => br_f (by decide) ⟨hv, ?_⟩)
          rw [ck]
          refine br_t l0 ?_
          simp only [wX_service_24, wX_service_42, wX_service_43, not_true, true_implies, false_implies, and_true]
          exact hp
        have HY : ∀ post : Int32 → Prop, ((nI w ≤ 0 → wY_service_33 post (nI k) (nI w) (nI n) (nI m) st bo bs pr tk mk ot vl rs al wt so sq go mo cl wd nt fr tw tx gr ge g1 g2 g3 sv sb lf pa du av bg oft se tt cp) ∧ (¬ nI w ≤ 0 → post (-1))) → wpY_service post (nI n, nI m, st, bo, bs, pr, tk, mk, ot, vl, rs, al, wt, so, sq, go, mo, cl, wd, nt, fr, tw, tx, gr, ge, g1, g2, g3, sv, sb, lf, pa, du, av, bg, oft, se, tt, cp) (nI k) (nI w) := by
          intro post hp
          simp only [wpY_service]
          refine yl_within (fun y => absurd y (fun z => z.elim a1 b1)) (fun _ _ => br_f (by decide) (yl_within (fun y => absurd y (fun z => z.elim w1 w2')) (fun _ _ => br_f (by decide) ⟨hv, ?_⟩)))
          rw [ck]
          exact br_t v0 hp
        clear w1 w2 w2'
        rcases hw' with rfl | rfl | rfl | rfl
        · refine ⟨0, fun post hp => HX post (br_t rfl hp), fun post hp => HY post (br_t (by decide) ?_)⟩
          simp only [wY_service_33]
          refine br_t rfl ⟨hv, ?_⟩
          rw [ck, v0]
          exact hp
        · exact ⟨-1, fun post hp => HX post (br_f (by decide) hp), fun post hp => HY post (br_f (by decide) hp)⟩
        · exact ⟨-1, fun post hp => HX post (br_f (by decide) hp), fun post hp => HY post (br_f (by decide) hp)⟩
        · exact ⟨-1, fun post hp => HX post (br_f (by decide) hp), fun post hp => HY post (br_f (by decide) hp)⟩
      · have sv0 : ¬ sv k = 0 := by rw [v1']; decide
        have HX : ∀ post : Int32 → Prop, wX_service_43 post (nI k) (nI w) 1 0 (lN c) ep st pt bs pr tk mk rs vl cl nb al wt lg wd sn lo lt lv gk gt gf gl gs gn sl ss sb pa du oft bg av tt → wpX_service post (lN c, ep, st, pt, bs, pr, tk, mk, rs, vl, cl, nb, al, wt, lg, wd, sn, lo, lt, lv, gk, gt, gf, gl, gs, gn, sl, ss, sb, pa, du, oft, bg, av, tt) (nI k) (nI w) := by
          intro post hp
          simp only [wpX_service]
          refine xl_isS (fun y => absurd y (fun z => z.elim a1 a2)) (fun _ _ => br_f (by decide) ⟨hv, ?_⟩)
          rw [ck]
          refine br_f l0 ?_
          simp only [wX_service_24, wX_service_42]
          refine br_f (by decide) ⟨hv, ?_⟩
          rw [ck, e1]
          exact br_t (nI_pos' (by omega)) hp
        have HY : ∀ post : Int32 → Prop, wY_service_33 post (nI k) (nI w) (nI n) (nI m) st bo bs pr tk mk ot vl rs al wt so sq go mo cl wd nt fr tw tx gr ge g1 g2 g3 sv sb lf pa du av bg oft se tt cp → wpY_service post (nI n, nI m, st, bo, bs, pr, tk, mk, ot, vl, rs, al, wt, so, sq, go, mo, cl, wd, nt, fr, tw, tx, gr, ge, g1, g2, g3, sv, sb, lf, pa, du, av, bg, oft, se, tt, cp) (nI k) (nI w) := by
          intro post hp
          simp only [wpY_service]
          refine yl_within (fun y => absurd y (fun z => z.elim a1 b1)) (fun _ _ => br_f (by decide) (yl_within (fun y => absurd y (fun z => z.elim w1 w2')) (fun _ _ => br_f (by decide) ⟨hv, ?_⟩)))
          rw [ck]
          exact br_f sv0 hp
        clear w1 w2 w2'
        simp only [wX_service_43, wY_service_33] at HX HY
        rcases hw' with rfl | rfl | rfl | rfl
        · exact ⟨1, fun post hp => HX post (br_t rfl (br_f (by decide) (br_t trivial hp))), fun post hp => HY post (br_t rfl ⟨hv, by rw [ck, v1']; exact hp⟩)⟩
        · refine ⟨ep s, fun post hp => HX post (br_f (by decide) (br_f (by decide) (br_f (by decide) (br_f (by decide) (br_t rfl (br_t trivial ⟨hv, ?_⟩)))))), fun post hp => HY post (br_f (by decide) (br_t rfl ⟨hv, by rw [ck, e2]; exact hp⟩))⟩
          rw [ck, e1, ra_c (show s < 1000 by omega)]
          exact ⟨vp_in_nI hs (by decide), hp⟩
        · exact ⟨pa k, fun post hp => HX post (br_f (by decide) (br_f (by decide) (br_f (by decide) (br_f (by decide) (br_f (by decide) (br_t rfl ⟨hv, by rw [ck]; exact hp⟩)))))), fun post hp => HY post (br_f (by decide) (br_f (by decide) (br_t rfl ⟨hv, by rw [ck]; exact hp⟩)))⟩
        · exact ⟨oft k, fun post hp => HX post (br_f (by decide) (br_f (by decide) (br_f (by decide) (br_f (by decide) (br_f (by decide) (br_f (by decide) (br_t rfl ⟨hv, by rw [ck]; exact hp⟩))))))), fun post hp => HY post (br_f (by decide) (br_f (by decide) (br_f (by decide) ⟨hv, by rw [ck]; exact hp⟩)))⟩
      · have sv0 : ¬ sv k = 0 := by rw [v2']; decide
        have HX : ∀ post : Int32 → Prop, wX_service_43 post (nI k) (nI w) 1 1 (lN c) ep st pt bs pr tk mk rs vl cl nb al wt lg wd sn lo lt lv gk gt gf gl gs gn sl ss sb pa du oft bg av tt → wpX_service post (lN c, ep, st, pt, bs, pr, tk, mk, rs, vl, cl, nb, al, wt, lg, wd, sn, lo, lt, lv, gk, gt, gf, gl, gs, gn, sl, ss, sb, pa, du, oft, bg, av, tt) (nI k) (nI w) := by
          intro post hp
          simp only [wpX_service]
          refine xl_isS (fun y => absurd y (fun z => z.elim a1 a2)) (fun _ _ => br_f (by decide) ⟨hv, ?_⟩)
          rw [ck]
          refine br_f l0 ?_
          simp only [wX_service_24, wX_service_42]
          refine br_f (by decide) ⟨hv, ?_⟩
          rw [ck, e1]
          exact br_f (by decide) hp
        have HY : ∀ post : Int32 → Prop, wY_service_33 post (nI k) (nI w) (nI n) (nI m) st bo bs pr tk mk ot vl rs al wt so sq go mo cl wd nt fr tw tx gr ge g1 g2 g3 sv sb lf pa du av bg oft se tt cp → wpY_service post (nI n, nI m, st, bo, bs, pr, tk, mk, ot, vl, rs, al, wt, so, sq, go, mo, cl, wd, nt, fr, tw, tx, gr, ge, g1, g2, g3, sv, sb, lf, pa, du, av, bg, oft, se, tt, cp) (nI k) (nI w) := by
          intro post hp
          simp only [wpY_service]
          refine yl_within (fun y => absurd y (fun z => z.elim a1 b1)) (fun _ _ => br_f (by decide) (yl_within (fun y => absurd y (fun z => z.elim w1 w2')) (fun _ _ => br_f (by decide) ⟨hv, ?_⟩)))
          rw [ck]
          exact br_f sv0 hp
        clear w1 w2 w2'
        simp only [wX_service_43, wY_service_33] at HX HY
        rcases hw' with rfl | rfl | rfl | rfl
        · exact ⟨2, fun post hp => HX post (br_t rfl (br_f (by decide) (br_f (by decide) hp))), fun post hp => HY post (br_t rfl ⟨hv, by rw [ck, v2']; exact hp⟩)⟩
        · exact ⟨-1, fun post hp => HX post (br_f (by decide) (br_f (by decide) (br_f (by decide) (br_f (by decide) (br_t rfl (br_f (by decide) hp)))))), fun post hp => HY post (br_f (by decide) (br_t rfl ⟨hv, by rw [ck, e2]; exact hp⟩))⟩
        · exact ⟨pa k, fun post hp => HX post (br_f (by decide) (br_f (by decide) (br_f (by decide) (br_f (by decide) (br_f (by decide) (br_t rfl ⟨hv, by rw [ck]; exact hp⟩)))))), fun post hp => HY post (br_f (by decide) (br_f (by decide) (br_t rfl ⟨hv, by rw [ck]; exact hp⟩)))⟩
        · exact ⟨oft k, fun post hp => HX post (br_f (by decide) (br_f (by decide) (br_f (by decide) (br_f (by decide) (br_f (by decide) (br_f (by decide) (br_t rfl ⟨hv, by rw [ck]; exact hp⟩))))))), fun post hp => HY post (br_f (by decide) (br_f (by decide) (br_f (by decide) ⟨hv, by rw [ck]; exact hp⟩)))⟩
    · -- what is out of range
      have z0 : ¬ v2 = 0 := fun y => w4 (by rw [y]; exact ⟨by decide, by decide⟩)
      have z1 : v2 < 1 ∨ 3 < v2 := by
        have q1 : (1 : Int32).toInt = 1 := by decide
        have q0 : (0 : Int32).toInt = 0 := by decide
        have q3 : (3 : Int32).toInt = 3 := by decide
        have q4 : (4 : Int32).toInt = 4 := by decide
        rw [Int32.lt_iff_toInt_lt, Int32.le_iff_toInt_le, q0, q4] at w4
        rw [Int32.lt_iff_toInt_lt, Int32.lt_iff_toInt_lt, q1, q3]
        omega
      have z2 : v2 < 0 ∨ 3 < v2 := by
        have q0 : (0 : Int32).toInt = 0 := by decide
        have q3 : (3 : Int32).toInt = 3 := by decide
        have q4 : (4 : Int32).toInt = 4 := by decide
        rw [Int32.lt_iff_toInt_lt, Int32.le_iff_toInt_le, q0, q4] at w4
        rw [Int32.lt_iff_toInt_lt, Int32.lt_iff_toInt_lt, q0, q3]
        omega
      have F : ∀ (post : Int32 → Prop) (x3 y : Int32), post (-1) → wX_service_43 post (nI k) v2 x3 y (lN c) ep st pt bs pr tk mk rs vl cl nb al wt lg wd sn lo lt lv gk gt gf gl gs gn sl ss sb pa du oft bg av tt := by
        intro post x3 y hp
        simp only [wX_service_43]
        exact br_f z0 (br_c (fun _ => hp) (fun _ => br_c (fun _ => hp) (fun n1 => br_t (z1.resolve_left n1) hp)))
      refine ⟨-1, fun post hp => ?_, fun post hp => ?_⟩
      · simp only [wpX_service, wX_service_24, wX_service_42]
        exact xl_isS (fun y => absurd y (fun z => z.elim a1 a2)) (fun _ _ => br_f (by decide) ⟨hv, br_c (fun _ => br_c (fun _ => F post _ _ hp) (fun _ => ⟨hv, br_c (fun _ => F post _ _ hp) (fun _ => F post _ _ hp)⟩)) (fun _ => br_c (fun _ => F post _ _ hp) (fun _ => ⟨hv, br_c (fun _ => F post _ _ hp) (fun _ => F post _ _ hp)⟩))⟩)
      · simp only [wpY_service]
        exact yl_within (fun y => absurd y (fun z => z.elim a1 b1)) (fun _ _ => br_f (by decide) (yl_within (fun _ => br_t rfl hp) (fun y y' => absurd z2 (fun z => z.elim y y'))))
  · refine ⟨-1, fun post hp => ?_, fun post hp => ?_⟩
    · simp only [wpX_service]
      exact xl_isS (fun _ => br_t rfl hp) (fun a1 a2 => absurd ⟨a1, a2⟩ good)
    · simp only [wpY_service]
      exact yl_within (fun _ => br_t rfl hp) (fun a1 a2 => absurd ⟨a1, by rw [← e23]; exact a2⟩ good)
end
