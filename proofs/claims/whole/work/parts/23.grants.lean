/-! grants -/
theorem ra_ll {a b : Int32} (x : Int32) (h : b.toInt = a.toInt + 1) : (a < x) = (b ≤ x) := propext (by rw [Int32.lt_iff_toInt_lt, Int32.le_iff_toInt_le, h]; omega)
theorem yl_within {a b x : Int32} {post : Int32 → Prop} (h0 : (x < a ∨ b < x) → post 0) (h1 : ¬ x < a → ¬ b < x → post 1) : wpY_within post x a b :=
  br_c (fun y => h0 (Or.inl y)) (fun y => br_c (fun z => h0 (Or.inr z)) (fun z => h1 y z))
theorem ra_how {x : Int32} (h1 : ¬ x < 1) (h3 : x ≤ 3) : x = 1 ∨ x = 2 ∨ x = 3 := by
  have a : (1 : Int32).toInt = 1 := by decide
  have b : (3 : Int32).toInt = 3 := by decide
  rw [Int32.lt_iff_toInt_lt, a] at h1
  rw [Int32.le_iff_toInt_le, b] at h3
  have : x.toInt = 1 ∨ x.toInt = 2 ∨ x.toInt = 3 := by omega
  rcases this with z | z | z
  · exact Or.inl (Int32.toInt_inj.mp (z.trans a.symm))
  · exact Or.inr (Or.inl (Int32.toInt_inj.mp (z.trans (by decide : (2 : Int32).toInt = 2).symm)))
  · exact Or.inr (Or.inr (Int32.toInt_inj.mp (z.trans b.symm)))
theorem ra_16s {f : Nat} (h : f ≤ 16) : 16 - nI f = nI (16 - f) := pk_sub (a := 16) (b := f) h
theorem ra_nat {x : Int32} {n : Nat} (hn : n < 2 ^ 31) (h0 : ¬ x < 0) (h1 : ¬ nI n ≤ x) : ∃ j, j < n ∧ x = nI j := by
  rcases pk_ix x hn with a | a | a
  · exact absurd a h0
  · exact absurd a h1
  · exact a
theorem ra_lt1 {x : Int32} (h : ¬ x < 1) : ¬ x < 0 := by
  have a : (1 : Int32).toInt = 1 := by decide
  have b : (0 : Int32).toInt = 0 := by decide
  rw [Int32.lt_iff_toInt_lt, a] at h
  rw [Int32.lt_iff_toInt_lt, b]
  omega
/-- first and length within the 16 words -/
theorem ra_fl16 {x y : Int32} (h1 : ¬ x < 0) (h2 : ¬ y < 1) (h3 : y ≤ 16 - x) : ∃ f l : Nat, f ≤ 15 ∧ 1 ≤ l ∧ f + l ≤ 16 ∧ x = nI f ∧ y = nI l := by
  have a0 : (0 : Int32).toInt = 0 := by decide
  have a1 : (1 : Int32).toInt = 1 := by decide
  have a16 : (16 : Int32).toInt = 16 := by decide
  obtain ⟨f, hf, rfl⟩ := nI_of h1
  obtain ⟨l, hl, rfl⟩ := nI_of (ra_lt1 h2)
  rw [Int32.lt_iff_toInt_lt, a1, nI_toInt hl] at h2
  by_cases f16 : f ≤ 16
  · rw [ra_16s f16, nI_leI hl (by omega)] at h3
    exact ⟨f, l, by omega, by omega, by omega, rfl, rfl⟩
  · exfalso
    rw [Int32.le_iff_toInt_le, Int32.toInt_sub, a16, nI_toInt hf, nI_toInt hl] at h3
    have : ((16 : Int) - (f : Int)).bmod (2 ^ 32) = 16 - f := Int.bmod_eq_of_le (by omega) (by omega)
    rw [this] at h3
    omega
section
variable {B c m n : Nat} {st pr bs tk mk vl cl rs al wt wd tt sb pa du oft bg av ep pt nb lg lt lv gk gt gf gl gs gn sl ss bo ot so sq go mo nt fr tw tx gr ge g1 g2 g3 sv lf se cp : Nat → Int32} {sn lo : Nat → Int64}
theorem xl_isG {x : Int32} {post : Int32 → Prop} (h0 : (x < 0 ∨ 4 ≤ x) → post 0) (h1 : ¬ x < 0 → ¬ 4 ≤ x → post 1) : wpX_isGrantNumber post (lN c, ep, st, pt, bs, pr, tk, mk, rs, vl, cl, nb, al, wt, lg, wd, sn, lo, lt, lv, gk, gt, gf, gl, gs, gn, sl, ss, sb, pa, du, oft, bg, av, tt) x :=
  br_c (fun y => h0 (Or.inl y)) (fun y => br_c (fun z => h0 (Or.inr z)) (fun z => h1 y z))
theorem xl_isS {x : Int32} {post : Int32 → Prop} (h0 : (x < 0 ∨ 3 ≤ x) → post 0) (h1 : ¬ x < 0 → ¬ 3 ≤ x → post 1) : wpX_isServiceNumber post (lN c, ep, st, pt, bs, pr, tk, mk, rs, vl, cl, nb, al, wt, lg, wd, sn, lo, lt, lv, gk, gt, gf, gl, gs, gn, sl, ss, sb, pa, du, oft, bg, av, tt) x :=
  br_c (fun y => h0 (Or.inl y)) (fun y => br_c (fun z => h0 (Or.inr z)) (fun z => h1 y z))
theorem xl_isW {x : Int32} {post : Int32 → Prop} (h0 : (x < 0 ∨ 16 ≤ x) → post 0) (h1 : ¬ x < 0 → ¬ 16 ≤ x → post 1) : wpX_isWord post (lN c, ep, st, pt, bs, pr, tk, mk, rs, vl, cl, nb, al, wt, lg, wd, sn, lo, lt, lv, gk, gt, gf, gl, gs, gn, sl, ss, sb, pa, du, oft, bg, av, tt) x :=
  br_c (fun y => h0 (Or.inl y)) (fun y => br_c (fun z => h0 (Or.inr z)) (fun z => h1 y z))
theorem yl_grant {r i : Nat} {x2 x3 x4 x5 x6 : Int32} {post : Int32 → SY → Prop} (hr : r < 10) (hi : i < 4) (h : post 0 (nI n, nI m, st, bo, bs, pr, tk, mk, ot, vl, rs, al, wt, so, sq, go, mo, cl, wd, nt, fr, tw, tx, upd gr (4 * r + i) x2, upd ge (4 * r + i) x3, upd g1 (4 * r + i) x4, upd g2 (4 * r + i) x5, upd g3 (4 * r + i) x6, sv, sb, lf, pa, du, av, bg, oft, se, tt, cp)) : wpY_grant post (nI n, nI m, st, bo, bs, pr, tk, mk, ot, vl, rs, al, wt, so, sq, go, mo, cl, wd, nt, fr, tw, tx, gr, ge, g1, g2, g3, sv, sb, lf, pa, du, av, bg, oft, se, tt, cp) (nI r) (nI i) x2 x3 x4 x5 x6 := by
  simp (disch := omega) only [wpY_grant, not_true, not_false_iff, true_implies, false_implies, implies_true, true_and, and_true, forall_eq, eq_self, ra_i, ra_c, ra_m3, ra_m4, ra_m16, ra_4m, ra_14m, ra_16m, nI_add, nI_1, lN_1, ra_p2, ra_2p, ra_n0, ra_p0, ra_q0, ra_q1, ra_q2, ra_q3, ra_n3, ra_n4, ra_n10, ra_n14, ra_n16, ra_n30, ra_n140, ra_y3, ra_y4, ra_y10, ra_y14, ra_y16, ra_y30, ra_y140]
  exact h
theorem ra_R_G {gk' gt' gf' gl' gs' gn' gr' ge' g1' g2' g3' : Nat → Int32} (h : ra_R B c m n st pr tk rs al tt pa bs sb ep pt nb lg sn lo lt lv gk gt gf gl gs gn sl ss bo ot so sq go mo nt fr tw tx gr ge g1 g2 g3 sv lf se) (hG : ra_G st gk' gt' gf' gl' gs' gn' gr' ge' g1' g2' g3') : ra_R B c m n st pr tk rs al tt pa bs sb ep pt nb lg sn lo lt lv gk' gt' gf' gl' gs' gn' sl ss bo ot so sq go mo nt fr tw tx gr' ge' g1' g2' g3' sv lf se := by
  obtain ⟨h1, h2, h3, h4, h5, h6, h7, h8, h9, h10, h11⟩ := h
  exact ⟨h1, h2, h3, h4, h5, h6, hG, h8, h9, h10, h11⟩
/-- to is ANY, or refused, or another living one's -/
theorem ra_any {r : Nat} (hB : B ≤ 2 ^ 26) (h : ra_R B c m n st pr tk rs al tt pa bs sb ep pt nb lg sn lo lt lv gk gt gf gl gs gn sl ss bo ot so sq go mo nt fr tw tx gr ge g1 g2 g3 sv lf se) (hr : r < 10) (hr1 : st r = 1) (e : Int32) : (e = -1 ∧ ∀ post : Int32 → Prop, post 0 → wpX_refusalOrAny post (lN c, ep, st, pt, bs, pr, tk, mk, rs, vl, cl, nb, al, wt, lg, wd, sn, lo, lt, lv, gk, gt, gf, gl, gs, gn, sl, ss, sb, pa, du, oft, bg, av, tt) (nI r) e) ∨
    (e ≠ -1 ∧ ∃ w : Int32, (w = 0 ∨ w = -1 ∨ w = -3) ∧ (∀ post : Int32 → Prop, post w → wpX_refusalOrAny post (lN c, ep, st, pt, bs, pr, tk, mk, rs, vl, cl, nb, al, wt, lg, wd, sn, lo, lt, lv, gk, gt, gf, gl, gs, gn, sl, ss, sb, pa, du, oft, bg, av, tt) (nI r) e) ∧ (∀ post : Int32 → Prop, post w → wpY_wrong post (nI n, nI m, st, bo, bs, pr, tk, mk, ot, vl, rs, al, wt, so, sq, go, mo, cl, wd, nt, fr, tw, tx, gr, ge, g1, g2, g3, sv, sb, lf, pa, du, av, bg, oft, se, tt, cp) (nI r) e 0)) := by
  by_cases e1 : e = -1
  · exact Or.inl ⟨e1, fun post hp => xl_roa hr (fun _ => hp) (fun z => absurd e1 z)⟩
  · refine Or.inr ⟨e1, ?_⟩
    rcases ra_ref0 (mk := mk) (vl := vl) (cl := cl) (wt := wt) (wd := wd) (du := du) (oft := oft) (bg := bg) (av := av) (cp := cp) hB h hr hr1 e with ⟨w, hw, hX, -, hY⟩ | ⟨s, hs, z, hl, he, ha, hX, hY⟩
    · exact ⟨w, Or.inr hw, fun post hp => xl_roa hr (fun y => absurd y e1) (fun _ => hX _ hp), fun post hp => hY _ 0 hp⟩
    · exact ⟨0, Or.inl rfl, fun post hp => xl_roa hr (fun y => absurd y e1) (fun _ => hX _ hp), fun post hp => hY _ hp⟩
theorem ra_lend {v1 v2 v3 v4 v5 : Int32} (hB : B ≤ 2 ^ 26) (h : ra_R B c m n st pr tk rs al tt pa bs sb ep pt nb lg sn lo lt lv gk gt gf gl gs gn sl ss bo ot so sq go mo nt fr tw tx gr ge g1 g2 g3 sv lf se) : ∃ (w : Int32) (u' : SX) (v' : SY), ra_RR (B + 1) u' v' ∧ (∀ post : Int32 → SX → Prop, post w u' → wpX_lend post (lN c, ep, st, pt, bs, pr, tk, mk, rs, vl, cl, nb, al, wt, lg, wd, sn, lo, lt, lv, gk, gt, gf, gl, gs, gn, sl, ss, sb, pa, du, oft, bg, av, tt) v1 v2 v3 v4 v5) ∧ (∀ post : Int32 → SY → Prop, post w v' → wpY_lend post (nI n, nI m, st, bo, bs, pr, tk, mk, ot, vl, rs, al, wt, so, sq, go, mo, cl, wd, nt, fr, tw, tx, gr, ge, g1, g2, g3, sv, sb, lf, pa, du, av, bg, oft, se, tt, cp) v1 v2 v3 v4 v5) := by
  rcases ra_run_both (mk := mk) (vl := vl) (cl := cl) (wt := wt) (wd := wd) (du := du) (oft := oft) (bg := bg) (av := av) (cp := cp) hB h with ⟨rX, rY⟩ | ⟨r, hr, hr1, rX, rY⟩
  · refine ⟨-1, _, _, ra_RR_mono (ra_in (mk := mk) (vl := vl) (cl := cl) (wt := wt) (wd := wd) (du := du) (oft := oft) (bg := bg) (av := av) (cp := cp) h) (by omega), fun post hp => ?_, fun post hp => ?_⟩
    · simp only [wpX_lend]
      exact rX _ (br_t (by decide) hp)
    · simp only [wpY_lend]
      exact rY _ (br_t (by decide) hp)
  · have rl : st r ≠ 0 := by rw [hr1]; decide
    by_cases good : ¬ v1 < 0 ∧ ¬ 4 ≤ v1 ∧ ¬ v5 < 1 ∧ v5 ≤ 3 ∧ ¬ v3 < 0 ∧ ¬ v4 < 1 ∧ v4 ≤ 16 - v3
    · obtain ⟨a1, a2, a3, a4, a5, a6, a7⟩ := good
      obtain ⟨i, hi, rfl⟩ := ra_nat (n := 4) (by omega) a1 a2
      obtain ⟨f, l, hf, hl, hfl, rfl, rfl⟩ := ra_fl16 a5 a6 a7
      have how := ra_how a3 a4
      have b1 : ¬ (3 : Int32) < nI i := by rw [ra_ll _ (by decide : (4 : Int32).toInt = (3 : Int32).toInt + 1)]; exact a2
      have b2 : ¬ (15 : Int32) < nI f := nI_nlt (a := 15) (b := f) (by omega) (by omega)
      have b3 : ¬ (16 - nI f) < nI l := Int32.not_lt.mpr a7
      have b4 : ¬ (3 : Int32) < v5 := Int32.not_lt.mpr a4
      have X0 : ∀ (w : Int32) (post : Int32 → SX → Prop), (∀ q : Int32 → Prop, q w → wpX_refusalOrAny q (lN c, ep, st, pt, bs, pr, tk, mk, rs, vl, cl, nb, al, wt, lg, wd, sn, lo, lt, lv, gk, gt, gf, gl, gs, gn, sl, ss, sb, pa, du, oft, bg, av, tt) (nI r) v2) → ((w = 0 → post 0 (lN c, ep, st, pt, bs, pr, tk, mk, rs, vl, cl, nb, al, wt, lg, wd, sn, lo, lt, lv, upd gk (4 * r + i) v5, upd gt (4 * r + i) v2, upd gf (4 * r + i) (nI f), upd gl (4 * r + i) (nI l), gs, gn, sl, ss, sb, pa, du, oft, bg, av, tt)) ∧ (¬ w = 0 → post w (lN c, ep, st, pt, bs, pr, tk, mk, rs, vl, cl, nb, al, wt, lg, wd, sn, lo, lt, lv, gk, gt, gf, gl, gs, gn, sl, ss, sb, pa, du, oft, bg, av, tt))) → wpX_lend post (lN c, ep, st, pt, bs, pr, tk, mk, rs, vl, cl, nb, al, wt, lg, wd, sn, lo, lt, lv, gk, gt, gf, gl, gs, gn, sl, ss, sb, pa, du, oft, bg, av, tt) (nI i) v2 (nI f) (nI l) v5 := by
        intro w post hX hp
        simp only [wpX_lend]
        refine rX _ (br_f (nI_pos (by omega)) (xl_isG (fun y => absurd y (fun z => z.elim a1 a2)) (fun _ _ => br_f (by decide) (br_f a3 (br_t a4 (br_f a5 (br_f a6 (br_t a7 (hX _ ?_)))))))))
        simp (disch := omega) only [not_true, not_false_iff, true_implies, false_implies, implies_true, true_and, and_true, forall_eq, eq_self, ra_i, ra_c, ra_m3, ra_m4, ra_m16, ra_4m, ra_14m, ra_16m, nI_add, nI_1, lN_1, ra_p2, ra_2p, ra_n0, ra_p0, ra_q0, ra_q1, ra_q2, ra_q3, ra_n3, ra_n4, ra_n10, ra_n14, ra_n16, ra_n30, ra_n140, ra_y3, ra_y4, ra_y10, ra_y14, ra_y16, ra_y30, ra_y140]
        exact hp
      have Y0 : ∀ (post : Int32 → SY → Prop), ((v2 = -1 → wY_lend_72 post (nI i) v2 (nI f) (nI l) v5 (nI r) 0 (nI n) (nI m) st bo bs pr tk mk ot vl rs al wt so sq go mo cl wd nt fr tw tx gr ge g1 g2 g3 sv sb lf pa du av bg oft se tt cp) ∧ (¬ v2 = -1 → wpY_wrong (fun r_51 => wY_lend_72 post (nI i) v2 (nI f) (nI l) v5 (nI r) r_51 (nI n) (nI m) st bo bs pr tk mk ot vl rs al wt so sq go mo cl wd nt fr tw tx gr ge g1 g2 g3 sv sb lf pa du av bg oft se tt cp) (nI n, nI m, st, bo, bs, pr, tk, mk, ot, vl, rs, al, wt, so, sq, go, mo, cl, wd, nt, fr, tw, tx, gr, ge, g1, g2, g3, sv, sb, lf, pa, du, av, bg, oft, se, tt, cp) (nI r) v2 0)) → wpY_lend post (nI n, nI m, st, bo, bs, pr, tk, mk, ot, vl, rs, al, wt, so, sq, go, mo, cl, wd, nt, fr, tw, tx, gr, ge, g1, g2, g3, sv, sb, lf, pa, du, av, bg, oft, se, tt, cp) (nI i) v2 (nI f) (nI l) v5 := by
        intro post hp
        simp only [wpY_lend]
        exact rY _ (br_f (nI_pos (by omega)) (yl_within (fun y => absurd y (fun z => z.elim a1 b1)) (fun _ _ => br_f (by decide) (yl_within (fun y => absurd y (fun z => z.elim a5 b2)) (fun _ _ => br_f (by decide) (yl_within (fun y => absurd y (fun z => z.elim a6 b3)) (fun _ _ => br_f (by decide) (yl_within (fun y => absurd y (fun z => z.elim a3 b4)) (fun _ _ => br_f (by decide) hp)))))))))
      have hG := ra_R_G h (ra_G_lend (to := v2) h.2.2.2.2.2.2.1 hr rl hi how hfl)
      rcases ra_any (mk := mk) (vl := vl) (cl := cl) (wt := wt) (wd := wd) (du := du) (oft := oft) (bg := bg) (av := av) (cp := cp) hB h hr hr1 v2 with ⟨e1, hX⟩ | ⟨e1, w, hw, hX, hY⟩
      · refine ⟨0, _, _, ra_RR_mono (ra_in (mk := mk) (vl := vl) (cl := cl) (wt := wt) (wd := wd) (du := du) (oft := oft) (bg := bg) (av := av) (cp := cp) hG) (by omega), fun post hp => X0 0 post hX (br_t rfl hp), fun post hp => Y0 post (br_t e1 ?_)⟩
        simp only [wY_lend_72]
        exact br_t (by decide) (yl_grant hr hi hp)
      · rcases hw with rfl | hw
        · refine ⟨0, _, _, ra_RR_mono (ra_in (mk := mk) (vl := vl) (cl := cl) (wt := wt) (wd := wd) (du := du) (oft := oft) (bg := bg) (av := av) (cp := cp) hG) (by omega), fun post hp => X0 0 post hX (br_t rfl hp), fun post hp => Y0 post (br_f e1 (hY _ ?_))⟩
          simp only [wY_lend_72]
          exact br_t (by decide) (yl_grant hr hi hp)
        · have w0 : ¬ w = 0 := by rcases hw with rfl | rfl <;> decide
          have w1 : ¬ 0 ≤ w := by rcases hw with rfl | rfl <;> decide
          refine ⟨w, _, _, ra_RR_mono (ra_in (mk := mk) (vl := vl) (cl := cl) (wt := wt) (wd := wd) (du := du) (oft := oft) (bg := bg) (av := av) (cp := cp) h) (by omega), fun post hp => X0 w post hX (br_f w0 hp), fun post hp => Y0 post (br_f e1 (hY _ ?_))⟩
          simp only [wY_lend_72]
          exact br_f w1 hp
    · refine ⟨-1, _, _, ra_RR_mono (ra_in (mk := mk) (vl := vl) (cl := cl) (wt := wt) (wd := wd) (du := du) (oft := oft) (bg := bg) (av := av) (cp := cp) h) (by omega), fun post hp => ?_, fun post hp => ?_⟩
      · simp only [wpX_lend]
        exact rX _ (br_f (nI_pos (by omega)) (xl_isG (fun _ => br_t rfl hp) (fun a1 a2 => br_f (by decide) (br_c (fun _ => hp) (fun a3 => br_c (fun a4 => br_c (fun _ => hp) (fun a5 => br_c (fun _ => hp) (fun a6 => br_c (fun a7 => absurd ⟨a1, a2, a3, a4, a5, a6, a7⟩ good) (fun _ => hp)))) (fun _ => hp))))))
      · simp only [wpY_lend]
        refine rY _ (br_f (nI_pos (by omega)) (yl_within (fun _ => br_t rfl hp) (fun a1 a2 => br_f (by decide) (yl_within (fun _ => br_t rfl hp) (fun a5 _ => br_f (by decide) (yl_within (fun _ => br_t rfl hp) (fun a6 a7 => br_f (by decide) (yl_within (fun _ => br_t rfl hp) (fun a3 a4 => absurd ⟨a1, ?_, a3, Int32.not_lt.mp a4, a5, a6, Int32.not_lt.mp a7⟩ good)))))))))
        rw [← ra_ll _ (by decide : (4 : Int32).toInt = (3 : Int32).toInt + 1)]; exact a2
end
