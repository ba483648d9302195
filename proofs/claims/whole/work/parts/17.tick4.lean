/-! a tick, ticks -/
section
variable {B c m n : Nat} {st pr bs tk mk vl cl rs al wt wd tt sb pa du oft bg av ep pt nb lg lt lv gk gt gf gl gs gn sl ss bo ot so sq go mo nt fr tw tx gr ge g1 g2 g3 sv lf se cp : Nat → Int32} {sn lo : Nat → Int64}
theorem ra_services : ∀ (d k B : Nat) (c m n : Nat) (st pr bs tk mk vl cl rs al wt wd tt sb pa du oft bg av ep pt nb lg lt lv gk gt gf gl gs gn sl ss bo ot so sq go mo nt fr tw tx gr ge g1 g2 g3 sv lf se cp : Nat → Int32) (sn lo : Nat → Int64), k + d = 3 → B + 11 * d + 20 ≤ 2 ^ 26 → ra_R B c m n st pr tk rs al tt pa bs sb ep pt nb lg sn lo lt lv gk gt gf gl gs gn sl ss bo ot so sq go mo nt fr tw tx gr ge g1 g2 g3 sv lf se → ∃ (t : Int32) (u' : SX) (v' : SY), ra_RR (B + 11 * d) u' v' ∧ (∀ (post : Int32 → SX → Prop) (x : Int32), post (x + t) u' → wX_oneTick_38 post (d + 1) x (nI k) (lN c) ep st pt bs pr tk mk rs vl cl nb al wt lg wd sn lo lt lv gk gt gf gl gs gn sl ss sb pa du oft bg av tt) ∧ (∀ (post : Int32 → SY → Prop) (x : Int32), post (x + t) v' → wY_tickOnce_95 post (d + 1) x (nI k) (nI n) (nI m) st bo bs pr tk mk ot vl rs al wt so sq go mo cl wd nt fr tw tx gr ge g1 g2 g3 sv sb lf pa du av bg oft se tt cp) := by
  intro d
  induction d with
  | zero =>
    intro k B c m n st pr bs tk mk vl cl rs al wt wd tt sb pa du oft bg av ep pt nb lg lt lv gk gt gf gl gs gn sl ss bo ot so sq go mo nt fr tw tx gr ge g1 g2 g3 sv lf se cp sn lo hk hB h
    have : k = 3 := by omega
    subst this
    refine ⟨0, _, _, ra_in (mk := mk) (vl := vl) (cl := cl) (wt := wt) (wd := wd) (du := du) (oft := oft) (bg := bg) (av := av) (cp := cp) h, fun post x hp => ?_, fun post x hp => ?_⟩
    · rw [ra_x0] at hp
      simp (disch := omega) only [wX_oneTick_38, not_true, not_false_iff, true_implies, false_implies, implies_true, true_and, and_true, forall_eq, eq_self, ra_i, ra_c, ra_m3, ra_m4, ra_m16, ra_4m, ra_14m, ra_16m, nI_add, nI_1, lN_1, ra_p2, ra_2p, ra_n0, ra_p0, ra_q0, ra_q1, ra_q2, ra_q3, ra_n3, ra_n4, ra_n10, ra_n14, ra_n16, ra_n30, ra_n140, ra_y3, ra_y4, ra_y10, ra_y14, ra_y16, ra_y30, ra_y140]
      exact hp
    · rw [ra_x0] at hp
      simp (disch := omega) only [wY_tickOnce_95, not_true, not_false_iff, true_implies, false_implies, implies_true, true_and, and_true, forall_eq, eq_self, ra_i, ra_c, ra_m3, ra_m4, ra_m16, ra_4m, ra_14m, ra_16m, nI_add, nI_1, lN_1, ra_p2, ra_2p, ra_n0, ra_p0, ra_q0, ra_q1, ra_q2, ra_q3, ra_n3, ra_n4, ra_n10, ra_n14, ra_n16, ra_n30, ra_n140, ra_y3, ra_y4, ra_y10, ra_y14, ra_y16, ra_y30, ra_y140]
      exact hp
  | succ d ih =>
    intro k B c m n st pr bs tk mk vl cl rs al wt wd tt sb pa du oft bg av ep pt nb lg lt lv gk gt gf gl gs gn sl ss bo ot so sq go mo nt fr tw tx gr ge g1 g2 g3 sv lf se cp sn lo hk hB h
    obtain ⟨b, u1, v1, hR1, hX1, hY1⟩ := ra_revive (mk := mk) (vl := vl) (cl := cl) (wt := wt) (wd := wd) (du := du) (oft := oft) (bg := bg) (av := av) (cp := cp) (show k < 3 by omega) (by omega) h
    obtain ⟨c', m', n', st', pr', bs', tk', mk', vl', cl', rs', al', wt', wd', tt', sb', pa', du', oft', bg', av', ep', pt', nb', lg', lt', lv', gk', gt', gf', gl', gs', gn', sl', ss', bo', ot', so', sq', go', mo', nt', fr', tw', tx', gr', ge', g1', g2', g3', sv', lf', se', cp', sn', lo', rfl, rfl, h1⟩ := hR1
    obtain ⟨t, u', v', hR, hX, hY⟩ := ih (k + 1) (B + 11) _ _ _ _ _ _ _ mk' vl' cl' _ _ wt' wd' _ _ _ du' oft' bg' av' _ _ _ _ _ _ _ _ _ _ _ _ _ _ _ _ _ _ _ _ _ _ _ _ _ _ _ _ _ _ _ _ cp' _ _ (by omega) (by omega) h1
    refine ⟨b + t, u', v', ra_RR_mono hR (by omega), fun post x hp => ?_, fun post x hp => ?_⟩
    · rw [← Int32.add_assoc] at hp
      exact hX1 post (d + 1) x (hX post (x + b) hp)
    · rw [← Int32.add_assoc] at hp
      exact hY1 post (d + 1) x (hY post (x + b) hp)
theorem ra_tick2 (hB : B + 100 ≤ 2 ^ 26) (h : ra_R B c m n st pr tk rs al tt pa bs sb ep pt nb lg sn lo lt lv gk gt gf gl gs gn sl ss bo ot so sq go mo nt fr tw tx gr ge g1 g2 g3 sv lf se) : ∃ (t : Int32) (u' : SX) (v' : SY), ra_RR (B + 43) u' v' ∧ (∀ post : Int32 → SX → Prop, post t u' → wX_oneTick_30 post (lN c) ep st pt bs pr tk mk rs vl cl nb al wt lg wd sn lo lt lv gk gt gf gl gs gn sl ss sb pa du oft bg av tt) ∧ (∀ post : Int32 → SY → Prop, post t v' → ∃ q, wY_tickOnce_34 post 0 q 0 (nI n) (nI m) st bo bs pr tk mk ot vl rs al wt so sq go mo cl wd nt fr tw tx gr ge g1 g2 g3 sv sb lf pa du av bg oft se tt cp) := by
  obtain ⟨u1, v1, hR1, hX1, hY1⟩ := ra_alarms 10 0 B _ _ _ _ _ _ _ mk vl cl _ _ wt wd _ _ _ du oft bg av _ _ _ _ _ _ _ _ _ _ _ _ _ _ _ _ _ _ _ _ _ _ _ _ _ _ _ _ _ _ _ _ cp _ _ rfl (by omega) h
  obtain ⟨c', m', n', st', pr', bs', tk', mk', vl', cl', rs', al', wt', wd', tt', sb', pa', du', oft', bg', av', ep', pt', nb', lg', lt', lv', gk', gt', gf', gl', gs', gn', sl', ss', bo', ot', so', sq', go', mo', nt', fr', tw', tx', gr', ge', g1', g2', g3', sv', lf', se', cp', sn', lo', rfl, rfl, h1⟩ := hR1
  obtain ⟨t, u', v', hR, hX, hY⟩ := ra_services 3 0 (B + 10) _ _ _ _ _ _ _ mk' vl' cl' _ _ wt' wd' _ _ _ du' oft' bg' av' _ _ _ _ _ _ _ _ _ _ _ _ _ _ _ _ _ _ _ _ _ _ _ _ _ _ _ _ _ _ _ _ cp' _ _ rfl (by omega) h1
  refine ⟨0 + t, u', v', ra_RR_mono hR (by omega), fun post hp => ?_, fun post hp => ?_⟩
  · simp only [wX_oneTick_30, wpX_ringAlarms]
    exact ⟨11, hX1 _ ⟨4, hX post 0 hp⟩⟩
  · exact ⟨11, hY1 post 4 (hY post 0 hp)⟩
theorem ra_oneTick (hB : B + 200 ≤ 2 ^ 26) (h : ra_R B c m n st pr tk rs al tt pa bs sb ep pt nb lg sn lo lt lv gk gt gf gl gs gn sl ss bo ot so sq go mo nt fr tw tx gr ge g1 g2 g3 sv lf se) : ∃ (t : Int32) (u' : SX) (v' : SY), ra_RR (B + 60) u' v' ∧ (∀ post : Int32 → SX → Prop, post t u' → wpX_oneTick post (lN c, ep, st, pt, bs, pr, tk, mk, rs, vl, cl, nb, al, wt, lg, wd, sn, lo, lt, lv, gk, gt, gf, gl, gs, gn, sl, ss, sb, pa, du, oft, bg, av, tt)) ∧ (∀ post : Int32 → SY → Prop, post t v' → wpY_tickOnce post (nI n, nI m, st, bo, bs, pr, tk, mk, ot, vl, rs, al, wt, so, sq, go, mo, cl, wd, nt, fr, tw, tx, gr, ge, g1, g2, g3, sv, sb, lf, pa, du, av, bg, oft, se, tt, cp)) := by
  have q8 : ¬ ((8 : Int32) = 0) := by decide
  obtain ⟨u1, v1, hR1, hX1, hY1⟩ := ra_sink (mk := mk) (vl := vl) (cl := cl) (wt := wt) (wd := wd) (du := du) (oft := oft) (bg := bg) (av := av) (cp := cp) (by omega) (ra_R_time h)
  obtain ⟨c', m', n', st', pr', bs', tk', mk', vl', cl', rs', al', wt', wd', tt', sb', pa', du', oft', bg', av', ep', pt', nb', lg', lt', lv', gk', gt', gf', gl', gs', gn', sl', ss', bo', ot', so', sq', go', mo', nt', fr', tw', tx', gr', ge', g1', g2', g3', sv', lf', se', cp', sn', lo', rfl, rfl, h1⟩ := hR1
  by_cases e : tt' 0 - tt' 0 / 8 * 8 = 0
  · obtain ⟨u2, v2, hR2, hX2, hY2⟩ := ra_rise 10 0 (B + 1 + 1) _ _ _ _ _ _ _ mk' vl' cl' _ _ wt' wd' _ _ _ du' oft' bg' av' _ _ _ _ _ _ _ _ _ _ _ _ _ _ _ _ _ _ _ _ _ _ _ _ _ _ _ _ _ _ _ _ cp' _ _ rfl (by omega) h1
    obtain ⟨c'', m'', n'', st'', pr'', bs'', tk'', mk'', vl'', cl'', rs'', al'', wt'', wd'', tt'', sb'', pa'', du'', oft'', bg'', av'', ep'', pt'', nb'', lg'', lt'', lv'', gk'', gt'', gf'', gl'', gs'', gn'', sl'', ss'', bo'', ot'', so'', sq'', go'', mo'', nt'', fr'', tw'', tx'', gr'', ge'', g1'', g2'', g3'', sv'', lf'', se'', cp'', sn'', lo'', rfl, rfl, h2⟩ := hR2
    obtain ⟨t, u', v', hR, hX, hY⟩ := ra_tick2 (mk := mk'') (vl := vl'') (cl := cl'') (wt := wt'') (wd := wd'') (du := du'') (oft := oft'') (bg := bg'') (av := av'') (cp := cp'') (by omega) h2
    refine ⟨t, u', v', ra_RR_mono hR (by omega), fun post hp => ?_, fun post hp => ?_⟩
    · simp only [wpX_oneTick, forall_eq]
      refine hX1 _ ?_
      simp only [q8, e, not_false_iff, not_true, true_implies, false_implies, true_and, and_true, wpX_relieveAll]
      exact ⟨11, hX2 _ (hX post hp)⟩
    · simp only [wpY_tickOnce, forall_eq]
      refine hY1 _ ?_
      simp only [q8, e, not_false_iff, not_true, true_implies, false_implies, true_and, and_true, wpY_rise]
      exact ⟨11, hY2 _ (hY post hp)⟩
  · obtain ⟨t, u', v', hR, hX, hY⟩ := ra_tick2 (mk := mk') (vl := vl') (cl := cl') (wt := wt') (wd := wd') (du := du') (oft := oft') (bg := bg') (av := av') (cp := cp') (by omega) h1
    refine ⟨t, u', v', ra_RR_mono hR (by omega), fun post hp => ?_, fun post hp => ?_⟩
    · simp only [wpX_oneTick, forall_eq]
      refine hX1 _ ?_
      simp only [q8, e, not_false_iff, not_true, true_implies, false_implies, true_and, and_true]
      exact hX post hp
    · simp only [wpY_tickOnce, forall_eq]
      refine hY1 _ ?_
      simp only [q8, e, not_false_iff, not_true, true_implies, false_implies, true_and, and_true]
      exact hY post hp
theorem ra_ticks {N : Nat} (hN : N ≤ 100) : ∀ (d i B : Nat) (c m n : Nat) (st pr bs tk mk vl cl rs al wt wd tt sb pa du oft bg av ep pt nb lg lt lv gk gt gf gl gs gn sl ss bo ot so sq go mo nt fr tw tx gr ge g1 g2 g3 sv lf se cp : Nat → Int32) (sn lo : Nat → Int64), i + d = N → B + 60 * d + 200 ≤ 2 ^ 26 → ra_R B c m n st pr tk rs al tt pa bs sb ep pt nb lg sn lo lt lv gk gt gf gl gs gn sl ss bo ot so sq go mo nt fr tw tx gr ge g1 g2 g3 sv lf se → ∃ (t : Int32) (u' : SX) (v' : SY), ra_RR (B + 60 * d) u' v' ∧ (∀ (post : Int32 → SX → Prop) (x : Int32), post (x + t) u' → wX_tick_17 post (nI N) (d + 1) x (nI i) (lN c) ep st pt bs pr tk mk rs vl cl nb al wt lg wd sn lo lt lv gk gt gf gl gs gn sl ss sb pa du oft bg av tt) ∧ (∀ (post : Int32 → SY → Prop) (x : Int32), post (x + t) v' → wY_tick_16 post (nI N) (d + 1) x (nI i) (nI n) (nI m) st bo bs pr tk mk ot vl rs al wt so sq go mo cl wd nt fr tw tx gr ge g1 g2 g3 sv sb lf pa du av bg oft se tt cp) := by
  intro d
  induction d with
  | zero =>
    intro i B c m n st pr bs tk mk vl cl rs al wt wd tt sb pa du oft bg av ep pt nb lg lt lv gk gt gf gl gs gn sl ss bo ot so sq go mo nt fr tw tx gr ge g1 g2 g3 sv lf se cp sn lo hi hB h
    have : i = N := by omega
    subst this
    have le : nI i ≤ nI i := Int32.le_refl _
    refine ⟨0, _, _, ra_in (mk := mk) (vl := vl) (cl := cl) (wt := wt) (wd := wd) (du := du) (oft := oft) (bg := bg) (av := av) (cp := cp) h, fun post x hp => ?_, fun post x hp => ?_⟩
    · rw [ra_x0] at hp
      simp (disch := omega) only [wX_tick_17, le, not_true, not_false_iff, true_implies, false_implies, implies_true, true_and, and_true, forall_eq, eq_self, ra_i, ra_c, ra_m3, ra_m4, ra_m16, ra_4m, ra_14m, ra_16m, nI_add, nI_1, lN_1, ra_p2, ra_2p, ra_n0, ra_p0, ra_q0, ra_q1, ra_q2, ra_q3, ra_n3, ra_n4, ra_n10, ra_n14, ra_n16, ra_n30, ra_n140, ra_y3, ra_y4, ra_y10, ra_y14, ra_y16, ra_y30, ra_y140]
      exact hp
    · rw [ra_x0] at hp
      simp (disch := omega) only [wY_tick_16, le, not_true, not_false_iff, true_implies, false_implies, implies_true, true_and, and_true, forall_eq, eq_self, ra_i, ra_c, ra_m3, ra_m4, ra_m16, ra_4m, ra_14m, ra_16m, nI_add, nI_1, lN_1, ra_p2, ra_2p, ra_n0, ra_p0, ra_q0, ra_q1, ra_q2, ra_q3, ra_n3, ra_n4, ra_n10, ra_n14, ra_n16, ra_n30, ra_n140, ra_y3, ra_y4, ra_y10, ra_y14, ra_y16, ra_y30, ra_y140]
      exact hp
  | succ d ih =>
    intro i B c m n st pr bs tk mk vl cl rs al wt wd tt sb pa du oft bg av ep pt nb lg lt lv gk gt gf gl gs gn sl ss bo ot so sq go mo nt fr tw tx gr ge g1 g2 g3 sv lf se cp sn lo hi hB h
    have le : ¬ nI N ≤ nI i := nI_ge (by omega) (by omega)
    obtain ⟨b, u1, v1, hR1, hX1, hY1⟩ := ra_oneTick (mk := mk) (vl := vl) (cl := cl) (wt := wt) (wd := wd) (du := du) (oft := oft) (bg := bg) (av := av) (cp := cp) (by omega) h
    obtain ⟨c', m', n', st', pr', bs', tk', mk', vl', cl', rs', al', wt', wd', tt', sb', pa', du', oft', bg', av', ep', pt', nb', lg', lt', lv', gk', gt', gf', gl', gs', gn', sl', ss', bo', ot', so', sq', go', mo', nt', fr', tw', tx', gr', ge', g1', g2', g3', sv', lf', se', cp', sn', lo', rfl, rfl, h1⟩ := hR1
    obtain ⟨t, u', v', hR, hX, hY⟩ := ih (i + 1) (B + 60) _ _ _ _ _ _ _ mk' vl' cl' _ _ wt' wd' _ _ _ du' oft' bg' av' _ _ _ _ _ _ _ _ _ _ _ _ _ _ _ _ _ _ _ _ _ _ _ _ _ _ _ _ _ _ _ _ cp' _ _ (by omega) (by omega) h1
    refine ⟨b + t, u', v', ra_RR_mono hR (by omega), fun post x hp => ?_, fun post x hp => ?_⟩
    · rw [← Int32.add_assoc] at hp
      have w := hX post (x + b) hp
      rw [wX_tick_17]
      simp (disch := omega) only [le, not_true, not_false_iff, true_implies, false_implies, implies_true, true_and, and_true, forall_eq, eq_self, ra_i, ra_c, ra_m3, ra_m4, ra_m16, ra_4m, ra_14m, ra_16m, nI_add, nI_1, lN_1, ra_p2, ra_2p, ra_n0, ra_p0, ra_q0, ra_q1, ra_q2, ra_q3, ra_n3, ra_n4, ra_n10, ra_n14, ra_n16, ra_n30, ra_n140, ra_y3, ra_y4, ra_y10, ra_y14, ra_y16, ra_y30, ra_y140]
      refine hX1 _ ?_
      simp (disch := omega) only [not_true, not_false_iff, true_implies, false_implies, implies_true, true_and, and_true, forall_eq, eq_self, ra_i, ra_c, ra_m3, ra_m4, ra_m16, ra_4m, ra_14m, ra_16m, nI_add, nI_1, lN_1, ra_p2, ra_2p, ra_n0, ra_p0, ra_q0, ra_q1, ra_q2, ra_q3, ra_n3, ra_n4, ra_n10, ra_n14, ra_n16, ra_n30, ra_n140, ra_y3, ra_y4, ra_y10, ra_y14, ra_y16, ra_y30, ra_y140]
      exact w
    · rw [← Int32.add_assoc] at hp
      have w := hY post (x + b) hp
      rw [wY_tick_16]
      simp (disch := omega) only [le, not_true, not_false_iff, true_implies, false_implies, implies_true, true_and, and_true, forall_eq, eq_self, ra_i, ra_c, ra_m3, ra_m4, ra_m16, ra_4m, ra_14m, ra_16m, nI_add, nI_1, lN_1, ra_p2, ra_2p, ra_n0, ra_p0, ra_q0, ra_q1, ra_q2, ra_q3, ra_n3, ra_n4, ra_n10, ra_n14, ra_n16, ra_n30, ra_n140, ra_y3, ra_y4, ra_y10, ra_y14, ra_y16, ra_y30, ra_y140]
      refine hY1 _ ?_
      simp (disch := omega) only [not_true, not_false_iff, true_implies, false_implies, implies_true, true_and, and_true, forall_eq, eq_self, ra_i, ra_c, ra_m3, ra_m4, ra_m16, ra_4m, ra_14m, ra_16m, nI_add, nI_1, lN_1, ra_p2, ra_2p, ra_n0, ra_p0, ra_q0, ra_q1, ra_q2, ra_q3, ra_n3, ra_n4, ra_n10, ra_n14, ra_n16, ra_n30, ra_n140, ra_y3, ra_y4, ra_y10, ra_y14, ra_y16, ra_y30, ra_y140]
      exact w
end
