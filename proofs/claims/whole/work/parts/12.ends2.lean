/-! a process ends: the rest -/
section
variable {B c m n : Nat} {st pr bs tk mk vl cl rs al wt wd tt sb pa du oft bg av ep pt nb lg lt lv gk gt gf gl gs gn sl ss bo ot so sq go mo nt fr tw tx gr ge g1 g2 g3 sv lf se cp : Nat → Int32} {sn lo : Nat → Int64}
theorem yl_ends35 {s : Nat} {gone : Int32} {post : SY → Prop} (hs : s < 10) (h : ∃ k, wY_ends_78 post (nI s) gone k (nI n - 1) (nI n) (nI m) st bo bs pr tk mk ot vl rs al wt so sq go mo cl wd (ra_zB nt (fun j => decide (j / 14 = s ∨ j % 14 = s)) 140) fr tw tx gr ge g1 g2 g3 sv sb lf pa du av bg oft se tt cp) : ∃ k, wY_ends_35 post (nI s) gone (nI n) (nI m) k 0 st bo bs pr tk mk ot vl rs al wt so sq go mo cl wd nt fr tw tx gr ge g1 g2 g3 sv sb lf pa du av bg oft se tt cp := by
  have q14 : ¬ ((14 : Int32) = 0) := by decide
  obtain ⟨k, hk⟩ := ra_run (fun q i => wY_ends_35 post (nI s) gone (nI n) (nI m) q (nI i) st bo bs pr tk mk ot vl rs al wt so sq go mo cl wd (ra_zB nt (fun j => decide (j / 14 = s ∨ j % 14 = s)) i) fr tw tx gr ge g1 g2 g3 sv sb lf pa du av bg oft se tt cp) 140 (fun q => by
    simp (disch := omega) only [wY_ends_35, not_true, not_false_iff, true_implies, false_implies, implies_true, true_and, and_true, forall_eq, eq_self, ra_i, ra_c, ra_m3, ra_m4, ra_m16, ra_4m, ra_14m, ra_16m, nI_add, nI_1, lN_1, ra_p2, ra_2p, ra_n0, ra_p0, ra_q0, ra_q1, ra_q2, ra_q3, ra_n3, ra_n4, ra_n10, ra_n14, ra_n16, ra_n30, ra_n140, ra_y3, ra_y4, ra_y10, ra_y14, ra_y16, ra_y30, ra_y140]
    exact h) (fun q i hi ih => by
    try dsimp only at ih
    by_cases a : i / 14 = s
    · rw [← ra_zB_t nt (fun j => decide (j / 14 = s ∨ j % 14 = s)) i (by simp [a])] at ih
      simp (disch := omega) only [wY_ends_35, q14, ra_d14, ra_eq, a, ra_nb0, not_true, not_false_iff, true_implies, false_implies, implies_true, true_and, and_true, forall_eq, eq_self, ra_i, ra_c, ra_m3, ra_m4, ra_m16, ra_4m, ra_14m, ra_16m, nI_add, nI_1, lN_1, ra_p2, ra_2p, ra_n0, ra_p0, ra_q0, ra_q1, ra_q2, ra_q3, ra_n3, ra_n4, ra_n10, ra_n14, ra_n16, ra_n30, ra_n140, ra_y3, ra_y4, ra_y10, ra_y14, ra_y16, ra_y30, ra_y140]
      exact ih
    · by_cases b : i % 14 = s
      · rw [← ra_zB_t nt (fun j => decide (j / 14 = s ∨ j % 14 = s)) i (by simp [b])] at ih
        simp (disch := omega) only [wY_ends_35, q14, ra_d14, ra_r14, ra_eq, a, b, ra_nb0, not_true, not_false_iff, true_implies, false_implies, implies_true, true_and, and_true, forall_eq, eq_self, ra_i, ra_c, ra_m3, ra_m4, ra_m16, ra_4m, ra_14m, ra_16m, nI_add, nI_1, lN_1, ra_p2, ra_2p, ra_n0, ra_p0, ra_q0, ra_q1, ra_q2, ra_q3, ra_n3, ra_n4, ra_n10, ra_n14, ra_n16, ra_n30, ra_n140, ra_y3, ra_y4, ra_y10, ra_y14, ra_y16, ra_y30, ra_y140]
        exact ih
      · rw [← ra_zB_f nt (fun j => decide (j / 14 = s ∨ j % 14 = s)) i (by simp [a, b])] at ih
        simp (disch := omega) only [wY_ends_35, q14, ra_d14, ra_r14, ra_eq, a, b, ra_nb0, not_true, not_false_iff, true_implies, false_implies, implies_true, true_and, and_true, forall_eq, eq_self, ra_i, ra_c, ra_m3, ra_m4, ra_m16, ra_4m, ra_14m, ra_16m, nI_add, nI_1, lN_1, ra_p2, ra_2p, ra_n0, ra_p0, ra_q0, ra_q1, ra_q2, ra_q3, ra_n3, ra_n4, ra_n10, ra_n14, ra_n16, ra_n30, ra_n140, ra_y3, ra_y4, ra_y10, ra_y14, ra_y16, ra_y30, ra_y140]
        exact ih)
  try dsimp only at hk
  rw [ra_zB_0] at hk
  exact ⟨k, hk⟩
theorem yl_ends117 {s : Nat} {gone : Int32} {post : SY → Prop} (hs : s < 10) (h : ∃ k, wY_ends_141 post gone k 0 (nI n) (nI m) st bo bs pr tk mk ot vl rs al wt so sq go mo cl wd nt fr tw tx (ra_z gr (4 * s) 4) ge g1 g2 g3 sv sb lf pa du av bg oft se tt cp) : ∃ k, wY_ends_117 post (nI s) gone (nI n) (nI m) k (4 * nI s) st bo bs pr tk mk ot vl rs al wt so sq go mo cl wd nt fr tw tx gr ge g1 g2 g3 sv sb lf pa du av bg oft se tt cp := by
  have e4 : nI (4 * s) + 4 = nI (4 * s + 4) := nI_add (4 * s) 4
  obtain ⟨k, hk⟩ := ra_run (fun q i => wY_ends_117 post (nI s) gone (nI n) (nI m) q (nI (4 * s + i)) st bo bs pr tk mk ot vl rs al wt so sq go mo cl wd nt fr tw tx (ra_z gr (4 * s) i) ge g1 g2 g3 sv sb lf pa du av bg oft se tt cp) 4 (fun q => by
    have a : nI (4 * s + 4) ≤ nI (4 * s + 4) := Int32.le_refl _
    simp (disch := omega) only [wY_ends_117, e4, a, not_true, not_false_iff, true_implies, false_implies, implies_true, true_and, and_true, forall_eq, eq_self, ra_i, ra_c, ra_m3, ra_m4, ra_m16, ra_4m, ra_14m, ra_16m, nI_add, nI_1, lN_1, ra_p2, ra_2p, ra_n0, ra_p0, ra_q0, ra_q1, ra_q2, ra_q3, ra_n3, ra_n4, ra_n10, ra_n14, ra_n16, ra_n30, ra_n140, ra_y3, ra_y4, ra_y10, ra_y14, ra_y16, ra_y30, ra_y140]
    exact h) (fun q i hi ih => by
    try dsimp only at ih
    have a : ¬ nI (4 * s + 4) ≤ nI (4 * s + i) := nI_ge (by omega) (by omega)
    simp (disch := omega) only [wY_ends_117, e4, a, ra_z_s, not_true, not_false_iff, true_implies, false_implies, implies_true, true_and, and_true, forall_eq, eq_self, ra_i, ra_c, ra_m3, ra_m4, ra_m16, ra_4m, ra_14m, ra_16m, nI_add, nI_1, lN_1, ra_p2, ra_2p, ra_n0, ra_p0, ra_q0, ra_q1, ra_q2, ra_q3, ra_n3, ra_n4, ra_n10, ra_n14, ra_n16, ra_n30, ra_n140, ra_y3, ra_y4, ra_y10, ra_y14, ra_y16, ra_y30, ra_y140]
    exact ih)
  try dsimp only at hk
  rw [ra_z_0] at hk
  rw [ra_4m]
  exact ⟨k, hk⟩
/-- those that waited for the one that ends -/
theorem ra_endl {s : Nat} {gone : Int32} (hs : s < 10) : ∀ (d i B c m : Nat) (st pt rs nb mo : Nat → Int32) (sn : Nat → Int64), i + d = 10 → ra_O B c m sn mo → ra_T st →
    (∀ t, t < 10 → (st t = 1 → pt t = ep t) ∧ (st t ≠ 0 → st t ≠ 1 → pt t = ot t ∧ ((pt t ≠ gone → rs t = 0 ∧ (pt t = -1 ∨ ∃ w, w < 10 ∧ st w ≠ 0 ∧ pt t = ep w)) ∧ (pt t = gone → i ≤ t)))) →
    ∃ (c' m' : Nat) (st' pt' rs' nb' mo' : Nat → Int32) (sn' : Nat → Int64), c ≤ c' ∧ ra_O (B + d) c' m' sn' mo' ∧ ra_T st' ∧ ra_W st' ep pt' ot rs' ∧ ra_Z st st' ∧
      (∀ t, t < 10 → nb' t = if i ≤ t then nb t &&& (((1 : Int32) <<< (nI s &&& 31)) ^^^ (-1)) else nb t) ∧
      (∀ post : SX → Prop, wX_endProcess_51 post (nI s) gone 1 (nI 10) (lN (c')) ep st' pt' bs pr tk mk rs' vl cl nb' al wt lg wd sn' lo lt lv gk gt gf gl gs gn sl ss sb pa du oft bg av tt → wX_endProcess_51 post (nI s) gone (d + 1) (nI i) (lN c) ep st pt bs pr tk mk rs vl cl nb al wt lg wd sn lo lt lv gk gt gf gl gs gn sl ss sb pa du oft bg av tt) ∧
      (∀ post : SY → Prop, wY_ends_141 post gone 1 (nI 10) (nI n) (nI (m')) st' bo bs pr tk mk ot vl rs' al wt so sq go mo' cl wd nt fr tw tx gr ge g1 g2 g3 sv sb lf pa du av bg oft se tt cp → wY_ends_141 post gone (d + 1) (nI i) (nI n) (nI m) st bo bs pr tk mk ot vl rs al wt so sq go mo cl wd nt fr tw tx gr ge g1 g2 g3 sv sb lf pa du av bg oft se tt cp) := by
  intro d
  induction d with
  | zero =>
    intro i B c m st pt rs nb mo sn hi hO hT hW
    have : i = 10 := by omega
    subst this
    refine ⟨c, m, st, pt, rs, nb, mo, sn, Nat.le_refl _, hO, hT, fun t ht => ?_, ra_Z_rf st, fun t ht => by rw [if_neg (by omega)], fun post h => h, fun post h => h⟩
    obtain ⟨a, b⟩ := hW t ht
    refine ⟨a, fun x y => ?_⟩
    obtain ⟨b1, b2, b3⟩ := b x y
    have ng : pt t ≠ gone := fun z => absurd (b3 z) (by omega)
    exact ⟨b1, b2 ng⟩
  | succ d ih =>
    intro i B c m st pt rs nb mo sn hi hO hT hW
    have i10 : i < 10 := by omega
    obtain ⟨wa, wb⟩ := hW i i10
    by_cases hit : st i ≠ 0 ∧ st i ≠ 1 ∧ pt i = gone
    · obtain ⟨x0, x1, xg⟩ := hit
      obtain ⟨y1, -⟩ := wb x0 x1
      have yg : ot i = gone := y1.symm.trans xg
      have le1 : ¬ st i ≤ 1 := by rw [ra_le1 hT i10]; exact fun z => z.elim x0 x1
      have lv : ∀ w, st w ≠ 0 → upd st i 1 w ≠ 0 := by
        intro w hw
        by_cases y : w = i
        · rw [y, pk_us]; decide
        · rw [pk_un y]; exact hw
      obtain ⟨c', m', st', pt', rs', nb', mo', sn', q1, q2, q3, q4, q5, q6, q7, q8⟩ := ih (i + 1) (B + 1) (c + 1) (m + 1) (upd st i 1) (upd pt i (ep i)) (upd rs i (-3)) (upd nb i (nb i &&& (((1 : Int32) <<< (nI s &&& 31)) ^^^ (-1)))) (upd mo i (nI (m + 1))) (vp_updL sn i (lN (c + 1))) (by omega) (ra_O_last hO i10) (ra_T_u hT (Or.inr (Or.inl rfl))) (fun t ht => by
        by_cases y : t = i
        · subst y
          exact ⟨fun _ => pk_us, fun _ z => absurd pk_us z⟩
        · rw [pk_un y, pk_un y, pk_un y]
          obtain ⟨a, b⟩ := hW t ht
          refine ⟨a, fun u v => ?_⟩
          obtain ⟨b1, b2, b3⟩ := b u v
          refine ⟨b1, fun z => ?_, fun z => by have := b3 z; omega⟩
          obtain ⟨b4, b5⟩ := b2 z
          exact ⟨b4, b5.imp id (fun ⟨w, hw, hl, e⟩ => ⟨w, hw, lv w hl, e⟩)⟩)
      refine ⟨c', m', st', pt', rs', nb', mo', sn', by omega, ra_O_mono (by omega) q2, q3, q4, ra_Z_tr (ra_Z_u x0 (by decide)) q5, fun t ht => ?_, fun post h => ?_, fun post h => ?_⟩
      · rw [q6 t ht]
        by_cases y : t = i
        · subst y
          rw [if_neg (by omega), if_pos (by omega), pk_us]
        · rw [pk_un y]
          by_cases y2 : i ≤ t
          · rw [if_pos (by omega), if_pos y2]
          · rw [if_neg (by omega), if_neg y2]
      · have w := q7 post h
        rw [wX_endProcess_51]
        simp (disch := omega) only [not_true, not_false_iff, true_implies, false_implies, implies_true, true_and, and_true, forall_eq, eq_self, ra_i, ra_c, ra_m3, ra_m4, ra_m16, ra_4m, ra_14m, ra_16m, nI_add, nI_1, lN_1, ra_p2, ra_2p, ra_n0, ra_p0, ra_q0, ra_q1, ra_q2, ra_q3, ra_n3, ra_n4, ra_n10, ra_n14, ra_n16, ra_n30, ra_n140, ra_y3, ra_y4, ra_y10, ra_y14, ra_y16, ra_y30, ra_y140]
        refine xl_isWaiting_t i10 hT x0 x1 ?_
        simp (disch := omega) only [xg, not_true, not_false_iff, true_implies, false_implies, implies_true, true_and, and_true, forall_eq, eq_self, ra_i, ra_c, ra_m3, ra_m4, ra_m16, ra_4m, ra_14m, ra_16m, nI_add, nI_1, lN_1, ra_p2, ra_2p, ra_n0, ra_p0, ra_q0, ra_q1, ra_q2, ra_q3, ra_n3, ra_n4, ra_n10, ra_n14, ra_n16, ra_n30, ra_n140, ra_y3, ra_y4, ra_y10, ra_y14, ra_y16, ra_y30, ra_y140]
        refine xl_makeReady i10 ?_
        simp (disch := omega) only [not_true, not_false_iff, true_implies, false_implies, implies_true, true_and, and_true, forall_eq, eq_self, ra_i, ra_c, ra_m3, ra_m4, ra_m16, ra_4m, ra_14m, ra_16m, nI_add, nI_1, lN_1, ra_p2, ra_2p, ra_n0, ra_p0, ra_q0, ra_q1, ra_q2, ra_q3, ra_n3, ra_n4, ra_n10, ra_n14, ra_n16, ra_n30, ra_n140, ra_y3, ra_y4, ra_y10, ra_y14, ra_y16, ra_y30, ra_y140]
        exact w
      · have w := q8 post h
        rw [wY_ends_141]
        simp (disch := omega) only [le1, yg, not_true, not_false_iff, true_implies, false_implies, implies_true, true_and, and_true, forall_eq, eq_self, ra_i, ra_c, ra_m3, ra_m4, ra_m16, ra_4m, ra_14m, ra_16m, nI_add, nI_1, lN_1, ra_p2, ra_2p, ra_n0, ra_p0, ra_q0, ra_q1, ra_q2, ra_q3, ra_n3, ra_n4, ra_n10, ra_n14, ra_n16, ra_n30, ra_n140, ra_y3, ra_y4, ra_y10, ra_y14, ra_y16, ra_y30, ra_y140]
        refine yl_ready i10 ?_
        simp (disch := omega) only [not_true, not_false_iff, true_implies, false_implies, implies_true, true_and, and_true, forall_eq, eq_self, ra_i, ra_c, ra_m3, ra_m4, ra_m16, ra_4m, ra_14m, ra_16m, nI_add, nI_1, lN_1, ra_p2, ra_2p, ra_n0, ra_p0, ra_q0, ra_q1, ra_q2, ra_q3, ra_n3, ra_n4, ra_n10, ra_n14, ra_n16, ra_n30, ra_n140, ra_y3, ra_y4, ra_y10, ra_y14, ra_y16, ra_y30, ra_y140]
        exact w
    · obtain ⟨c', m', st', pt', rs', nb', mo', sn', q1, q2, q3, q4, q5, q6, q7, q8⟩ := ih (i + 1) B c m st pt rs (upd nb i (nb i &&& (((1 : Int32) <<< (nI s &&& 31)) ^^^ (-1)))) mo sn (by omega) hO hT (fun t ht => by
        obtain ⟨a, b⟩ := hW t ht
        refine ⟨a, fun u v => ?_⟩
        obtain ⟨b1, b2, b3⟩ := b u v
        refine ⟨b1, b2, fun z => ?_⟩
        have b4 := b3 z
        by_cases y : t = i
        · subst y
          exact absurd ⟨u, v, z⟩ hit
        · omega)
      refine ⟨c', m', st', pt', rs', nb', mo', sn', q1, ra_O_mono (by omega) q2, q3, q4, q5, fun t ht => ?_, fun post h => ?_, fun post h => ?_⟩
      · rw [q6 t ht]
        by_cases y : t = i
        · subst y
          rw [if_neg (by omega), if_pos (by omega), pk_us]
        · rw [pk_un y]
          by_cases y2 : i ≤ t
          · rw [if_pos (by omega), if_pos y2]
          · rw [if_neg (by omega), if_neg y2]
      · have w := q7 post h
        rw [wX_endProcess_51]
        simp (disch := omega) only [not_true, not_false_iff, true_implies, false_implies, implies_true, true_and, and_true, forall_eq, eq_self, ra_i, ra_c, ra_m3, ra_m4, ra_m16, ra_4m, ra_14m, ra_16m, nI_add, nI_1, lN_1, ra_p2, ra_2p, ra_n0, ra_p0, ra_q0, ra_q1, ra_q2, ra_q3, ra_n3, ra_n4, ra_n10, ra_n14, ra_n16, ra_n30, ra_n140, ra_y3, ra_y4, ra_y10, ra_y14, ra_y16, ra_y30, ra_y140]
        by_cases x01 : st i = 0 ∨ st i = 1
        · refine xl_isWaiting_f i10 x01 ?_
          simp (disch := omega) only [not_true, not_false_iff, true_implies, false_implies, implies_true, true_and, and_true, forall_eq, eq_self, ra_i, ra_c, ra_m3, ra_m4, ra_m16, ra_4m, ra_14m, ra_16m, nI_add, nI_1, lN_1, ra_p2, ra_2p, ra_n0, ra_p0, ra_q0, ra_q1, ra_q2, ra_q3, ra_n3, ra_n4, ra_n10, ra_n14, ra_n16, ra_n30, ra_n140, ra_y3, ra_y4, ra_y10, ra_y14, ra_y16, ra_y30, ra_y140]
          exact w
        · have x0 : st i ≠ 0 := fun z => x01 (Or.inl z)
          have x1 : st i ≠ 1 := fun z => x01 (Or.inr z)
          have xg : ¬ pt i = gone := fun z => hit ⟨x0, x1, z⟩
          refine xl_isWaiting_t i10 hT x0 x1 ?_
          simp (disch := omega) only [xg, not_true, not_false_iff, true_implies, false_implies, implies_true, true_and, and_true, forall_eq, eq_self, ra_i, ra_c, ra_m3, ra_m4, ra_m16, ra_4m, ra_14m, ra_16m, nI_add, nI_1, lN_1, ra_p2, ra_2p, ra_n0, ra_p0, ra_q0, ra_q1, ra_q2, ra_q3, ra_n3, ra_n4, ra_n10, ra_n14, ra_n16, ra_n30, ra_n140, ra_y3, ra_y4, ra_y10, ra_y14, ra_y16, ra_y30, ra_y140]
          exact w
      · have w := q8 post h
        rw [wY_ends_141]
        by_cases x01 : st i = 0 ∨ st i = 1
        · have le1 : st i ≤ 1 := by rw [ra_le1 hT i10]; exact x01
          simp (disch := omega) only [le1, not_true, not_false_iff, true_implies, false_implies, implies_true, true_and, and_true, forall_eq, eq_self, ra_i, ra_c, ra_m3, ra_m4, ra_m16, ra_4m, ra_14m, ra_16m, nI_add, nI_1, lN_1, ra_p2, ra_2p, ra_n0, ra_p0, ra_q0, ra_q1, ra_q2, ra_q3, ra_n3, ra_n4, ra_n10, ra_n14, ra_n16, ra_n30, ra_n140, ra_y3, ra_y4, ra_y10, ra_y14, ra_y16, ra_y30, ra_y140]
          exact w
        · have x0 : st i ≠ 0 := fun z => x01 (Or.inl z)
          have x1 : st i ≠ 1 := fun z => x01 (Or.inr z)
          have le1 : ¬ st i ≤ 1 := by rw [ra_le1 hT i10]; exact x01
          have xg : ¬ ot i = gone := fun z => hit ⟨x0, x1, ((wb x0 x1).1).trans z⟩
          simp (disch := omega) only [le1, xg, not_true, not_false_iff, true_implies, false_implies, implies_true, true_and, and_true, forall_eq, eq_self, ra_i, ra_c, ra_m3, ra_m4, ra_m16, ra_4m, ra_14m, ra_16m, nI_add, nI_1, lN_1, ra_p2, ra_2p, ra_n0, ra_p0, ra_q0, ra_q1, ra_q2, ra_q3, ra_n3, ra_n4, ra_n10, ra_n14, ra_n16, ra_n30, ra_n140, ra_y3, ra_y4, ra_y10, ra_y14, ra_y16, ra_y30, ra_y140]
          exact w
end
