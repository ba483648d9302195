/-! what is got first: Y's letters, the senders -/
section
variable {B c m n : Nat} {st pr bs tk mk vl cl rs al wt wd tt sb pa du oft bg av ep pt nb lg lt lv gk gt gf gl gs gn sl ss bo ot so sq go mo nt fr tw tx gr ge g1 g2 g3 sv lf se cp : Nat → Int32} {sn lo : Nat → Int64}
def ra_yf (ep fr tw : Nat → Int32) (r : Nat) (e : Int32) (j : Nat) : Prop := tw j = nI r ∧ (e = -1 ∨ ∃ a, a < 10 ∧ fr j = nI a ∧ ep a = e)
theorem yl_yf_skip {r j q : Nat} {e : Int32} {post : Int32 → SY → Prop} (hj : j < n) (hn : n ≤ 30) (hE : ra_E B st ep bo) (hfr : ∃ a, a < 10 ∧ fr j = nI a ∧ st a ≠ 0) (hnf : ¬ ra_yf ep fr tw r e j) (h : wY_fetch_74 post (nI r) e (nI n) (nI m) st bo bs pr tk mk ot vl rs al wt so sq go mo cl wd nt fr tw tx gr ge g1 g2 g3 sv sb lf pa du av bg oft se tt cp q (nI (j + 1))) : wY_fetch_74 post (nI r) e (nI n) (nI m) st bo bs pr tk mk ot vl rs al wt so sq go mo cl wd nt fr tw tx gr ge g1 g2 g3 sv sb lf pa du av bg oft se tt cp (q + 1) (nI j) := by
  obtain ⟨a, ha, ea, hl⟩ := hfr
  have le : ¬ nI n ≤ nI j := nI_ge (by omega) (by omega)
  have ya := ra_E_y hE ha hl
  rw [wY_fetch_74]
  by_cases b : tw j = nI r
  · have e1 : ¬ e = -1 := fun z => hnf ⟨b, Or.inl z⟩
    have e2 : ¬ ep a = e := fun z => hnf ⟨b, Or.inr ⟨a, ha, ea, z⟩⟩
    simp (disch := omega) only [le, b, e1, ea, wpY_endpoint, ya, e2, not_true, not_false_iff, true_implies, false_implies, implies_true, true_and, and_true, forall_eq, eq_self, ra_i, ra_c, ra_m3, ra_m4, ra_m16, ra_4m, ra_14m, ra_16m, nI_add, nI_1, lN_1, ra_p2, ra_2p, ra_n0, ra_p0, ra_q0, ra_q1, ra_q2, ra_q3, ra_n3, ra_n4, ra_n10, ra_n14, ra_n16, ra_n30, ra_n140, ra_y3, ra_y4, ra_y10, ra_y14, ra_y16, ra_y30, ra_y140]
    exact h
  · simp (disch := omega) only [le, b, not_true, not_false_iff, true_implies, false_implies, implies_true, true_and, and_true, forall_eq, eq_self, ra_i, ra_c, ra_m3, ra_m4, ra_m16, ra_4m, ra_14m, ra_16m, nI_add, nI_1, lN_1, ra_p2, ra_2p, ra_n0, ra_p0, ra_q0, ra_q1, ra_q2, ra_q3, ra_n3, ra_n4, ra_n10, ra_n14, ra_n16, ra_n30, ra_n140, ra_y3, ra_y4, ra_y10, ra_y14, ra_y16, ra_y30, ra_y140]
    exact h
theorem yl_fetch74_n {r : Nat} {e : Int32} {post : Int32 → SY → Prop} (hn : n ≤ 30) (hE : ra_E B st ep bo) (hfr : ∀ j, j < n → ∃ a, a < 10 ∧ fr j = nI a ∧ st a ≠ 0) (hnf : ∀ j, j < n → ¬ ra_yf ep fr tw r e j) (h : ∀ q, wY_fetch_74 post (nI r) e (nI n) (nI m) st bo bs pr tk mk ot vl rs al wt so sq go mo cl wd nt fr tw tx gr ge g1 g2 g3 sv sb lf pa du av bg oft se tt cp (q + 1) (nI n)) : ∃ q, wY_fetch_74 post (nI r) e (nI n) (nI m) st bo bs pr tk mk ot vl rs al wt so sq go mo cl wd nt fr tw tx gr ge g1 g2 g3 sv sb lf pa du av bg oft se tt cp q 0 :=
  ra_run (fun q i => wY_fetch_74 post (nI r) e (nI n) (nI m) st bo bs pr tk mk ot vl rs al wt so sq go mo cl wd nt fr tw tx gr ge g1 g2 g3 sv sb lf pa du av bg oft se tt cp q (nI i)) n h (fun q i hi ih => yl_yf_skip hi hn hE (hfr i hi) (hnf i hi) ih)
theorem yl_fetch74_s {r k : Nat} {e : Int32} {post : Int32 → SY → Prop} (hk : k < n) (hn : n ≤ 30) (hE : ra_E B st ep bo) (hfr : ∀ j, j < n → ∃ a, a < 10 ∧ fr j = nI a ∧ st a ≠ 0) (hf : ra_yf ep fr tw r e k) (hnf : ∀ j, j < k → ¬ ra_yf ep fr tw r e j) (h : wY_fetch_114 post (nI r) (nI k) (nI n) (nI m) st bo bs pr tk mk ot vl rs al wt so sq go mo cl wd nt fr tw tx gr ge g1 g2 g3 sv sb lf pa du av bg oft se tt cp) : ∃ q, wY_fetch_74 post (nI r) e (nI n) (nI m) st bo bs pr tk mk ot vl rs al wt so sq go mo cl wd nt fr tw tx gr ge g1 g2 g3 sv sb lf pa du av bg oft se tt cp q 0 := by
  refine ra_run (fun q i => wY_fetch_74 post (nI r) e (nI n) (nI m) st bo bs pr tk mk ot vl rs al wt so sq go mo cl wd nt fr tw tx gr ge g1 g2 g3 sv sb lf pa du av bg oft se tt cp q (nI i)) k (fun q => ?_) (fun q i hi ih => yl_yf_skip (by omega) hn hE (hfr i (by omega)) (hnf i hi) ih)
  have le : ¬ nI n ≤ nI k := nI_ge (by omega) (by omega)
  obtain ⟨b, hb⟩ := hf
  by_cases e1 : e = -1
  · simp (disch := omega) only [wY_fetch_74, le, b, e1, not_true, not_false_iff, true_implies, false_implies, implies_true, true_and, and_true, forall_eq, eq_self, ra_i, ra_c, ra_m3, ra_m4, ra_m16, ra_4m, ra_14m, ra_16m, nI_add, nI_1, lN_1, ra_p2, ra_2p, ra_n0, ra_p0, ra_q0, ra_q1, ra_q2, ra_q3, ra_n3, ra_n4, ra_n10, ra_n14, ra_n16, ra_n30, ra_n140, ra_y3, ra_y4, ra_y10, ra_y14, ra_y16, ra_y30, ra_y140]
    exact h
  · obtain ⟨a, ha, ea, ee⟩ := hb.resolve_left e1
    obtain ⟨a', ha', ea', hl⟩ := hfr k hk
    have : a = a' := by
      have z := ea.symm.trans ea'
      rw [nI_eq (by omega) (by omega)] at z
      exact z
    subst this
    have ya := ra_E_y hE ha hl
    simp (disch := omega) only [wY_fetch_74, le, b, e1, ea, wpY_endpoint, ya, ee, not_true, not_false_iff, true_implies, false_implies, implies_true, true_and, and_true, forall_eq, eq_self, ra_i, ra_c, ra_m3, ra_m4, ra_m16, ra_4m, ra_14m, ra_16m, nI_add, nI_1, lN_1, ra_p2, ra_2p, ra_n0, ra_p0, ra_q0, ra_q1, ra_q2, ra_q3, ra_n3, ra_n4, ra_n10, ra_n14, ra_n16, ra_n30, ra_n140, ra_y3, ra_y4, ra_y10, ra_y14, ra_y16, ra_y30, ra_y140]
    exact h
/-! the first sender -/
def ra_fs (st ep pt : Nat → Int32) (r : Nat) (e : Int32) (s : Nat) : Bool := decide (st s = 2 ∧ pt s = ep r ∧ (e = -1 ∨ ep s = e))
def ra_bs (st ep pt : Nat → Int32) (sn : Nat → Int64) (r : Nat) (e : Int32) (n : Nat) : Option Nat := ra_best (ra_fs st ep pt r e) (fun i j => decide (sn i < sn j)) n
def ra_bsY (st ep pt mo : Nat → Int32) (r : Nat) (e : Int32) (n : Nat) : Option Nat := ra_best (ra_fs st ep pt r e) (fun i j => decide (mo i < mo j)) n
theorem xl_fs_t {r i : Nat} {e : Int32} {z : Int32} {J : Int32 → Int32 → Prop} {post : Int32 → Prop} (hi : i < 10) (h : z = ra_e (ra_bs st ep pt sn r e i)) (hf : ra_fs st ep pt r e i = true) (hJ : J (ra_e (ra_bs st ep pt sn r e (i + 1))) (nI (i + 1))) : wX_firstSender_42 post J (nI r) e z (nI i) 1 (lN c) ep st pt bs pr tk mk rs vl cl nb al wt lg wd sn lo lt lv gk gt gf gl gs gn sl ss sb pa du oft bg av tt := by
  subst h
  have ee : ra_bs st ep pt sn r e (i + 1) = match ra_bs st ep pt sn r e i with
      | none => if ra_fs st ep pt r e i = true then some i else none
      | some b => if (ra_fs st ep pt r e i && decide (sn i < sn b)) = true then some i else some b := rfl
  rw [ee] at hJ
  cases hb : ra_bs st ep pt sn r e i with
  | none =>
    rw [hb] at hJ
    simp only [hf, if_true] at hJ
    simp (disch := omega) only [wX_firstSender_42, ra_e, not_true, not_false_iff, true_implies, false_implies, implies_true, true_and, and_true, forall_eq, eq_self, ra_i, ra_c, ra_m3, ra_m4, ra_m16, ra_4m, ra_14m, ra_16m, nI_add, nI_1, lN_1, ra_p2, ra_2p, ra_n0, ra_p0, ra_q0, ra_q1, ra_q2, ra_q3, ra_n3, ra_n4, ra_n10, ra_n14, ra_n16, ra_n30, ra_n140, ra_y3, ra_y4, ra_y10, ra_y14, ra_y16, ra_y30, ra_y140]
    exact hJ
  | some b =>
    have hb' : b < 10 := by have := (ra_best_in hb).1; omega
    rw [hb] at hJ
    simp only [hf, Bool.true_and, decide_eq_true_eq] at hJ
    simp (disch := omega) only [wX_firstSender_42, ra_e, not_true, not_false_iff, true_implies, false_implies, implies_true, true_and, and_true, forall_eq, eq_self, ra_i, ra_c, ra_m3, ra_m4, ra_m16, ra_4m, ra_14m, ra_16m, nI_add, nI_1, lN_1, ra_p2, ra_2p, ra_n0, ra_p0, ra_q0, ra_q1, ra_q2, ra_q3, ra_n3, ra_n4, ra_n10, ra_n14, ra_n16, ra_n30, ra_n140, ra_y3, ra_y4, ra_y10, ra_y14, ra_y16, ra_y30, ra_y140]
    by_cases y : sn i < sn b
    · have y' : ¬ sn b ≤ sn i := Int64.not_le.mpr y
      rw [if_pos y] at hJ
      simp (disch := omega) only [y', not_true, not_false_iff, true_implies, false_implies, implies_true, true_and, and_true, forall_eq, eq_self, ra_i, ra_c, ra_m3, ra_m4, ra_m16, ra_4m, ra_14m, ra_16m, nI_add, nI_1, lN_1, ra_p2, ra_2p, ra_n0, ra_p0, ra_q0, ra_q1, ra_q2, ra_q3, ra_n3, ra_n4, ra_n10, ra_n14, ra_n16, ra_n30, ra_n140, ra_y3, ra_y4, ra_y10, ra_y14, ra_y16, ra_y30, ra_y140]
      exact hJ
    · have y' : sn b ≤ sn i := Int64.not_lt.mp y
      rw [if_neg y] at hJ
      simp (disch := omega) only [y', not_true, not_false_iff, true_implies, false_implies, implies_true, true_and, and_true, forall_eq, eq_self, ra_i, ra_c, ra_m3, ra_m4, ra_m16, ra_4m, ra_14m, ra_16m, nI_add, nI_1, lN_1, ra_p2, ra_2p, ra_n0, ra_p0, ra_q0, ra_q1, ra_q2, ra_q3, ra_n3, ra_n4, ra_n10, ra_n14, ra_n16, ra_n30, ra_n140, ra_y3, ra_y4, ra_y10, ra_y14, ra_y16, ra_y30, ra_y140]
      exact hJ
theorem xl_fs_f {r i : Nat} {e : Int32} {z : Int32} {J : Int32 → Int32 → Prop} {post : Int32 → Prop} (hi : i < 10) (h : z = ra_e (ra_bs st ep pt sn r e i)) (hf : ¬ ra_fs st ep pt r e i = true) (hJ : J (ra_e (ra_bs st ep pt sn r e (i + 1))) (nI (i + 1))) : wX_firstSender_41 post J (nI r) e z (nI i) (lN c) ep st pt bs pr tk mk rs vl cl nb al wt lg wd sn lo lt lv gk gt gf gl gs gn sl ss sb pa du oft bg av tt := by
  subst h
  have ee : ra_bs st ep pt sn r e (i + 1) = match ra_bs st ep pt sn r e i with
      | none => if ra_fs st ep pt r e i = true then some i else none
      | some b => if (ra_fs st ep pt r e i && decide (sn i < sn b)) = true then some i else some b := rfl
  rw [ee] at hJ
  cases hb : ra_bs st ep pt sn r e i with
  | none =>
    rw [hb] at hJ
    simp only [hf, if_false] at hJ
    simp (disch := omega) only [wX_firstSender_41, wX_firstSender_42, not_true, not_false_iff, true_implies, false_implies, implies_true, true_and, and_true, forall_eq, eq_self, ra_i, ra_c, ra_m3, ra_m4, ra_m16, ra_4m, ra_14m, ra_16m, nI_add, nI_1, lN_1, ra_p2, ra_2p, ra_n0, ra_p0, ra_q0, ra_q1, ra_q2, ra_q3, ra_n3, ra_n4, ra_n10, ra_n14, ra_n16, ra_n30, ra_n140, ra_y3, ra_y4, ra_y10, ra_y14, ra_y16, ra_y30, ra_y140]
    exact hJ
  | some b =>
    rw [hb] at hJ
    simp only [ra_nt hf, Bool.false_and, Bool.false_eq_true, if_false] at hJ
    simp (disch := omega) only [wX_firstSender_41, wX_firstSender_42, not_true, not_false_iff, true_implies, false_implies, implies_true, true_and, and_true, forall_eq, eq_self, ra_i, ra_c, ra_m3, ra_m4, ra_m16, ra_4m, ra_14m, ra_16m, nI_add, nI_1, lN_1, ra_p2, ra_2p, ra_n0, ra_p0, ra_q0, ra_q1, ra_q2, ra_q3, ra_n3, ra_n4, ra_n10, ra_n14, ra_n16, ra_n30, ra_n140, ra_y3, ra_y4, ra_y10, ra_y14, ra_y16, ra_y30, ra_y140]
    exact hJ
theorem xl_firstSender {r : Nat} {e : Int32} {post : Int32 → Prop} (hr : r < 10) (h : post (ra_e (ra_bs st ep pt sn r e 10))) : wpX_firstSender post (lN c, ep, st, pt, bs, pr, tk, mk, rs, vl, cl, nb, al, wt, lg, wd, sn, lo, lt, lv, gk, gt, gf, gl, gs, gn, sl, ss, sb, pa, du, oft, bg, av, tt) (nI r) e := by
  refine ra_run (fun n i => wX_firstSender_5 post (nI r) e (lN c) ep st pt bs pr tk mk rs vl cl nb al wt lg wd sn lo lt lv gk gt gf gl gs gn sl ss sb pa du oft bg av tt n (ra_e (ra_bs st ep pt sn r e i)) (nI i)) 10 (fun n => ?_) (fun n i hi ih => ?_)
  · simp (disch := omega) only [wX_firstSender_5, not_true, not_false_iff, true_implies, false_implies, implies_true, true_and, and_true, forall_eq, eq_self, ra_i, ra_c, ra_m3, ra_m4, ra_m16, ra_4m, ra_14m, ra_16m, nI_add, nI_1, lN_1, ra_p2, ra_2p, ra_n0, ra_p0, ra_q0, ra_q1, ra_q2, ra_q3, ra_n3, ra_n4, ra_n10, ra_n14, ra_n16, ra_n30, ra_n140, ra_y3, ra_y4, ra_y10, ra_y14, ra_y16, ra_y30, ra_y140]
    exact h
  · by_cases a : st i = 2
    · by_cases b : pt i = ep r
      · by_cases e1 : e = -1
        · have hf : ra_fs st ep pt r e i = true := decide_eq_true ⟨a, b, Or.inl e1⟩
          have w := xl_fs_t (c := c) (bs := bs) (pr := pr) (tk := tk) (mk := mk) (rs := rs) (vl := vl) (cl := cl) (nb := nb) (al := al) (wt := wt) (lg := lg) (wd := wd) (lo := lo) (lt := lt) (lv := lv) (gk := gk) (gt := gt) (gf := gf) (gl := gl) (gs := gs) (gn := gn) (sl := sl) (ss := ss) (sb := sb) (pa := pa) (du := du) (oft := oft) (bg := bg) (av := av) (tt := tt) (post := post) (J := wX_firstSender_5 post (nI r) e (lN c) ep st pt bs pr tk mk rs vl cl nb al wt lg wd sn lo lt lv gk gt gf gl gs gn sl ss sb pa du oft bg av tt n) hi rfl hf ih
          simp (disch := omega) only [wX_firstSender_5, wpX_isInQueue, wpX_isFrom, a, b, e1, not_true, not_false_iff, true_implies, false_implies, implies_true, true_and, and_true, forall_eq, eq_self, ra_i, ra_c, ra_m3, ra_m4, ra_m16, ra_4m, ra_14m, ra_16m, nI_add, nI_1, lN_1, ra_p2, ra_2p, ra_n0, ra_p0, ra_q0, ra_q1, ra_q2, ra_q3, ra_n3, ra_n4, ra_n10, ra_n14, ra_n16, ra_n30, ra_n140, ra_y3, ra_y4, ra_y10, ra_y14, ra_y16, ra_y30, ra_y140]
          subst e1
          exact w
        · by_cases e2 : ep i = e
          · have hf : ra_fs st ep pt r e i = true := decide_eq_true ⟨a, b, Or.inr e2⟩
            have w := xl_fs_t (c := c) (bs := bs) (pr := pr) (tk := tk) (mk := mk) (rs := rs) (vl := vl) (cl := cl) (nb := nb) (al := al) (wt := wt) (lg := lg) (wd := wd) (lo := lo) (lt := lt) (lv := lv) (gk := gk) (gt := gt) (gf := gf) (gl := gl) (gs := gs) (gn := gn) (sl := sl) (ss := ss) (sb := sb) (pa := pa) (du := du) (oft := oft) (bg := bg) (av := av) (tt := tt) (post := post) (J := wX_firstSender_5 post (nI r) e (lN c) ep st pt bs pr tk mk rs vl cl nb al wt lg wd sn lo lt lv gk gt gf gl gs gn sl ss sb pa du oft bg av tt n) hi rfl hf ih
            simp (disch := omega) only [wX_firstSender_5, wpX_isInQueue, wpX_isFrom, a, b, e1, e2, not_true, not_false_iff, true_implies, false_implies, implies_true, true_and, and_true, forall_eq, eq_self, ra_i, ra_c, ra_m3, ra_m4, ra_m16, ra_4m, ra_14m, ra_16m, nI_add, nI_1, lN_1, ra_p2, ra_2p, ra_n0, ra_p0, ra_q0, ra_q1, ra_q2, ra_q3, ra_n3, ra_n4, ra_n10, ra_n14, ra_n16, ra_n30, ra_n140, ra_y3, ra_y4, ra_y10, ra_y14, ra_y16, ra_y30, ra_y140]
            exact w
          · have hf : ¬ ra_fs st ep pt r e i = true := fun z => (of_decide_eq_true z).2.2.elim e1 e2
            have w := xl_fs_f (c := c) (bs := bs) (pr := pr) (tk := tk) (mk := mk) (rs := rs) (vl := vl) (cl := cl) (nb := nb) (al := al) (wt := wt) (lg := lg) (wd := wd) (lo := lo) (lt := lt) (lv := lv) (gk := gk) (gt := gt) (gf := gf) (gl := gl) (gs := gs) (gn := gn) (sl := sl) (ss := ss) (sb := sb) (pa := pa) (du := du) (oft := oft) (bg := bg) (av := av) (tt := tt) (post := post) (J := wX_firstSender_5 post (nI r) e (lN c) ep st pt bs pr tk mk rs vl cl nb al wt lg wd sn lo lt lv gk gt gf gl gs gn sl ss sb pa du oft bg av tt n) hi rfl hf ih
            simp (disch := omega) only [wX_firstSender_5, wpX_isInQueue, wpX_isFrom, a, b, e1, e2, not_true, not_false_iff, true_implies, false_implies, implies_true, true_and, and_true, forall_eq, eq_self, ra_i, ra_c, ra_m3, ra_m4, ra_m16, ra_4m, ra_14m, ra_16m, nI_add, nI_1, lN_1, ra_p2, ra_2p, ra_n0, ra_p0, ra_q0, ra_q1, ra_q2, ra_q3, ra_n3, ra_n4, ra_n10, ra_n14, ra_n16, ra_n30, ra_n140, ra_y3, ra_y4, ra_y10, ra_y14, ra_y16, ra_y30, ra_y140]
            exact w
      · have hf : ¬ ra_fs st ep pt r e i = true := fun z => b (of_decide_eq_true z).2.1
        have w := xl_fs_f (c := c) (bs := bs) (pr := pr) (tk := tk) (mk := mk) (rs := rs) (vl := vl) (cl := cl) (nb := nb) (al := al) (wt := wt) (lg := lg) (wd := wd) (lo := lo) (lt := lt) (lv := lv) (gk := gk) (gt := gt) (gf := gf) (gl := gl) (gs := gs) (gn := gn) (sl := sl) (ss := ss) (sb := sb) (pa := pa) (du := du) (oft := oft) (bg := bg) (av := av) (tt := tt) (post := post) (J := wX_firstSender_5 post (nI r) e (lN c) ep st pt bs pr tk mk rs vl cl nb al wt lg wd sn lo lt lv gk gt gf gl gs gn sl ss sb pa du oft bg av tt n) hi rfl hf ih
        simp (disch := omega) only [wX_firstSender_5, wpX_isInQueue, a, b, not_true, not_false_iff, true_implies, false_implies, implies_true, true_and, and_true, forall_eq, eq_self, ra_i, ra_c, ra_m3, ra_m4, ra_m16, ra_4m, ra_14m, ra_16m, nI_add, nI_1, lN_1, ra_p2, ra_2p, ra_n0, ra_p0, ra_q0, ra_q1, ra_q2, ra_q3, ra_n3, ra_n4, ra_n10, ra_n14, ra_n16, ra_n30, ra_n140, ra_y3, ra_y4, ra_y10, ra_y14, ra_y16, ra_y30, ra_y140]
        exact w
    · have hf : ¬ ra_fs st ep pt r e i = true := fun z => a (of_decide_eq_true z).1
      have w := xl_fs_f (c := c) (bs := bs) (pr := pr) (tk := tk) (mk := mk) (rs := rs) (vl := vl) (cl := cl) (nb := nb) (al := al) (wt := wt) (lg := lg) (wd := wd) (lo := lo) (lt := lt) (lv := lv) (gk := gk) (gt := gt) (gf := gf) (gl := gl) (gs := gs) (gn := gn) (sl := sl) (ss := ss) (sb := sb) (pa := pa) (du := du) (oft := oft) (bg := bg) (av := av) (tt := tt) (post := post) (J := wX_firstSender_5 post (nI r) e (lN c) ep st pt bs pr tk mk rs vl cl nb al wt lg wd sn lo lt lv gk gt gf gl gs gn sl ss sb pa du oft bg av tt n) hi rfl hf ih
      simp (disch := omega) only [wX_firstSender_5, wpX_isInQueue, a, not_true, not_false_iff, true_implies, false_implies, implies_true, true_and, and_true, forall_eq, eq_self, ra_i, ra_c, ra_m3, ra_m4, ra_m16, ra_4m, ra_14m, ra_16m, nI_add, nI_1, lN_1, ra_p2, ra_2p, ra_n0, ra_p0, ra_q0, ra_q1, ra_q2, ra_q3, ra_n3, ra_n4, ra_n10, ra_n14, ra_n16, ra_n30, ra_n140, ra_y3, ra_y4, ra_y10, ra_y14, ra_y16, ra_y30, ra_y140]
      exact w
theorem yl_fs_t {r i : Nat} {e : Int32} {z : Int32} {J : Int32 → Int32 → Prop} {post : Int32 → Prop} (hi : i < 10) (h : z = ra_e (ra_bsY st ep pt mo r e i)) (hf : ra_fs st ep pt r e i = true) (hJ : J (ra_e (ra_bsY st ep pt mo r e (i + 1))) (nI (i + 1))) : wY_firstSender_53 post J (nI r) e z (nI i) (nI n) (nI m) st bo bs pr tk mk ot vl rs al wt so sq go mo cl wd nt fr tw tx gr ge g1 g2 g3 sv sb lf pa du av bg oft se tt cp := by
  subst h
  have ee : ra_bsY st ep pt mo r e (i + 1) = match ra_bsY st ep pt mo r e i with
      | none => if ra_fs st ep pt r e i = true then some i else none
      | some b => if (ra_fs st ep pt r e i && decide (mo i < mo b)) = true then some i else some b := rfl
  rw [ee] at hJ
  cases hb : ra_bsY st ep pt mo r e i with
  | none =>
    rw [hb] at hJ
    simp only [hf, if_true] at hJ
    simp (disch := omega) only [wY_firstSender_53, wY_firstSender_58, ra_e, not_true, not_false_iff, true_implies, false_implies, implies_true, true_and, and_true, forall_eq, eq_self, ra_i, ra_c, ra_m3, ra_m4, ra_m16, ra_4m, ra_14m, ra_16m, nI_add, nI_1, lN_1, ra_p2, ra_2p, ra_n0, ra_p0, ra_q0, ra_q1, ra_q2, ra_q3, ra_n3, ra_n4, ra_n10, ra_n14, ra_n16, ra_n30, ra_n140, ra_y3, ra_y4, ra_y10, ra_y14, ra_y16, ra_y30, ra_y140]
    exact hJ
  | some b =>
    have hb' : b < 10 := by have := (ra_best_in hb).1; omega
    rw [hb] at hJ
    simp only [hf, Bool.true_and, decide_eq_true_eq] at hJ
    simp (disch := omega) only [wY_firstSender_53, wY_firstSender_58, ra_e, not_true, not_false_iff, true_implies, false_implies, implies_true, true_and, and_true, forall_eq, eq_self, ra_i, ra_c, ra_m3, ra_m4, ra_m16, ra_4m, ra_14m, ra_16m, nI_add, nI_1, lN_1, ra_p2, ra_2p, ra_n0, ra_p0, ra_q0, ra_q1, ra_q2, ra_q3, ra_n3, ra_n4, ra_n10, ra_n14, ra_n16, ra_n30, ra_n140, ra_y3, ra_y4, ra_y10, ra_y14, ra_y16, ra_y30, ra_y140]
    by_cases y : mo i < mo b
    · have y' : ¬ mo b ≤ mo i := Int32.not_le.mpr y
      rw [if_pos y] at hJ
      simp (disch := omega) only [y', not_true, not_false_iff, true_implies, false_implies, implies_true, true_and, and_true, forall_eq, eq_self, ra_i, ra_c, ra_m3, ra_m4, ra_m16, ra_4m, ra_14m, ra_16m, nI_add, nI_1, lN_1, ra_p2, ra_2p, ra_n0, ra_p0, ra_q0, ra_q1, ra_q2, ra_q3, ra_n3, ra_n4, ra_n10, ra_n14, ra_n16, ra_n30, ra_n140, ra_y3, ra_y4, ra_y10, ra_y14, ra_y16, ra_y30, ra_y140]
      exact hJ
    · have y' : mo b ≤ mo i := Int32.not_lt.mp y
      rw [if_neg y] at hJ
      simp (disch := omega) only [y', not_true, not_false_iff, true_implies, false_implies, implies_true, true_and, and_true, forall_eq, eq_self, ra_i, ra_c, ra_m3, ra_m4, ra_m16, ra_4m, ra_14m, ra_16m, nI_add, nI_1, lN_1, ra_p2, ra_2p, ra_n0, ra_p0, ra_q0, ra_q1, ra_q2, ra_q3, ra_n3, ra_n4, ra_n10, ra_n14, ra_n16, ra_n30, ra_n140, ra_y3, ra_y4, ra_y10, ra_y14, ra_y16, ra_y30, ra_y140]
      exact hJ
theorem yl_fs_f {r i : Nat} {e : Int32} {z : Int32} {J : Int32 → Int32 → Prop} {post : Int32 → Prop} (hi : i < 10) (h : z = ra_e (ra_bsY st ep pt mo r e i)) (hf : ¬ ra_fs st ep pt r e i = true) (hJ : J (ra_e (ra_bsY st ep pt mo r e (i + 1))) (nI (i + 1))) : wY_firstSender_57 post J (nI r) e z (nI i) (nI n) (nI m) st bo bs pr tk mk ot vl rs al wt so sq go mo cl wd nt fr tw tx gr ge g1 g2 g3 sv sb lf pa du av bg oft se tt cp := by
  subst h
  have ee : ra_bsY st ep pt mo r e (i + 1) = match ra_bsY st ep pt mo r e i with
      | none => if ra_fs st ep pt r e i = true then some i else none
      | some b => if (ra_fs st ep pt r e i && decide (mo i < mo b)) = true then some i else some b := rfl
  rw [ee] at hJ
  cases hb : ra_bsY st ep pt mo r e i with
  | none =>
    rw [hb] at hJ
    simp only [hf, if_false] at hJ
    simp (disch := omega) only [wY_firstSender_57, wY_firstSender_58, not_true, not_false_iff, true_implies, false_implies, implies_true, true_and, and_true, forall_eq, eq_self, ra_i, ra_c, ra_m3, ra_m4, ra_m16, ra_4m, ra_14m, ra_16m, nI_add, nI_1, lN_1, ra_p2, ra_2p, ra_n0, ra_p0, ra_q0, ra_q1, ra_q2, ra_q3, ra_n3, ra_n4, ra_n10, ra_n14, ra_n16, ra_n30, ra_n140, ra_y3, ra_y4, ra_y10, ra_y14, ra_y16, ra_y30, ra_y140]
    exact hJ
  | some b =>
    rw [hb] at hJ
    simp only [ra_nt hf, Bool.false_and, Bool.false_eq_true, if_false] at hJ
    simp (disch := omega) only [wY_firstSender_57, wY_firstSender_58, not_true, not_false_iff, true_implies, false_implies, implies_true, true_and, and_true, forall_eq, eq_self, ra_i, ra_c, ra_m3, ra_m4, ra_m16, ra_4m, ra_14m, ra_16m, nI_add, nI_1, lN_1, ra_p2, ra_2p, ra_n0, ra_p0, ra_q0, ra_q1, ra_q2, ra_q3, ra_n3, ra_n4, ra_n10, ra_n14, ra_n16, ra_n30, ra_n140, ra_y3, ra_y4, ra_y10, ra_y14, ra_y16, ra_y30, ra_y140]
    exact hJ
theorem yl_firstSender {r : Nat} {e : Int32} {post : Int32 → Prop} (hr : r < 10) (hrl : st r ≠ 0) (hE : ra_E B st ep bo) (hW : ra_W st ep pt ot rs) (h : post (ra_e (ra_bsY st ep pt mo r e 10))) : wpY_firstSender post (nI n, nI m, st, bo, bs, pr, tk, mk, ot, vl, rs, al, wt, so, sq, go, mo, cl, wd, nt, fr, tw, tx, gr, ge, g1, g2, g3, sv, sb, lf, pa, du, av, bg, oft, se, tt, cp) (nI r) e := by
  refine ra_run (fun q i => wY_firstSender_5 post (nI r) e (nI n) (nI m) st bo bs pr tk mk ot vl rs al wt so sq go mo cl wd nt fr tw tx gr ge g1 g2 g3 sv sb lf pa du av bg oft se tt cp q (ra_e (ra_bsY st ep pt mo r e i)) (nI i)) 10 (fun q => ?_) (fun q i hi ih => ?_)
  · simp (disch := omega) only [wY_firstSender_5, not_true, not_false_iff, true_implies, false_implies, implies_true, true_and, and_true, forall_eq, eq_self, ra_i, ra_c, ra_m3, ra_m4, ra_m16, ra_4m, ra_14m, ra_16m, nI_add, nI_1, lN_1, ra_p2, ra_2p, ra_n0, ra_p0, ra_q0, ra_q1, ra_q2, ra_q3, ra_n3, ra_n4, ra_n10, ra_n14, ra_n16, ra_n30, ra_n140, ra_y3, ra_y4, ra_y10, ra_y14, ra_y16, ra_y30, ra_y140]
    exact h
  · have yr := ra_E_y hE hr hrl
    by_cases a : st i = 2
    · have yi := ra_E_y hE hi (show st i ≠ 0 by rw [a]; decide)
      have w2 : pt i = ot i := ((hW i hi).2 (by rw [a]; decide) (by rw [a]; decide)).1
      by_cases b : pt i = ep r
      · have b' : ot i = ep r := w2.symm.trans b
        by_cases e1 : e = -1
        · have hf : ra_fs st ep pt r e i = true := decide_eq_true ⟨a, b, Or.inl e1⟩
          have w := yl_fs_t (n := n) (m := m) (bo := bo) (bs := bs) (pr := pr) (tk := tk) (mk := mk) (ot := ot) (vl := vl) (rs := rs) (al := al) (wt := wt) (so := so) (sq := sq) (go := go) (cl := cl) (wd := wd) (nt := nt) (fr := fr) (tw := tw) (tx := tx) (gr := gr) (ge := ge) (g1 := g1) (g2 := g2) (g3 := g3) (sv := sv) (sb := sb) (lf := lf) (pa := pa) (du := du) (av := av) (bg := bg) (oft := oft) (se := se) (tt := tt) (cp := cp) (post := post) (J := wY_firstSender_5 post (nI r) e (nI n) (nI m) st bo bs pr tk mk ot vl rs al wt so sq go mo cl wd nt fr tw tx gr ge g1 g2 g3 sv sb lf pa du av bg oft se tt cp q) hi rfl hf ih
          simp (disch := omega) only [wY_firstSender_5, wpY_endpoint, a, b', yr, yi, e1, not_true, not_false_iff, true_implies, false_implies, implies_true, true_and, and_true, forall_eq, eq_self, ra_i, ra_c, ra_m3, ra_m4, ra_m16, ra_4m, ra_14m, ra_16m, nI_add, nI_1, lN_1, ra_p2, ra_2p, ra_n0, ra_p0, ra_q0, ra_q1, ra_q2, ra_q3, ra_n3, ra_n4, ra_n10, ra_n14, ra_n16, ra_n30, ra_n140, ra_y3, ra_y4, ra_y10, ra_y14, ra_y16, ra_y30, ra_y140]
          subst e1
          exact w
        · by_cases e2 : ep i = e
          · have hf : ra_fs st ep pt r e i = true := decide_eq_true ⟨a, b, Or.inr e2⟩
            have w := yl_fs_t (n := n) (m := m) (bo := bo) (bs := bs) (pr := pr) (tk := tk) (mk := mk) (ot := ot) (vl := vl) (rs := rs) (al := al) (wt := wt) (so := so) (sq := sq) (go := go) (cl := cl) (wd := wd) (nt := nt) (fr := fr) (tw := tw) (tx := tx) (gr := gr) (ge := ge) (g1 := g1) (g2 := g2) (g3 := g3) (sv := sv) (sb := sb) (lf := lf) (pa := pa) (du := du) (av := av) (bg := bg) (oft := oft) (se := se) (tt := tt) (cp := cp) (post := post) (J := wY_firstSender_5 post (nI r) e (nI n) (nI m) st bo bs pr tk mk ot vl rs al wt so sq go mo cl wd nt fr tw tx gr ge g1 g2 g3 sv sb lf pa du av bg oft se tt cp q) hi rfl hf ih
            simp (disch := omega) only [wY_firstSender_5, wpY_endpoint, a, b', yr, yi, e1, e2, not_true, not_false_iff, true_implies, false_implies, implies_true, true_and, and_true, forall_eq, eq_self, ra_i, ra_c, ra_m3, ra_m4, ra_m16, ra_4m, ra_14m, ra_16m, nI_add, nI_1, lN_1, ra_p2, ra_2p, ra_n0, ra_p0, ra_q0, ra_q1, ra_q2, ra_q3, ra_n3, ra_n4, ra_n10, ra_n14, ra_n16, ra_n30, ra_n140, ra_y3, ra_y4, ra_y10, ra_y14, ra_y16, ra_y30, ra_y140]
            exact w
          · have hf : ¬ ra_fs st ep pt r e i = true := fun z => (of_decide_eq_true z).2.2.elim e1 e2
            have w := yl_fs_f (n := n) (m := m) (bo := bo) (bs := bs) (pr := pr) (tk := tk) (mk := mk) (ot := ot) (vl := vl) (rs := rs) (al := al) (wt := wt) (so := so) (sq := sq) (go := go) (cl := cl) (wd := wd) (nt := nt) (fr := fr) (tw := tw) (tx := tx) (gr := gr) (ge := ge) (g1 := g1) (g2 := g2) (g3 := g3) (sv := sv) (sb := sb) (lf := lf) (pa := pa) (du := du) (av := av) (bg := bg) (oft := oft) (se := se) (tt := tt) (cp := cp) (post := post) (J := wY_firstSender_5 post (nI r) e (nI n) (nI m) st bo bs pr tk mk ot vl rs al wt so sq go mo cl wd nt fr tw tx gr ge g1 g2 g3 sv sb lf pa du av bg oft se tt cp q) hi rfl hf ih
            simp (disch := omega) only [wY_firstSender_5, wpY_endpoint, a, b', yr, yi, e1, e2, not_true, not_false_iff, true_implies, false_implies, implies_true, true_and, and_true, forall_eq, eq_self, ra_i, ra_c, ra_m3, ra_m4, ra_m16, ra_4m, ra_14m, ra_16m, nI_add, nI_1, lN_1, ra_p2, ra_2p, ra_n0, ra_p0, ra_q0, ra_q1, ra_q2, ra_q3, ra_n3, ra_n4, ra_n10, ra_n14, ra_n16, ra_n30, ra_n140, ra_y3, ra_y4, ra_y10, ra_y14, ra_y16, ra_y30, ra_y140]
            exact w
      · have b' : ¬ ot i = ep r := fun z => b (w2.trans z)
        have hf : ¬ ra_fs st ep pt r e i = true := fun z => b (of_decide_eq_true z).2.1
        have w := yl_fs_f (n := n) (m := m) (bo := bo) (bs := bs) (pr := pr) (tk := tk) (mk := mk) (ot := ot) (vl := vl) (rs := rs) (al := al) (wt := wt) (so := so) (sq := sq) (go := go) (cl := cl) (wd := wd) (nt := nt) (fr := fr) (tw := tw) (tx := tx) (gr := gr) (ge := ge) (g1 := g1) (g2 := g2) (g3 := g3) (sv := sv) (sb := sb) (lf := lf) (pa := pa) (du := du) (av := av) (bg := bg) (oft := oft) (se := se) (tt := tt) (cp := cp) (post := post) (J := wY_firstSender_5 post (nI r) e (nI n) (nI m) st bo bs pr tk mk ot vl rs al wt so sq go mo cl wd nt fr tw tx gr ge g1 g2 g3 sv sb lf pa du av bg oft se tt cp q) hi rfl hf ih
        simp (disch := omega) only [wY_firstSender_5, wpY_endpoint, a, b', yr, not_true, not_false_iff, true_implies, false_implies, implies_true, true_and, and_true, forall_eq, eq_self, ra_i, ra_c, ra_m3, ra_m4, ra_m16, ra_4m, ra_14m, ra_16m, nI_add, nI_1, lN_1, ra_p2, ra_2p, ra_n0, ra_p0, ra_q0, ra_q1, ra_q2, ra_q3, ra_n3, ra_n4, ra_n10, ra_n14, ra_n16, ra_n30, ra_n140, ra_y3, ra_y4, ra_y10, ra_y14, ra_y16, ra_y30, ra_y140]
        exact w
    · have hf : ¬ ra_fs st ep pt r e i = true := fun z => a (of_decide_eq_true z).1
      have w := yl_fs_f (n := n) (m := m) (bo := bo) (bs := bs) (pr := pr) (tk := tk) (mk := mk) (ot := ot) (vl := vl) (rs := rs) (al := al) (wt := wt) (so := so) (sq := sq) (go := go) (cl := cl) (wd := wd) (nt := nt) (fr := fr) (tw := tw) (tx := tx) (gr := gr) (ge := ge) (g1 := g1) (g2 := g2) (g3 := g3) (sv := sv) (sb := sb) (lf := lf) (pa := pa) (du := du) (av := av) (bg := bg) (oft := oft) (se := se) (tt := tt) (cp := cp) (post := post) (J := wY_firstSender_5 post (nI r) e (nI n) (nI m) st bo bs pr tk mk ot vl rs al wt so sq go mo cl wd nt fr tw tx gr ge g1 g2 g3 sv sb lf pa du av bg oft se tt cp q) hi rfl hf ih
      simp (disch := omega) only [wY_firstSender_5, a, not_true, not_false_iff, true_implies, false_implies, implies_true, true_and, and_true, forall_eq, eq_self, ra_i, ra_c, ra_m3, ra_m4, ra_m16, ra_4m, ra_14m, ra_16m, nI_add, nI_1, lN_1, ra_p2, ra_2p, ra_n0, ra_p0, ra_q0, ra_q1, ra_q2, ra_q3, ra_n3, ra_n4, ra_n10, ra_n14, ra_n16, ra_n30, ra_n140, ra_y3, ra_y4, ra_y10, ra_y14, ra_y16, ra_y30, ra_y140]
      exact w
theorem ra_bs_eq {r : Nat} {e : Int32} (hB : B ≤ 2 ^ 26) (h : ra_O B c m sn mo) : ra_bsY st ep pt mo r e 10 = ra_bs st ep pt sn r e 10 :=
  ra_best_eq (fun _ _ => rfl) (fun i j hi hj _ _ => decide_eq_decide.mpr (ra_O_lt hB h hi hj).symm)
end
