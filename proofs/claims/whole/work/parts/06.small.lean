/-! small walks: numbers first -/
theorem ra_m3 (s : Nat) : nI s * 3 = nI (3 * s) := by show nI s * nI 3 = _; rw [pk_mul, Nat.mul_comm]
theorem ra_m4 (s : Nat) : nI s * 4 = nI (4 * s) := by show nI s * nI 4 = _; rw [pk_mul, Nat.mul_comm]
theorem ra_m16 (s : Nat) : nI s * 16 = nI (16 * s) := by show nI s * nI 16 = _; rw [pk_mul, Nat.mul_comm]
theorem ra_4m (s : Nat) : 4 * nI s = nI (4 * s) := pk_mul 4 s
theorem ra_14m (s : Nat) : 14 * nI s = nI (14 * s) := pk_mul 14 s
theorem ra_16m (s : Nat) : 16 * nI s = nI (16 * s) := pk_mul 16 s
theorem ra_p2 (s : Nat) : nI s + 2 = nI (s + 2) := nI_add s 2
theorem ra_2p (s : Nat) : 2 + nI s = nI (2 + s) := nI_add 2 s
theorem ra_11p (s : Nat) : 11 + nI s = nI (11 + s) := nI_add 11 s
theorem ra_i {a N : Nat} (h : a < N) (hN : N < 2 ^ 31) : vp_in (nI a) N = True := eq_true (vp_in_nI h hN)
theorem ra_il {x : Int32} {N : Nat} (h : 0 ≤ x.toInt ∧ x.toInt < N) : vp_in x N := vp_in_iff.mpr h
theorem ra_n3 {i : Nat} (h : i < 3) : ((3 : Int32) ≤ nI i) = False := eq_false (nI_ge (b := 3) h (by decide))
theorem ra_y3 : ((3 : Int32) ≤ nI 3) = True := eq_true (nI_le (a := 3) (b := 3) (by omega) (by decide))
theorem ra_n4 {i : Nat} (h : i < 4) : ((4 : Int32) ≤ nI i) = False := eq_false (nI_ge (b := 4) h (by decide))
theorem ra_y4 : ((4 : Int32) ≤ nI 4) = True := eq_true (nI_le (a := 4) (b := 4) (by omega) (by decide))
theorem ra_n10 {i : Nat} (h : i < 10) : ((10 : Int32) ≤ nI i) = False := eq_false (nI_ge (b := 10) h (by decide))
theorem ra_y10 : ((10 : Int32) ≤ nI 10) = True := eq_true (nI_le (a := 10) (b := 10) (by omega) (by decide))
theorem ra_n14 {i : Nat} (h : i < 14) : ((14 : Int32) ≤ nI i) = False := eq_false (nI_ge (b := 14) h (by decide))
theorem ra_y14 : ((14 : Int32) ≤ nI 14) = True := eq_true (nI_le (a := 14) (b := 14) (by omega) (by decide))
theorem ra_n16 {i : Nat} (h : i < 16) : ((16 : Int32) ≤ nI i) = False := eq_false (nI_ge (b := 16) h (by decide))
theorem ra_y16 : ((16 : Int32) ≤ nI 16) = True := eq_true (nI_le (a := 16) (b := 16) (by omega) (by decide))
theorem ra_n30 {i : Nat} (h : i < 30) : ((30 : Int32) ≤ nI i) = False := eq_false (nI_ge (b := 30) h (by decide))
theorem ra_y30 : ((30 : Int32) ≤ nI 30) = True := eq_true (nI_le (a := 30) (b := 30) (by omega) (by decide))
theorem ra_n140 {i : Nat} (h : i < 140) : ((140 : Int32) ≤ nI i) = False := eq_false (nI_ge (b := 140) h (by decide))
theorem ra_y140 : ((140 : Int32) ≤ nI 140) = True := eq_true (nI_le (a := 140) (b := 140) (by omega) (by decide))
theorem ra_n0 {i : Nat} (h : i < 1000000) : (nI i < 0) = False := eq_false (nI_pos (by omega))
theorem ra_p0 {i : Nat} (h : i < 1000000) : (0 ≤ nI i) = True := eq_true (nI_pos' (by omega))
theorem ra_q0 : ((-1 : Int32) < 0) = True := by decide
theorem ra_q1 : ((0 : Int32) ≤ -1) = False := by decide
theorem ra_q2 : ((1 : Int32) = 0) = False := by decide
theorem ra_q3 : ((3 : Int32) = 0) = False := by decide
theorem ra_q4 : ((-3 : Int32) = 0) = False := by decide
theorem ra_q5 : ((-1 : Int32) = 0) = False := by decide
theorem ra_q6 : ((4 : Int32) = 3) = False := by decide
theorem ra_run (W : Nat → Nat → Prop) (e : Nat) (hx : ∀ n, W (n + 1) e) (hs : ∀ n i, i < e → W n (i + 1) → W (n + 1) i) : ∃ n, W n 0 := by
  have key : ∀ d i, i + d = e → W (d + 1) i := by
    intro d
    induction d with
    | zero => intro i h; have : i = e := by omega
              subst this; exact hx 0
    | succ d ih => intro i h; exact hs _ _ (by omega) (ih (i + 1) (by omega))
  exact ⟨e + 1, key e 0 (by omega)⟩
section
variable {B c m n : Nat} {st pr bs tk mk vl cl rs al wt wd tt sb pa du oft bg av ep pt nb lg lt lv gk gt gf gl gs gn sl ss bo ot so sq go mo nt fr tw tx gr ge g1 g2 g3 sv lf se cp : Nat → Int32} {sn lo : Nat → Int64}
theorem xl_makeReady {s : Nat} {post : SX → Prop} (hs : s < 10) (h : post (lN (c + 1), ep, upd st s 1, upd pt s (ep s), bs, pr, tk, mk, rs, vl, cl, nb, al, wt, lg, wd, vp_updL sn s (lN (c + 1)), lo, lt, lv, gk, gt, gf, gl, gs, gn, sl, ss, sb, pa, du, oft, bg, av, tt)) : wpX_makeReady post (lN c, ep, st, pt, bs, pr, tk, mk, rs, vl, cl, nb, al, wt, lg, wd, sn, lo, lt, lv, gk, gt, gf, gl, gs, gn, sl, ss, sb, pa, du, oft, bg, av, tt) (nI s) := by
  simp (disch := omega) only [wpX_makeReady, ra_i, ra_c, true_and, forall_eq, lN_1]
  exact h
theorem yl_ready {s : Nat} {x : Int32} {post : SY → Prop} (hs : s < 10) (h : post (nI n, nI (m + 1), upd st s 1, bo, bs, pr, tk, mk, ot, vl, upd rs s x, al, wt, so, sq, go, upd mo s (nI (m + 1)), cl, wd, nt, fr, tw, tx, gr, ge, g1, g2, g3, sv, sb, lf, pa, du, av, bg, oft, se, tt, cp)) : wpY_ready post (nI n, nI m, st, bo, bs, pr, tk, mk, ot, vl, rs, al, wt, so, sq, go, mo, cl, wd, nt, fr, tw, tx, gr, ge, g1, g2, g3, sv, sb, lf, pa, du, av, bg, oft, se, tt, cp) (nI s) x := by
  simp (disch := omega) only [wpY_ready, wpY_last, ra_i, ra_c, true_and, forall_eq, nI_1]
  exact h
theorem xl_startWaiting {s : Nat} {how whom : Int32} {post : SX → Prop} (hs : s < 10) (h : post (lN (c + 1), ep, upd st s how, upd pt s whom, bs, pr, tk, mk, upd rs s 0, vl, cl, nb, al, wt, lg, wd, vp_updL sn s (lN (c + 1)), lo, lt, lv, gk, gt, gf, gl, gs, gn, sl, ss, sb, pa, du, oft, bg, av, tt)) : wpX_startWaiting post (lN c, ep, st, pt, bs, pr, tk, mk, rs, vl, cl, nb, al, wt, lg, wd, sn, lo, lt, lv, gk, gt, gf, gl, gs, gn, sl, ss, sb, pa, du, oft, bg, av, tt) (nI s) how whom := by
  simp (disch := omega) only [wpX_startWaiting, ra_i, ra_c, true_and, forall_eq, lN_1]
  exact h
theorem yl_waits {s : Nat} {how whom : Int32} {post : SY → Prop} (hs : s < 10) (h : post (nI n, nI (m + 1), upd st s how, bo, bs, pr, tk, mk, upd ot s whom, vl, upd rs s 0, al, wt, so, sq, go, upd mo s (nI (m + 1)), cl, wd, nt, fr, tw, tx, gr, ge, g1, g2, g3, sv, sb, lf, pa, du, av, bg, oft, se, tt, cp)) : wpY_waits post (nI n, nI m, st, bo, bs, pr, tk, mk, ot, vl, rs, al, wt, so, sq, go, mo, cl, wd, nt, fr, tw, tx, gr, ge, g1, g2, g3, sv, sb, lf, pa, du, av, bg, oft, se, tt, cp) (nI s) how whom := by
  simp (disch := omega) only [wpY_waits, wpY_last, ra_i, ra_c, true_and, forall_eq, nI_1]
  exact h
theorem xl_putInto {s k : Nat} {src v : Int32} {post : SX → Prop} (hs : s < 10) (hk : k < 3) (h : post (lN c, ep, st, pt, bs, pr, tk, mk, rs, vl, cl, nb, al, wt, upd (upd (upd lg (3 * s) src) (3 * s + 1) (nI k)) (3 * s + 2) v, wd, sn, lo, lt, lv, gk, gt, gf, gl, gs, gn, sl, ss, sb, pa, du, oft, bg, av, upd tt (2 + k) (tt (2 + k) + 1))) : wpX_putInto post (lN c, ep, st, pt, bs, pr, tk, mk, rs, vl, cl, nb, al, wt, lg, wd, sn, lo, lt, lv, gk, gt, gf, gl, gs, gn, sl, ss, sb, pa, du, oft, bg, av, tt) (nI s) src (nI k) v := by
  simp (disch := omega) only [wpX_putInto, ra_i, ra_c, ra_m3, nI_1, ra_p2, ra_2p, true_and, forall_eq]
  exact h
theorem yl_gets {s k : Nat} {src v : Int32} {post : SY → Prop} (hs : s < 10) (hk : k < 3) (h : post (nI n, nI m, st, bo, bs, pr, tk, mk, ot, vl, rs, al, wt, upd so s src, upd sq s (nI k), upd go s v, mo, cl, wd, nt, fr, tw, tx, gr, ge, g1, g2, g3, sv, sb, lf, pa, du, av, bg, oft, se, upd tt (2 + k) (tt (2 + k) + 1), cp)) : wpY_gets post (nI n, nI m, st, bo, bs, pr, tk, mk, ot, vl, rs, al, wt, so, sq, go, mo, cl, wd, nt, fr, tw, tx, gr, ge, g1, g2, g3, sv, sb, lf, pa, du, av, bg, oft, se, tt, cp) (nI s) src (nI k) v := by
  simp (disch := omega) only [wpY_gets, ra_i, ra_c, ra_2p, true_and, forall_eq]
  exact h
end
