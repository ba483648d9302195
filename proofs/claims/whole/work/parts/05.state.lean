/-! the relation -/
section
variable {B c m n : Nat} {st pr bs tk mk vl cl rs al wt wd tt sb pa du oft bg av ep pt nb lg lt lv gk gt gf gl gs gn sl ss bo ot so sq go mo nt fr tw tx gr ge g1 g2 g3 sv lf se cp : Nat → Int32} {sn lo : Nat → Int64}
def ra_R (B c m n : Nat) (st pr tk rs al tt pa bs sb ep pt nb lg : Nat → Int32) (sn lo : Nat → Int64) (lt lv gk gt gf gl gs gn sl ss bo ot so sq go mo nt fr tw tx gr ge g1 g2 g3 sv lf se : Nat → Int32) : Prop :=
  ra_E B st ep bo ∧ ra_O B c m sn mo ∧ ra_W st ep pt ot rs ∧ ra_D lg so sq go ∧ ra_N st nb nt ∧ ra_L c n st lo lt lv fr tw tx ∧ ra_G st gk gt gf gl gs gn gr ge g1 g2 g3 ∧ ra_S st ep pa sl ss sv lf se sb ∧ ra_T st ∧ ra_I B tt ∧ ra_P st pr al tk bs
def ra_RR (B : Nat) (u : SX) (v : SY) : Prop := ∃ (c m n : Nat) (st pr bs tk mk vl cl rs al wt wd tt sb pa du oft bg av ep pt nb lg lt lv gk gt gf gl gs gn sl ss bo ot so sq go mo nt fr tw tx gr ge g1 g2 g3 sv lf se cp : Nat → Int32) (sn lo : Nat → Int64), u = (lN c, ep, st, pt, bs, pr, tk, mk, rs, vl, cl, nb, al, wt, lg, wd, sn, lo, lt, lv, gk, gt, gf, gl, gs, gn, sl, ss, sb, pa, du, oft, bg, av, tt) ∧ v = (nI n, nI m, st, bo, bs, pr, tk, mk, ot, vl, rs, al, wt, so, sq, go, mo, cl, wd, nt, fr, tw, tx, gr, ge, g1, g2, g3, sv, sb, lf, pa, du, av, bg, oft, se, tt, cp) ∧ ra_R B c m n st pr tk rs al tt pa bs sb ep pt nb lg sn lo lt lv gk gt gf gl gs gn sl ss bo ot so sq go mo nt fr tw tx gr ge g1 g2 g3 sv lf se
theorem ra_in (h : ra_R B c m n st pr tk rs al tt pa bs sb ep pt nb lg sn lo lt lv gk gt gf gl gs gn sl ss bo ot so sq go mo nt fr tw tx gr ge g1 g2 g3 sv lf se) : ra_RR B (lN c, ep, st, pt, bs, pr, tk, mk, rs, vl, cl, nb, al, wt, lg, wd, sn, lo, lt, lv, gk, gt, gf, gl, gs, gn, sl, ss, sb, pa, du, oft, bg, av, tt) (nI n, nI m, st, bo, bs, pr, tk, mk, ot, vl, rs, al, wt, so, sq, go, mo, cl, wd, nt, fr, tw, tx, gr, ge, g1, g2, g3, sv, sb, lf, pa, du, av, bg, oft, se, tt, cp) := ⟨c, m, n, st, pr, bs, tk, mk, vl, cl, rs, al, wt, wd, tt, sb, pa, du, oft, bg, av, ep, pt, nb, lg, lt, lv, gk, gt, gf, gl, gs, gn, sl, ss, bo, ot, so, sq, go, mo, nt, fr, tw, tx, gr, ge, g1, g2, g3, sv, lf, se, cp, sn, lo, rfl, rfl, h⟩
theorem ra_R_mono {B' : Nat} (h : ra_R B c m n st pr tk rs al tt pa bs sb ep pt nb lg sn lo lt lv gk gt gf gl gs gn sl ss bo ot so sq go mo nt fr tw tx gr ge g1 g2 g3 sv lf se) (hB : B ≤ B') : ra_R B' c m n st pr tk rs al tt pa bs sb ep pt nb lg sn lo lt lv gk gt gf gl gs gn sl ss bo ot so sq go mo nt fr tw tx gr ge g1 g2 g3 sv lf se := by
  obtain ⟨h1, h2, h3, h4, h5, h6, h7, h8, h9, h10, h11⟩ := h
  exact ⟨ra_E_mono hB h1, ra_O_mono hB h2, h3, h4, h5, h6, h7, h8, h9, ra_I_mono hB h10, h11⟩
theorem ra_RR_mono {B' : Nat} {u : SX} {v : SY} (h : ra_RR B u v) (hB : B ≤ B') : ra_RR B' u v := by
  obtain ⟨c, m, n, st, pr, bs, tk, mk, vl, cl, rs, al, wt, wd, tt, sb, pa, du, oft, bg, av, ep, pt, nb, lg, lt, lv, gk, gt, gf, gl, gs, gn, sl, ss, bo, ot, so, sq, go, mo, nt, fr, tw, tx, gr, ge, g1, g2, g3, sv, lf, se, cp, sn, lo, e, f, g⟩ := h
  exact ⟨c, m, n, st, pr, bs, tk, mk, vl, cl, rs, al, wt, wd, tt, sb, pa, du, oft, bg, av, ep, pt, nb, lg, lt, lv, gk, gt, gf, gl, gs, gn, sl, ss, bo, ot, so, sq, go, mo, nt, fr, tw, tx, gr, ge, g1, g2, g3, sv, lf, se, cp, sn, lo, e, f, ra_R_mono g hB⟩
/-- a waiting one becomes ready -/
theorem ra_R_ready0 {s : Nat} (h : ra_R B c m n st pr tk rs al tt pa bs sb ep pt nb lg sn lo lt lv gk gt gf gl gs gn sl ss bo ot so sq go mo nt fr tw tx gr ge g1 g2 g3 sv lf se) (hs : s < 10) (hl : st s ≠ 0) : ra_R (B + 1) (c + 1) (m + 1) n (upd st s 1) pr tk rs al tt pa bs sb ep (upd pt s (ep s)) nb lg (vp_updL sn s (lN (c + 1))) lo lt lv gk gt gf gl gs gn sl ss bo ot so sq go (upd mo s (nI (m + 1))) nt fr tw tx gr ge g1 g2 g3 sv lf se := by
  obtain ⟨h1, h2, h3, h4, h5, h6, h7, h8, h9, h10, h11⟩ := h
  have z : ra_Z st (upd st s 1) := ra_Z_u hl (by decide)
  exact ⟨ra_E_mono (Nat.le_succ _) (ra_E_sm h1 z), ra_O_last h2 hs, ra_W_ready0 h3 hs, h4, ra_N_sm h5 z, ra_L_c (ra_L_sm h6 z) (Nat.le_succ _), ra_G_sm h7 z, ra_S_sm h8 z, ra_T_u h9 (Or.inr (Or.inl rfl)), ra_I_mono (Nat.le_succ _) h10, ra_P_sm h11 z⟩
theorem ra_R_wait {s : Nat} {how whom : Int32} (h : ra_R B c m n st pr tk rs al tt pa bs sb ep pt nb lg sn lo lt lv gk gt gf gl gs gn sl ss bo ot so sq go mo nt fr tw tx gr ge g1 g2 g3 sv lf se) (hs : s < 10) (hl : st s ≠ 0) (hh : how = 2 ∨ how = 3 ∨ how = 4) (hw : whom = -1 ∨ ∃ t, t < 10 ∧ st t ≠ 0 ∧ whom = ep t) : ra_R (B + 1) (c + 1) (m + 1) n (upd st s how) pr tk (upd rs s 0) al tt pa bs sb ep (upd pt s whom) nb lg (vp_updL sn s (lN (c + 1))) lo lt lv gk gt gf gl gs gn sl ss bo (upd ot s whom) so sq go (upd mo s (nI (m + 1))) nt fr tw tx gr ge g1 g2 g3 sv lf se := by
  obtain ⟨h1, h2, h3, h4, h5, h6, h7, h8, h9, h10, h11⟩ := h
  have n0 : how ≠ 0 := by rcases hh with rfl | rfl | rfl <;> decide
  have n1 : how ≠ 1 := by rcases hh with rfl | rfl | rfl <;> decide
  have z : ra_Z st (upd st s how) := ra_Z_u hl n0
  exact ⟨ra_E_mono (Nat.le_succ _) (ra_E_sm h1 z), ra_O_last h2 hs, ra_W_wait h3 hs n0 n1 hw, h4, ra_N_sm h5 z, ra_L_c (ra_L_sm h6 z) (Nat.le_succ _), ra_G_sm h7 z, ra_S_sm h8 z, ra_T_u h9 (Or.inr (Or.inr hh)), ra_I_mono (Nat.le_succ _) h10, ra_P_sm h11 z⟩
theorem ra_R_put {s k : Nat} {x y w v : Int32} (h : ra_R B c m n st pr tk rs al tt pa bs sb ep pt nb lg sn lo lt lv gk gt gf gl gs gn sl ss bo ot so sq go mo nt fr tw tx gr ge g1 g2 g3 sv lf se) (hk : k ≠ 0) : ra_R B c m n st pr tk rs al (upd tt k v) pa bs sb ep pt nb (upd (upd (upd lg (3 * s) x) (3 * s + 1) y) (3 * s + 2) w) sn lo lt lv gk gt gf gl gs gn sl ss bo ot (upd so s x) (upd sq s y) (upd go s w) mo nt fr tw tx gr ge g1 g2 g3 sv lf se := by
  obtain ⟨h1, h2, h3, h4, h5, h6, h7, h8, h9, h10, h11⟩ := h
  exact ⟨h1, h2, h3, ra_D_put h4, h5, h6, h7, h8, h9, ra_I_u h10 hk, h11⟩
theorem ra_R_rs0 {s : Nat} (h : ra_R B c m n st pr tk rs al tt pa bs sb ep pt nb lg sn lo lt lv gk gt gf gl gs gn sl ss bo ot so sq go mo nt fr tw tx gr ge g1 g2 g3 sv lf se) (hs : s < 10) (h0 : st s ≠ 0) (h1 : st s ≠ 1) : upd rs s 0 = rs := ra_us ((h.2.2.1 s hs).2 h0 h1).2.1
theorem ra_R_beg {s p : Nat} {v : Int32} {lg' gk' : Nat → Int32} (h : ra_R B c m n st pr tk rs al tt pa bs sb ep pt nb lg sn lo lt lv gk gt gf gl gs gn sl ss bo ot so sq go mo nt fr tw tx gr ge g1 g2 g3 sv lf se) (hs : s < 10) (hl : st s = 0) (hp : p ≤ 3) (hlg : ∀ j, j < 30 → lg' j = if 3 * s ≤ j ∧ j < 3 * s + 3 then 0 else lg j) (hgk : ∀ g, g < 40 → gk' g = if 4 * s ≤ g ∧ g < 4 * s + 4 then 0 else gk g) :
    ra_R (B + 1) (c + 1) (m + 1) n (upd st s 1) (upd pr s (nI p)) (upd tk s 4) (upd rs s 0) (upd al s 0) (upd tt 1 v) pa (upd bs s (nI p)) sb ep (upd pt s (ep s)) (upd nb s 0) lg' (vp_updL sn s (lN (c + 1))) lo lt lv gk' gt gf gl gs gn sl ss (upd bo s (bo s + 1)) ot (upd so s 0) (upd sq s 0) (upd go s 0) (upd mo s (nI (m + 1))) nt fr tw tx gr ge g1 g2 g3 sv lf se := by
  obtain ⟨h1, h2, h3, h4, h5, h6, h7, h8, h9, h10, h11⟩ := h
  have z : ∀ t, t < 10 → st t ≠ 0 → upd st s 1 t ≠ 0 := by
    intro t _ ht
    by_cases y : t = s
    · rw [y, pk_us]; decide
    · rw [pk_un y]; exact ht
  exact ⟨ra_E_mono (Nat.le_succ _) (ra_E_beg h1 hs hl), ra_O_last h2 hs, ra_W_ready h3 hs, ra_D_beg h4 hlg, ra_N_beg h5 hs hl, ra_L_c (ra_L_up h6 z) (Nat.le_succ _), ra_G_beg h7 hs hl hgk, ra_S_up h8 z, ra_T_u h9 (Or.inr (Or.inl rfl)), ra_I_mono (Nat.le_succ _) (ra_I_u h10 (by decide)), ra_P_beg h11 hp⟩
theorem ra_R_begS {s p k : Nat} {v : Int32} {lg' gk' : Nat → Int32} (h : ra_R B c m n st pr tk rs al tt pa bs sb ep pt nb lg sn lo lt lv gk gt gf gl gs gn sl ss bo ot so sq go mo nt fr tw tx gr ge g1 g2 g3 sv lf se) (hs : s < 10) (hl : st s = 0) (hp : p ≤ 3) (hlg : ∀ j, j < 30 → lg' j = if 3 * s ≤ j ∧ j < 3 * s + 3 then 0 else lg j) (hgk : ∀ g, g < 40 → gk' g = if 4 * s ≤ g ∧ g < 4 * s + 4 then 0 else gk g) (hk : k < 3) (h2 : sv k = 2) :
    ra_R (B + 1) (c + 1) (m + 1) n (upd st s 1) (upd pr s (nI p)) (upd tk s 4) (upd rs s 0) (upd al s 0) (upd tt 1 v) pa (upd bs s (nI p)) sb ep (upd pt s (ep s)) (upd nb s 0) lg' (vp_updL sn s (lN (c + 1))) lo lt lv gk' gt gf gl gs gn sl (upd ss k (nI s)) (upd bo s (bo s + 1)) ot (upd so s 0) (upd sq s 0) (upd go s 0) (upd mo s (nI (m + 1))) nt fr tw tx gr ge g1 g2 g3 (upd sv k 1) lf (upd se k (ep s)) := by
  obtain ⟨a1, a2, a3, a4, a5, a6, a7, a8, a9, a10, a11⟩ := ra_R_beg (v := v) h hs hl hp hlg hgk
  obtain ⟨-, -, -, -, -, -, -, h8, -, -, -⟩ := h
  exact ⟨a1, a2, a3, a4, a5, a6, a7, ra_S_beg h8 hs hl hk h2, a9, a10, a11⟩
theorem ra_R_end {s n' c' m' : Nat} {v w : Int32} {st' pt' rs' nb' mo' nt' fr' tw' tx' gr' pa' ss' sv' se' : Nat → Int32} {sn' lo' : Nat → Int64} (h : ra_R B c m n st pr tk rs al tt pa bs sb ep pt nb lg sn lo lt lv gk gt gf gl gs gn sl ss bo ot so sq go mo nt fr tw tx gr ge g1 g2 g3 sv lf se) (hs : s < 10) (hl : st s ≠ 0)
    (hc : c ≤ c') (hO : ra_O (B + 10) c' m' sn' mo') (hW : ra_W st' (upd ep s (ep s + 16)) pt' ot rs') (hZ : ra_Z (upd st s 0) st') (hT : ra_T st')
    (hnb : ∀ t, t < 10 → ∀ i, i < 14 → bt (nb' t) i = (bt (nb t) i && decide (i ≠ s))) (hnt : ∀ j, j < 140 → nt' j = if j / 14 = s ∨ j % 14 = s then 0 else nt j)
    (hL : ra_L c n' (upd st s 0) lo' lt lv fr' tw' tx') (hgr : ∀ g, g < 40 → gr' g = if 4 * s ≤ g ∧ g < 4 * s + 4 then 0 else gr g)
    (hr : ∀ k, k < 3 → (sv k = 1 ∧ ss k = nI s ∧ sv' k = 2 ∧ ss' k = -1 ∧ se' k = -1 ∧ ∃ p : Nat, 1 ≤ p ∧ p ≤ 8 ∧ pa' k = nI p) ∨ (¬ (sv k = 1 ∧ ss k = nI s) ∧ sv' k = sv k ∧ ss' k = ss k ∧ se' k = se k ∧ pa' k = pa k)) :
    ra_R (B + 11) c' m' n' st' pr tk rs' al (upd (upd tt 1 v) 5 w) pa' bs sb (upd ep s (ep s + 16)) pt' nb' lg sn' lo' lt lv gk gt gf gl gs gn sl ss' bo ot so sq go mo' nt' fr' tw' tx' gr' ge g1 g2 g3 sv' lf se' := by
  obtain ⟨h1, h2, h3, h4, h5, h6, h7, h8, h9, h10, h11⟩ := h
  exact ⟨ra_E_mono (by omega) (ra_E_sm (ra_E_end h1 hs hl) hZ), ra_O_mono (by omega) hO, hW, h4, ra_N_sm (ra_N_end h5 hs hnb hnt) hZ, ra_L_c (ra_L_sm hL hZ) hc, ra_G_sm (ra_G_end h7 hs hgr) hZ, ra_S_sm (ra_S_end h8 hs hr) hZ, hT, ra_I_mono (by omega) (ra_I_u (ra_I_u h10 (by decide)) (by decide)), ra_P_sm (ra_P_end h11) hZ⟩
end
