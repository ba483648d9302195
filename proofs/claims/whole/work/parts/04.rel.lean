/-! grants -/
def ra_K (gk gt gf gl gs gn gr ge g1 g2 g3 : Nat → Int32) (g : Nat) : Prop :=
  (gk g = 0 ∧ gr g = 0) ∨
  (gr g = 1 ∧ gk g = g3 g ∧ (gk g = 1 ∨ gk g = 2 ∨ gk g = 3) ∧ gt g = ge g ∧ gf g = g1 g ∧ gl g = g2 g ∧ ∃ f l : Nat, f + l ≤ 16 ∧ gf g = nI f ∧ gl g = nI l) ∨
  (gr g = 2 ∧ gk g = 4 ∧ gt g = ge g ∧ gs g = g1 g ∧ gn g = g2 g ∧ ∃ i : Nat, i < 4 ∧ gn g = nI i)
def ra_G (st gk gt gf gl gs gn gr ge g1 g2 g3 : Nat → Int32) : Prop := ∀ s, s < 10 → ∀ i, i < 4 → (st s = 0 → gr (4 * s + i) = 0) ∧ (st s ≠ 0 → ra_K gk gt gf gl gs gn gr ge g1 g2 g3 (4 * s + i))
theorem ra_G_sm {st st' gk gt gf gl gs gn gr ge g1 g2 g3 : Nat → Int32} (h : ra_G st gk gt gf gl gs gn gr ge g1 g2 g3) (z : ra_Z st st') : ra_G st' gk gt gf gl gs gn gr ge g1 g2 g3 := by
  intro s hs i hi
  obtain ⟨a, b⟩ := h s hs i hi
  exact ⟨fun y => a ((z s hs).mp y), fun y => b (fun w => y ((z s hs).mpr w))⟩
theorem ra_G_lend {st gk gt gf gl gs gn gr ge g1 g2 g3 : Nat → Int32} {s i f l : Nat} {how to : Int32} (h : ra_G st gk gt gf gl gs gn gr ge g1 g2 g3) (hs : s < 10) (hl : st s ≠ 0) (hi : i < 4) (hh : how = 1 ∨ how = 2 ∨ how = 3) (hf : f + l ≤ 16) :
    ra_G st (upd gk (4 * s + i) how) (upd gt (4 * s + i) to) (upd gf (4 * s + i) (nI f)) (upd gl (4 * s + i) (nI l)) gs gn (upd gr (4 * s + i) 1) (upd ge (4 * s + i) to) (upd g1 (4 * s + i) (nI f)) (upd g2 (4 * s + i) (nI l)) (upd g3 (4 * s + i) how) := by
  intro t ht j hj
  obtain ⟨a, b⟩ := h t ht j hj
  by_cases z : 4 * t + j = 4 * s + i
  · have e : t = s := by omega
    subst e
    refine ⟨fun y => absurd y hl, fun _ => Or.inr (Or.inl ?_)⟩
    rw [z]
    simp only [pk_us]
    exact ⟨trivial, trivial, hh, trivial, trivial, trivial, f, l, hf, rfl, rfl⟩
  · unfold ra_K
    simp only [pk_un z]
    exact ⟨a, b⟩
theorem ra_G_pass {st gk gt gf gl gs gn gr ge g1 g2 g3 : Nat → Int32} {s i k : Nat} {to wh x : Int32} (h : ra_G st gk gt gf gl gs gn gr ge g1 g2 g3) (hs : s < 10) (hl : st s ≠ 0) (hi : i < 4) (hk : k < 4) :
    ra_G st (upd gk (4 * s + i) 4) (upd gt (4 * s + i) to) gf gl (upd gs (4 * s + i) wh) (upd gn (4 * s + i) (nI k)) (upd gr (4 * s + i) 2) (upd ge (4 * s + i) to) (upd g1 (4 * s + i) wh) (upd g2 (4 * s + i) (nI k)) (upd g3 (4 * s + i) x) := by
  intro t ht j hj
  obtain ⟨a, b⟩ := h t ht j hj
  by_cases z : 4 * t + j = 4 * s + i
  · have e : t = s := by omega
    subst e
    refine ⟨fun y => absurd y hl, fun _ => Or.inr (Or.inr ?_)⟩
    rw [z]
    simp only [pk_us]
    exact ⟨trivial, trivial, trivial, trivial, trivial, k, hk, rfl⟩
  · unfold ra_K
    simp only [pk_un z]
    exact ⟨a, b⟩
theorem ra_G_rev {st gk gt gf gl gs gn gr ge g1 g2 g3 : Nat → Int32} {s i : Nat} (h : ra_G st gk gt gf gl gs gn gr ge g1 g2 g3) (hs : s < 10) (hi : i < 4) :
    ra_G st (upd gk (4 * s + i) 0) gt gf gl gs gn (upd gr (4 * s + i) 0) ge g1 g2 g3 := by
  intro t ht j hj
  obtain ⟨a, b⟩ := h t ht j hj
  by_cases z : 4 * t + j = 4 * s + i
  · rw [z]
    exact ⟨fun _ => pk_us, fun _ => Or.inl ⟨pk_us, pk_us⟩⟩
  · unfold ra_K
    simp only [pk_un z]
    exact ⟨a, b⟩
theorem ra_G_end {st gk gt gf gl gs gn gr gr' ge g1 g2 g3 : Nat → Int32} {s : Nat} (h : ra_G st gk gt gf gl gs gn gr ge g1 g2 g3) (hs : s < 10) (hr : ∀ g, g < 40 → gr' g = if 4 * s ≤ g ∧ g < 4 * s + 4 then 0 else gr g) : ra_G (upd st s 0) gk gt gf gl gs gn gr' ge g1 g2 g3 := by
  intro t ht j hj
  obtain ⟨a, b⟩ := h t ht j hj
  by_cases z : t = s
  · subst z
    refine ⟨fun _ => ?_, fun y => absurd pk_us y⟩
    rw [hr _ (by omega), if_pos (by omega)]
  · have e := hr (4 * t + j) (by omega)
    rw [if_neg (by omega)] at e
    unfold ra_K
    rw [pk_un z, e]
    exact ⟨a, b⟩
theorem ra_G_beg {st gk gk' gt gf gl gs gn gr ge g1 g2 g3 : Nat → Int32} {s : Nat} (h : ra_G st gk gt gf gl gs gn gr ge g1 g2 g3) (hs : s < 10) (hl : st s = 0) (hr : ∀ g, g < 40 → gk' g = if 4 * s ≤ g ∧ g < 4 * s + 4 then 0 else gk g) : ra_G (upd st s 1) gk' gt gf gl gs gn gr ge g1 g2 g3 := by
  intro t ht j hj
  obtain ⟨a, b⟩ := h t ht j hj
  by_cases z : t = s
  · subst z
    refine ⟨fun _ => a hl, fun y => Or.inl ⟨?_, a hl⟩⟩
    rw [hr _ (by omega), if_pos (by omega)]
  · have e := hr (4 * t + j) (by omega)
    rw [if_neg (by omega)] at e
    unfold ra_K
    rw [pk_un z, e]
    exact ⟨a, b⟩
/-! services -/
def ra_S (st ep pa sl ss sv lf se sb : Nat → Int32) : Prop := (∀ k, k < 3 → (sv k = 0 ∧ sl k = 0) ∨ (sl k ≠ 0 ∧ (sl k = lf k ∧ ∃ b : Nat, b ≤ 3 ∧ sb k = nI b) ∧ (∃ p : Nat, 1 ≤ p ∧ p ≤ 8 ∧ pa k = nI p) ∧ ((sv k = 1 ∧ ∃ s, s < 10 ∧ ss k = nI s ∧ st s ≠ 0 ∧ se k = ep s) ∨ (sv k = 2 ∧ ss k = -1 ∧ se k = -1)))) ∧ (∀ k k', k < 3 → k' < 3 → sv k = 1 → sv k' = 1 → ss k = ss k' → k = k')
theorem ra_S_sm {st st' ep pa sl ss sv lf se sb : Nat → Int32} (h : ra_S st ep pa sl ss sv lf se sb) (z : ra_Z st st') : ra_S st' ep pa sl ss sv lf se sb := by
  refine ⟨fun k hk => ?_, h.2⟩
  refine (h.1 k hk).imp id ?_
  rintro ⟨a, b, c, d⟩
  refine ⟨a, b, c, d.imp ?_ id⟩
  rintro ⟨e, s, hs, f, g, i⟩
  exact ⟨e, s, hs, f, fun y => g ((z s hs).mp y), i⟩
theorem ra_S_end {st ep pa pa' sl ss ss' sv sv' lf se se' sb : Nat → Int32} {s : Nat} {x : Int32} (h : ra_S st ep pa sl ss sv lf se sb) (hs : s < 10)
    (hr : ∀ k, k < 3 → (sv k = 1 ∧ ss k = nI s ∧ sv' k = 2 ∧ ss' k = -1 ∧ se' k = -1 ∧ ∃ p : Nat, 1 ≤ p ∧ p ≤ 8 ∧ pa' k = nI p) ∨ (¬ (sv k = 1 ∧ ss k = nI s) ∧ sv' k = sv k ∧ ss' k = ss k ∧ se' k = se k ∧ pa' k = pa k)) : ra_S (upd st s 0) (upd ep s x) pa' sl ss' sv' lf se' sb := by
  refine ⟨fun k hk => ?_, fun k k' hk hk' h1 h2 h3 => ?_⟩
  · rcases hr k hk with ⟨a, b, c, d, e, f⟩ | ⟨a, b, c, d, e⟩
    · rcases h.1 k hk with ⟨y, -⟩ | ⟨y1, y2, -⟩
      · rw [a] at y; exact absurd y (by decide)
      · exact Or.inr ⟨y1, y2, f, Or.inr ⟨c, d, e⟩⟩
    · rw [b, c, d, e]
      refine (h.1 k hk).imp id ?_
      rintro ⟨y1, y2, y3, y4⟩
      refine ⟨y1, y2, y3, y4.imp ?_ id⟩
      rintro ⟨v1, t, ht, v2, v3, v4⟩
      have ne : t ≠ s := fun z => a ⟨v1, by rw [v2, z]⟩
      refine ⟨v1, t, ht, v2, ?_, ?_⟩
      · rw [pk_un ne]; exact v3
      · rw [pk_un ne]; exact v4
  · rcases hr k hk with ⟨a, b, c, d, e, f⟩ | ⟨a, b, c, d, e⟩
    · rw [c] at h1; exact absurd h1 (by decide)
    · rcases hr k' hk' with ⟨a', b', c', d', e', f'⟩ | ⟨a', b', c', d', e'⟩
      · rw [c'] at h2; exact absurd h2 (by decide)
      · rw [b] at h1; rw [b'] at h2; rw [c, c'] at h3
        exact h.2 k k' hk hk' h1 h2 h3
theorem ra_S_beg {st ep pa sl ss sv lf se sb : Nat → Int32} {s k : Nat} (h : ra_S st ep pa sl ss sv lf se sb) (hs : s < 10) (hl : st s = 0) (hk : k < 3) (h2 : sv k = 2) : ra_S (upd st s 1) ep pa sl (upd ss k (nI s)) (upd sv k 1) lf (upd se k (ep s)) sb := by
  have key : ∀ j, j < 3 → sv j = 1 → ∃ t, t < 10 ∧ ss j = nI t ∧ t ≠ s := by
    intro j hj h1
    rcases h.1 j hj with ⟨y, -⟩ | ⟨-, -, -, ⟨-, t, ht, e, l, -⟩ | ⟨y, -⟩⟩
    · rw [h1] at y; exact absurd y (by decide)
    · exact ⟨t, ht, e, fun z => l (by rw [z]; exact hl)⟩
    · rw [h1] at y; exact absurd y (by decide)
  refine ⟨fun j hj => ?_, fun j j' hj hj' h1 h1' e => ?_⟩
  · by_cases z : j = k
    · subst z
      rcases h.1 j hj with ⟨y, -⟩ | ⟨y1, y2, y3, -⟩
      · rw [h2] at y; exact absurd y (by decide)
      · refine Or.inr ⟨y1, y2, y3, Or.inl ⟨pk_us, s, hs, pk_us, ?_, pk_us⟩⟩
        rw [pk_us]; decide
    · rw [pk_un z, pk_un z, pk_un z]
      refine (h.1 j hj).imp id ?_
      rintro ⟨y1, y2, y3, y4⟩
      refine ⟨y1, y2, y3, y4.imp ?_ id⟩
      rintro ⟨v1, t, ht, v2, v3, v4⟩
      refine ⟨v1, t, ht, v2, ?_, v4⟩
      by_cases y : t = s
      · rw [y, pk_us]; decide
      · rw [pk_un y]; exact v3
  · by_cases z : j = k
    · by_cases z' : j' = k
      · omega
      · rw [pk_un z'] at h1'
        rw [z, pk_us, pk_un z'] at e
        obtain ⟨t, ht, e', n⟩ := key j' hj' h1'
        rw [e', nI_eq (by omega) (by omega)] at e
        exact absurd e.symm n
    · by_cases z' : j' = k
      · rw [pk_un z] at h1
        rw [z', pk_us, pk_un z] at e
        obtain ⟨t, ht, e', n⟩ := key j hj h1
        rw [e', nI_eq (by omega) (by omega)] at e
        exact absurd e n
      · rw [pk_un z] at h1 e
        rw [pk_un z'] at h1' e
        exact h.2 j j' hj hj' h1 h1' e
theorem ra_S_serve {st ep pa sl ss sv lf se sb : Nat → Int32} {k b : Nat} {x : Int32} (h : ra_S st ep pa sl ss sv lf se sb) (hx : x ≠ 0) (hb : b ≤ 3) : ra_S st ep (upd pa k 1) (upd sl k x) (upd ss k (-1)) (upd sv k 2) (upd lf k x) (upd se k (-1)) (upd sb k (nI b)) := by
  refine ⟨fun j hj => ?_, fun j j' hj hj' h1 h1' e => ?_⟩
  · by_cases z : j = k
    · subst z
      refine Or.inr ⟨?_, ?_, ⟨1, by omega, by omega, pk_us⟩, Or.inr ⟨pk_us, pk_us, pk_us⟩⟩
      · rw [pk_us]; exact hx
      · rw [pk_us, pk_us]; exact ⟨rfl, b, hb, pk_us⟩
    · simp only [pk_un z]
      exact h.1 j hj
  · by_cases z : j = k
    · rw [z, pk_us] at h1; exact absurd h1 (by decide)
    · by_cases z' : j' = k
      · rw [z', pk_us] at h1'; exact absurd h1' (by decide)
      · rw [pk_un z] at h1 e
        rw [pk_un z'] at h1' e
        exact h.2 j j' hj hj' h1 h1' e
theorem ra_S_close {st ep pa sl ss sv lf se sb : Nat → Int32} {k : Nat} (h : ra_S st ep pa sl ss sv lf se sb) : ra_S st ep pa (upd sl k 0) ss (upd sv k 0) lf se sb := by
  refine ⟨fun j hj => ?_, fun j j' hj hj' h1 h1' e => ?_⟩
  · by_cases z : j = k
    · subst z
      exact Or.inl ⟨pk_us, pk_us⟩
    · simp only [pk_un z]
      exact h.1 j hj
  · by_cases z : j = k
    · rw [z, pk_us] at h1; exact absurd h1 (by decide)
    · by_cases z' : j' = k
      · rw [z', pk_us] at h1'; exact absurd h1' (by decide)
      · rw [pk_un z] at h1
        rw [pk_un z'] at h1'
        exact h.2 j j' hj hj' h1 h1' e
/-! ranges -/
def ra_T (st : Nat → Int32) : Prop := ∀ s, s < 10 → st s = 0 ∨ st s = 1 ∨ st s = 2 ∨ st s = 3 ∨ st s = 4
theorem ra_T_u {st : Nat → Int32} {s : Nat} {x : Int32} (h : ra_T st) (hx : x = 0 ∨ x = 1 ∨ x = 2 ∨ x = 3 ∨ x = 4) : ra_T (upd st s x) := by
  intro t ht
  by_cases z : t = s
  · rw [z, pk_us]; exact hx
  · rw [pk_un z]; exact h t ht
def ra_I (B : Nat) (tt : Nat → Int32) : Prop := ∃ t : Nat, t ≤ B ∧ tt 0 = nI t
theorem ra_I_mono {B B' : Nat} {tt : Nat → Int32} (hB : B ≤ B') (h : ra_I B tt) : ra_I B' tt := by
  obtain ⟨t, a, b⟩ := h
  exact ⟨t, by omega, b⟩
theorem ra_I_u {B k : Nat} {tt : Nat → Int32} {x : Int32} (h : ra_I B tt) (hk : k ≠ 0) : ra_I B (upd tt k x) := by
  obtain ⟨t, a, b⟩ := h
  exact ⟨t, a, by rw [pk_un hk.symm]; exact b⟩
def ra_P (st pr al tk bs : Nat → Int32) : Prop := ∀ s, s < 10 → (∃ p : Nat, p ≤ 3 ∧ pr s = nI p) ∧ (∃ a : Nat, a ≤ 100 ∧ al s = nI a) ∧ (∃ b : Nat, b ≤ 3 ∧ bs s = nI b) ∧ (st s ≠ 0 → ∃ k : Nat, 1 ≤ k ∧ k ≤ 4 ∧ tk s = nI k)
theorem ra_P_sm {st st' pr al tk bs : Nat → Int32} (h : ra_P st pr al tk bs) (z : ra_Z st st') : ra_P st' pr al tk bs := by
  intro s hs
  obtain ⟨a, b, d, c⟩ := h s hs
  exact ⟨a, b, d, fun y => c (fun w => y ((z s hs).mpr w))⟩
theorem ra_P_end {st pr al tk bs : Nat → Int32} {s : Nat} (h : ra_P st pr al tk bs) : ra_P (upd st s 0) pr al tk bs := by
  intro t ht
  obtain ⟨a, b, d, c⟩ := h t ht
  refine ⟨a, b, d, fun y => ?_⟩
  by_cases z : t = s
  · rw [z, pk_us] at y; exact absurd rfl y
  · rw [pk_un z] at y; exact c y
theorem ra_P_beg {st pr al tk bs : Nat → Int32} {s p : Nat} (h : ra_P st pr al tk bs) (hp : p ≤ 3) : ra_P (upd st s 1) (upd pr s (nI p)) (upd al s 0) (upd tk s 4) (upd bs s (nI p)) := by
  intro t ht
  obtain ⟨a, b, d, c⟩ := h t ht
  by_cases z : t = s
  · subst z
    exact ⟨⟨p, hp, pk_us⟩, ⟨0, by omega, pk_us⟩, ⟨p, hp, pk_us⟩, fun _ => ⟨4, by omega, by omega, pk_us⟩⟩
  · rw [pk_un z, pk_un z, pk_un z, pk_un z, pk_un z]
    exact ⟨a, b, d, c⟩
theorem ra_P_pr {st pr al tk bs : Nat → Int32} {s p : Nat} (h : ra_P st pr al tk bs) (hp : p ≤ 3) : ra_P st (upd pr s (nI p)) al tk bs := by
  intro t ht
  obtain ⟨a, b, d, c⟩ := h t ht
  by_cases z : t = s
  · subst z
    exact ⟨⟨p, hp, pk_us⟩, b, d, c⟩
  · rw [pk_un z]
    exact ⟨a, b, d, c⟩
theorem ra_P_al {st pr al tk bs : Nat → Int32} {s p : Nat} (h : ra_P st pr al tk bs) (hp : p ≤ 100) : ra_P st pr (upd al s (nI p)) tk bs := by
  intro t ht
  obtain ⟨a, b, d, c⟩ := h t ht
  by_cases z : t = s
  · subst z
    exact ⟨a, ⟨p, hp, pk_us⟩, d, c⟩
  · rw [pk_un z]
    exact ⟨a, b, d, c⟩
theorem ra_P_tk {st pr al tk bs : Nat → Int32} {s p : Nat} (h : ra_P st pr al tk bs) (h1 : 1 ≤ p) (h4 : p ≤ 4) : ra_P st pr al (upd tk s (nI p)) bs := by
  intro t ht
  obtain ⟨a, b, d, c⟩ := h t ht
  by_cases z : t = s
  · subst z
    exact ⟨a, b, d, fun _ => ⟨p, h1, h4, pk_us⟩⟩
  · rw [pk_un z]
    exact ⟨a, b, d, c⟩
theorem ra_S_up {st st' ep pa sl ss sv lf se sb : Nat → Int32} (h : ra_S st ep pa sl ss sv lf se sb) (z : ∀ s, s < 10 → st s ≠ 0 → st' s ≠ 0) : ra_S st' ep pa sl ss sv lf se sb := by
  refine ⟨fun k hk => ?_, h.2⟩
  refine (h.1 k hk).imp id ?_
  rintro ⟨a, b, c, d⟩
  refine ⟨a, b, c, d.imp ?_ id⟩
  rintro ⟨e, s, hs, f, g, i⟩
  exact ⟨e, s, hs, f, z s hs g, i⟩
theorem ra_D_beg {lg lg' so sq go : Nat → Int32} {s : Nat} (h : ra_D lg so sq go) (hr : ∀ j, j < 30 → lg' j = if 3 * s ≤ j ∧ j < 3 * s + 3 then 0 else lg j) : ra_D lg' (upd so s 0) (upd sq s 0) (upd go s 0) := by
  intro t ht
  obtain ⟨h1, h2, h3⟩ := h t ht
  rw [hr _ (by omega), hr _ (by omega), hr _ (by omega)]
  by_cases e : t = s
  · subst e
    rw [if_pos (by omega), if_pos (by omega), if_pos (by omega), pk_us, pk_us, pk_us]
    exact ⟨rfl, rfl, rfl⟩
  · rw [if_neg (by omega), if_neg (by omega), if_neg (by omega), pk_un e, pk_un e, pk_un e]
    exact ⟨h1, h2, h3⟩
theorem ra_W_beg {st ep pt ot rs : Nat → Int32} {s : Nat} {x : Int32} (h : ra_W st ep pt ot rs) (hs : s < 10) : ra_W (upd st s 1) ep (upd pt s (ep s)) ot (upd rs s x) := ra_W_ready h hs
/-! arrays that loops write -/
def ra_z (f : Nat → Int32) (a n : Nat) : Nat → Int32 := fun j => if a ≤ j ∧ j < a + n then 0 else f j
theorem ra_z_0 (f : Nat → Int32) (a : Nat) : ra_z f a 0 = f := by
  funext j
  exact if_neg (by omega)
theorem ra_z_s (f : Nat → Int32) (a i : Nat) : upd (ra_z f a i) (a + i) 0 = ra_z f a (i + 1) := by
  funext j
  unfold upd ra_z
  by_cases h : j = a + i
  · rw [if_pos h, if_pos (by omega)]
  · rw [if_neg h]
    by_cases h2 : a ≤ j ∧ j < a + i
    · rw [if_pos h2, if_pos (by omega)]
    · rw [if_neg h2, if_neg (by omega)]
def ra_zL (f : Nat → Int64) (P : Nat → Bool) (n : Nat) : Nat → Int64 := fun j => if j < n ∧ P j = true then 0 else f j
theorem ra_zL_0 (f : Nat → Int64) (P : Nat → Bool) : ra_zL f P 0 = f := by
  funext j
  exact if_neg (by omega)
theorem ra_zL_t (f : Nat → Int64) (P : Nat → Bool) (i : Nat) (h : P i = true) : vp_updL (ra_zL f P i) i 0 = ra_zL f P (i + 1) := by
  funext j
  unfold vp_updL ra_zL
  by_cases e : j = i
  · rw [if_pos e, if_pos ⟨by omega, by rw [e]; exact h⟩]
  · rw [if_neg e]
    by_cases h2 : j < i ∧ P j = true
    · rw [if_pos h2, if_pos ⟨by omega, h2.2⟩]
    · rw [if_neg h2, if_neg (fun z => h2 ⟨by omega, z.2⟩)]
theorem ra_zL_f (f : Nat → Int64) (P : Nat → Bool) (i : Nat) (h : ¬ P i = true) : ra_zL f P i = ra_zL f P (i + 1) := by
  funext j
  unfold ra_zL
  by_cases h2 : j < i ∧ P j = true
  · rw [if_pos h2, if_pos ⟨by omega, h2.2⟩]
  · rw [if_neg h2, if_neg]
    rintro ⟨a, b⟩
    have : j ≠ i := fun z => h (by rw [← z]; exact b)
    exact h2 ⟨by omega, b⟩
def ra_zB (f : Nat → Int32) (P : Nat → Bool) (n : Nat) : Nat → Int32 := fun j => if j < n ∧ P j = true then 0 else f j
theorem ra_zB_0 (f : Nat → Int32) (P : Nat → Bool) : ra_zB f P 0 = f := by
  funext j
  exact if_neg (by omega)
theorem ra_zB_t (f : Nat → Int32) (P : Nat → Bool) (i : Nat) (h : P i = true) : upd (ra_zB f P i) i 0 = ra_zB f P (i + 1) := by
  funext j
  unfold upd ra_zB
  by_cases e : j = i
  · rw [if_pos e, if_pos ⟨by omega, by rw [e]; exact h⟩]
  · rw [if_neg e]
    by_cases h2 : j < i ∧ P j = true
    · rw [if_pos h2, if_pos ⟨by omega, h2.2⟩]
    · rw [if_neg h2, if_neg (fun z => h2 ⟨by omega, z.2⟩)]
theorem ra_zB_f (f : Nat → Int32) (P : Nat → Bool) (i : Nat) (h : ¬ P i = true) : ra_zB f P i = ra_zB f P (i + 1) := by
  funext j
  unfold ra_zB
  by_cases h2 : j < i ∧ P j = true
  · rw [if_pos h2, if_pos ⟨by omega, h2.2⟩]
  · rw [if_neg h2, if_neg]
    rintro ⟨a, b⟩
    have : j ≠ i := fun z => h (by rw [← z]; exact b)
    exact h2 ⟨by omega, b⟩
/-- the words at tw .. tw + n - 1 are those that stood at fw .. -/
def ra_mv (f : Nat → Int32) (fw tw n : Nat) : Nat → Int32 := fun j => if tw ≤ j ∧ j < tw + n then f (fw + (j - tw)) else f j
theorem ra_mv_0 (f : Nat → Int32) (fw tw : Nat) : ra_mv f fw tw 0 = f := by
  funext j
  exact if_neg (by omega)
theorem ra_mv_s (f : Nat → Int32) {fw tw : Nat} (i : Nat) (h : tw < fw) : upd (ra_mv f fw tw i) (tw + i) (ra_mv f fw tw i (fw + i)) = ra_mv f fw tw (i + 1) := by
  funext j
  have e : ra_mv f fw tw i (fw + i) = f (fw + i) := if_neg (by omega)
  rw [e]
  unfold upd ra_mv
  by_cases h1 : j = tw + i
  · rw [if_pos h1, if_pos (by omega), show fw + (j - tw) = fw + i by omega]
  · rw [if_neg h1]
    by_cases h2 : tw ≤ j ∧ j < tw + i
    · rw [if_pos h2, if_pos (by omega)]
    · rw [if_neg h2, if_neg (by omega)]
def ra_md (f : Nat → Int32) (fw tw i n : Nat) : Nat → Int32 := fun j => if tw + i ≤ j ∧ j < tw + n then f (fw + (j - tw)) else f j
theorem ra_md_0 (f : Nat → Int32) (fw tw n : Nat) : ra_md f fw tw n n = f := by
  funext j
  exact if_neg (by omega)
theorem ra_md_e (f : Nat → Int32) (fw tw n : Nat) : ra_md f fw tw 0 n = ra_mv f fw tw n := rfl
theorem ra_md_s (f : Nat → Int32) {fw tw i n : Nat} (hi : i < n) (h : fw ≤ tw) : upd (ra_md f fw tw (i + 1) n) (tw + i) (ra_md f fw tw (i + 1) n (fw + i)) = ra_md f fw tw i n := by
  funext j
  have e : ra_md f fw tw (i + 1) n (fw + i) = f (fw + i) := if_neg (by omega)
  rw [e]
  unfold upd ra_md
  by_cases h1 : j = tw + i
  · rw [if_pos h1, if_pos (by omega), show fw + (j - tw) = fw + i by omega]
  · rw [if_neg h1]
    by_cases h2 : tw + (i + 1) ≤ j ∧ j < tw + n
    · rw [if_pos h2, if_pos (by omega)]
    · rw [if_neg h2, if_neg (by omega)]
def ra_cp (g f : Nat → Int32) (fw i : Nat) : Nat → Int32 := fun j => if j < i then f (fw + j) else g j
theorem ra_cp_0 (g f : Nat → Int32) (fw : Nat) : ra_cp g f fw 0 = g := by
  funext j
  exact if_neg (by omega)
theorem ra_cp_s (g f : Nat → Int32) (fw i : Nat) : upd (ra_cp g f fw i) i (f (fw + i)) = ra_cp g f fw (i + 1) := by
  funext j
  unfold upd ra_cp
  by_cases h1 : j = i
  · rw [if_pos h1, if_pos (by omega), h1]
  · rw [if_neg h1]
    by_cases h2 : j < i
    · rw [if_pos h2, if_pos (by omega)]
    · rw [if_neg h2, if_neg (by omega)]
theorem ra_mv_y (f g : Nat → Int32) {fw tw i n : Nat} (hi : i < n) : upd (ra_mv f fw tw i) (tw + i) (ra_cp g f fw n i) = ra_mv f fw tw (i + 1) := by
  funext j
  have e : ra_cp g f fw n i = f (fw + i) := if_pos hi
  rw [e]
  unfold upd ra_mv
  by_cases h1 : j = tw + i
  · rw [if_pos h1, if_pos (by omega), show fw + (j - tw) = fw + i by omega]
  · rw [if_neg h1]
    by_cases h2 : tw ≤ j ∧ j < tw + i
    · rw [if_pos h2, if_pos (by omega)]
    · rw [if_neg h2, if_neg (by omega)]
/-! the best of those that are fit; the first that is fit -/
def ra_e : Option Nat → Int32
  | none => -1
  | some j => nI j
def ra_best (p : Nat → Bool) (q : Nat → Nat → Bool) : Nat → Option Nat
  | 0 => none
  | n + 1 => match ra_best p q n with
    | none => if p n = true then some n else none
    | some b => if (p n && q n b) = true then some n else some b
theorem ra_best_in {p : Nat → Bool} {q : Nat → Nat → Bool} : ∀ {n b : Nat}, ra_best p q n = some b → b < n ∧ p b = true
  | 0, b, h => by simp [ra_best] at h
  | n + 1, b, h => by
    simp only [ra_best] at h
    split at h
    · split at h
      · rename_i z; cases h; exact ⟨by omega, z⟩
      · cases h
    · rename_i b' e
      split at h
      · rename_i z; cases h; exact ⟨by omega, (Bool.and_eq_true _ _ ▸ z).1⟩
      · cases h; have := ra_best_in e; exact ⟨by omega, this.2⟩
theorem ra_best_no {p : Nat → Bool} {q : Nat → Nat → Bool} : ∀ {n : Nat}, ra_best p q n = none → ∀ j, j < n → p j = false
  | 0, _, j, hj => by omega
  | n + 1, h, j, hj => by
    simp only [ra_best] at h
    split at h
    · rename_i e
      split at h
      · cases h
      · rename_i z
        by_cases y : j = n
        · rw [y]; exact ra_nt z
        · exact ra_best_no e j (by omega)
    · split at h <;> cases h
theorem ra_best_eq {p p' : Nat → Bool} {q q' : Nat → Nat → Bool} : ∀ {n : Nat}, (∀ j, j < n → p j = p' j) → (∀ i j, i < n → j < n → p i = true → p j = true → q i j = q' i j) → ra_best p q n = ra_best p' q' n
  | 0, _, _ => rfl
  | n + 1, h1, h2 => by
    have ih := ra_best_eq (n := n) (fun j hj => h1 j (by omega)) (fun i j hi hj => h2 i j (by omega) (by omega))
    simp only [ra_best]
    rw [← ih, ← h1 n (by omega)]
    split
    · rfl
    · rename_i b e
      have hb := ra_best_in e
      cases z : p n
      · rfl
      · rw [h2 n b (by omega) (by omega) z hb.2]
theorem ra_best_min {p : Nat → Bool} {k : Nat → Int} : ∀ {n b : Nat}, ra_best p (fun i j => decide (k i < k j)) n = some b → ∀ j, j < n → p j = true → k b ≤ k j
  | 0, b, h, j, hj, _ => by omega
  | n + 1, b, h, j, hj, hp => by
    simp only [ra_best] at h
    split at h
    · rename_i e
      split at h
      · cases h
        by_cases y : j = n
        · rw [y]; exact Int.le_refl _
        · have := ra_best_no e j (by omega)
          rw [this] at hp; cases hp
      · cases h
    · rename_i b' e
      split at h
      · rename_i z
        cases h
        have z2 : k n < k b' := of_decide_eq_true (Bool.and_eq_true _ _ ▸ z).2
        by_cases y : j = n
        · rw [y]; exact Int.le_refl _
        · have := ra_best_min e j (by omega) hp
          omega
      · rename_i z
        cases h
        by_cases y : j = n
        · rw [← y, hp, Bool.true_and] at z
          have : ¬ k j < k b := fun w => z (decide_eq_true w)
          omega
        · exact ra_best_min e j (by omega) hp
theorem ra_first (p : Nat → Prop) (n : Nat) : (∀ j, j < n → ¬ p j) ∨ ∃ k, k < n ∧ p k ∧ ∀ j, j < k → ¬ p j := by
  induction n with
  | zero => exact Or.inl (fun j hj => by omega)
  | succ n ih =>
    rcases ih with h | ⟨k, hk, h1, h2⟩
    · by_cases z : p n
      · exact Or.inr ⟨n, by omega, z, h⟩
      · refine Or.inl (fun j hj => ?_)
        by_cases y : j = n
        · rw [y]; exact z
        · exact h j (by omega)
    · exact Or.inr ⟨k, by omega, h1, h2⟩
