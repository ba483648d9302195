/-! letters: places of the senders against a row in the order of posting -/
def ra_L (c n : Nat) (st : Nat → Int32) (lo : Nat → Int64) (lt lv fr tt tx : Nat → Int32) : Prop :=
  ∃ w pl : Nat → Nat, (∀ p, p < 30 → lo p = lN (w p) ∧ w p ≤ c) ∧ (∀ j, j < n → pl j < 30 ∧ 0 < w (pl j) ∧ fr j = nI (pl j / 3) ∧ tt j = lt (pl j) ∧ tx j = lv (pl j) ∧ st (pl j / 3) ≠ 0) ∧ (∀ i j, i < j → j < n → w (pl i) < w (pl j)) ∧ (∀ p, p < 30 → 0 < w p → ∃ j, j < n ∧ pl j = p)
theorem ra_L_sm {c n : Nat} {st st' : Nat → Int32} {lo : Nat → Int64} {lt lv fr tt tx : Nat → Int32} (h : ra_L c n st lo lt lv fr tt tx) (z : ra_Z st st') : ra_L c n st' lo lt lv fr tt tx := by
  obtain ⟨w, pl, h1, h2, h3, h4⟩ := h
  refine ⟨w, pl, h1, fun j hj => ?_, h3, h4⟩
  obtain ⟨a, b, c, d, e, f⟩ := h2 j hj
  exact ⟨a, b, c, d, e, fun y => f ((z _ (by omega)).mp y)⟩
theorem ra_L_c {c c' n : Nat} {st : Nat → Int32} {lo : Nat → Int64} {lt lv fr tt tx : Nat → Int32} (h : ra_L c n st lo lt lv fr tt tx) (hc : c ≤ c') : ra_L c' n st lo lt lv fr tt tx := by
  obtain ⟨w, pl, h1, h2⟩ := h
  refine ⟨w, pl, fun p hp => ?_, h2⟩
  obtain ⟨a, b⟩ := h1 p hp
  exact ⟨a, by omega⟩
theorem ra_L_eq {c n : Nat} {st : Nat → Int32} {lo lo' : Nat → Int64} {lt lv fr tt tx : Nat → Int32} (h : ra_L c n st lo lt lv fr tt tx) (he : ∀ p, p < 30 → lo' p = lo p) : ra_L c n st lo' lt lv fr tt tx := by
  obtain ⟨w, pl, h1, h2⟩ := h
  refine ⟨w, pl, fun p hp => ?_, h2⟩
  obtain ⟨a, b⟩ := h1 p hp
  exact ⟨(he p hp).trans a, b⟩
theorem ra_l0 {a : Nat} (h : a ≤ 2 ^ 27) : lN a = 0 ↔ a = 0 := by
  have : (0 : Int64) = lN 0 := rfl
  rw [this, pk_lEQ (by omega) (by omega)]
theorem ra_cn_t : ∀ n, ra_cn (fun _ => true) n = n
  | 0 => rfl
  | n + 1 => by
    simp only [ra_cn]
    rw [ra_cn_t n]
    rfl
theorem ra_L_cn {c n : Nat} {st : Nat → Int32} {lo : Nat → Int64} {lt lv fr tt tx : Nat → Int32} (hc : c ≤ 2 ^ 27) (h : ra_L c n st lo lt lv fr tt tx) : ∃ pl : Nat → Nat, (∀ j, j < n → pl j < 30 ∧ fr j = nI (pl j / 3) ∧ tt j = lt (pl j)) ∧ ∀ P : Nat → Bool, ra_cn (fun j => P (pl j)) n = ra_cn (fun p => decide (¬ lo p = 0) && P p) 30 := by
  obtain ⟨w, pl, h1, h2, h3, h4⟩ := h
  refine ⟨pl, fun j hj => ?_, fun P => ?_⟩
  · obtain ⟨a, b, c, d, e, f⟩ := h2 j hj
    exact ⟨a, c, d⟩
  · have z : ∀ p, p < 30 → ((¬ lo p = 0) ↔ 0 < w p) := by
      intro p hp
      obtain ⟨a, b⟩ := h1 p hp
      rw [a, ra_l0 (by omega)]
      omega
    apply ra_cn_bij P
    · intro j hj
      obtain ⟨a, b, -⟩ := h2 j hj
      exact ⟨a, decide_eq_true ((z _ a).mpr b)⟩
    · intro i j hi hj e
      have := h3 i j hi hj
      rw [e] at this
      omega
    · intro p hp hu
      exact h4 p hp ((z p hp).mp (of_decide_eq_true hu))
theorem ra_L_n {c n : Nat} {st : Nat → Int32} {lo : Nat → Int64} {lt lv fr tt tx : Nat → Int32} (hc : c ≤ 2 ^ 27) (h : ra_L c n st lo lt lv fr tt tx) : n ≤ 30 ∧ ∀ p, p < 30 → lo p = 0 → n < 30 := by
  obtain ⟨pl, -, e⟩ := ra_L_cn hc h
  have e1 := e (fun _ => true)
  rw [ra_cn_t] at e1
  have l := ra_cn_le (fun p => decide (¬ lo p = 0) && true) 30
  refine ⟨by omega, fun p hp z => ?_⟩
  have e2 := ra_cn_one (f := fun _ => true) (g := fun k => decide (k ≠ p)) (q := p) (by simp) hp (fun k _ hk => (decide_eq_true hk).symm)
  rw [ra_cn_t, if_pos rfl] at e2
  have : ∀ m, m ≤ 30 → ra_cn (fun p => decide (¬ lo p = 0) && true) m ≤ ra_cn (fun k => decide (k ≠ p)) m := by
    intro m
    induction m with
    | zero => intro _; exact Nat.le_refl _
    | succ m ih =>
      intro hm
      have i := ih (by omega)
      simp only [ra_cn]
      by_cases y : m = p
      · subst y
        rw [if_neg (by rw [z]; simp)]
        omega
      · rw [if_pos (c := decide (m ≠ p) = true) (decide_eq_true y)]
        split <;> omega
  have := this 30 (Nat.le_refl _)
  omega
theorem ra_L_put {c n p : Nat} {st : Nat → Int32} {lo : Nat → Int64} {lt lv fr tt tx : Nat → Int32} {a x : Int32} (hc : c ≤ 2 ^ 26) (h : ra_L c n st lo lt lv fr tt tx) (hp : p < 30) (hz : lo p = 0) (hl : st (p / 3) ≠ 0) : ra_L (c + 1) (n + 1) st (vp_updL lo p (lN (c + 1))) (upd lt p a) (upd lv p x) (upd fr n (nI (p / 3))) (upd tt n a) (upd tx n x) := by
  obtain ⟨w, pl, h1, h2, h3, h4⟩ := h
  have wp : w p = 0 := by
    obtain ⟨a, b⟩ := h1 p hp
    rw [a, ra_l0 (by omega)] at hz
    exact hz
  have np : ∀ j, j < n → pl j ≠ p := by
    intro j hj e
    obtain ⟨-, b, -⟩ := h2 j hj
    rw [e] at b
    omega
  refine ⟨fun q => if q = p then c + 1 else w q, fun j => if j = n then p else pl j, fun q hq => ?_, fun j hj => ?_, fun i j hi hj => ?_, fun q hq hw => ?_⟩
  · obtain ⟨a, b⟩ := h1 q hq
    by_cases y : q = p
    · subst y
      dsimp only
      exact ⟨by rw [pk_uLs, if_pos rfl], by rw [if_pos rfl]; omega⟩
    · dsimp only
      exact ⟨by rw [pk_uLn y, if_neg y]; exact a, by rw [if_neg y]; omega⟩
  · by_cases y : j = n
    · subst y
      simp only [if_pos, pk_us]
      exact ⟨hp, by omega, trivial, trivial, trivial, hl⟩
    · obtain ⟨a, b, c, d, e, f⟩ := h2 j (by omega)
      have := np j (by omega)
      simp only [if_neg y, if_neg this, pk_un y, pk_un this]
      exact ⟨a, b, c, d, e, f⟩
  · have ni : i ≠ n := by omega
    have := np i (by omega)
    simp only [if_neg ni, if_neg this]
    by_cases y : j = n
    · simp only [if_pos y, if_pos]
      have := (h1 (pl i) (h2 i (by omega)).1).2
      omega
    · have := np j (by omega)
      simp only [if_neg y, if_neg this]
      exact h3 i j hi (by omega)
  · by_cases y : q = p
    · exact ⟨n, by omega, by simp only [if_pos]; exact y.symm⟩
    · simp only [if_neg y] at hw
      obtain ⟨j, hj, e⟩ := h4 q hq hw
      refine ⟨j, by omega, ?_⟩
      dsimp only
      rw [if_neg (by omega)]
      exact e
theorem ra_L_out {c n k : Nat} {st : Nat → Int32} {lo : Nat → Int64} {lt lv fr tt tx : Nat → Int32} (hc : c ≤ 2 ^ 27) (h : ra_L c n st lo lt lv fr tt tx) (hk : k < n) : ∃ p, p < 30 ∧ lo p ≠ 0 ∧ fr k = nI (p / 3) ∧ tt k = lt p ∧ tx k = lv p ∧ st (p / 3) ≠ 0 ∧
    (∀ q, q < 30 → q ≠ p → lo q ≠ 0 → ∃ j, j < n ∧ j ≠ k ∧ fr j = nI (q / 3) ∧ tt j = lt q ∧ st (q / 3) ≠ 0 ∧ (k < j → lo p < lo q)) ∧
    ∀ fr' tt' tx' : Nat → Int32, (∀ j, j + 1 < n → fr' j = (if j < k then fr j else fr (j + 1)) ∧ tt' j = (if j < k then tt j else tt (j + 1)) ∧ tx' j = (if j < k then tx j else tx (j + 1))) → ra_L c (n - 1) st (vp_updL lo p 0) lt lv fr' tt' tx' := by
  obtain ⟨w, pl, h1, h2, h3, h4⟩ := h
  obtain ⟨a, b, c', d, e, f⟩ := h2 k hk
  have nz : ∀ q, q < 30 → (lo q ≠ 0 ↔ 0 < w q) := by
    intro q hq
    obtain ⟨a, b⟩ := h1 q hq
    rw [Ne, a, ra_l0 (by omega)]
    omega
  have ij : ∀ i j, i < n → j < n → pl i = pl j → i = j := by
    intro i j hi hj e
    rcases Nat.lt_trichotomy i j with z | z | z
    · have := h3 i j z hj; rw [e] at this; omega
    · exact z
    · have := h3 j i z hi; rw [e] at this; omega
  refine ⟨pl k, a, (nz _ a).mpr b, c', d, e, f, fun q hq hn hz => ?_, fun fr' tt' tx' hh => ?_⟩
  · obtain ⟨j, hj, ej⟩ := h4 q hq ((nz q hq).mp hz)
    obtain ⟨-, -, g1, g2, g3, g4⟩ := h2 j hj
    rw [ej] at g1 g2 g3 g4
    refine ⟨j, hj, ?_, g1, g2, g4, fun hkj => ?_⟩
    · intro z; rw [z] at ej; exact hn ej.symm
    · have := h3 k j hkj hj
      rw [ej] at this
      rw [(h1 _ a).1, (h1 q hq).1, pk_lLT (by have := (h1 _ a).2; omega) (by have := (h1 q hq).2; omega)]
      exact this
  · refine ⟨fun q => if q = pl k then 0 else w q, fun j => if j < k then pl j else pl (j + 1), fun q hq => ?_, fun j hj => ?_, fun i j hi hj => ?_, fun q hq hw => ?_⟩
    · obtain ⟨a, b⟩ := h1 q hq
      by_cases y : q = pl k
      · subst y
        dsimp only
        exact ⟨by rw [pk_uLs, if_pos rfl]; rfl, by rw [if_pos rfl]; omega⟩
      · dsimp only
        exact ⟨by rw [pk_uLn y, if_neg y]; exact a, by rw [if_neg y]; omega⟩
    · obtain ⟨x1, x2, x3⟩ := hh j (by omega)
      rw [x1, x2, x3]
      by_cases y : j < k
      · simp only [if_pos y]
        rw [if_neg (fun z => absurd (ij j k (by omega) hk z) (by omega))]
        exact h2 j (by omega)
      · simp only [if_neg y]
        rw [if_neg (fun z => absurd (ij (j + 1) k (by omega) hk z) (by omega))]
        exact h2 (j + 1) (by omega)
    · have q1 : ∀ j, j + 1 < n → (if j < k then pl j else pl (j + 1)) ≠ pl k := by
        intro j hj
        split
        · exact fun z => absurd (ij j k (by omega) hk z) (by omega)
        · exact fun z => absurd (ij (j + 1) k (by omega) hk z) (by omega)
      show (if (if i < k then pl i else pl (i + 1)) = pl k then 0 else w (if i < k then pl i else pl (i + 1))) < (if (if j < k then pl j else pl (j + 1)) = pl k then 0 else w (if j < k then pl j else pl (j + 1)))
      rw [if_neg (q1 i (by omega)), if_neg (q1 j (by omega))]
      by_cases y : i < k
      · by_cases y' : j < k
        · rw [if_pos y, if_pos y']; exact h3 i j hi (by omega)
        · rw [if_pos y, if_neg y']; exact h3 i (j + 1) (by omega) (by omega)
      · rw [if_neg y, if_neg (by omega)]; exact h3 (i + 1) (j + 1) (by omega) (by omega)
    · by_cases y : q = pl k
      · simp only [if_pos y] at hw; omega
      · simp only [if_neg y] at hw
        obtain ⟨j, hj, ej⟩ := h4 q hq hw
        by_cases y' : j < k
        · exact ⟨j, by omega, by simp only [if_pos y']; exact ej⟩
        · have : j ≠ k := fun z => y (by rw [← ej, z])
          refine ⟨j - 1, by omega, ?_⟩
          simp only [if_neg (show ¬ j - 1 < k by omega)]
          rw [show j - 1 + 1 = j by omega]
          exact ej
theorem ra_L_up {c n : Nat} {st st' : Nat → Int32} {lo : Nat → Int64} {lt lv fr tt tx : Nat → Int32} (h : ra_L c n st lo lt lv fr tt tx) (z : ∀ s, s < 10 → st s ≠ 0 → st' s ≠ 0) : ra_L c n st' lo lt lv fr tt tx := by
  obtain ⟨w, pl, h1, h2, h3, h4⟩ := h
  refine ⟨w, pl, h1, fun j hj => ?_, h3, h4⟩
  obtain ⟨a, b, c, d, e, f⟩ := h2 j hj
  exact ⟨a, b, c, d, e, z _ (by omega) f⟩
theorem ra_L_has {c n p : Nat} {st : Nat → Int32} {lo : Nat → Int64} {lt lv fr tt tx : Nat → Int32} (hc : c ≤ 2 ^ 27) (h : ra_L c n st lo lt lv fr tt tx) (hp : p < 30) (hz : lo p ≠ 0) : ∃ j, j < n ∧ fr j = nI (p / 3) ∧ tt j = lt p := by
  obtain ⟨w, pl, h1, h2, h3, h4⟩ := h
  have : 0 < w p := by
    obtain ⟨a, b⟩ := h1 p hp
    rw [Ne, a, ra_l0 (by omega)] at hz
    omega
  obtain ⟨j, hj, e⟩ := h4 p hp this
  obtain ⟨-, -, a, b, -⟩ := h2 j hj
  rw [e] at a b
  exact ⟨j, hj, a, b⟩
theorem ra_L_end {c n s : Nat} {st : Nat → Int32} {lo : Nat → Int64} {lt lv fr tt tx : Nat → Int32} (h : ra_L c n st lo lt lv fr tt tx) (z : ∀ j, j < n → fr j ≠ nI s) : ra_L c n (upd st s 0) lo lt lv fr tt tx := by
  obtain ⟨w, pl, h1, h2, h3, h4⟩ := h
  refine ⟨w, pl, h1, fun j hj => ?_, h3, h4⟩
  obtain ⟨a, b, c, d, e, f⟩ := h2 j hj
  refine ⟨a, b, c, d, e, ?_⟩
  have := z j hj
  rw [c] at this
  rw [pk_un (fun y => this (congrArg nI y))]
  exact f
def ra_sh (f : Nat → Int32) (k n : Nat) : Nat → Int32 := fun j => if k ≤ j ∧ j + 1 < n then f (j + 1) else f j
theorem ra_L_out' {c n k : Nat} {st : Nat → Int32} {lo : Nat → Int64} {lt lv fr tt tx : Nat → Int32} (hc : c ≤ 2 ^ 27) (h : ra_L c n st lo lt lv fr tt tx) (hk : k < n) : ∃ p, p < 30 ∧ lo p ≠ 0 ∧ fr k = nI (p / 3) ∧ tt k = lt p ∧ tx k = lv p ∧ st (p / 3) ≠ 0 ∧
    (∀ q, q < 30 → q ≠ p → lo q ≠ 0 → ∃ j, j < n ∧ j ≠ k ∧ fr j = nI (q / 3) ∧ tt j = lt q ∧ st (q / 3) ≠ 0 ∧ (k < j → lo p < lo q)) ∧
    ra_L c (n - 1) st (vp_updL lo p 0) lt lv (ra_sh fr k n) (ra_sh tt k n) (ra_sh tx k n) := by
  obtain ⟨p, h1, h2, h3, h4, h5, h6, h7, h8⟩ := ra_L_out hc h hk
  refine ⟨p, h1, h2, h3, h4, h5, h6, h7, h8 _ _ _ fun j hj => ?_⟩
  unfold ra_sh
  by_cases y : j < k
  · have z : ¬ (k ≤ j ∧ j + 1 < n) := by omega
    simp only [if_neg z, if_pos y]
    exact ⟨trivial, trivial, trivial⟩
  · have z : k ≤ j ∧ j + 1 < n := by omega
    simp only [if_pos z, if_neg y]
    exact ⟨trivial, trivial, trivial⟩
/-- what is left when all letters of s and to s are taken out -/
theorem ra_L_drop {c n n' s : Nat} {st : Nat → Int32} {lo lo' lo'' : Nat → Int64} {lt lv fr tt tx : Nat → Int32} (hc : c ≤ 2 ^ 27) (hs : s < 10) (h : ra_L c n' st lo' lt lv fr tt tx) (h1 : ∀ j, j < n' → ¬ (fr j = nI s ∨ tt j = nI s)) (h2 : ∀ p, p < 30 → lo' p = lo p ∨ (lo' p = 0 ∧ (p / 3 = s ∨ lt p = nI s))) (h3 : ∀ p, p < 30 → lo'' p = if p / 3 = s ∨ lt p = nI s then 0 else lo p) : ra_L c n' (upd st s 0) lo'' lt lv fr tt tx := by
  refine ra_L_end (ra_L_eq h fun p hp => ?_) (fun j hj z => h1 j hj (Or.inl z))
  rw [h3 p hp]
  split
  · rename_i y
    by_cases z : lo' p = 0
    · exact z.symm
    · obtain ⟨j, hj, a, b⟩ := ra_L_has hc h hp z
      refine absurd ?_ (h1 j hj)
      rcases y with y | y
      · rw [a, y]; exact Or.inl rfl
      · rw [b, y]; exact Or.inr rfl
  · rename_i y
    rcases h2 p hp with z | ⟨-, z⟩
    · exact z.symm
    · exact absurd z y
theorem ra_sh_0 (f : Nat → Int32) (k : Nat) : ra_sh f k (k + 1) = f := by
  funext j
  exact if_neg (by omega)
theorem ra_sh_s (f : Nat → Int32) {k i : Nat} (h : k ≤ i) : upd (ra_sh f k (i + 1)) i (ra_sh f k (i + 1) (i + 1)) = ra_sh f k (i + 2) := by
  funext j
  have e : ra_sh f k (i + 1) (i + 1) = f (i + 1) := if_neg (by omega)
  rw [e]
  unfold upd ra_sh
  by_cases h1 : j = i
  · rw [if_pos h1, if_pos (by omega), h1]
  · rw [if_neg h1]
    by_cases h2 : k ≤ j ∧ j + 1 < i + 1
    · rw [if_pos h2, if_pos (by omega)]
    · rw [if_neg h2, if_neg (by omega)]
