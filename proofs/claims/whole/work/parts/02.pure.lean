/-! the relation's pieces, and what each step does to them -/
theorem ra_us {f : Nat → Int32} {k : Nat} {x : Int32} (h : f k = x) : upd f k x = f := by
  funext j
  unfold upd
  split
  · rename_i e; rw [e, h]
  · rfl
theorem ra_u (f : Nat → Int32) (k : Nat) (x : Int32) (j : Nat) : upd f k x j = if j = k then x else f j := rfl
theorem ra_uL (f : Nat → Int64) (k : Nat) (x : Int64) (j : Nat) : vp_updL f k x j = if j = k then x else f j := rfl
theorem ra_c {s : Nat} (h : s < 1000) : (nI s).toNatClampNeg = s := nI_clamp (by omega)
/-! endpoints -/
def ra_E (B : Nat) (st ep bo : Nat → Int32) : Prop := ∀ s, s < 10 → ∃ q, q ≤ B ∧ ep s = nI (16 * q + s) ∧ (st s = 0 → bo s = nI q) ∧ (st s ≠ 0 → bo s = nI (q + 1))
theorem ra_E_y {B s : Nat} {st ep bo : Nat → Int32} (h : ra_E B st ep bo) (hs : s < 10) (hl : st s ≠ 0) : 16 * (bo s - 1) + nI s = ep s := by
  obtain ⟨q, hq, e, -, b⟩ := h s hs
  rw [b hl, nI_pred, e]
  show nI 16 * nI q + nI s = _
  rw [pk_mul, nI_add]
theorem ra_E_and {B s : Nat} {st ep bo : Nat → Int32} (hB : B ≤ 2 ^ 26) (h : ra_E B st ep bo) (hs : s < 10) : ep s &&& 15 = nI s := by
  obtain ⟨q, hq, e, -, -⟩ := h s hs
  rw [e, pk_andN (by omega) 4 (by decide)]
  exact congrArg nI (by omega)
theorem ra_E_pos {B s : Nat} {st ep bo : Nat → Int32} (hB : B ≤ 2 ^ 26) (h : ra_E B st ep bo) (hs : s < 10) : 0 ≤ ep s := by
  obtain ⟨q, hq, e, -, -⟩ := h s hs
  rw [e]
  exact nI_pos' (by omega)
theorem ra_E_ne {B s : Nat} {st ep bo : Nat → Int32} (hB : B ≤ 2 ^ 26) (h : ra_E B st ep bo) (hs : s < 10) : ep s ≠ -1 := by
  intro z
  have := ra_E_pos hB h hs
  rw [z] at this
  exact absurd this (by decide)
theorem ra_E_inj {B s t : Nat} {st ep bo : Nat → Int32} (hB : B ≤ 2 ^ 26) (h : ra_E B st ep bo) (hs : s < 10) (ht : t < 10) (e : ep s = ep t) : s = t := by
  obtain ⟨q, hq, e1, -, -⟩ := h s hs
  obtain ⟨q', hq', e2, -, -⟩ := h t ht
  rw [e1, e2, nI_eq (by omega) (by omega)] at e
  omega
theorem ra_E_sm {B : Nat} {st st' ep bo : Nat → Int32} (h : ra_E B st ep bo) (hz : ∀ s, s < 10 → (st' s = 0 ↔ st s = 0)) : ra_E B st' ep bo := by
  intro s hs
  obtain ⟨q, hq, e, a, b⟩ := h s hs
  exact ⟨q, hq, e, fun z => a ((hz s hs).mp z), fun z => b (fun y => z ((hz s hs).mpr y))⟩
theorem ra_E_mono {B B' : Nat} {st ep bo : Nat → Int32} (hB : B ≤ B') (h : ra_E B st ep bo) : ra_E B' st ep bo := by
  intro s hs
  obtain ⟨q, hq, e⟩ := h s hs
  exact ⟨q, by omega, e⟩
theorem ra_E_end {B s : Nat} {st ep bo : Nat → Int32} (h : ra_E B st ep bo) (hs : s < 10) (hl : st s ≠ 0) : ra_E (B + 1) (upd st s 0) (upd ep s (ep s + 16)) bo := by
  intro t ht
  obtain ⟨q, hq, e, a, b⟩ := h t ht
  by_cases z : t = s
  · subst z
    refine ⟨q + 1, by omega, ?_, fun _ => b hl, fun y => absurd pk_us y⟩
    rw [pk_us, e]
    show nI _ + nI 16 = _
    rw [nI_add]
    exact congrArg nI (by omega)
  · refine ⟨q, by omega, ?_, ?_, ?_⟩
    · rw [pk_un z, e]
    · rw [pk_un z]; exact a
    · rw [pk_un z]; exact b
theorem ra_E_beg {B s : Nat} {st ep bo : Nat → Int32} (h : ra_E B st ep bo) (hs : s < 10) (hl : st s = 0) : ra_E B (upd st s 1) ep (upd bo s (bo s + 1)) := by
  intro t ht
  obtain ⟨q, hq, e, a, b⟩ := h t ht
  by_cases z : t = s
  · subst z
    refine ⟨q, hq, e, fun y => ?_, fun y => ?_⟩
    · rw [pk_us] at y; exact absurd y (by decide)
    · rw [pk_us, a hl, nI_1]
  · refine ⟨q, hq, e, ?_, ?_⟩
    · rw [pk_un z, pk_un z]; exact a
    · rw [pk_un z, pk_un z]; exact b
/-! who came earlier -/
def ra_O (B c m : Nat) (sn : Nat → Int64) (mo : Nat → Int32) : Prop := c ≤ B ∧ m ≤ B ∧ ∃ a b : Nat → Nat, (∀ s, s < 10 → sn s = lN (a s) ∧ mo s = nI (b s) ∧ a s ≤ c ∧ b s ≤ m) ∧ ∀ s t, s < 10 → t < 10 → (a s < a t ↔ b s < b t)
theorem ra_O_lt {B c m s t : Nat} {sn : Nat → Int64} {mo : Nat → Int32} (hB : B ≤ 2 ^ 26) (h : ra_O B c m sn mo) (hs : s < 10) (ht : t < 10) : sn s < sn t ↔ mo s < mo t := by
  obtain ⟨hc, hm, a, b, h1, h2⟩ := h
  obtain ⟨e1, e2, l1, l2⟩ := h1 s hs
  obtain ⟨e3, e4, l3, l4⟩ := h1 t ht
  rw [e1, e2, e3, e4, pk_lLT (by omega) (by omega), nI_ltI (by omega) (by omega)]
  exact h2 s t hs ht
theorem ra_O_mono {B B' c m : Nat} {sn : Nat → Int64} {mo : Nat → Int32} (hB : B ≤ B') (h : ra_O B c m sn mo) : ra_O B' c m sn mo := by
  obtain ⟨hc, hm, h⟩ := h
  exact ⟨by omega, by omega, h⟩
theorem ra_O_c {B c m : Nat} {sn : Nat → Int64} {mo : Nat → Int32} (h : ra_O B c m sn mo) : ra_O (B + 1) (c + 1) m sn mo := by
  obtain ⟨hc, hm, a, b, h1, h2⟩ := h
  refine ⟨by omega, by omega, a, b, fun s hs => ?_, h2⟩
  obtain ⟨e1, e2, l1, l2⟩ := h1 s hs
  exact ⟨e1, e2, by omega, l2⟩
theorem ra_O_last {B c m s : Nat} {sn : Nat → Int64} {mo : Nat → Int32} (h : ra_O B c m sn mo) (hs : s < 10) : ra_O (B + 1) (c + 1) (m + 1) (vp_updL sn s (lN (c + 1))) (upd mo s (nI (m + 1))) := by
  obtain ⟨hc, hm, a, b, h1, h2⟩ := h
  refine ⟨by omega, by omega, fun t => if t = s then c + 1 else a t, fun t => if t = s then m + 1 else b t, fun t ht => ?_, fun t t' ht ht' => ?_⟩
  · obtain ⟨e1, e2, l1, l2⟩ := h1 t ht
    by_cases z : t = s
    · subst z
      dsimp only
      exact ⟨by rw [pk_uLs, if_pos rfl], by rw [pk_us, if_pos rfl], by rw [if_pos rfl]; omega, by rw [if_pos rfl]; omega⟩
    · dsimp only
      exact ⟨by rw [pk_uLn z, if_neg z]; exact e1, by rw [pk_un z, if_neg z]; exact e2, by rw [if_neg z]; omega, by rw [if_neg z]; omega⟩
  · obtain ⟨-, -, l1, l2⟩ := h1 t ht
    obtain ⟨-, -, l3, l4⟩ := h1 t' ht'
    have hh := h2 t t' ht ht'
    by_cases z : t = s
    · by_cases z' : t' = s
      · simp only [if_pos z, if_pos z']; omega
      · simp only [if_pos z, if_neg z']; omega
    · by_cases z' : t' = s
      · simp only [if_neg z, if_pos z']; omega
      · simp only [if_neg z, if_neg z']; exact hh
/-! who waits for whom -/
def ra_W (st ep pt ot rs : Nat → Int32) : Prop := ∀ s, s < 10 → (st s = 1 → pt s = ep s) ∧ (st s ≠ 0 → st s ≠ 1 → pt s = ot s ∧ rs s = 0 ∧ (pt s = -1 ∨ ∃ t, t < 10 ∧ st t ≠ 0 ∧ pt s = ep t))
theorem ra_W_ready {st ep pt ot rs : Nat → Int32} {s : Nat} {x : Int32} (h : ra_W st ep pt ot rs) (hs : s < 10) : ra_W (upd st s 1) ep (upd pt s (ep s)) ot (upd rs s x) := by
  intro t ht
  by_cases z : t = s
  · subst z
    exact ⟨fun _ => pk_us, fun _ y => absurd pk_us y⟩
  · rw [pk_un z, pk_un z, pk_un z]
    obtain ⟨h1, h2⟩ := h t ht
    refine ⟨h1, fun a b => ?_⟩
    obtain ⟨e1, e2, e3⟩ := h2 a b
    refine ⟨e1, e2, e3.imp id ?_⟩
    rintro ⟨w, hw, hl, e⟩
    refine ⟨w, hw, ?_, e⟩
    by_cases y : w = s
    · rw [y, pk_us]; decide
    · rw [pk_un y]; exact hl
theorem ra_W_ready0 {st ep pt ot rs : Nat → Int32} {s : Nat} (h : ra_W st ep pt ot rs) (hs : s < 10) : ra_W (upd st s 1) ep (upd pt s (ep s)) ot rs := by
  have := ra_W_ready (x := rs s) h hs
  rwa [ra_us rfl] at this
theorem ra_W_wait {st ep pt ot rs : Nat → Int32} {s : Nat} {how whom : Int32} (h : ra_W st ep pt ot rs) (hs : s < 10) (h0 : how ≠ 0) (h1' : how ≠ 1) (hw : whom = -1 ∨ ∃ t, t < 10 ∧ st t ≠ 0 ∧ whom = ep t) : ra_W (upd st s how) ep (upd pt s whom) (upd ot s whom) (upd rs s 0) := by
  have lv : ∀ w, st w ≠ 0 → upd st s how w ≠ 0 := by
    intro w hl
    by_cases y : w = s
    · rw [y, pk_us]; exact h0
    · rw [pk_un y]; exact hl
  intro t ht
  by_cases z : t = s
  · subst z
    refine ⟨fun y => absurd (pk_us.symm.trans y) h1', fun _ _ => ⟨?_, pk_us, ?_⟩⟩
    · rw [pk_us, pk_us]
    · rw [pk_us]
      exact hw.imp id (fun ⟨w, hw, hl, e⟩ => ⟨w, hw, lv w hl, e⟩)
  · rw [pk_un z, pk_un z, pk_un z, pk_un z]
    obtain ⟨h1, h2⟩ := h t ht
    refine ⟨h1, fun a b => ?_⟩
    obtain ⟨e1, e2, e3⟩ := h2 a b
    exact ⟨e1, e2, e3.imp id (fun ⟨w, hw, hl, e⟩ => ⟨w, hw, lv w hl, e⟩)⟩
/-! same ones alive -/
def ra_Z (st st' : Nat → Int32) : Prop := ∀ s, s < 10 → (st' s = 0 ↔ st s = 0)
theorem ra_Z_rf (st : Nat → Int32) : ra_Z st st := fun _ _ => Iff.rfl
theorem ra_Z_tr {a b c : Nat → Int32} (h : ra_Z a b) (h' : ra_Z b c) : ra_Z a c := fun s hs => (h' s hs).trans (h s hs)
theorem ra_Z_u {st : Nat → Int32} {s : Nat} {x : Int32} (h : st s ≠ 0) (hx : x ≠ 0) : ra_Z st (upd st s x) := by
  intro t ht
  by_cases z : t = s
  · subst z
    rw [pk_us]
    exact ⟨fun y => absurd y hx, fun y => absurd y h⟩
  · rw [pk_un z]
/-! the latest that was got -/
def ra_D (lg so sq go : Nat → Int32) : Prop := ∀ s, s < 10 → lg (3 * s) = so s ∧ lg (3 * s + 1) = sq s ∧ lg (3 * s + 2) = go s
theorem ra_D_put {lg so sq go : Nat → Int32} {s : Nat} {x y z : Int32} (h : ra_D lg so sq go) : ra_D (upd (upd (upd lg (3 * s) x) (3 * s + 1) y) (3 * s + 2) z) (upd so s x) (upd sq s y) (upd go s z) := by
  intro t ht
  obtain ⟨h1, h2, h3⟩ := h t ht
  by_cases e : t = s
  · subst e
    simp only [ra_u]
    refine ⟨?_, ?_, ?_⟩
    · rw [if_neg (by omega), if_neg (by omega), if_pos trivial, if_pos trivial]
    · rw [if_neg (by omega), if_pos trivial, if_pos trivial]
    · rw [if_pos trivial, if_pos trivial]
  · simp only [ra_u]
    refine ⟨?_, ?_, ?_⟩ <;> rw [if_neg (by omega), if_neg (by omega), if_neg (by omega), if_neg (by omega)] <;> assumption
/-! notes -/
def ra_N (st nb nt : Nat → Int32) : Prop := ∀ s, s < 10 → (st s = 0 → ∀ k, k < 14 → nt (14 * s + k) = 0) ∧ (st s ≠ 0 → ∀ k, k < 14 → (nt (14 * s + k) = 0 ∨ nt (14 * s + k) = 1) ∧ (bt (nb s) k = true ↔ nt (14 * s + k) ≠ 0) ∧ (k < 10 → st k = 0 → nt (14 * s + k) = 0))
theorem ra_N_sm {st st' nb nt : Nat → Int32} (h : ra_N st nb nt) (z : ra_Z st st') : ra_N st' nb nt := by
  intro s hs
  obtain ⟨a, b⟩ := h s hs
  refine ⟨fun y => a ((z s hs).mp y), fun y k hk => ?_⟩
  obtain ⟨c, d, e⟩ := b (fun w => y ((z s hs).mpr w)) k hk
  exact ⟨c, d, fun u w => e u ((z k u).mp w)⟩
theorem ra_b1 : ∀ i, i < 32 → bt 1 i = decide (i = 0) := by decide +kernel
theorem ra_nt {x : Bool} (h : ¬ x = true) : x = false := by cases x; rfl; exact absurd rfl h
theorem ra_bit (x : Int32) {k : Nat} (hk : k < 31) : (x >>> (nI k &&& 31)) &&& 1 = if bt x k then 1 else 0 := by
  apply b_ext
  intro i hi
  rw [b_and, b_sshr k (by omega) x hi, ra_b1 i hi]
  by_cases e : i = 0
  · subst e
    rw [Nat.add_zero, if_pos (by omega)]
    by_cases z : bt x k = true
    · rw [z, if_pos rfl]; rfl
    · rw [if_neg z, ra_nt z]; rfl
  · rw [decide_eq_false e, Bool.and_false]
    by_cases z : bt x k = true
    · rw [if_pos z, ra_b1 i hi, decide_eq_false e]
    · rw [if_neg z, b_0]
theorem ra_or (x : Int32) {k i : Nat} (hk : k < 31) (hi : i < 32) : bt (x ||| ((1 : Int32) <<< (nI k &&& 31))) i = (bt x i || decide (i = k)) := by
  rw [b_or, b_shl k (by omega) 1 hi, ra_b1 (i - k) (by omega)]
  congr 1
  by_cases e : i = k
  · subst e; simp
  · rw [decide_eq_false e]
    by_cases z : k ≤ i
    · rw [decide_eq_true z, decide_eq_false (by omega)]; rfl
    · rw [decide_eq_false z]; rfl
theorem ra_cl (x : Int32) {k i : Nat} (hk : k < 31) (hi : i < 32) : bt (x &&& (((1 : Int32) <<< (nI k &&& 31)) ^^^ (-1))) i = (bt x i && decide (i ≠ k)) := by
  rw [b_and, b_xor, b_m1 i hi, b_shl k (by omega) 1 hi, ra_b1 (i - k) (by omega)]
  congr 1
  by_cases e : i = k
  · subst e; simp
  · rw [decide_eq_true (p := i ≠ k) e]
    by_cases z : k ≤ i
    · rw [decide_eq_true z, decide_eq_false (by omega)]; rfl
    · rw [decide_eq_false z]; rfl
theorem ra_N_set {st nb nt : Nat → Int32} {s k : Nat} (h : ra_N st nb nt) (hs : s < 10) (hl : st s ≠ 0) (hk : k < 14) (hkl : k < 10 → st k ≠ 0) : ra_N st (upd nb s (nb s ||| ((1 : Int32) <<< (nI k &&& 31)))) (upd nt (14 * s + k) 1) := by
  intro t ht
  obtain ⟨a, b⟩ := h t ht
  by_cases z : t = s
  · subst z
    refine ⟨fun y => absurd y hl, fun y i hi => ?_⟩
    obtain ⟨c, d, e⟩ := b hl i hi
    rw [pk_us, ra_or _ (by omega) (by omega)]
    by_cases w : i = k
    · subst w
      rw [pk_us]
      refine ⟨Or.inr rfl, ⟨fun _ => by decide, fun _ => by simp⟩, fun u v => absurd v (hkl u)⟩
    · rw [pk_un (by omega), decide_eq_false w, Bool.or_false]
      exact ⟨c, d, e⟩
  · refine ⟨fun y i hi => ?_, fun y i hi => ?_⟩
    · rw [pk_un (by omega)]; exact a y i hi
    · rw [pk_un (by omega), pk_un z]; exact b y i hi
theorem ra_N_clr {st nb nt : Nat → Int32} {s k : Nat} (h : ra_N st nb nt) (hs : s < 10) (hk : k < 14) : ra_N st (upd nb s (nb s &&& (((1 : Int32) <<< (nI k &&& 31)) ^^^ (-1)))) (upd nt (14 * s + k) 0) := by
  intro t ht
  obtain ⟨a, b⟩ := h t ht
  by_cases z : t = s
  · subst z
    refine ⟨fun y i hi => ?_, fun y i hi => ?_⟩
    · by_cases w : i = k
      · subst w; exact pk_us
      · rw [pk_un (by omega)]; exact a y i hi
    · obtain ⟨c, d, e⟩ := b y i hi
      rw [pk_us, ra_cl _ (by omega) (by omega)]
      by_cases w : i = k
      · subst w
        rw [pk_us]
        refine ⟨Or.inl rfl, ⟨fun y => ?_, fun y => absurd rfl y⟩, fun _ _ => rfl⟩
        simp at y
      · rw [pk_un (by omega), decide_eq_true (by exact w), Bool.and_true]
        exact ⟨c, d, e⟩
  · refine ⟨fun y i hi => ?_, fun y i hi => ?_⟩
    · rw [pk_un (by omega)]; exact a y i hi
    · rw [pk_un (by omega), pk_un z]; exact b y i hi
theorem ra_N_end {st nb nb' nt nt' : Nat → Int32} {s : Nat} (h : ra_N st nb nt) (hs : s < 10) (h1 : ∀ t, t < 10 → ∀ i, i < 14 → bt (nb' t) i = (bt (nb t) i && decide (i ≠ s))) (h2 : ∀ j, j < 140 → nt' j = if j / 14 = s ∨ j % 14 = s then 0 else nt j) : ra_N (upd st s 0) nb' nt' := by
  intro t ht
  obtain ⟨a, b⟩ := h t ht
  have q : ∀ i, i < 14 → nt' (14 * t + i) = if t = s ∨ i = s then 0 else nt (14 * t + i) := by
    intro i hi
    rw [h2 _ (by omega), show (14 * t + i) / 14 = t by omega, show (14 * t + i) % 14 = i by omega]
  by_cases z : t = s
  · refine ⟨fun _ i hi => ?_, fun y => absurd ?_ y⟩
    · rw [q i hi, if_pos (Or.inl z)]
    · rw [z, pk_us]
  · rw [pk_un z]
    refine ⟨fun y i hi => ?_, fun y i hi => ?_⟩
    · rw [q i hi]
      split
      · rfl
      · exact a y i hi
    · obtain ⟨c, d, e⟩ := b y i hi
      rw [q i hi, h1 t ht i hi]
      by_cases w : i = s
      · rw [if_pos (Or.inr w), decide_eq_false (by simpa using w), Bool.and_false]
        exact ⟨Or.inl rfl, ⟨fun y => absurd y (by decide), fun y => absurd rfl y⟩, fun _ _ => rfl⟩
      · rw [if_neg (by simp [z, w]), decide_eq_true (by exact w), Bool.and_true]
        refine ⟨c, d, fun u v => e u ?_⟩
        rw [pk_un w] at v
        exact v
theorem ra_N_beg {st nb nt : Nat → Int32} {s : Nat} (h : ra_N st nb nt) (hs : s < 10) (hl : st s = 0) : ra_N (upd st s 1) (upd nb s 0) nt := by
  intro t ht
  obtain ⟨a, b⟩ := h t ht
  by_cases z : t = s
  · subst z
    refine ⟨fun y i hi => a hl i hi, fun y i hi => ?_⟩
    rw [pk_us, b_0, a hl i hi]
    exact ⟨Or.inl rfl, ⟨fun y => absurd y (by decide), fun y => absurd rfl y⟩, fun _ _ => rfl⟩
  · rw [pk_un z, pk_un z]
    refine ⟨a, fun y i hi => ?_⟩
    obtain ⟨c, d, e⟩ := b y i hi
    refine ⟨c, d, fun u v => e u ?_⟩
    by_cases w : i = s
    · rw [w, pk_us] at v; exact absurd v (by decide)
    · rw [pk_un w] at v; exact v
/-! counting -/
def ra_cn (f : Nat → Bool) : Nat → Nat
  | 0 => 0
  | n + 1 => ra_cn f n + (if f n = true then 1 else 0)
theorem ra_cn_le (f : Nat → Bool) : ∀ n, ra_cn f n ≤ n
  | 0 => Nat.le_refl _
  | n + 1 => by
    have := ra_cn_le f n
    simp only [ra_cn]
    split <;> omega
theorem ra_cn_eq {f g : Nat → Bool} : ∀ {n : Nat}, (∀ k, k < n → f k = g k) → ra_cn f n = ra_cn g n
  | 0, _ => rfl
  | n + 1, h => by
    simp only [ra_cn]
    rw [ra_cn_eq (n := n) (fun k hk => h k (by omega)), h n (by omega)]
theorem ra_cn_0 {f : Nat → Bool} : ∀ {n : Nat}, (∀ k, k < n → f k = false) → ra_cn f n = 0
  | 0, _ => rfl
  | n + 1, h => by
    simp only [ra_cn]
    rw [ra_cn_0 (n := n) (fun k hk => h k (by omega)), h n (by omega)]
    rfl
theorem ra_cn_one {f g : Nat → Bool} {q : Nat} (hg : g q = false) : ∀ {n : Nat}, q < n → (∀ k, k < n → k ≠ q → f k = g k) → ra_cn f n = ra_cn g n + (if f q = true then 1 else 0)
  | 0, h, _ => absurd h (by omega)
  | n + 1, h, e => by
    simp only [ra_cn]
    by_cases z : q = n
    · subst z
      rw [hg, ra_cn_eq (f := f) (g := g) (n := q) (fun k hk => e k (by omega) (by omega))]
      rfl
    · rw [ra_cn_one hg (n := n) (by omega) (fun k hk => e k (by omega)), e n (by omega) (by omega)]
      omega
theorem ra_cn_add (f : Nat → Bool) (a : Nat) : ∀ b, ra_cn f (a + b) = ra_cn f a + ra_cn (fun i => f (a + i)) b
  | 0 => rfl
  | b + 1 => by
    have := ra_cn_add f a b
    show ra_cn f (a + b) + (if f (a + b) = true then 1 else 0) = ra_cn f a + (ra_cn (fun i => f (a + i)) b + (if f (a + b) = true then 1 else 0))
    omega
theorem ra_cn_bij {N : Nat} {pl : Nat → Nat} (P : Nat → Bool) : ∀ {n : Nat} {u : Nat → Bool}, (∀ j, j < n → pl j < N ∧ u (pl j) = true) → (∀ i j, i < j → j < n → pl i ≠ pl j) → (∀ p, p < N → u p = true → ∃ j, j < n ∧ pl j = p) → ra_cn (fun j => P (pl j)) n = ra_cn (fun p => u p && P p) N
  | 0, u, _, _, h3 => by
    rw [ra_cn_0 (f := fun p => u p && P p) (n := N)]
    · rfl
    · intro p hp
      by_cases z : u p = true
      · obtain ⟨j, hj, -⟩ := h3 p hp z
        omega
      · show (u p && P p) = false
        rw [ra_nt z]; rfl
  | n + 1, u, h1, h2, h3 => by
    have ih := ra_cn_bij (N := N) (pl := pl) P (n := n) (u := fun p => u p && decide (p ≠ pl n)) (fun j hj => ⟨(h1 j (by omega)).1, by
        show (u (pl j) && decide (pl j ≠ pl n)) = true
        rw [(h1 j (by omega)).2, decide_eq_true (h2 j n hj (by omega))]; rfl⟩) (fun i j hi hj => h2 i j hi (by omega)) (fun p hp hu => by
        have hu' : (u p && decide (p ≠ pl n)) = true := hu
        rw [Bool.and_eq_true, decide_eq_true_eq] at hu'
        obtain ⟨j, hj, e⟩ := h3 p hp hu'.1
        refine ⟨j, ?_, e⟩
        by_cases z : j = n
        · rw [z] at e; exact absurd e.symm hu'.2
        · omega)
    obtain ⟨a, b⟩ := h1 n (by omega)
    show ra_cn (fun j => P (pl j)) n + (if P (pl n) = true then 1 else 0) = _
    rw [ih, ra_cn_one (f := fun p => u p && P p) (g := fun p => (u p && decide (p ≠ pl n)) && P p) (q := pl n) (by simp) a (fun k _ hk => by
      show (u k && P k) = ((u k && decide (k ≠ pl n)) && P k)
      rw [decide_eq_true hk, Bool.and_true])]
    show _ = _ + (if (u (pl n) && P (pl n)) = true then 1 else 0)
    rw [b, Bool.true_and]
