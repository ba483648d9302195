section
theorem pk_us {f : Nat → Int32} {k : Nat} {x : Int32} : upd f k x k = x := if_pos rfl
theorem pk_un {f : Nat → Int32} {k j : Nat} {x : Int32} (h : j ≠ k) : upd f k x j = f j := if_neg h
theorem pk_uLs {f : Nat → Int64} {k : Nat} {x : Int64} : vp_updL f k x k = x := if_pos rfl
theorem pk_uLn {f : Nat → Int64} {k j : Nat} {x : Int64} (h : j ≠ k) : vp_updL f k x j = f j := if_neg h
theorem pk_sub {a b : Nat} (h : b ≤ a) : nI a - nI b = nI (a - b) := by
  obtain ⟨c, rfl⟩ : ∃ c, a = c + b := ⟨a - b, by omega⟩
  rw [← nI_add, Int32.add_sub_cancel, Nat.add_sub_cancel]
theorem pk_m1 (n : Nat) : nI (n + 1) + (-1) = nI n := by
  rw [← nI_1, Int32.add_assoc, show (1 : Int32) + (-1) = 0 from rfl, Int32.add_zero]
theorem pk_mul (a b : Nat) : nI a * nI b = nI (a * b) := (Int32.ofNat_mul a b).symm
theorem pk_div {a d : Nat} (ha : a < 2 ^ 31) (h0 : 0 < d) (hd : d < 2 ^ 31) : nI a / nI d = nI (a / d) := by
  apply Int32.toInt_inj.mp
  rw [lg_idiv_nonneg (by rw [nI_toInt ha]; omega) (by rw [nI_toInt hd]; omega), nI_toInt ha, nI_toInt hd, nI_toInt (Nat.lt_of_le_of_lt (Nat.div_le_self a d) ha)]
  first | rfl | exact (Int.natCast_ediv _ _).symm
theorem pk_rem {a d : Nat} (ha : a < 2 ^ 31) (h0 : 0 < d) (hd : d < 2 ^ 31) : nI a - nI a / nI d * nI d = nI (a % d) := by
  rw [pk_div ha h0 hd, pk_mul, pk_sub (Nat.div_mul_le_self a d)]
  exact congrArg nI (by have := Nat.div_add_mod' a d; omega)
theorem pk_sub_toInt {a b : Nat} (ha : a < 2 ^ 30) (hb : b < 2 ^ 30) : (nI a - nI b).toInt = (a : Int) - b := by
  rw [Int32.toInt_sub, nI_toInt (by omega), nI_toInt (by omega)]
  exact Int.bmod_eq_of_le (by omega) (by omega)
theorem pk_sneg {a b : Nat} (hb : b < 2 ^ 30) (h : a < b) : nI a - nI b < 0 := by
  rw [Int32.lt_iff_toInt_lt, pk_sub_toInt (by omega) hb, show (0 : Int32).toInt = 0 from by decide]
  omega
theorem pk_ix (x : Int32) {n : Nat} (hn : n < 2 ^ 31) : x < 0 ∨ nI n ≤ x ∨ ∃ j : Nat, j < n ∧ x = nI j := by
  by_cases h : x < 0
  · exact Or.inl h
  · obtain ⟨j, hj, rfl⟩ := nI_of h
    by_cases h2 : j < n
    · exact Or.inr (Or.inr ⟨j, h2, rfl⟩)
    · exact Or.inr (Or.inl (nI_le (by omega) hj))
theorem pk_le {x y : Int32} {A B : Prop} (a b : Nat) (f : a ≤ b → A) (g : b < a → B) (hx : x = nI a := by rfl) (hy : y = nI b := by rfl) (ha : a < 2 ^ 31 := by omega) (hb : b < 2 ^ 31 := by omega) : (x ≤ y → A) ∧ (¬ x ≤ y → B) := by
  subst hx hy
  rw [nI_leI ha hb]
  exact ⟨f, fun z => g (by omega)⟩
theorem pk_lt {x y : Int32} {A B : Prop} (a b : Nat) (f : a < b → A) (g : b ≤ a → B) (hx : x = nI a := by rfl) (hy : y = nI b := by rfl) (ha : a < 2 ^ 31 := by omega) (hb : b < 2 ^ 31 := by omega) : (x < y → A) ∧ (¬ x < y → B) := by
  subst hx hy
  rw [nI_ltI ha hb]
  exact ⟨f, fun z => g (by omega)⟩
theorem pk_eq {x y : Int32} {A B : Prop} (a b : Nat) (f : a = b → A) (g : a ≠ b → B) (hx : x = nI a := by rfl) (hy : y = nI b := by rfl) (ha : a < 2 ^ 31 := by omega) (hb : b < 2 ^ 31 := by omega) : (x = y → A) ∧ (¬ x = y → B) := by
  subst hx hy
  rw [nI_eq ha hb]
  exact ⟨f, g⟩
theorem pk_in {x : Int32} (n N : Nat) (h : n < N) (hx : x = nI n := by rfl) (hN : N < 2 ^ 31 := by omega) : vp_in x N := by
  subst hx
  exact vp_in_nI h hN
theorem pk_cl {x : Int32} (n : Nat) (hx : x = nI n := by rfl) (h : n < 2 ^ 31 := by omega) : x.toNatClampNeg = n := by
  subst hx
  exact nI_clamp h
theorem pk_tn {n : Nat} (h : n < 2 ^ 32) : (nI n).toBitVec.toNat = n := Nat.mod_eq_of_lt h
theorem pk_and (x : Int32) {m : Int32} (k : Nat) (hm : m.toBitVec.toNat = 2 ^ k - 1) : x &&& m = nI (x.toBitVec.toNat % 2 ^ k) := by
  apply Int32.toBitVec_inj.mp
  apply BitVec.eq_of_toNat_eq
  rw [Int32.toBitVec_and, BitVec.toNat_and, hm, Nat.and_two_pow_sub_one_eq_mod]
  show _ = (BitVec.ofNat 32 _).toNat
  rw [BitVec.toNat_ofNat]
  exact (Nat.mod_eq_of_lt (Nat.lt_of_le_of_lt (Nat.mod_le _ _) x.toBitVec.isLt)).symm
theorem pk_andN {n : Nat} (h : n < 2 ^ 32) {m : Int32} (k : Nat) (hm : m.toBitVec.toNat = 2 ^ k - 1) : nI n &&& m = nI (n % 2 ^ k) := by
  rw [pk_and _ k hm, pk_tn h]
theorem pk_andE (x : Int32) {m : Int32} (k : Nat) (hm : m.toBitVec.toNat = 2 ^ k - 1) : ∃ j : Nat, j < 2 ^ k ∧ x &&& m = nI j := ⟨_, Nat.mod_lt _ (Nat.two_pow_pos k), pk_and x k hm⟩
theorem pk_andIn (x : Int32) {m : Int32} (k : Nat) (hm : m.toBitVec.toNat = 2 ^ k - 1) (hk : k ≤ 30) : vp_in (x &&& m) (2 ^ k) := by
  obtain ⟨j, hj, e⟩ := pk_andE x k hm
  rw [e]
  exact vp_in_nI hj (Nat.lt_of_le_of_lt (Nat.pow_le_pow_right (by decide) hk) (by decide))
theorem pk_shl (a s : Int32) (k : Nat) (hs : (s.toBitVec.smod 32).toNat = k) : (a <<< s).toBitVec.toNat = a.toBitVec.toNat * 2 ^ k % 2 ^ 32 := by
  show (a.toBitVec <<< (s.toBitVec.smod 32).toNat).toNat = _
  rw [hs, BitVec.toNat_shiftLeft, Nat.shiftLeft_eq]
theorem pk_shlN {n : Nat} (s : Int32) (k : Nat) (hs : (s.toBitVec.smod 32).toNat = k) (h : n * 2 ^ k < 2 ^ 32) : nI n <<< s = nI (n * 2 ^ k) := by
  apply Int32.toBitVec_inj.mp
  apply BitVec.eq_of_toNat_eq
  have hn : n < 2 ^ 32 := Nat.lt_of_le_of_lt (Nat.le_mul_of_pos_right n (Nat.two_pow_pos k)) h
  rw [pk_shl _ _ k hs, pk_tn hn, pk_tn h, Nat.mod_eq_of_lt h]
theorem pk_shr (a s : Int32) (k : Nat) (hs : (s.toBitVec.smod 32).toNat = k) : (a >>> s).toInt = a.toInt >>> k := by
  show (a.toBitVec.sshiftRight (s.toBitVec.smod 32).toNat).toInt = _
  rw [hs, BitVec.toInt_sshiftRight]
  rfl
theorem pk_shrN {n : Nat} (h : n < 2 ^ 31) (s : Int32) (k : Nat) (hs : (s.toBitVec.smod 32).toNat = k) : nI n >>> s = nI (n / 2 ^ k) := by
  apply Int32.toInt_inj.mp
  have h2 : n / 2 ^ k ≤ n := Nat.div_le_self _ _
  rw [pk_shr _ _ k hs, nI_toInt h, nI_toInt (by omega), Int.shiftRight_eq_div_pow]
  rfl
theorem pk_ushr (x s : Int32) (k : Nat) (hs : ((s.toUInt32 &&& Int32.toUInt32 31).toBitVec % 32).toNat = k) : (x.toUInt32 >>> (s.toUInt32 &&& Int32.toUInt32 31)).toInt32.toBitVec.toNat = x.toBitVec.toNat / 2 ^ k := by
  have e : (x.toUInt32 >>> (s.toUInt32 &&& Int32.toUInt32 31)).toInt32.toBitVec = x.toBitVec >>> k := by
    rw [← hs]
    exact UInt32.toBitVec_shiftRight _ _
  rw [e, BitVec.toNat_ushiftRight, Nat.shiftRight_eq_div_pow]
theorem pk_ushrN {n : Nat} (hn : n < 2 ^ 32) (s : Int32) (k : Nat) (hs : ((s.toUInt32 &&& Int32.toUInt32 31).toBitVec % 32).toNat = k) : ((nI n).toUInt32 >>> (s.toUInt32 &&& Int32.toUInt32 31)).toInt32 = nI (n / 2 ^ k) := by
  apply Int32.toBitVec_inj.mp
  apply BitVec.eq_of_toNat_eq
  rw [pk_ushr _ s k hs, pk_tn hn, pk_tn (Nat.lt_of_le_of_lt (Nat.div_le_self _ _) hn)]
theorem pk_lT {n : Nat} (h : n < 2 ^ 63) : (lN n).toInt = (n : Int) := lg_ofNat_toInt h
theorem pk_lLT {a b : Nat} (ha : a < 2 ^ 63) (hb : b < 2 ^ 63) : lN a < lN b ↔ a < b := by
  rw [Int64.lt_iff_toInt_lt, pk_lT ha, pk_lT hb]; omega
theorem pk_lLE {a b : Nat} (ha : a < 2 ^ 63) (hb : b < 2 ^ 63) : lN a ≤ lN b ↔ a ≤ b := by
  rw [Int64.le_iff_toInt_le, pk_lT ha, pk_lT hb]; omega
theorem pk_lEQ {a b : Nat} (ha : a < 2 ^ 63) (hb : b < 2 ^ 63) : lN a = lN b ↔ a = b := by
  rw [← Int64.toInt_inj, pk_lT ha, pk_lT hb]; omega
theorem pk_lOf {x : Int64} (h : ¬ x < 0) : ∃ k : Nat, k < 2 ^ 63 ∧ x = lN k := by
  rw [Int64.lt_iff_toInt_lt] at h
  have h0 : (0 : Int64).toInt = 0 := by decide
  have hx := Int64.toInt_lt x
  refine ⟨x.toInt.toNat, by omega, Int64.toInt_inj.mp ?_⟩
  rw [pk_lT (by omega)]
  omega
theorem pk_loop {σ : Type} (W : Nat → Nat → σ → Prop) (I : Nat → σ → Prop) (e i0 : Nat) (s : σ) (hi : i0 ≤ e) (h0 : I i0 s) (hx : ∀ n s, I e s → W (n + 1) e s)
    (hs : ∀ n i s, i < e → I i s → (∀ s', I (i + 1) s' → W n (i + 1) s') → W (n + 1) i s) : ∃ n, W n i0 s :=
  ⟨e + 1, loop_i W I e hx hs (e + 1) i0 s hi (by omega) h0⟩
theorem pk_loopD {σ : Type} (W : Nat → Nat → σ → Prop) (I : Nat → σ → Prop) (hx : ∀ n s, I 0 s → W (n + 1) 0 s)
    (hs : ∀ n i s, I (i + 1) s → (∀ s', I i s' → W n i s') → W (n + 1) (i + 1) s) : ∀ (e : Nat) (s : σ), I e s → W (e + 1) e s := by
  intro e
  induction e with
  | zero => exact fun s h => hx 0 s h
  | succ e ih => exact fun s h => hs (e + 1) e s h (fun s' h' => ih s' h')
theorem lp1 {A1 : Type} (W : Nat → A1 → Prop) (I : A1 → Prop) (μ : A1 → Nat) (hs : ∀ (n : Nat) (a1 : A1), I a1 → (∀ (b1 : A1), I b1 → μ b1 < μ a1 → W n b1) → W (n + 1) a1) (a1 : A1) (h : I a1) : ∃ n, W n a1 :=
  loop_m (σ := A1) (fun n s => W n s) (fun s => I s) (fun s => μ s) (fun n s hI hk => hs n s hI (fun b1 h9 hm => hk b1 h9 hm)) a1 h
theorem lp2 {A1 A2 : Type} (W : Nat → A1 → A2 → Prop) (I : A1 → A2 → Prop) (μ : A1 → A2 → Nat) (hs : ∀ (n : Nat) (a1 : A1) (a2 : A2), I a1 a2 → (∀ (b1 : A1) (b2 : A2), I b1 b2 → μ b1 b2 < μ a1 a2 → W n b1 b2) → W (n + 1) a1 a2) (a1 : A1) (a2 : A2) (h : I a1 a2) : ∃ n, W n a1 a2 :=
  loop_m (σ := A1 × A2) (fun n s => W n s.1 s.2) (fun s => I s.1 s.2) (fun s => μ s.1 s.2) (fun n s hI hk => hs n s.1 s.2 hI (fun b1 b2 h9 hm => hk (b1, b2) h9 hm)) (a1, a2) h
theorem lp3 {A1 A2 A3 : Type} (W : Nat → A1 → A2 → A3 → Prop) (I : A1 → A2 → A3 → Prop) (μ : A1 → A2 → A3 → Nat) (hs : ∀ (n : Nat) (a1 : A1) (a2 : A2) (a3 : A3), I a1 a2 a3 → (∀ (b1 : A1) (b2 : A2) (b3 : A3), I b1 b2 b3 → μ b1 b2 b3 < μ a1 a2 a3 → W n b1 b2 b3) → W (n + 1) a1 a2 a3) (a1 : A1) (a2 : A2) (a3 : A3) (h : I a1 a2 a3) : ∃ n, W n a1 a2 a3 :=
  loop_m (σ := A1 × A2 × A3) (fun n s => W n s.1 s.2.1 s.2.2) (fun s => I s.1 s.2.1 s.2.2) (fun s => μ s.1 s.2.1 s.2.2) (fun n s hI hk => hs n s.1 s.2.1 s.2.2 hI (fun b1 b2 b3 h9 hm => hk (b1, b2, b3) h9 hm)) (a1, a2, a3) h
theorem lp4 {A1 A2 A3 A4 : Type} (W : Nat → A1 → A2 → A3 → A4 → Prop) (I : A1 → A2 → A3 → A4 → Prop) (μ : A1 → A2 → A3 → A4 → Nat) (hs : ∀ (n : Nat) (a1 : A1) (a2 : A2) (a3 : A3) (a4 : A4), I a1 a2 a3 a4 → (∀ (b1 : A1) (b2 : A2) (b3 : A3) (b4 : A4), I b1 b2 b3 b4 → μ b1 b2 b3 b4 < μ a1 a2 a3 a4 → W n b1 b2 b3 b4) → W (n + 1) a1 a2 a3 a4) (a1 : A1) (a2 : A2) (a3 : A3) (a4 : A4) (h : I a1 a2 a3 a4) : ∃ n, W n a1 a2 a3 a4 :=
  loop_m (σ := A1 × A2 × A3 × A4) (fun n s => W n s.1 s.2.1 s.2.2.1 s.2.2.2) (fun s => I s.1 s.2.1 s.2.2.1 s.2.2.2) (fun s => μ s.1 s.2.1 s.2.2.1 s.2.2.2) (fun n s hI hk => hs n s.1 s.2.1 s.2.2.1 s.2.2.2 hI (fun b1 b2 b3 b4 h9 hm => hk (b1, b2, b3, b4) h9 hm)) (a1, a2, a3, a4) h
theorem lp5 {A1 A2 A3 A4 A5 : Type} (W : Nat → A1 → A2 → A3 → A4 → A5 → Prop) (I : A1 → A2 → A3 → A4 → A5 → Prop) (μ : A1 → A2 → A3 → A4 → A5 → Nat) (hs : ∀ (n : Nat) (a1 : A1) (a2 : A2) (a3 : A3) (a4 : A4) (a5 : A5), I a1 a2 a3 a4 a5 → (∀ (b1 : A1) (b2 : A2) (b3 : A3) (b4 : A4) (b5 : A5), I b1 b2 b3 b4 b5 → μ b1 b2 b3 b4 b5 < μ a1 a2 a3 a4 a5 → W n b1 b2 b3 b4 b5) → W (n + 1) a1 a2 a3 a4 a5) (a1 : A1) (a2 : A2) (a3 : A3) (a4 : A4) (a5 : A5) (h : I a1 a2 a3 a4 a5) : ∃ n, W n a1 a2 a3 a4 a5 :=
  loop_m (σ := A1 × A2 × A3 × A4 × A5) (fun n s => W n s.1 s.2.1 s.2.2.1 s.2.2.2.1 s.2.2.2.2) (fun s => I s.1 s.2.1 s.2.2.1 s.2.2.2.1 s.2.2.2.2) (fun s => μ s.1 s.2.1 s.2.2.1 s.2.2.2.1 s.2.2.2.2) (fun n s hI hk => hs n s.1 s.2.1 s.2.2.1 s.2.2.2.1 s.2.2.2.2 hI (fun b1 b2 b3 b4 b5 h9 hm => hk (b1, b2, b3, b4, b5) h9 hm)) (a1, a2, a3, a4, a5) h
theorem lp6 {A1 A2 A3 A4 A5 A6 : Type} (W : Nat → A1 → A2 → A3 → A4 → A5 → A6 → Prop) (I : A1 → A2 → A3 → A4 → A5 → A6 → Prop) (μ : A1 → A2 → A3 → A4 → A5 → A6 → Nat) (hs : ∀ (n : Nat) (a1 : A1) (a2 : A2) (a3 : A3) (a4 : A4) (a5 : A5) (a6 : A6), I a1 a2 a3 a4 a5 a6 → (∀ (b1 : A1) (b2 : A2) (b3 : A3) (b4 : A4) (b5 : A5) (b6 : A6), I b1 b2 b3 b4 b5 b6 → μ b1 b2 b3 b4 b5 b6 < μ a1 a2 a3 a4 a5 a6 → W n b1 b2 b3 b4 b5 b6) → W (n + 1) a1 a2 a3 a4 a5 a6) (a1 : A1) (a2 : A2) (a3 : A3) (a4 : A4) (a5 : A5) (a6 : A6) (h : I a1 a2 a3 a4 a5 a6) : ∃ n, W n a1 a2 a3 a4 a5 a6 :=
  loop_m (σ := A1 × A2 × A3 × A4 × A5 × A6) (fun n s => W n s.1 s.2.1 s.2.2.1 s.2.2.2.1 s.2.2.2.2.1 s.2.2.2.2.2) (fun s => I s.1 s.2.1 s.2.2.1 s.2.2.2.1 s.2.2.2.2.1 s.2.2.2.2.2) (fun s => μ s.1 s.2.1 s.2.2.1 s.2.2.2.1 s.2.2.2.2.1 s.2.2.2.2.2) (fun n s hI hk => hs n s.1 s.2.1 s.2.2.1 s.2.2.2.1 s.2.2.2.2.1 s.2.2.2.2.2 hI (fun b1 b2 b3 b4 b5 b6 h9 hm => hk (b1, b2, b3, b4, b5, b6) h9 hm)) (a1, a2, a3, a4, a5, a6) h
theorem lp7 {A1 A2 A3 A4 A5 A6 A7 : Type} (W : Nat → A1 → A2 → A3 → A4 → A5 → A6 → A7 → Prop) (I : A1 → A2 → A3 → A4 → A5 → A6 → A7 → Prop) (μ : A1 → A2 → A3 → A4 → A5 → A6 → A7 → Nat) (hs : ∀ (n : Nat) (a1 : A1) (a2 : A2) (a3 : A3) (a4 : A4) (a5 : A5) (a6 : A6) (a7 : A7), I a1 a2 a3 a4 a5 a6 a7 → (∀ (b1 : A1) (b2 : A2) (b3 : A3) (b4 : A4) (b5 : A5) (b6 : A6) (b7 : A7), I b1 b2 b3 b4 b5 b6 b7 → μ b1 b2 b3 b4 b5 b6 b7 < μ a1 a2 a3 a4 a5 a6 a7 → W n b1 b2 b3 b4 b5 b6 b7) → W (n + 1) a1 a2 a3 a4 a5 a6 a7) (a1 : A1) (a2 : A2) (a3 : A3) (a4 : A4) (a5 : A5) (a6 : A6) (a7 : A7) (h : I a1 a2 a3 a4 a5 a6 a7) : ∃ n, W n a1 a2 a3 a4 a5 a6 a7 :=
  loop_m (σ := A1 × A2 × A3 × A4 × A5 × A6 × A7) (fun n s => W n s.1 s.2.1 s.2.2.1 s.2.2.2.1 s.2.2.2.2.1 s.2.2.2.2.2.1 s.2.2.2.2.2.2) (fun s => I s.1 s.2.1 s.2.2.1 s.2.2.2.1 s.2.2.2.2.1 s.2.2.2.2.2.1 s.2.2.2.2.2.2) (fun s => μ s.1 s.2.1 s.2.2.1 s.2.2.2.1 s.2.2.2.2.1 s.2.2.2.2.2.1 s.2.2.2.2.2.2) (fun n s hI hk => hs n s.1 s.2.1 s.2.2.1 s.2.2.2.1 s.2.2.2.2.1 s.2.2.2.2.2.1 s.2.2.2.2.2.2 hI (fun b1 b2 b3 b4 b5 b6 b7 h9 hm => hk (b1, b2, b3, b4, b5, b6, b7) h9 hm)) (a1, a2, a3, a4, a5, a6, a7) h
theorem lp8 {A1 A2 A3 A4 A5 A6 A7 A8 : Type} (W : Nat → A1 → A2 → A3 → A4 → A5 → A6 → A7 → A8 → Prop) (I : A1 → A2 → A3 → A4 → A5 → A6 → A7 → A8 → Prop) (μ : A1 → A2 → A3 → A4 → A5 → A6 → A7 → A8 → Nat) (hs : ∀ (n : Nat) (a1 : A1) (a2 : A2) (a3 : A3) (a4 : A4) (a5 : A5) (a6 : A6) (a7 : A7) (a8 : A8), I a1 a2 a3 a4 a5 a6 a7 a8 → (∀ (b1 : A1) (b2 : A2) (b3 : A3) (b4 : A4) (b5 : A5) (b6 : A6) (b7 : A7) (b8 : A8), I b1 b2 b3 b4 b5 b6 b7 b8 → μ b1 b2 b3 b4 b5 b6 b7 b8 < μ a1 a2 a3 a4 a5 a6 a7 a8 → W n b1 b2 b3 b4 b5 b6 b7 b8) → W (n + 1) a1 a2 a3 a4 a5 a6 a7 a8) (a1 : A1) (a2 : A2) (a3 : A3) (a4 : A4) (a5 : A5) (a6 : A6) (a7 : A7) (a8 : A8) (h : I a1 a2 a3 a4 a5 a6 a7 a8) : ∃ n, W n a1 a2 a3 a4 a5 a6 a7 a8 :=
  loop_m (σ := A1 × A2 × A3 × A4 × A5 × A6 × A7 × A8) (fun n s => W n s.1 s.2.1 s.2.2.1 s.2.2.2.1 s.2.2.2.2.1 s.2.2.2.2.2.1 s.2.2.2.2.2.2.1 s.2.2.2.2.2.2.2) (fun s => I s.1 s.2.1 s.2.2.1 s.2.2.2.1 s.2.2.2.2.1 s.2.2.2.2.2.1 s.2.2.2.2.2.2.1 s.2.2.2.2.2.2.2) (fun s => μ s.1 s.2.1 s.2.2.1 s.2.2.2.1 s.2.2.2.2.1 s.2.2.2.2.2.1 s.2.2.2.2.2.2.1 s.2.2.2.2.2.2.2) (fun n s hI hk => hs n s.1 s.2.1 s.2.2.1 s.2.2.2.1 s.2.2.2.2.1 s.2.2.2.2.2.1 s.2.2.2.2.2.2.1 s.2.2.2.2.2.2.2 hI (fun b1 b2 b3 b4 b5 b6 b7 b8 h9 hm => hk (b1, b2, b3, b4, b5, b6, b7, b8) h9 hm)) (a1, a2, a3, a4, a5, a6, a7, a8) h
theorem lp9 {A1 A2 A3 A4 A5 A6 A7 A8 A9 : Type} (W : Nat → A1 → A2 → A3 → A4 → A5 → A6 → A7 → A8 → A9 → Prop) (I : A1 → A2 → A3 → A4 → A5 → A6 → A7 → A8 → A9 → Prop) (μ : A1 → A2 → A3 → A4 → A5 → A6 → A7 → A8 → A9 → Nat) (hs : ∀ (n : Nat) (a1 : A1) (a2 : A2) (a3 : A3) (a4 : A4) (a5 : A5) (a6 : A6) (a7 : A7) (a8 : A8) (a9 : A9), I a1 a2 a3 a4 a5 a6 a7 a8 a9 → (∀ (b1 : A1) (b2 : A2) (b3 : A3) (b4 : A4) (b5 : A5) (b6 : A6) (b7 : A7) (b8 : A8) (b9 : A9), I b1 b2 b3 b4 b5 b6 b7 b8 b9 → μ b1 b2 b3 b4 b5 b6 b7 b8 b9 < μ a1 a2 a3 a4 a5 a6 a7 a8 a9 → W n b1 b2 b3 b4 b5 b6 b7 b8 b9) → W (n + 1) a1 a2 a3 a4 a5 a6 a7 a8 a9) (a1 : A1) (a2 : A2) (a3 : A3) (a4 : A4) (a5 : A5) (a6 : A6) (a7 : A7) (a8 : A8) (a9 : A9) (h : I a1 a2 a3 a4 a5 a6 a7 a8 a9) : ∃ n, W n a1 a2 a3 a4 a5 a6 a7 a8 a9 :=
  loop_m (σ := A1 × A2 × A3 × A4 × A5 × A6 × A7 × A8 × A9) (fun n s => W n s.1 s.2.1 s.2.2.1 s.2.2.2.1 s.2.2.2.2.1 s.2.2.2.2.2.1 s.2.2.2.2.2.2.1 s.2.2.2.2.2.2.2.1 s.2.2.2.2.2.2.2.2) (fun s => I s.1 s.2.1 s.2.2.1 s.2.2.2.1 s.2.2.2.2.1 s.2.2.2.2.2.1 s.2.2.2.2.2.2.1 s.2.2.2.2.2.2.2.1 s.2.2.2.2.2.2.2.2) (fun s => μ s.1 s.2.1 s.2.2.1 s.2.2.2.1 s.2.2.2.2.1 s.2.2.2.2.2.1 s.2.2.2.2.2.2.1 s.2.2.2.2.2.2.2.1 s.2.2.2.2.2.2.2.2) (fun n s hI hk => hs n s.1 s.2.1 s.2.2.1 s.2.2.2.1 s.2.2.2.2.1 s.2.2.2.2.2.1 s.2.2.2.2.2.2.1 s.2.2.2.2.2.2.2.1 s.2.2.2.2.2.2.2.2 hI (fun b1 b2 b3 b4 b5 b6 b7 b8 b9 h9 hm => hk (b1, b2, b3, b4, b5, b6, b7, b8, b9) h9 hm)) (a1, a2, a3, a4, a5, a6, a7, a8, a9) h
/-! ===== Int32 by its bits: bt x i ===== -/
def bt (x : Int32) (i : Nat) : Bool := x.toBitVec.getLsbD i
theorem b_ext {x y : Int32} (h : ∀ i, i < 32 → bt x i = bt y i) : x = y := Int32.toBitVec_inj.mp (BitVec.eq_of_getLsbD_eq (fun i hi => h i hi))
theorem b_or (x y : Int32) (i : Nat) : bt (x ||| y) i = (bt x i || bt y i) := by unfold bt; rw [Int32.toBitVec_or, BitVec.getLsbD_or]
theorem b_and (x y : Int32) (i : Nat) : bt (x &&& y) i = (bt x i && bt y i) := by unfold bt; rw [Int32.toBitVec_and, BitVec.getLsbD_and]
theorem b_xor (x y : Int32) (i : Nat) : bt (x ^^^ y) i = (bt x i ^^ bt y i) := by unfold bt; rw [Int32.toBitVec_xor, BitVec.getLsbD_xor]
theorem b_big {x : Int32} {i : Nat} (h : 32 ≤ i) : bt x i = false := BitVec.getLsbD_of_ge _ _ h
theorem b_255 (i : Nat) : bt 255 i = decide (i < 8) := by
  rcases Nat.lt_or_ge i 32 with h | h
  · exact (by decide +kernel : ∀ i, i < 32 → bt 255 i = decide (i < 8)) i h
  · rw [b_big h, decide_eq_false (by omega)]
theorem b_65535 (i : Nat) : bt 65535 i = decide (i < 16) := by
  rcases Nat.lt_or_ge i 32 with h | h
  · exact (by decide +kernel : ∀ i, i < 32 → bt 65535 i = decide (i < 16)) i h
  · rw [b_big h, decide_eq_false (by omega)]
theorem b_m1 : ∀ i, i < 32 → bt (-1) i = true := by decide +kernel
theorem b_0 (i : Nat) : bt 0 i = false := BitVec.getLsbD_zero
theorem s_l : ∀ n, n < 32 → ((nI n &&& 31).toBitVec.smod 32).toNat = n := by decide +kernel
theorem s_u : ∀ n, n < 32 → (((nI n).toUInt32 &&& Int32.toUInt32 31).toBitVec % 32).toNat = n := by decide +kernel
theorem b_shl (n : Nat) (hn : n < 32) (x : Int32) {i : Nat} (hi : i < 32) : bt (x <<< (nI n &&& 31)) i = (decide (n ≤ i) && bt x (i - n)) := by
  unfold bt
  rw [Int32.toBitVec_shiftLeft]
  show (x.toBitVec <<< ((nI n &&& 31).toBitVec.smod 32).toNat).getLsbD i = _
  rw [s_l n hn, BitVec.getLsbD_shiftLeft]
  rcases Nat.lt_or_ge i n with h | h
  · simp [h, Nat.not_le.mpr h]
  · simp [hi, h, Nat.not_lt.mpr h]
theorem b_ushr (n : Nat) (hn : n < 32) (x : Int32) (i : Nat) : bt ((x.toUInt32 >>> ((nI n).toUInt32 &&& Int32.toUInt32 31)).toInt32) i = bt x (n + i) := by
  show (x.toUInt32 >>> ((nI n).toUInt32 &&& Int32.toUInt32 31)).toBitVec.getLsbD i = x.toUInt32.toBitVec.getLsbD (n + i)
  rw [UInt32.toBitVec_shiftRight]
  show (x.toUInt32.toBitVec >>> (((nI n).toUInt32 &&& Int32.toUInt32 31).toBitVec % 32).toNat).getLsbD i = _
  rw [s_u n hn, BitVec.getLsbD_ushiftRight]
theorem b_sshr (n : Nat) (hn : n < 32) (x : Int32) {i : Nat} (hi : i < 32) : bt (x >>> (nI n &&& 31)) i = if n + i < 32 then bt x (n + i) else bt x 31 := by
  unfold bt
  rw [Int32.toBitVec_shiftRight]
  show (x.toBitVec.sshiftRight ((nI n &&& 31).toBitVec.smod 32).toNat).getLsbD i = _
  rw [s_l n hn, BitVec.getLsbD_sshiftRight, BitVec.msb_eq_getLsbD_last]
  simp [hi]
theorem b_shl8 (x : Int32) {i : Nat} (hi : i < 32) : bt (x <<< ((8 : Int32) &&& 31)) i = (decide (8 ≤ i) && bt x (i - 8)) := b_shl 8 (by omega) x hi
theorem b_shl16 (x : Int32) {i : Nat} (hi : i < 32) : bt (x <<< ((16 : Int32) &&& 31)) i = (decide (16 ≤ i) && bt x (i - 16)) := b_shl 16 (by omega) x hi
theorem b_shl24 (x : Int32) {i : Nat} (hi : i < 32) : bt (x <<< ((24 : Int32) &&& 31)) i = (decide (24 ≤ i) && bt x (i - 24)) := b_shl 24 (by omega) x hi
theorem b_sshr8 (x : Int32) {i : Nat} (hi : i < 32) : bt (x >>> ((8 : Int32) &&& 31)) i = if 8 + i < 32 then bt x (8 + i) else bt x 31 := b_sshr 8 (by omega) x hi
end
section
/-! the relation's pieces, and what each step does to them -/
theorem ra_us {f : Nat → Int32} {k : Nat} {x : Int32} (h : f k = x) : upd f k x = f := by
  funext j
  unfold upd
  split
  · rename_i e; rw [e, h]
  · rfl
theorem ra_u (f : Nat → Int32) (k : Nat) (x : Int32) (j : Nat) : upd f k x j = if j = k then x else f j := rfl
theorem ra_uL (f : Nat → Int64) (k : Nat) (x : Int64) (j : Nat) : vp_updL f k x j = if j = k then x else f j := rfl
theorem ra_c {s : Nat} (h : s < 1000) : (nI s).toNatClampNeg = s := nI_clamp (by omega)
/-! endpoints -/
def ra_E (B : Nat) (st ep bo : Nat → Int32) : Prop := ∀ s, s < 10 → ∃ q, q ≤ B ∧ ep s = nI (16 * q + s) ∧ (st s = 0 → bo s = nI q) ∧ (st s ≠ 0 → bo s = nI (q + 1))
theorem ra_E_y {B s : Nat} {st ep bo : Nat → Int32} (h : ra_E B st ep bo) (hs : s < 10) (hl : st s ≠ 0) : 16 * (bo s - 1) + nI s = ep s := by
  obtain ⟨q, hq, e, -, b⟩ := h s hs
  rw [b hl, nI_pred, e]
  show nI 16 * nI q + nI s = _
  rw [pk_mul, nI_add]
theorem ra_E_and {B s : Nat} {st ep bo : Nat → Int32} (hB : B ≤ 2 ^ 26) (h : ra_E B st ep bo) (hs : s < 10) : ep s &&& 15 = nI s := by
  obtain ⟨q, hq, e, -, -⟩ := h s hs
  rw [e, pk_andN (by omega) 4 (by decide)]
  exact congrArg nI (by omega)
theorem ra_E_pos {B s : Nat} {st ep bo : Nat → Int32} (hB : B ≤ 2 ^ 26) (h : ra_E B st ep bo) (hs : s < 10) : 0 ≤ ep s := by
  obtain ⟨q, hq, e, -, -⟩ := h s hs
  rw [e]
  exact nI_pos' (by omega)
theorem ra_E_ne {B s : Nat} {st ep bo : Nat → Int32} (hB : B ≤ 2 ^ 26) (h : ra_E B st ep bo) (hs : s < 10) : ep s ≠ -1 := by
  intro z
  have := ra_E_pos hB h hs
  rw [z] at this
  exact absurd this (by decide)
theorem ra_E_inj {B s t : Nat} {st ep bo : Nat → Int32} (hB : B ≤ 2 ^ 26) (h : ra_E B st ep bo) (hs : s < 10) (ht : t < 10) (e : ep s = ep t) : s = t := by
  obtain ⟨q, hq, e1, -, -⟩ := h s hs
  obtain ⟨q', hq', e2, -, -⟩ := h t ht
  rw [e1, e2, nI_eq (by omega) (by omega)] at e
  omega
theorem ra_E_sm {B : Nat} {st st' ep bo : Nat → Int32} (h : ra_E B st ep bo) (hz : ∀ s, s < 10 → (st' s = 0 ↔ st s = 0)) : ra_E B st' ep bo := by
  intro s hs
  obtain ⟨q, hq, e, a, b⟩ := h s hs
  exact ⟨q, hq, e, fun z => a ((hz s hs).mp z), fun z => b (fun y => z ((hz s hs).mpr y))⟩
theorem ra_E_mono {B B' : Nat} {st ep bo : Nat → Int32} (hB : B ≤ B') (h : ra_E B st ep bo) : ra_E B' st ep bo := by
  intro s hs
  obtain ⟨q, hq, e⟩ := h s hs
  exact ⟨q, by omega, e⟩
theorem ra_E_end {B s : Nat} {st ep bo : Nat → Int32} (h : ra_E B st ep bo) (hs : s < 10) (hl : st s ≠ 0) : ra_E (B + 1) (upd st s 0) (upd ep s (ep s + 16)) bo := by
  intro t ht
  obtain ⟨q, hq, e, a, b⟩ := h t ht
  by_cases z : t = s
  · subst z
    refine ⟨q + 1, by omega, ?_, fun _ => b hl, fun y => absurd pk_us y⟩
    rw [pk_us, e]
    show nI _ + nI 16 = _
    rw [nI_add]
    exact congrArg nI (by omega)
  · refine ⟨q, by omega, ?_, ?_, ?_⟩
    · rw [pk_un z, e]
    · rw [pk_un z]; exact a
    · rw [pk_un z]; exact b
theorem ra_E_beg {B s : Nat} {st ep bo : Nat → Int32} (h : ra_E B st ep bo) (hs : s < 10) (hl : st s = 0) : ra_E B (upd st s 1) ep (upd bo s (bo s + 1)) := by
  intro t ht
  obtain ⟨q, hq, e, a, b⟩ := h t ht
  by_cases z : t = s
  · subst z
    refine ⟨q, hq, e, fun y => ?_, fun y => ?_⟩
    · rw [pk_us] at y; exact absurd y (by decide)
    · rw [pk_us, a hl, nI_1]
  · refine ⟨q, hq, e, ?_, ?_⟩
    · rw [pk_un z, pk_un z]; exact a
    · rw [pk_un z, pk_un z]; exact b
/-! who came earlier -/
def ra_O (B c m : Nat) (sn : Nat → Int64) (mo : Nat → Int32) : Prop := c ≤ B ∧ m ≤ B ∧ ∃ a b : Nat → Nat, (∀ s, s < 10 → sn s = lN (a s) ∧ mo s = nI (b s) ∧ a s ≤ c ∧ b s ≤ m) ∧ ∀ s t, s < 10 → t < 10 → (a s < a t ↔ b s < b t)
theorem ra_O_lt {B c m s t : Nat} {sn : Nat → Int64} {mo : Nat → Int32} (hB : B ≤ 2 ^ 26) (h : ra_O B c m sn mo) (hs : s < 10) (ht : t < 10) : sn s < sn t ↔ mo s < mo t := by
  obtain ⟨hc, hm, a, b, h1, h2⟩ := h
  obtain ⟨e1, e2, l1, l2⟩ := h1 s hs
  obtain ⟨e3, e4, l3, l4⟩ := h1 t ht
  rw [e1, e2, e3, e4, pk_lLT (by omega) (by omega), nI_ltI (by omega) (by omega)]
  exact h2 s t hs ht
theorem ra_O_mono {B B' c m : Nat} {sn : Nat → Int64} {mo : Nat → Int32} (hB : B ≤ B') (h : ra_O B c m sn mo) : ra_O B' c m sn mo := by
  obtain ⟨hc, hm, h⟩ := h
  exact ⟨by omega, by omega, h⟩
theorem ra_O_c {B c m : Nat} {sn : Nat → Int64} {mo : Nat → Int32} (h : ra_O B c m sn mo) : ra_O (B + 1) (c + 1) m sn mo := by
  obtain ⟨hc, hm, a, b, h1, h2⟩ := h
  refine ⟨by omega, by omega, a, b, fun s hs => ?_, h2⟩
  obtain ⟨e1, e2, l1, l2⟩ := h1 s hs
  exact ⟨e1, e2, by omega, l2⟩
theorem ra_O_last {B c m s : Nat} {sn : Nat → Int64} {mo : Nat → Int32} (h : ra_O B c m sn mo) (hs : s < 10) : ra_O (B + 1) (c + 1) (m + 1) (vp_updL sn s (lN (c + 1))) (upd mo s (nI (m + 1))) := by
  obtain ⟨hc, hm, a, b, h1, h2⟩ := h
  refine ⟨by omega, by omega, fun t => if t = s then c + 1 else a t, fun t => if t = s then m + 1 else b t, fun t ht => ?_, fun t t' ht ht' => ?_⟩
  · obtain ⟨e1, e2, l1, l2⟩ := h1 t ht
    by_cases z : t = s
    · subst z
      dsimp only
      exact ⟨by rw [pk_uLs, if_pos rfl], by rw [pk_us, if_pos rfl], by rw [if_pos rfl]; omega, by rw [if_pos rfl]; omega⟩
    · dsimp only
      exact ⟨by rw [pk_uLn z, if_neg z]; exact e1, by rw [pk_un z, if_neg z]; exact e2, by rw [if_neg z]; omega, by rw [if_neg z]; omega⟩
  · obtain ⟨-, -, l1, l2⟩ := h1 t ht
    obtain ⟨-, -, l3, l4⟩ := h1 t' ht'
    have hh := h2 t t' ht ht'
    by_cases z : t = s
    · by_cases z' : t' = s
      · simp only [if_pos z, if_pos z']; omega
      · simp only [if_pos z, if_neg z']; omega
    · by_cases z' : t' = s
      · simp only [if_neg z, if_pos z']; omega
      · simp only [if_neg z, if_neg z']; exact hh
/-! who waits for whom -/
def ra_W (st ep pt ot rs : Nat → Int32) : Prop := ∀ s, s < 10 → (st s = 1 → pt s = ep s) ∧ (st s ≠ 0 → st s ≠ 1 → pt s = ot s ∧ rs s = 0 ∧ (pt s = -1 ∨ ∃ t, t < 10 ∧ st t ≠ 0 ∧ pt s = ep t))
theorem ra_W_ready {st ep pt ot rs : Nat → Int32} {s : Nat} {x : Int32} (h : ra_W st ep pt ot rs) (hs : s < 10) : ra_W (upd st s 1) ep (upd pt s (ep s)) ot (upd rs s x) := by
  intro t ht
  by_cases z : t = s
  · subst z
    exact ⟨fun _ => pk_us, fun _ y => absurd pk_us y⟩
  · rw [pk_un z, pk_un z, pk_un z]
    obtain ⟨h1, h2⟩ := h t ht
    refine ⟨h1, fun a b => ?_⟩
    obtain ⟨e1, e2, e3⟩ := h2 a b
    refine ⟨e1, e2, e3.imp id ?_⟩
    rintro ⟨w, hw, hl, e⟩
    refine ⟨w, hw, ?_, e⟩
    by_cases y : w = s
    · rw [y, pk_us]; decide
    · rw [pk_un y]; exact hl
theorem ra_W_ready0 {st ep pt ot rs : Nat → Int32} {s : Nat} (h : ra_W st ep pt ot rs) (hs : s < 10) : ra_W (upd st s 1) ep (upd pt s (ep s)) ot rs := by
  have := ra_W_ready (x := rs s) h hs
  rwa [ra_us rfl] at this
theorem ra_W_wait {st ep pt ot rs : Nat → Int32} {s : Nat} {how whom : Int32} (h : ra_W st ep pt ot rs) (hs : s < 10) (h0 : how ≠ 0) (h1' : how ≠ 1) (hw : whom = -1 ∨ ∃ t, t < 10 ∧ st t ≠ 0 ∧ whom = ep t) : ra_W (upd st s how) ep (upd pt s whom) (upd ot s whom) (upd rs s 0) := by
  have lv : ∀ w, st w ≠ 0 → upd st s how w ≠ 0 := by
    intro w hl
    by_cases y : w = s
    · rw [y, pk_us]; exact h0
    · rw [pk_un y]; exact hl
  intro t ht
  by_cases z : t = s
  · subst z
    refine ⟨fun y => absurd (pk_us.symm.trans y) h1', fun _ _ => ⟨?_, pk_us, ?_⟩⟩
    · rw [pk_us, pk_us]
    · rw [pk_us]
      exact hw.imp id (fun ⟨w, hw, hl, e⟩ => ⟨w, hw, lv w hl, e⟩)
  · rw [pk_un z, pk_un z, pk_un z, pk_un z]
    obtain ⟨h1, h2⟩ := h t ht
    refine ⟨h1, fun a b => ?_⟩
    obtain ⟨e1, e2, e3⟩ := h2 a b
    exact ⟨e1, e2, e3.imp id (fun ⟨w, hw, hl, e⟩ => ⟨w, hw, lv w hl, e⟩)⟩
/-! same ones alive -/
def ra_Z (st st' : Nat → Int32) : Prop := ∀ s, s < 10 → (st' s = 0 ↔ st s = 0)
theorem ra_Z_rf (st : Nat → Int32) : ra_Z st st := fun _ _ => Iff.rfl
theorem ra_Z_tr {a b c : Nat → Int32} (h : ra_Z a b) (h' : ra_Z b c) : ra_Z a c := fun s hs => (h' s hs).trans (h s hs)
theorem ra_Z_u {st : Nat → Int32} {s : Nat} {x : Int32} (h : st s ≠ 0) (hx : x ≠ 0) : ra_Z st (upd st s x) := by
  intro t ht
  by_cases z : t = s
  · subst z
    rw [pk_us]
    exact ⟨fun y => absurd y hx, fun y => absurd y h⟩
  · rw [pk_un z]
/-! the latest that was got -/
def ra_D (lg so sq go : Nat → Int32) : Prop := ∀ s, s < 10 → lg (3 * s) = so s ∧ lg (3 * s + 1) = sq s ∧ lg (3 * s + 2) = go s
theorem ra_D_put {lg so sq go : Nat → Int32} {s : Nat} {x y z : Int32} (h : ra_D lg so sq go) : ra_D (upd (upd (upd lg (3 * s) x) (3 * s + 1) y) (3 * s + 2) z) (upd so s x) (upd sq s y) (upd go s z) := by
  intro t ht
  obtain ⟨h1, h2, h3⟩ := h t ht
  by_cases e : t = s
  · subst e
    simp only [ra_u]
    refine ⟨?_, ?_, ?_⟩
    · rw [if_neg (by omega), if_neg (by omega), if_pos trivial, if_pos trivial]
    · rw [if_neg (by omega), if_pos trivial, if_pos trivial]
    · rw [if_pos trivial, if_pos trivial]
  · simp only [ra_u]
    refine ⟨?_, ?_, ?_⟩ <;> rw [if_neg (by omega), if_neg (by omega), if_neg (by omega), if_neg (by omega)] <;> assumption
/-! notes -/
def ra_N (st nb nt : Nat → Int32) : Prop := ∀ s, s < 10 → (st s = 0 → ∀ k, k < 14 → nt (14 * s + k) = 0) ∧ (st s ≠ 0 → ∀ k, k < 14 → (nt (14 * s + k) = 0 ∨ nt (14 * s + k) = 1) ∧ (bt (nb s) k = true ↔ nt (14 * s + k) ≠ 0) ∧ (k < 10 → st k = 0 → nt (14 * s + k) = 0))
theorem ra_N_sm {st st' nb nt : Nat → Int32} (h : ra_N st nb nt) (z : ra_Z st st') : ra_N st' nb nt := by
  intro s hs
  obtain ⟨a, b⟩ := h s hs
  refine ⟨fun y => a ((z s hs).mp y), fun y k hk => ?_⟩
  obtain ⟨c, d, e⟩ := b (fun w => y ((z s hs).mpr w)) k hk
  exact ⟨c, d, fun u w => e u ((z k u).mp w)⟩
theorem ra_b1 : ∀ i, i < 32 → bt 1 i = decide (i = 0) := by decide +kernel
theorem ra_nt {x : Bool} (h : ¬ x = true) : x = false := by cases x; rfl; exact absurd rfl h
theorem ra_bit (x : Int32) {k : Nat} (hk : k < 31) : (x >>> (nI k &&& 31)) &&& 1 = if bt x k then 1 else 0 := by
  apply b_ext
  intro i hi
  rw [b_and, b_sshr k (by omega) x hi, ra_b1 i hi]
  by_cases e : i = 0
  · subst e
    rw [Nat.add_zero, if_pos (by omega)]
    by_cases z : bt x k = true
    · rw [z, if_pos rfl]; rfl
    · rw [if_neg z, ra_nt z]; rfl
  · rw [decide_eq_false e, Bool.and_false]
    by_cases z : bt x k = true
    · rw [if_pos z, ra_b1 i hi, decide_eq_false e]
    · rw [if_neg z, b_0]
theorem ra_or (x : Int32) {k i : Nat} (hk : k < 31) (hi : i < 32) : bt (x ||| ((1 : Int32) <<< (nI k &&& 31))) i = (bt x i || decide (i = k)) := by
  rw [b_or, b_shl k (by omega) 1 hi, ra_b1 (i - k) (by omega)]
  congr 1
  by_cases e : i = k
  · subst e; simp
  · rw [decide_eq_false e]
    by_cases z : k ≤ i
    · rw [decide_eq_true z, decide_eq_false (by omega)]; rfl
    · rw [decide_eq_false z]; rfl
theorem ra_cl (x : Int32) {k i : Nat} (hk : k < 31) (hi : i < 32) : bt (x &&& (((1 : Int32) <<< (nI k &&& 31)) ^^^ (-1))) i = (bt x i && decide (i ≠ k)) := by
  rw [b_and, b_xor, b_m1 i hi, b_shl k (by omega) 1 hi, ra_b1 (i - k) (by omega)]
  congr 1
  by_cases e : i = k
  · subst e; simp
  · rw [decide_eq_true (p := i ≠ k) e]
    by_cases z : k ≤ i
    · rw [decide_eq_true z, decide_eq_false (by omega)]; rfl
    · rw [decide_eq_false z]; rfl
theorem ra_N_set {st nb nt : Nat → Int32} {s k : Nat} (h : ra_N st nb nt) (hs : s < 10) (hl : st s ≠ 0) (hk : k < 14) (hkl : k < 10 → st k ≠ 0) : ra_N st (upd nb s (nb s ||| ((1 : Int32) <<< (nI k &&& 31)))) (upd nt (14 * s + k) 1) := by
  intro t ht
  obtain ⟨a, b⟩ := h t ht
  by_cases z : t = s
  · subst z
    refine ⟨fun y => absurd y hl, fun y i hi => ?_⟩
    obtain ⟨c, d, e⟩ := b hl i hi
    rw [pk_us, ra_or _ (by omega) (by omega)]
    by_cases w : i = k
    · subst w
      rw [pk_us]
      refine ⟨Or.inr rfl, ⟨fun _ => by decide, fun _ => by simp⟩, fun u v => absurd v (hkl u)⟩
    · rw [pk_un (by omega), decide_eq_false w, Bool.or_false]
      exact ⟨c, d, e⟩
  · refine ⟨fun y i hi => ?_, fun y i hi => ?_⟩
    · rw [pk_un (by omega)]; exact a y i hi
    · rw [pk_un (by omega), pk_un z]; exact b y i hi
theorem ra_N_clr {st nb nt : Nat → Int32} {s k : Nat} (h : ra_N st nb nt) (hs : s < 10) (hk : k < 14) : ra_N st (upd nb s (nb s &&& (((1 : Int32) <<< (nI k &&& 31)) ^^^ (-1)))) (upd nt (14 * s + k) 0) := by
  intro t ht
  obtain ⟨a, b⟩ := h t ht
  by_cases z : t = s
  · subst z
    refine ⟨fun y i hi => ?_, fun y i hi => ?_⟩
    · by_cases w : i = k
      · subst w; exact pk_us
      · rw [pk_un (by omega)]; exact a y i hi
    · obtain ⟨c, d, e⟩ := b y i hi
      rw [pk_us, ra_cl _ (by omega) (by omega)]
      by_cases w : i = k
      · subst w
        rw [pk_us]
        refine ⟨Or.inl rfl, ⟨fun y => ?_, fun y => absurd rfl y⟩, fun _ _ => rfl⟩
        simp at y
      · rw [pk_un (by omega), decide_eq_true (by exact w), Bool.and_true]
        exact ⟨c, d, e⟩
  · refine ⟨fun y i hi => ?_, fun y i hi => ?_⟩
    · rw [pk_un (by omega)]; exact a y i hi
    · rw [pk_un (by omega), pk_un z]; exact b y i hi
theorem ra_N_end {st nb nb' nt nt' : Nat → Int32} {s : Nat} (h : ra_N st nb nt) (hs : s < 10) (h1 : ∀ t, t < 10 → ∀ i, i < 14 → bt (nb' t) i = (bt (nb t) i && decide (i ≠ s))) (h2 : ∀ j, j < 140 → nt' j = if j / 14 = s ∨ j % 14 = s then 0 else nt j) : ra_N (upd st s 0) nb' nt' := by
  intro t ht
  obtain ⟨a, b⟩ := h t ht
  have q : ∀ i, i < 14 → nt' (14 * t + i) = if t = s ∨ i = s then 0 else nt (14 * t + i) := by
    intro i hi
    rw [h2 _ (by omega), show (14 * t + i) / 14 = t by omega, show (14 * t + i) % 14 = i by omega]
  by_cases z : t = s
  · refine ⟨fun _ i hi => ?_, fun y => absurd ?_ y⟩
    · rw [q i hi, if_pos (Or.inl z)]
    · rw [z, pk_us]
  · rw [pk_un z]
    refine ⟨fun y i hi => ?_, fun y i hi => ?_⟩
    · rw [q i hi]
      split
      · rfl
      · exact a y i hi
    · obtain ⟨c, d, e⟩ := b y i hi
      rw [q i hi, h1 t ht i hi]
      by_cases w : i = s
      · rw [if_pos (Or.inr w), decide_eq_false (by simpa using w), Bool.and_false]
        exact ⟨Or.inl rfl, ⟨fun y => absurd y (by decide), fun y => absurd rfl y⟩, fun _ _ => rfl⟩
      · rw [if_neg (by simp [z, w]), decide_eq_true (by exact w), Bool.and_true]
        refine ⟨c, d, fun u v => e u ?_⟩
        rw [pk_un w] at v
        exact v
theorem ra_N_beg {st nb nt : Nat → Int32} {s : Nat} (h : ra_N st nb nt) (hs : s < 10) (hl : st s = 0) : ra_N (upd st s 1) (upd nb s 0) nt := by
  intro t ht
  obtain ⟨a, b⟩ := h t ht
  by_cases z : t = s
  · subst z
    refine ⟨fun y i hi => a hl i hi, fun y i hi => ?_⟩
    rw [pk_us, b_0, a hl i hi]
    exact ⟨Or.inl rfl, ⟨fun y => absurd y (by decide), fun y => absurd rfl y⟩, fun _ _ => rfl⟩
  · rw [pk_un z, pk_un z]
    refine ⟨a, fun y i hi => ?_⟩
    obtain ⟨c, d, e⟩ := b y i hi
    refine ⟨c, d, fun u v => e u ?_⟩
    by_cases w : i = s
    · rw [w, pk_us] at v; exact absurd v (by decide)
    · rw [pk_un w] at v; exact v
/-! counting -/
def ra_cn (f : Nat → Bool) : Nat → Nat
  | 0 => 0
  | n + 1 => ra_cn f n + (if f n = true then 1 else 0)
theorem ra_cn_le (f : Nat → Bool) : ∀ n, ra_cn f n ≤ n
  | 0 => Nat.le_refl _
  | n + 1 => by
    have := ra_cn_le f n
    simp only [ra_cn]
    split <;> omega
theorem ra_cn_eq {f g : Nat → Bool} : ∀ {n : Nat}, (∀ k, k < n → f k = g k) → ra_cn f n = ra_cn g n
  | 0, _ => rfl
  | n + 1, h => by
    simp only [ra_cn]
    rw [ra_cn_eq (n := n) (fun k hk => h k (by omega)), h n (by omega)]
theorem ra_cn_0 {f : Nat → Bool} : ∀ {n : Nat}, (∀ k, k < n → f k = false) → ra_cn f n = 0
  | 0, _ => rfl
  | n + 1, h => by
    simp only [ra_cn]
    rw [ra_cn_0 (n := n) (fun k hk => h k (by omega)), h n (by omega)]
    rfl
theorem ra_cn_one {f g : Nat → Bool} {q : Nat} (hg : g q = false) : ∀ {n : Nat}, q < n → (∀ k, k < n → k ≠ q → f k = g k) → ra_cn f n = ra_cn g n + (if f q = true then 1 else 0)
  | 0, h, _ => absurd h (by omega)
  | n + 1, h, e => by
    simp only [ra_cn]
    by_cases z : q = n
    · subst z
      rw [hg, ra_cn_eq (f := f) (g := g) (n := q) (fun k hk => e k (by omega) (by omega))]
      rfl
    · rw [ra_cn_one hg (n := n) (by omega) (fun k hk => e k (by omega)), e n (by omega) (by omega)]
      omega
theorem ra_cn_add (f : Nat → Bool) (a : Nat) : ∀ b, ra_cn f (a + b) = ra_cn f a + ra_cn (fun i => f (a + i)) b
  | 0 => rfl
  | b + 1 => by
    have := ra_cn_add f a b
    show ra_cn f (a + b) + (if f (a + b) = true then 1 else 0) = ra_cn f a + (ra_cn (fun i => f (a + i)) b + (if f (a + b) = true then 1 else 0))
    omega
theorem ra_cn_bij {N : Nat} {pl : Nat → Nat} (P : Nat → Bool) : ∀ {n : Nat} {u : Nat → Bool}, (∀ j, j < n → pl j < N ∧ u (pl j) = true) → (∀ i j, i < j → j < n → pl i ≠ pl j) → (∀ p, p < N → u p = true → ∃ j, j < n ∧ pl j = p) → ra_cn (fun j => P (pl j)) n = ra_cn (fun p => u p && P p) N
  | 0, u, _, _, h3 => by
    rw [ra_cn_0 (f := fun p => u p && P p) (n := N)]
    · rfl
    · intro p hp
      by_cases z : u p = true
      · obtain ⟨j, hj, -⟩ := h3 p hp z
        omega
      · show (u p && P p) = false
        rw [ra_nt z]; rfl
  | n + 1, u, h1, h2, h3 => by
    have ih := ra_cn_bij (N := N) (pl := pl) P (n := n) (u := fun p => u p && decide (p ≠ pl n)) (fun j hj => ⟨(h1 j (by omega)).1, by
        show (u (pl j) && decide (pl j ≠ pl n)) = true
        rw [(h1 j (by omega)).2, decide_eq_true (h2 j n hj (by omega))]; rfl⟩) (fun i j hi hj => h2 i j hi (by omega)) (fun p hp hu => by
        have hu' : (u p && decide (p ≠ pl n)) = true := hu
        rw [Bool.and_eq_true, decide_eq_true_eq] at hu'
        obtain ⟨j, hj, e⟩ := h3 p hp hu'.1
        refine ⟨j, ?_, e⟩
        by_cases z : j = n
        · rw [z] at e; exact absurd e.symm hu'.2
        · omega)
    obtain ⟨a, b⟩ := h1 n (by omega)
    show ra_cn (fun j => P (pl j)) n + (if P (pl n) = true then 1 else 0) = _
    rw [ih, ra_cn_one (f := fun p => u p && P p) (g := fun p => (u p && decide (p ≠ pl n)) && P p) (q := pl n) (by simp) a (fun k _ hk => by
      show (u k && P k) = ((u k && decide (k ≠ pl n)) && P k)
      rw [decide_eq_true hk, Bool.and_true])]
    show _ = _ + (if (u (pl n) && P (pl n)) = true then 1 else 0)
    rw [b, Bool.true_and]
end
section
/-! letters: places of the senders against a row in the order of posting -/
def ra_L (c n : Nat) (st : Nat → Int32) (lo : Nat → Int64) (lt lv fr tt tx : Nat → Int32) : Prop :=
  ∃ w pl : Nat → Nat, (∀ p, p < 30 → lo p = lN (w p) ∧ w p ≤ c) ∧ (∀ j, j < n → pl j < 30 ∧ 0 < w (pl j) ∧ fr j = nI (pl j / 3) ∧ tt j = lt (pl j) ∧ tx j = lv (pl j) ∧ st (pl j / 3) ≠ 0) ∧ (∀ i j, i < j → j < n → w (pl i) < w (pl j)) ∧ (∀ p, p < 30 → 0 < w p → ∃ j, j < n ∧ pl j = p)
theorem ra_L_sm {c n : Nat} {st st' : Nat → Int32} {lo : Nat → Int64} {lt lv fr tt tx : Nat → Int32} (h : ra_L c n st lo lt lv fr tt tx) (z : ra_Z st st') : ra_L c n st' lo lt lv fr tt tx := by
  obtain ⟨w, pl, h1, h2, h3, h4⟩ := h
  refine ⟨w, pl, h1, fun j hj => ?_, h3, h4⟩
  obtain ⟨a, b, c, d, e, f⟩ := h2 j hj
  exact ⟨a, b, c, d, e, fun y => f ((z _ (by omega)).mp y)⟩
theorem ra_L_c {c c' n : Nat} {st : Nat → Int32} {lo : Nat → Int64} {lt lv fr tt tx : Nat → Int32} (h : ra_L c n st lo lt lv fr tt tx) (hc : c ≤ c') : ra_L c' n st lo lt lv fr tt tx := by
  obtain ⟨w, pl, h1, h2⟩ := h
  refine ⟨w, pl, fun p hp => ?_, h2⟩
  obtain ⟨a, b⟩ := h1 p hp
  exact ⟨a, by omega⟩
theorem ra_L_eq {c n : Nat} {st : Nat → Int32} {lo lo' : Nat → Int64} {lt lv fr tt tx : Nat → Int32} (h : ra_L c n st lo lt lv fr tt tx) (he : ∀ p, p < 30 → lo' p = lo p) : ra_L c n st lo' lt lv fr tt tx := by
  obtain ⟨w, pl, h1, h2⟩ := h
  refine ⟨w, pl, fun p hp => ?_, h2⟩
  obtain ⟨a, b⟩ := h1 p hp
  exact ⟨(he p hp).trans a, b⟩
theorem ra_l0 {a : Nat} (h : a ≤ 2 ^ 27) : lN a = 0 ↔ a = 0 := by
  have : (0 : Int64) = lN 0 := rfl
  rw [this, pk_lEQ (by omega) (by omega)]
theorem ra_cn_t : ∀ n, ra_cn (fun _ => true) n = n
  | 0 => rfl
  | n + 1 => by
    simp only [ra_cn]
    rw [ra_cn_t n]
    rfl
theorem ra_L_cn {c n : Nat} {st : Nat → Int32} {lo : Nat → Int64} {lt lv fr tt tx : Nat → Int32} (hc : c ≤ 2 ^ 27) (h : ra_L c n st lo lt lv fr tt tx) : ∃ pl : Nat → Nat, (∀ j, j < n → pl j < 30 ∧ fr j = nI (pl j / 3) ∧ tt j = lt (pl j)) ∧ ∀ P : Nat → Bool, ra_cn (fun j => P (pl j)) n = ra_cn (fun p => decide (¬ lo p = 0) && P p) 30 := by
  obtain ⟨w, pl, h1, h2, h3, h4⟩ := h
  refine ⟨pl, fun j hj => ?_, fun P => ?_⟩
  · obtain ⟨a, b, c, d, e, f⟩ := h2 j hj
    exact ⟨a, c, d⟩
  · have z : ∀ p, p < 30 → ((¬ lo p = 0) ↔ 0 < w p) := by
      intro p hp
      obtain ⟨a, b⟩ := h1 p hp
      rw [a, ra_l0 (by omega)]
      omega
    apply ra_cn_bij P
    · intro j hj
      obtain ⟨a, b, -⟩ := h2 j hj
      exact ⟨a, decide_eq_true ((z _ a).mpr b)⟩
    · intro i j hi hj e
      have := h3 i j hi hj
      rw [e] at this
      omega
    · intro p hp hu
      exact h4 p hp ((z p hp).mp (of_decide_eq_true hu))
theorem ra_L_n {c n : Nat} {st : Nat → Int32} {lo : Nat → Int64} {lt lv fr tt tx : Nat → Int32} (hc : c ≤ 2 ^ 27) (h : ra_L c n st lo lt lv fr tt tx) : n ≤ 30 ∧ ∀ p, p < 30 → lo p = 0 → n < 30 := by
  obtain ⟨pl, -, e⟩ := ra_L_cn hc h
  have e1 := e (fun _ => true)
  rw [ra_cn_t] at e1
  have l := ra_cn_le (fun p => decide (¬ lo p = 0) && true) 30
  refine ⟨by omega, fun p hp z => ?_⟩
  have e2 := ra_cn_one (f := fun _ => true) (g := fun k => decide (k ≠ p)) (q := p) (by simp) hp (fun k _ hk => (decide_eq_true hk).symm)
  rw [ra_cn_t, if_pos rfl] at e2
  have : ∀ m, m ≤ 30 → ra_cn (fun p => decide (¬ lo p = 0) && true) m ≤ ra_cn (fun k => decide (k ≠ p)) m := by
    intro m
    induction m with
    | zero => intro _; exact Nat.le_refl _
    | succ m ih =>
      intro hm
      have i := ih (by omega)
      simp only [ra_cn]
      by_cases y : m = p
      · subst y
        rw [if_neg (by rw [z]; simp)]
        omega
      · rw [if_pos (c := decide (m ≠ p) = true) (decide_eq_true y)]
        split <;> omega
  have := this 30 (Nat.le_refl _)
  omega
theorem ra_L_put {c n p : Nat} {st : Nat → Int32} {lo : Nat → Int64} {lt lv fr tt tx : Nat → Int32} {a x : Int32} (hc : c ≤ 2 ^ 26) (h : ra_L c n st lo lt lv fr tt tx) (hp : p < 30) (hz : lo p = 0) (hl : st (p / 3) ≠ 0) : ra_L (c + 1) (n + 1) st (vp_updL lo p (lN (c + 1))) (upd lt p a) (upd lv p x) (upd fr n (nI (p / 3))) (upd tt n a) (upd tx n x) := by
  obtain ⟨w, pl, h1, h2, h3, h4⟩ := h
  have wp : w p = 0 := by
    obtain ⟨a, b⟩ := h1 p hp
    rw [a, ra_l0 (by omega)] at hz
    exact hz
  have np : ∀ j, j < n → pl j ≠ p := by
    intro j hj e
    obtain ⟨-, b, -⟩ := h2 j hj
    rw [e] at b
    omega
  refine ⟨fun q => if q = p then c + 1 else w q, fun j => if j = n then p else pl j, fun q hq => ?_, fun j hj => ?_, fun i j hi hj => ?_, fun q hq hw => ?_⟩
  · obtain ⟨a, b⟩ := h1 q hq
    by_cases y : q = p
    · subst y
      dsimp only
      exact ⟨by rw [pk_uLs, if_pos rfl], by rw [if_pos rfl]; omega⟩
    · dsimp only
      exact ⟨by rw [pk_uLn y, if_neg y]; exact a, by rw [if_neg y]; omega⟩
  · by_cases y : j = n
    · subst y
      simp only [if_pos, pk_us]
      exact ⟨hp, by omega, trivial, trivial, trivial, hl⟩
    · obtain ⟨a, b, c, d, e, f⟩ := h2 j (by omega)
      have := np j (by omega)
      simp only [if_neg y, if_neg this, pk_un y, pk_un this]
      exact ⟨a, b, c, d, e, f⟩
  · have ni : i ≠ n := by omega
    have := np i (by omega)
    simp only [if_neg ni, if_neg this]
    by_cases y : j = n
    · simp only [if_pos y, if_pos]
      have := (h1 (pl i) (h2 i (by omega)).1).2
      omega
    · have := np j (by omega)
      simp only [if_neg y, if_neg this]
      exact h3 i j hi (by omega)
  · by_cases y : q = p
    · exact ⟨n, by omega, by simp only [if_pos]; exact y.symm⟩
    · simp only [if_neg y] at hw
      obtain ⟨j, hj, e⟩ := h4 q hq hw
      refine ⟨j, by omega, ?_⟩
      dsimp only
      rw [if_neg (by omega)]
      exact e
theorem ra_L_out {c n k : Nat} {st : Nat → Int32} {lo : Nat → Int64} {lt lv fr tt tx : Nat → Int32} (hc : c ≤ 2 ^ 27) (h : ra_L c n st lo lt lv fr tt tx) (hk : k < n) : ∃ p, p < 30 ∧ lo p ≠ 0 ∧ fr k = nI (p / 3) ∧ tt k = lt p ∧ tx k = lv p ∧ st (p / 3) ≠ 0 ∧
    (∀ q, q < 30 → q ≠ p → lo q ≠ 0 → ∃ j, j < n ∧ j ≠ k ∧ fr j = nI (q / 3) ∧ tt j = lt q ∧ st (q / 3) ≠ 0 ∧ (k < j → lo p < lo q)) ∧
    ∀ fr' tt' tx' : Nat → Int32, (∀ j, j + 1 < n → fr' j = (if j < k then fr j else fr (j + 1)) ∧ tt' j = (if j < k then tt j else tt (j + 1)) ∧ tx' j = (if j < k then tx j else tx (j + 1))) → ra_L c (n - 1) st (vp_updL lo p 0) lt lv fr' tt' tx' := by
  obtain ⟨w, pl, h1, h2, h3, h4⟩ := h
  obtain ⟨a, b, c', d, e, f⟩ := h2 k hk
  have nz : ∀ q, q < 30 → (lo q ≠ 0 ↔ 0 < w q) := by
    intro q hq
    obtain ⟨a, b⟩ := h1 q hq
    rw [Ne, a, ra_l0 (by omega)]
    omega
  have ij : ∀ i j, i < n → j < n → pl i = pl j → i = j := by
    intro i j hi hj e
    rcases Nat.lt_trichotomy i j with z | z | z
    · have := h3 i j z hj; rw [e] at this; omega
    · exact z
    · have := h3 j i z hi; rw [e] at this; omega
  refine ⟨pl k, a, (nz _ a).mpr b, c', d, e, f, fun q hq hn hz => ?_, fun fr' tt' tx' hh => ?_⟩
  · obtain ⟨j, hj, ej⟩ := h4 q hq ((nz q hq).mp hz)
    obtain ⟨-, -, g1, g2, g3, g4⟩ := h2 j hj
    rw [ej] at g1 g2 g3 g4
    refine ⟨j, hj, ?_, g1, g2, g4, fun hkj => ?_⟩
    · intro z; rw [z] at ej; exact hn ej.symm
    · have := h3 k j hkj hj
      rw [ej] at this
      rw [(h1 _ a).1, (h1 q hq).1, pk_lLT (by have := (h1 _ a).2; omega) (by have := (h1 q hq).2; omega)]
      exact this
  · refine ⟨fun q => if q = pl k then 0 else w q, fun j => if j < k then pl j else pl (j + 1), fun q hq => ?_, fun j hj => ?_, fun i j hi hj => ?_, fun q hq hw => ?_⟩
    · obtain ⟨a, b⟩ := h1 q hq
      by_cases y : q = pl k
      · subst y
        dsimp only
        exact ⟨by rw [pk_uLs, if_pos rfl]; rfl, by rw [if_pos rfl]; omega⟩
      · dsimp only
        exact ⟨by rw [pk_uLn y, if_neg y]; exact a, by rw [if_neg y]; omega⟩
    · obtain ⟨x1, x2, x3⟩ := hh j (by omega)
      rw [x1, x2, x3]
      by_cases y : j < k
      · simp only [if_pos y]
        rw [if_neg (fun z => absurd (ij j k (by omega) hk z) (by omega))]
        exact h2 j (by omega)
      · simp only [if_neg y]
        rw [if_neg (fun z => absurd (ij (j + 1) k (by omega) hk z) (by omega))]
        exact h2 (j + 1) (by omega)
    · have q1 : ∀ j, j + 1 < n → (if j < k then pl j else pl (j + 1)) ≠ pl k := by
        intro j hj
        split
        · exact fun z => absurd (ij j k (by omega) hk z) (by omega)
        · exact fun z => absurd (ij (j + 1) k (by omega) hk z) (by omega)
      show (if (if i < k then pl i else pl (i + 1)) = pl k then 0 else w (if i < k then pl i else pl (i + 1))) < (if (if j < k then pl j else pl (j + 1)) = pl k then 0 else w (if j < k then pl j else pl (j + 1)))
      rw [if_neg (q1 i (by omega)), if_neg (q1 j (by omega))]
      by_cases y : i < k
      · by_cases y' : j < k
        · rw [if_pos y, if_pos y']; exact h3 i j hi (by omega)
        · rw [if_pos y, if_neg y']; exact h3 i (j + 1) (by omega) (by omega)
      · rw [if_neg y, if_neg (by omega)]; exact h3 (i + 1) (j + 1) (by omega) (by omega)
    · by_cases y : q = pl k
      · simp only [if_pos y] at hw; omega
      · simp only [if_neg y] at hw
        obtain ⟨j, hj, ej⟩ := h4 q hq hw
        by_cases y' : j < k
        · exact ⟨j, by omega, by simp only [if_pos y']; exact ej⟩
        · have : j ≠ k := fun z => y (by rw [← ej, z])
          refine ⟨j - 1, by omega, ?_⟩
          simp only [if_neg (show ¬ j - 1 < k by omega)]
          rw [show j - 1 + 1 = j by omega]
          exact ej
theorem ra_L_up {c n : Nat} {st st' : Nat → Int32} {lo : Nat → Int64} {lt lv fr tt tx : Nat → Int32} (h : ra_L c n st lo lt lv fr tt tx) (z : ∀ s, s < 10 → st s ≠ 0 → st' s ≠ 0) : ra_L c n st' lo lt lv fr tt tx := by
  obtain ⟨w, pl, h1, h2, h3, h4⟩ := h
  refine ⟨w, pl, h1, fun j hj => ?_, h3, h4⟩
  obtain ⟨a, b, c, d, e, f⟩ := h2 j hj
  exact ⟨a, b, c, d, e, z _ (by omega) f⟩
theorem ra_L_has {c n p : Nat} {st : Nat → Int32} {lo : Nat → Int64} {lt lv fr tt tx : Nat → Int32} (hc : c ≤ 2 ^ 27) (h : ra_L c n st lo lt lv fr tt tx) (hp : p < 30) (hz : lo p ≠ 0) : ∃ j, j < n ∧ fr j = nI (p / 3) ∧ tt j = lt p := by
  obtain ⟨w, pl, h1, h2, h3, h4⟩ := h
  have : 0 < w p := by
    obtain ⟨a, b⟩ := h1 p hp
    rw [Ne, a, ra_l0 (by omega)] at hz
    omega
  obtain ⟨j, hj, e⟩ := h4 p hp this
  obtain ⟨-, -, a, b, -⟩ := h2 j hj
  rw [e] at a b
  exact ⟨j, hj, a, b⟩
theorem ra_L_end {c n s : Nat} {st : Nat → Int32} {lo : Nat → Int64} {lt lv fr tt tx : Nat → Int32} (h : ra_L c n st lo lt lv fr tt tx) (z : ∀ j, j < n → fr j ≠ nI s) : ra_L c n (upd st s 0) lo lt lv fr tt tx := by
  obtain ⟨w, pl, h1, h2, h3, h4⟩ := h
  refine ⟨w, pl, h1, fun j hj => ?_, h3, h4⟩
  obtain ⟨a, b, c, d, e, f⟩ := h2 j hj
  refine ⟨a, b, c, d, e, ?_⟩
  have := z j hj
  rw [c] at this
  rw [pk_un (fun y => this (congrArg nI y))]
  exact f
def ra_sh (f : Nat → Int32) (k n : Nat) : Nat → Int32 := fun j => if k ≤ j ∧ j + 1 < n then f (j + 1) else f j
theorem ra_L_out' {c n k : Nat} {st : Nat → Int32} {lo : Nat → Int64} {lt lv fr tt tx : Nat → Int32} (hc : c ≤ 2 ^ 27) (h : ra_L c n st lo lt lv fr tt tx) (hk : k < n) : ∃ p, p < 30 ∧ lo p ≠ 0 ∧ fr k = nI (p / 3) ∧ tt k = lt p ∧ tx k = lv p ∧ st (p / 3) ≠ 0 ∧
    (∀ q, q < 30 → q ≠ p → lo q ≠ 0 → ∃ j, j < n ∧ j ≠ k ∧ fr j = nI (q / 3) ∧ tt j = lt q ∧ st (q / 3) ≠ 0 ∧ (k < j → lo p < lo q)) ∧
    ra_L c (n - 1) st (vp_updL lo p 0) lt lv (ra_sh fr k n) (ra_sh tt k n) (ra_sh tx k n) := by
  obtain ⟨p, h1, h2, h3, h4, h5, h6, h7, h8⟩ := ra_L_out hc h hk
  refine ⟨p, h1, h2, h3, h4, h5, h6, h7, h8 _ _ _ fun j hj => ?_⟩
  unfold ra_sh
  by_cases y : j < k
  · have z : ¬ (k ≤ j ∧ j + 1 < n) := by omega
    simp only [if_neg z, if_pos y]
    exact ⟨trivial, trivial, trivial⟩
  · have z : k ≤ j ∧ j + 1 < n := by omega
    simp only [if_pos z, if_neg y]
    exact ⟨trivial, trivial, trivial⟩
/-- what is left when all letters of s and to s are taken out -/
theorem ra_L_drop {c n n' s : Nat} {st : Nat → Int32} {lo lo' lo'' : Nat → Int64} {lt lv fr tt tx : Nat → Int32} (hc : c ≤ 2 ^ 27) (hs : s < 10) (h : ra_L c n' st lo' lt lv fr tt tx) (h1 : ∀ j, j < n' → ¬ (fr j = nI s ∨ tt j = nI s)) (h2 : ∀ p, p < 30 → lo' p = lo p ∨ (lo' p = 0 ∧ (p / 3 = s ∨ lt p = nI s))) (h3 : ∀ p, p < 30 → lo'' p = if p / 3 = s ∨ lt p = nI s then 0 else lo p) : ra_L c n' (upd st s 0) lo'' lt lv fr tt tx := by
  refine ra_L_end (ra_L_eq h fun p hp => ?_) (fun j hj z => h1 j hj (Or.inl z))
  rw [h3 p hp]
  split
  · rename_i y
    by_cases z : lo' p = 0
    · exact z.symm
    · obtain ⟨j, hj, a, b⟩ := ra_L_has hc h hp z
      refine absurd ?_ (h1 j hj)
      rcases y with y | y
      · rw [a, y]; exact Or.inl rfl
      · rw [b, y]; exact Or.inr rfl
  · rename_i y
    rcases h2 p hp with z | ⟨-, z⟩
    · exact z.symm
    · exact absurd z y
theorem ra_sh_0 (f : Nat → Int32) (k : Nat) : ra_sh f k (k + 1) = f := by
  funext j
  exact if_neg (by omega)
theorem ra_sh_s (f : Nat → Int32) {k i : Nat} (h : k ≤ i) : upd (ra_sh f k (i + 1)) i (ra_sh f k (i + 1) (i + 1)) = ra_sh f k (i + 2) := by
  funext j
  have e : ra_sh f k (i + 1) (i + 1) = f (i + 1) := if_neg (by omega)
  rw [e]
  unfold upd ra_sh
  by_cases h1 : j = i
  · rw [if_pos h1, if_pos (by omega), h1]
  · rw [if_neg h1]
    by_cases h2 : k ≤ j ∧ j + 1 < i + 1
    · rw [if_pos h2, if_pos (by omega)]
    · rw [if_neg h2, if_neg (by omega)]
end
section
/-! grants -/
def ra_K (gk gt gf gl gs gn gr ge g1 g2 g3 : Nat → Int32) (g : Nat) : Prop :=
  (gk g = 0 ∧ gr g = 0) ∨
  (gr g = 1 ∧ gk g = g3 g ∧ (gk g = 1 ∨ gk g = 2 ∨ gk g = 3) ∧ gt g = ge g ∧ gf g = g1 g ∧ gl g = g2 g ∧ ∃ f l : Nat, f + l ≤ 16 ∧ gf g = nI f ∧ gl g = nI l) ∨
  (gr g = 2 ∧ gk g = 4 ∧ gt g = ge g ∧ gs g = g1 g ∧ gn g = g2 g ∧ ∃ i : Nat, i < 4 ∧ gn g = nI i)
def ra_G (st gk gt gf gl gs gn gr ge g1 g2 g3 : Nat → Int32) : Prop := ∀ s, s < 10 → ∀ i, i < 4 → (st s = 0 → gr (4 * s + i) = 0) ∧ (st s ≠ 0 → ra_K gk gt gf gl gs gn gr ge g1 g2 g3 (4 * s + i))
theorem ra_G_sm {st st' gk gt gf gl gs gn gr ge g1 g2 g3 : Nat → Int32} (h : ra_G st gk gt gf gl gs gn gr ge g1 g2 g3) (z : ra_Z st st') : ra_G st' gk gt gf gl gs gn gr ge g1 g2 g3 := by
  intro s hs i hi
  obtain ⟨a, b⟩ := h s hs i hi
  exact ⟨fun y => a ((z s hs).mp y), fun y => b (fun w => y ((z s hs).mpr w))⟩
theorem ra_G_lend {st gk gt gf gl gs gn gr ge g1 g2 g3 : Nat → Int32} {s i f l : Nat} {how to : Int32} (h : ra_G st gk gt gf gl gs gn gr ge g1 g2 g3) (hs : s < 10) (hl : st s ≠ 0) (hi : i < 4) (hh : how = 1 ∨ how = 2 ∨ how = 3) (hf : f + l ≤ 16) :
    ra_G st (upd gk (4 * s + i) how) (upd gt (4 * s + i) to) (upd gf (4 * s + i) (nI f)) (upd gl (4 * s + i) (nI l)) gs gn (upd gr (4 * s + i) 1) (upd ge (4 * s + i) to) (upd g1 (4 * s + i) (nI f)) (upd g2 (4 * s + i) (nI l)) (upd g3 (4 * s + i) how) := by
  intro t ht j hj
  obtain ⟨a, b⟩ := h t ht j hj
  by_cases z : 4 * t + j = 4 * s + i
  · have e : t = s := by omega
    subst e
    refine ⟨fun y => absurd y hl, fun _ => Or.inr (Or.inl ?_)⟩
    rw [z]
    simp only [pk_us]
    exact ⟨trivial, trivial, hh, trivial, trivial, trivial, f, l, hf, rfl, rfl⟩
  · unfold ra_K
    simp only [pk_un z]
    exact ⟨a, b⟩
theorem ra_G_pass {st gk gt gf gl gs gn gr ge g1 g2 g3 : Nat → Int32} {s i k : Nat} {to wh x : Int32} (h : ra_G st gk gt gf gl gs gn gr ge g1 g2 g3) (hs : s < 10) (hl : st s ≠ 0) (hi : i < 4) (hk : k < 4) :
    ra_G st (upd gk (4 * s + i) 4) (upd gt (4 * s + i) to) gf gl (upd gs (4 * s + i) wh) (upd gn (4 * s + i) (nI k)) (upd gr (4 * s + i) 2) (upd ge (4 * s + i) to) (upd g1 (4 * s + i) wh) (upd g2 (4 * s + i) (nI k)) (upd g3 (4 * s + i) x) := by
  intro t ht j hj
  obtain ⟨a, b⟩ := h t ht j hj
  by_cases z : 4 * t + j = 4 * s + i
  · have e : t = s := by omega
    subst e
    refine ⟨fun y => absurd y hl, fun _ => Or.inr (Or.inr ?_)⟩
    rw [z]
    simp only [pk_us]
    exact ⟨trivial, trivial, trivial, trivial, trivial, k, hk, rfl⟩
  · unfold ra_K
    simp only [pk_un z]
    exact ⟨a, b⟩
theorem ra_G_rev {st gk gt gf gl gs gn gr ge g1 g2 g3 : Nat → Int32} {s i : Nat} (h : ra_G st gk gt gf gl gs gn gr ge g1 g2 g3) (hs : s < 10) (hi : i < 4) :
    ra_G st (upd gk (4 * s + i) 0) gt gf gl gs gn (upd gr (4 * s + i) 0) ge g1 g2 g3 := by
  intro t ht j hj
  obtain ⟨a, b⟩ := h t ht j hj
  by_cases z : 4 * t + j = 4 * s + i
  · rw [z]
    exact ⟨fun _ => pk_us, fun _ => Or.inl ⟨pk_us, pk_us⟩⟩
  · unfold ra_K
    simp only [pk_un z]
    exact ⟨a, b⟩
theorem ra_G_end {st gk gt gf gl gs gn gr gr' ge g1 g2 g3 : Nat → Int32} {s : Nat} (h : ra_G st gk gt gf gl gs gn gr ge g1 g2 g3) (hs : s < 10) (hr : ∀ g, g < 40 → gr' g = if 4 * s ≤ g ∧ g < 4 * s + 4 then 0 else gr g) : ra_G (upd st s 0) gk gt gf gl gs gn gr' ge g1 g2 g3 := by
  intro t ht j hj
  obtain ⟨a, b⟩ := h t ht j hj
  by_cases z : t = s
  · subst z
    refine ⟨fun _ => ?_, fun y => absurd pk_us y⟩
    rw [hr _ (by omega), if_pos (by omega)]
  · have e := hr (4 * t + j) (by omega)
    rw [if_neg (by omega)] at e
    unfold ra_K
    rw [pk_un z, e]
    exact ⟨a, b⟩
theorem ra_G_beg {st gk gk' gt gf gl gs gn gr ge g1 g2 g3 : Nat → Int32} {s : Nat} (h : ra_G st gk gt gf gl gs gn gr ge g1 g2 g3) (hs : s < 10) (hl : st s = 0) (hr : ∀ g, g < 40 → gk' g = if 4 * s ≤ g ∧ g < 4 * s + 4 then 0 else gk g) : ra_G (upd st s 1) gk' gt gf gl gs gn gr ge g1 g2 g3 := by
  intro t ht j hj
  obtain ⟨a, b⟩ := h t ht j hj
  by_cases z : t = s
  · subst z
    refine ⟨fun _ => a hl, fun y => Or.inl ⟨?_, a hl⟩⟩
    rw [hr _ (by omega), if_pos (by omega)]
  · have e := hr (4 * t + j) (by omega)
    rw [if_neg (by omega)] at e
    unfold ra_K
    rw [pk_un z, e]
    exact ⟨a, b⟩
/-! services -/
def ra_S (st ep pa sl ss sv lf se sb : Nat → Int32) : Prop := (∀ k, k < 3 → (sv k = 0 ∧ sl k = 0) ∨ (sl k ≠ 0 ∧ (sl k = lf k ∧ ∃ b : Nat, b ≤ 3 ∧ sb k = nI b) ∧ (∃ p : Nat, 1 ≤ p ∧ p ≤ 8 ∧ pa k = nI p) ∧ ((sv k = 1 ∧ ∃ s, s < 10 ∧ ss k = nI s ∧ st s ≠ 0 ∧ se k = ep s) ∨ (sv k = 2 ∧ ss k = -1 ∧ se k = -1)))) ∧ (∀ k k', k < 3 → k' < 3 → sv k = 1 → sv k' = 1 → ss k = ss k' → k = k')
theorem ra_S_sm {st st' ep pa sl ss sv lf se sb : Nat → Int32} (h : ra_S st ep pa sl ss sv lf se sb) (z : ra_Z st st') : ra_S st' ep pa sl ss sv lf se sb := by
  refine ⟨fun k hk => ?_, h.2⟩
  refine (h.1 k hk).imp id ?_
  rintro ⟨a, b, c, d⟩
  refine ⟨a, b, c, d.imp ?_ id⟩
  rintro ⟨e, s, hs, f, g, i⟩
  exact ⟨e, s, hs, f, fun y => g ((z s hs).mp y), i⟩
theorem ra_S_end {st ep pa pa' sl ss ss' sv sv' lf se se' sb : Nat → Int32} {s : Nat} {x : Int32} (h : ra_S st ep pa sl ss sv lf se sb) (hs : s < 10)
    (hr : ∀ k, k < 3 → (sv k = 1 ∧ ss k = nI s ∧ sv' k = 2 ∧ ss' k = -1 ∧ se' k = -1 ∧ ∃ p : Nat, 1 ≤ p ∧ p ≤ 8 ∧ pa' k = nI p) ∨ (¬ (sv k = 1 ∧ ss k = nI s) ∧ sv' k = sv k ∧ ss' k = ss k ∧ se' k = se k ∧ pa' k = pa k)) : ra_S (upd st s 0) (upd ep s x) pa' sl ss' sv' lf se' sb := by
  refine ⟨fun k hk => ?_, fun k k' hk hk' h1 h2 h3 => ?_⟩
  · rcases hr k hk with ⟨a, b, c, d, e, f⟩ | ⟨a, b, c, d, e⟩
    · rcases h.1 k hk with ⟨y, -⟩ | ⟨y1, y2, -⟩
      · rw [a] at y; exact absurd y (by decide)
      · exact Or.inr ⟨y1, y2, f, Or.inr ⟨c, d, e⟩⟩
    · rw [b, c, d, e]
      refine (h.1 k hk).imp id ?_
      rintro ⟨y1, y2, y3, y4⟩
      refine ⟨y1, y2, y3, y4.imp ?_ id⟩
      rintro ⟨v1, t, ht, v2, v3, v4⟩
      have ne : t ≠ s := fun z => a ⟨v1, by rw [v2, z]⟩
      refine ⟨v1, t, ht, v2, ?_, ?_⟩
      · rw [pk_un ne]; exact v3
      · rw [pk_un ne]; exact v4
  · rcases hr k hk with ⟨a, b, c, d, e, f⟩ | ⟨a, b, c, d, e⟩
    · rw [c] at h1; exact absurd h1 (by decide)
    · rcases hr k' hk' with ⟨a', b', c', d', e', f'⟩ | ⟨a', b', c', d', e'⟩
      · rw [c'] at h2; exact absurd h2 (by decide)
      · rw [b] at h1; rw [b'] at h2; rw [c, c'] at h3
        exact h.2 k k' hk hk' h1 h2 h3
theorem ra_S_beg {st ep pa sl ss sv lf se sb : Nat → Int32} {s k : Nat} (h : ra_S st ep pa sl ss sv lf se sb) (hs : s < 10) (hl : st s = 0) (hk : k < 3) (h2 : sv k = 2) : ra_S (upd st s 1) ep pa sl (upd ss k (nI s)) (upd sv k 1) lf (upd se k (ep s)) sb := by
  have key : ∀ j, j < 3 → sv j = 1 → ∃ t, t < 10 ∧ ss j = nI t ∧ t ≠ s := by
    intro j hj h1
    rcases h.1 j hj with ⟨y, -⟩ | ⟨-, -, -, ⟨-, t, ht, e, l, -⟩ | ⟨y, -⟩⟩
    · rw [h1] at y; exact absurd y (by decide)
    · exact ⟨t, ht, e, fun z => l (by rw [z]; exact hl)⟩
    · rw [h1] at y; exact absurd y (by decide)
  refine ⟨fun j hj => ?_, fun j j' hj hj' h1 h1' e => ?_⟩
  · by_cases z : j = k
    · subst z
      rcases h.1 j hj with ⟨y, -⟩ | ⟨y1, y2, y3, -⟩
      · rw [h2] at y; exact absurd y (by decide)
      · refine Or.inr ⟨y1, y2, y3, Or.inl ⟨pk_us, s, hs, pk_us, ?_, pk_us⟩⟩
        rw [pk_us]; decide
    · rw [pk_un z, pk_un z, pk_un z]
      refine (h.1 j hj).imp id ?_
      rintro ⟨y1, y2, y3, y4⟩
      refine ⟨y1, y2, y3, y4.imp ?_ id⟩
      rintro ⟨v1, t, ht, v2, v3, v4⟩
      refine ⟨v1, t, ht, v2, ?_, v4⟩
      by_cases y : t = s
      · rw [y, pk_us]; decide
      · rw [pk_un y]; exact v3
  · by_cases z : j = k
    · by_cases z' : j' = k
      · omega
      · rw [pk_un z'] at h1'
        rw [z, pk_us, pk_un z'] at e
        obtain ⟨t, ht, e', n⟩ := key j' hj' h1'
        rw [e', nI_eq (by omega) (by omega)] at e
        exact absurd e.symm n
    · by_cases z' : j' = k
      · rw [pk_un z] at h1
        rw [z', pk_us, pk_un z] at e
        obtain ⟨t, ht, e', n⟩ := key j hj h1
        rw [e', nI_eq (by omega) (by omega)] at e
        exact absurd e n
      · rw [pk_un z] at h1 e
        rw [pk_un z'] at h1' e
        exact h.2 j j' hj hj' h1 h1' e
theorem ra_S_serve {st ep pa sl ss sv lf se sb : Nat → Int32} {k b : Nat} {x : Int32} (h : ra_S st ep pa sl ss sv lf se sb) (hx : x ≠ 0) (hb : b ≤ 3) : ra_S st ep (upd pa k 1) (upd sl k x) (upd ss k (-1)) (upd sv k 2) (upd lf k x) (upd se k (-1)) (upd sb k (nI b)) := by
  refine ⟨fun j hj => ?_, fun j j' hj hj' h1 h1' e => ?_⟩
  · by_cases z : j = k
    · subst z
      refine Or.inr ⟨?_, ?_, ⟨1, by omega, by omega, pk_us⟩, Or.inr ⟨pk_us, pk_us, pk_us⟩⟩
      · rw [pk_us]; exact hx
      · rw [pk_us, pk_us]; exact ⟨rfl, b, hb, pk_us⟩
    · simp only [pk_un z]
      exact h.1 j hj
  · by_cases z : j = k
    · rw [z, pk_us] at h1; exact absurd h1 (by decide)
    · by_cases z' : j' = k
      · rw [z', pk_us] at h1'; exact absurd h1' (by decide)
      · rw [pk_un z] at h1 e
        rw [pk_un z'] at h1' e
        exact h.2 j j' hj hj' h1 h1' e
theorem ra_S_close {st ep pa sl ss sv lf se sb : Nat → Int32} {k : Nat} (h : ra_S st ep pa sl ss sv lf se sb) : ra_S st ep pa (upd sl k 0) ss (upd sv k 0) lf se sb := by
  refine ⟨fun j hj => ?_, fun j j' hj hj' h1 h1' e => ?_⟩
  · by_cases z : j = k
    · subst z
      exact Or.inl ⟨pk_us, pk_us⟩
    · simp only [pk_un z]
      exact h.1 j hj
  · by_cases z : j = k
    · rw [z, pk_us] at h1; exact absurd h1 (by decide)
    · by_cases z' : j' = k
      · rw [z', pk_us] at h1'; exact absurd h1' (by decide)
      · rw [pk_un z] at h1
        rw [pk_un z'] at h1'
        exact h.2 j j' hj hj' h1 h1' e
/-! ranges -/
def ra_T (st : Nat → Int32) : Prop := ∀ s, s < 10 → st s = 0 ∨ st s = 1 ∨ st s = 2 ∨ st s = 3 ∨ st s = 4
theorem ra_T_u {st : Nat → Int32} {s : Nat} {x : Int32} (h : ra_T st) (hx : x = 0 ∨ x = 1 ∨ x = 2 ∨ x = 3 ∨ x = 4) : ra_T (upd st s x) := by
  intro t ht
  by_cases z : t = s
  · rw [z, pk_us]; exact hx
  · rw [pk_un z]; exact h t ht
def ra_I (B : Nat) (tt : Nat → Int32) : Prop := ∃ t : Nat, t ≤ B ∧ tt 0 = nI t
theorem ra_I_mono {B B' : Nat} {tt : Nat → Int32} (hB : B ≤ B') (h : ra_I B tt) : ra_I B' tt := by
  obtain ⟨t, a, b⟩ := h
  exact ⟨t, by omega, b⟩
theorem ra_I_u {B k : Nat} {tt : Nat → Int32} {x : Int32} (h : ra_I B tt) (hk : k ≠ 0) : ra_I B (upd tt k x) := by
  obtain ⟨t, a, b⟩ := h
  exact ⟨t, a, by rw [pk_un hk.symm]; exact b⟩
def ra_P (st pr al tk bs : Nat → Int32) : Prop := ∀ s, s < 10 → (∃ p : Nat, p ≤ 3 ∧ pr s = nI p) ∧ (∃ a : Nat, a ≤ 100 ∧ al s = nI a) ∧ (∃ b : Nat, b ≤ 3 ∧ bs s = nI b) ∧ (st s ≠ 0 → ∃ k : Nat, 1 ≤ k ∧ k ≤ 4 ∧ tk s = nI k)
theorem ra_P_sm {st st' pr al tk bs : Nat → Int32} (h : ra_P st pr al tk bs) (z : ra_Z st st') : ra_P st' pr al tk bs := by
  intro s hs
  obtain ⟨a, b, d, c⟩ := h s hs
  exact ⟨a, b, d, fun y => c (fun w => y ((z s hs).mpr w))⟩
theorem ra_P_end {st pr al tk bs : Nat → Int32} {s : Nat} (h : ra_P st pr al tk bs) : ra_P (upd st s 0) pr al tk bs := by
  intro t ht
  obtain ⟨a, b, d, c⟩ := h t ht
  refine ⟨a, b, d, fun y => ?_⟩
  by_cases z : t = s
  · rw [z, pk_us] at y; exact absurd rfl y
  · rw [pk_un z] at y; exact c y
theorem ra_P_beg {st pr al tk bs : Nat → Int32} {s p : Nat} (h : ra_P st pr al tk bs) (hp : p ≤ 3) : ra_P (upd st s 1) (upd pr s (nI p)) (upd al s 0) (upd tk s 4) (upd bs s (nI p)) := by
  intro t ht
  obtain ⟨a, b, d, c⟩ := h t ht
  by_cases z : t = s
  · subst z
    exact ⟨⟨p, hp, pk_us⟩, ⟨0, by omega, pk_us⟩, ⟨p, hp, pk_us⟩, fun _ => ⟨4, by omega, by omega, pk_us⟩⟩
  · rw [pk_un z, pk_un z, pk_un z, pk_un z, pk_un z]
    exact ⟨a, b, d, c⟩
theorem ra_P_pr {st pr al tk bs : Nat → Int32} {s p : Nat} (h : ra_P st pr al tk bs) (hp : p ≤ 3) : ra_P st (upd pr s (nI p)) al tk bs := by
  intro t ht
  obtain ⟨a, b, d, c⟩ := h t ht
  by_cases z : t = s
  · subst z
    exact ⟨⟨p, hp, pk_us⟩, b, d, c⟩
  · rw [pk_un z]
    exact ⟨a, b, d, c⟩
theorem ra_P_al {st pr al tk bs : Nat → Int32} {s p : Nat} (h : ra_P st pr al tk bs) (hp : p ≤ 100) : ra_P st pr (upd al s (nI p)) tk bs := by
  intro t ht
  obtain ⟨a, b, d, c⟩ := h t ht
  by_cases z : t = s
  · subst z
    exact ⟨a, ⟨p, hp, pk_us⟩, d, c⟩
  · rw [pk_un z]
    exact ⟨a, b, d, c⟩
theorem ra_P_tk {st pr al tk bs : Nat → Int32} {s p : Nat} (h : ra_P st pr al tk bs) (h1 : 1 ≤ p) (h4 : p ≤ 4) : ra_P st pr al (upd tk s (nI p)) bs := by
  intro t ht
  obtain ⟨a, b, d, c⟩ := h t ht
  by_cases z : t = s
  · subst z
    exact ⟨a, b, d, fun _ => ⟨p, h1, h4, pk_us⟩⟩
  · rw [pk_un z]
    exact ⟨a, b, d, c⟩
theorem ra_S_up {st st' ep pa sl ss sv lf se sb : Nat → Int32} (h : ra_S st ep pa sl ss sv lf se sb) (z : ∀ s, s < 10 → st s ≠ 0 → st' s ≠ 0) : ra_S st' ep pa sl ss sv lf se sb := by
  refine ⟨fun k hk => ?_, h.2⟩
  refine (h.1 k hk).imp id ?_
  rintro ⟨a, b, c, d⟩
  refine ⟨a, b, c, d.imp ?_ id⟩
  rintro ⟨e, s, hs, f, g, i⟩
  exact ⟨e, s, hs, f, z s hs g, i⟩
theorem ra_D_beg {lg lg' so sq go : Nat → Int32} {s : Nat} (h : ra_D lg so sq go) (hr : ∀ j, j < 30 → lg' j = if 3 * s ≤ j ∧ j < 3 * s + 3 then 0 else lg j) : ra_D lg' (upd so s 0) (upd sq s 0) (upd go s 0) := by
  intro t ht
  obtain ⟨h1, h2, h3⟩ := h t ht
  rw [hr _ (by omega), hr _ (by omega), hr _ (by omega)]
  by_cases e : t = s
  · subst e
    rw [if_pos (by omega), if_pos (by omega), if_pos (by omega), pk_us, pk_us, pk_us]
    exact ⟨rfl, rfl, rfl⟩
  · rw [if_neg (by omega), if_neg (by omega), if_neg (by omega), pk_un e, pk_un e, pk_un e]
    exact ⟨h1, h2, h3⟩
theorem ra_W_beg {st ep pt ot rs : Nat → Int32} {s : Nat} {x : Int32} (h : ra_W st ep pt ot rs) (hs : s < 10) : ra_W (upd st s 1) ep (upd pt s (ep s)) ot (upd rs s x) := ra_W_ready h hs
/-! arrays that loops write -/
def ra_z (f : Nat → Int32) (a n : Nat) : Nat → Int32 := fun j => if a ≤ j ∧ j < a + n then 0 else f j
theorem ra_z_0 (f : Nat → Int32) (a : Nat) : ra_z f a 0 = f := by
  funext j
  exact if_neg (by omega)
theorem ra_z_s (f : Nat → Int32) (a i : Nat) : upd (ra_z f a i) (a + i) 0 = ra_z f a (i + 1) := by
  funext j
  unfold upd ra_z
  by_cases h : j = a + i
  · rw [if_pos h, if_pos (by omega)]
  · rw [if_neg h]
    by_cases h2 : a ≤ j ∧ j < a + i
    · rw [if_pos h2, if_pos (by omega)]
    · rw [if_neg h2, if_neg (by omega)]
def ra_zL (f : Nat → Int64) (P : Nat → Bool) (n : Nat) : Nat → Int64 := fun j => if j < n ∧ P j = true then 0 else f j
theorem ra_zL_0 (f : Nat → Int64) (P : Nat → Bool) : ra_zL f P 0 = f := by
  funext j
  exact if_neg (by omega)
theorem ra_zL_t (f : Nat → Int64) (P : Nat → Bool) (i : Nat) (h : P i = true) : vp_updL (ra_zL f P i) i 0 = ra_zL f P (i + 1) := by
  funext j
  unfold vp_updL ra_zL
  by_cases e : j = i
  · rw [if_pos e, if_pos ⟨by omega, by rw [e]; exact h⟩]
  · rw [if_neg e]
    by_cases h2 : j < i ∧ P j = true
    · rw [if_pos h2, if_pos ⟨by omega, h2.2⟩]
    · rw [if_neg h2, if_neg (fun z => h2 ⟨by omega, z.2⟩)]
theorem ra_zL_f (f : Nat → Int64) (P : Nat → Bool) (i : Nat) (h : ¬ P i = true) : ra_zL f P i = ra_zL f P (i + 1) := by
  funext j
  unfold ra_zL
  by_cases h2 : j < i ∧ P j = true
  · rw [if_pos h2, if_pos ⟨by omega, h2.2⟩]
  · rw [if_neg h2, if_neg]
    rintro ⟨a, b⟩
    have : j ≠ i := fun z => h (by rw [← z]; exact b)
    exact h2 ⟨by omega, b⟩
def ra_zB (f : Nat → Int32) (P : Nat → Bool) (n : Nat) : Nat → Int32 := fun j => if j < n ∧ P j = true then 0 else f j
theorem ra_zB_0 (f : Nat → Int32) (P : Nat → Bool) : ra_zB f P 0 = f := by
  funext j
  exact if_neg (by omega)
theorem ra_zB_t (f : Nat → Int32) (P : Nat → Bool) (i : Nat) (h : P i = true) : upd (ra_zB f P i) i 0 = ra_zB f P (i + 1) := by
  funext j
  unfold upd ra_zB
  by_cases e : j = i
  · rw [if_pos e, if_pos ⟨by omega, by rw [e]; exact h⟩]
  · rw [if_neg e]
    by_cases h2 : j < i ∧ P j = true
    · rw [if_pos h2, if_pos ⟨by omega, h2.2⟩]
    · rw [if_neg h2, if_neg (fun z => h2 ⟨by omega, z.2⟩)]
theorem ra_zB_f (f : Nat → Int32) (P : Nat → Bool) (i : Nat) (h : ¬ P i = true) : ra_zB f P i = ra_zB f P (i + 1) := by
  funext j
  unfold ra_zB
  by_cases h2 : j < i ∧ P j = true
  · rw [if_pos h2, if_pos ⟨by omega, h2.2⟩]
  · rw [if_neg h2, if_neg]
    rintro ⟨a, b⟩
    have : j ≠ i := fun z => h (by rw [← z]; exact b)
    exact h2 ⟨by omega, b⟩
/-- the words at tw .. tw + n - 1 are those that stood at fw .. -/
def ra_mv (f : Nat → Int32) (fw tw n : Nat) : Nat → Int32 := fun j => if tw ≤ j ∧ j < tw + n then f (fw + (j - tw)) else f j
theorem ra_mv_0 (f : Nat → Int32) (fw tw : Nat) : ra_mv f fw tw 0 = f := by
  funext j
  exact if_neg (by omega)
theorem ra_mv_s (f : Nat → Int32) {fw tw : Nat} (i : Nat) (h : tw < fw) : upd (ra_mv f fw tw i) (tw + i) (ra_mv f fw tw i (fw + i)) = ra_mv f fw tw (i + 1) := by
  funext j
  have e : ra_mv f fw tw i (fw + i) = f (fw + i) := if_neg (by omega)
  rw [e]
  unfold upd ra_mv
  by_cases h1 : j = tw + i
  · rw [if_pos h1, if_pos (by omega), show fw + (j - tw) = fw + i by omega]
  · rw [if_neg h1]
    by_cases h2 : tw ≤ j ∧ j < tw + i
    · rw [if_pos h2, if_pos (by omega)]
    · rw [if_neg h2, if_neg (by omega)]
def ra_md (f : Nat → Int32) (fw tw i n : Nat) : Nat → Int32 := fun j => if tw + i ≤ j ∧ j < tw + n then f (fw + (j - tw)) else f j
theorem ra_md_0 (f : Nat → Int32) (fw tw n : Nat) : ra_md f fw tw n n = f := by
  funext j
  exact if_neg (by omega)
theorem ra_md_e (f : Nat → Int32) (fw tw n : Nat) : ra_md f fw tw 0 n = ra_mv f fw tw n := rfl
theorem ra_md_s (f : Nat → Int32) {fw tw i n : Nat} (hi : i < n) (h : fw ≤ tw) : upd (ra_md f fw tw (i + 1) n) (tw + i) (ra_md f fw tw (i + 1) n (fw + i)) = ra_md f fw tw i n := by
  funext j
  have e : ra_md f fw tw (i + 1) n (fw + i) = f (fw + i) := if_neg (by omega)
  rw [e]
  unfold upd ra_md
  by_cases h1 : j = tw + i
  · rw [if_pos h1, if_pos (by omega), show fw + (j - tw) = fw + i by omega]
  · rw [if_neg h1]
    by_cases h2 : tw + (i + 1) ≤ j ∧ j < tw + n
    · rw [if_pos h2, if_pos (by omega)]
    · rw [if_neg h2, if_neg (by omega)]
def ra_cp (g f : Nat → Int32) (fw i : Nat) : Nat → Int32 := fun j => if j < i then f (fw + j) else g j
theorem ra_cp_0 (g f : Nat → Int32) (fw : Nat) : ra_cp g f fw 0 = g := by
  funext j
  exact if_neg (by omega)
theorem ra_cp_s (g f : Nat → Int32) (fw i : Nat) : upd (ra_cp g f fw i) i (f (fw + i)) = ra_cp g f fw (i + 1) := by
  funext j
  unfold upd ra_cp
  by_cases h1 : j = i
  · rw [if_pos h1, if_pos (by omega), h1]
  · rw [if_neg h1]
    by_cases h2 : j < i
    · rw [if_pos h2, if_pos (by omega)]
    · rw [if_neg h2, if_neg (by omega)]
theorem ra_mv_y (f g : Nat → Int32) {fw tw i n : Nat} (hi : i < n) : upd (ra_mv f fw tw i) (tw + i) (ra_cp g f fw n i) = ra_mv f fw tw (i + 1) := by
  funext j
  have e : ra_cp g f fw n i = f (fw + i) := if_pos hi
  rw [e]
  unfold upd ra_mv
  by_cases h1 : j = tw + i
  · rw [if_pos h1, if_pos (by omega), show fw + (j - tw) = fw + i by omega]
  · rw [if_neg h1]
    by_cases h2 : tw ≤ j ∧ j < tw + i
    · rw [if_pos h2, if_pos (by omega)]
    · rw [if_neg h2, if_neg (by omega)]
/-! the best of those that are fit; the first that is fit -/
def ra_e : Option Nat → Int32
  | none => -1
  | some j => nI j
def ra_best (p : Nat → Bool) (q : Nat → Nat → Bool) : Nat → Option Nat
  | 0 => none
  | n + 1 => match ra_best p q n with
    | none => if p n = true then some n else none
    | some b => if (p n && q n b) = true then some n else some b
theorem ra_best_in {p : Nat → Bool} {q : Nat → Nat → Bool} : ∀ {n b : Nat}, ra_best p q n = some b → b < n ∧ p b = true
  | 0, b, h => by simp [ra_best] at h
  | n + 1, b, h => by
    simp only [ra_best] at h
    split at h
    · split at h
      · rename_i z; cases h; exact ⟨by omega, z⟩
      · cases h
    · rename_i b' e
      split at h
      · rename_i z; cases h; exact ⟨by omega, (Bool.and_eq_true _ _ ▸ z).1⟩
      · cases h; have := ra_best_in e; exact ⟨by omega, this.2⟩
theorem ra_best_no {p : Nat → Bool} {q : Nat → Nat → Bool} : ∀ {n : Nat}, ra_best p q n = none → ∀ j, j < n → p j = false
  | 0, _, j, hj => by omega
  | n + 1, h, j, hj => by
    simp only [ra_best] at h
    split at h
    · rename_i e
      split at h
      · cases h
      · rename_i z
        by_cases y : j = n
        · rw [y]; exact ra_nt z
        · exact ra_best_no e j (by omega)
    · split at h <;> cases h
theorem ra_best_eq {p p' : Nat → Bool} {q q' : Nat → Nat → Bool} : ∀ {n : Nat}, (∀ j, j < n → p j = p' j) → (∀ i j, i < n → j < n → p i = true → p j = true → q i j = q' i j) → ra_best p q n = ra_best p' q' n
  | 0, _, _ => rfl
  | n + 1, h1, h2 => by
    have ih := ra_best_eq (n := n) (fun j hj => h1 j (by omega)) (fun i j hi hj => h2 i j (by omega) (by omega))
    simp only [ra_best]
    rw [← ih, ← h1 n (by omega)]
    split
    · rfl
    · rename_i b e
      have hb := ra_best_in e
      cases z : p n
      · rfl
      · rw [h2 n b (by omega) (by omega) z hb.2]
theorem ra_best_min {p : Nat → Bool} {k : Nat → Int} : ∀ {n b : Nat}, ra_best p (fun i j => decide (k i < k j)) n = some b → ∀ j, j < n → p j = true → k b ≤ k j
  | 0, b, h, j, hj, _ => by omega
  | n + 1, b, h, j, hj, hp => by
    simp only [ra_best] at h
    split at h
    · rename_i e
      split at h
      · cases h
        by_cases y : j = n
        · rw [y]; exact Int.le_refl _
        · have := ra_best_no e j (by omega)
          rw [this] at hp; cases hp
      · cases h
    · rename_i b' e
      split at h
      · rename_i z
        cases h
        have z2 : k n < k b' := of_decide_eq_true (Bool.and_eq_true _ _ ▸ z).2
        by_cases y : j = n
        · rw [y]; exact Int.le_refl _
        · have := ra_best_min e j (by omega) hp
          omega
      · rename_i z
        cases h
        by_cases y : j = n
        · rw [← y, hp, Bool.true_and] at z
          have : ¬ k j < k b := fun w => z (decide_eq_true w)
          omega
        · exact ra_best_min e j (by omega) hp
theorem ra_first (p : Nat → Prop) (n : Nat) : (∀ j, j < n → ¬ p j) ∨ ∃ k, k < n ∧ p k ∧ ∀ j, j < k → ¬ p j := by
  induction n with
  | zero => exact Or.inl (fun j hj => by omega)
  | succ n ih =>
    rcases ih with h | ⟨k, hk, h1, h2⟩
    · by_cases z : p n
      · exact Or.inr ⟨n, by omega, z, h⟩
      · refine Or.inl (fun j hj => ?_)
        by_cases y : j = n
        · rw [y]; exact z
        · exact h j (by omega)
    · exact Or.inr ⟨k, by omega, h1, h2⟩
end
section
/-! the relation -/
section
variable {B c m n : Nat} {st pr bs tk mk vl cl rs al wt wd tt sb pa du oft bg av ep pt nb lg lt lv gk gt gf gl gs gn sl ss bo ot so sq go mo nt fr tw tx gr ge g1 g2 g3 sv lf se cp : Nat → Int32} {sn lo : Nat → Int64}
def ra_R (B c m n : Nat) (st pr tk rs al tt pa bs sb ep pt nb lg : Nat → Int32) (sn lo : Nat → Int64) (lt lv gk gt gf gl gs gn sl ss bo ot so sq go mo nt fr tw tx gr ge g1 g2 g3 sv lf se : Nat → Int32) : Prop :=
  ra_E B st ep bo ∧ ra_O B c m sn mo ∧ ra_W st ep pt ot rs ∧ ra_D lg so sq go ∧ ra_N st nb nt ∧ ra_L c n st lo lt lv fr tw tx ∧ ra_G st gk gt gf gl gs gn gr ge g1 g2 g3 ∧ ra_S st ep pa sl ss sv lf se sb ∧ ra_T st ∧ ra_I B tt ∧ ra_P st pr al tk bs
def ra_RR (B : Nat) (u : SX) (v : SY) : Prop := ∃ (c m n : Nat) (st pr bs tk mk vl cl rs al wt wd tt sb pa du oft bg av ep pt nb lg lt lv gk gt gf gl gs gn sl ss bo ot so sq go mo nt fr tw tx gr ge g1 g2 g3 sv lf se cp : Nat → Int32) (sn lo : Nat → Int64), u = (lN c, ep, st, pt, bs, pr, tk, mk, rs, vl, cl, nb, al, wt, lg, wd, sn, lo, lt, lv, gk, gt, gf, gl, gs, gn, sl, ss, sb, pa, du, oft, bg, av, tt) ∧ v = (nI n, nI m, st, bo, bs, pr, tk, mk, ot, vl, rs, al, wt, so, sq, go, mo, cl, wd, nt, fr, tw, tx, gr, ge, g1, g2, g3, sv, sb, lf, pa, du, av, bg, oft, se, tt, cp) ∧ ra_R B c m n st pr tk rs al tt pa bs sb ep pt nb lg sn lo lt lv gk gt gf gl gs gn sl ss bo ot so sq go mo nt fr tw tx gr ge g1 g2 g3 sv lf se
theorem ra_in (h : ra_R B c m n st pr tk rs al tt pa bs sb ep pt nb lg sn lo lt lv gk gt gf gl gs gn sl ss bo ot so sq go mo nt fr tw tx gr ge g1 g2 g3 sv lf se) : ra_RR B (lN c, ep, st, pt, bs, pr, tk, mk, rs, vl, cl, nb, al, wt, lg, wd, sn, lo, lt, lv, gk, gt, gf, gl, gs, gn, sl, ss, sb, pa, du, oft, bg, av, tt) (nI n, nI m, st, bo, bs, pr, tk, mk, ot, vl, rs, al, wt, so, sq, go, mo, cl, wd, nt, fr, tw, tx, gr, ge, g1, g2, g3, sv, sb, lf, pa, du, av, bg, oft, se, tt, cp) := ⟨c, m, n, st, pr, bs, tk, mk, vl, cl, rs, al, wt, wd, tt, sb, pa, du, oft, bg, av, ep, pt, nb, lg, lt, lv, gk, gt, gf, gl, gs, gn, sl, ss, bo, ot, so, sq, go, mo, nt, fr, tw, tx, gr, ge, g1, g2, g3, sv, lf, se, cp, sn, lo, rfl, rfl, h⟩
theorem ra_R_mono {B' : Nat} (h : ra_R B c m n st pr tk rs al tt pa bs sb ep pt nb lg sn lo lt lv gk gt gf gl gs gn sl ss bo ot so sq go mo nt fr tw tx gr ge g1 g2 g3 sv lf se) (hB : B ≤ B') : ra_R B' c m n st pr tk rs al tt pa bs sb ep pt nb lg sn lo lt lv gk gt gf gl gs gn sl ss bo ot so sq go mo nt fr tw tx gr ge g1 g2 g3 sv lf se := by
  obtain ⟨h1, h2, h3, h4, h5, h6, h7, h8, h9, h10, h11⟩ := h
  exact ⟨ra_E_mono hB h1, ra_O_mono hB h2, h3, h4, h5, h6, h7, h8, h9, ra_I_mono hB h10, h11⟩
theorem ra_RR_mono {B' : Nat} {u : SX} {v : SY} (h : ra_RR B u v) (hB : B ≤ B') : ra_RR B' u v := by
  obtain ⟨c, m, n, st, pr, bs, tk, mk, vl, cl, rs, al, wt, wd, tt, sb, pa, du, oft, bg, av, ep, pt, nb, lg, lt, lv, gk, gt, gf, gl, gs, gn, sl, ss, bo, ot, so, sq, go, mo, nt, fr, tw, tx, gr, ge, g1, g2, g3, sv, lf, se, cp, sn, lo, e, f, g⟩ := h
  exact ⟨c, m, n, st, pr, bs, tk, mk, vl, cl, rs, al, wt, wd, tt, sb, pa, du, oft, bg, av, ep, pt, nb, lg, lt, lv, gk, gt, gf, gl, gs, gn, sl, ss, bo, ot, so, sq, go, mo, nt, fr, tw, tx, gr, ge, g1, g2, g3, sv, lf, se, cp, sn, lo, e, f, ra_R_mono g hB⟩
/-- a waiting one becomes ready -/
theorem ra_R_ready0 {s : Nat} (h : ra_R B c m n st pr tk rs al tt pa bs sb ep pt nb lg sn lo lt lv gk gt gf gl gs gn sl ss bo ot so sq go mo nt fr tw tx gr ge g1 g2 g3 sv lf se) (hs : s < 10) (hl : st s ≠ 0) : ra_R (B + 1) (c + 1) (m + 1) n (upd st s 1) pr tk rs al tt pa bs sb ep (upd pt s (ep s)) nb lg (vp_updL sn s (lN (c + 1))) lo lt lv gk gt gf gl gs gn sl ss bo ot so sq go (upd mo s (nI (m + 1))) nt fr tw tx gr ge g1 g2 g3 sv lf se := by
  obtain ⟨h1, h2, h3, h4, h5, h6, h7, h8, h9, h10, h11⟩ := h
  have z : ra_Z st (upd st s 1) := ra_Z_u hl (by decide)
  exact ⟨ra_E_mono (Nat.le_succ _) (ra_E_sm h1 z), ra_O_last h2 hs, ra_W_ready0 h3 hs, h4, ra_N_sm h5 z, ra_L_c (ra_L_sm h6 z) (Nat.le_succ _), ra_G_sm h7 z, ra_S_sm h8 z, ra_T_u h9 (Or.inr (Or.inl rfl)), ra_I_mono (Nat.le_succ _) h10, ra_P_sm h11 z⟩
theorem ra_R_wait {s : Nat} {how whom : Int32} (h : ra_R B c m n st pr tk rs al tt pa bs sb ep pt nb lg sn lo lt lv gk gt gf gl gs gn sl ss bo ot so sq go mo nt fr tw tx gr ge g1 g2 g3 sv lf se) (hs : s < 10) (hl : st s ≠ 0) (hh : how = 2 ∨ how = 3 ∨ how = 4) (hw : whom = -1 ∨ ∃ t, t < 10 ∧ st t ≠ 0 ∧ whom = ep t) : ra_R (B + 1) (c + 1) (m + 1) n (upd st s how) pr tk (upd rs s 0) al tt pa bs sb ep (upd pt s whom) nb lg (vp_updL sn s (lN (c + 1))) lo lt lv gk gt gf gl gs gn sl ss bo (upd ot s whom) so sq go (upd mo s (nI (m + 1))) nt fr tw tx gr ge g1 g2 g3 sv lf se := by
  obtain ⟨h1, h2, h3, h4, h5, h6, h7, h8, h9, h10, h11⟩ := h
  have n0 : how ≠ 0 := by rcases hh with rfl | rfl | rfl <;> decide
  have n1 : how ≠ 1 := by rcases hh with rfl | rfl | rfl <;> decide
  have z : ra_Z st (upd st s how) := ra_Z_u hl n0
  exact ⟨ra_E_mono (Nat.le_succ _) (ra_E_sm h1 z), ra_O_last h2 hs, ra_W_wait h3 hs n0 n1 hw, h4, ra_N_sm h5 z, ra_L_c (ra_L_sm h6 z) (Nat.le_succ _), ra_G_sm h7 z, ra_S_sm h8 z, ra_T_u h9 (Or.inr (Or.inr hh)), ra_I_mono (Nat.le_succ _) h10, ra_P_sm h11 z⟩
theorem ra_R_put {s k : Nat} {x y w v : Int32} (h : ra_R B c m n st pr tk rs al tt pa bs sb ep pt nb lg sn lo lt lv gk gt gf gl gs gn sl ss bo ot so sq go mo nt fr tw tx gr ge g1 g2 g3 sv lf se) (hk : k ≠ 0) : ra_R B c m n st pr tk rs al (upd tt k v) pa bs sb ep pt nb (upd (upd (upd lg (3 * s) x) (3 * s + 1) y) (3 * s + 2) w) sn lo lt lv gk gt gf gl gs gn sl ss bo ot (upd so s x) (upd sq s y) (upd go s w) mo nt fr tw tx gr ge g1 g2 g3 sv lf se := by
  obtain ⟨h1, h2, h3, h4, h5, h6, h7, h8, h9, h10, h11⟩ := h
  exact ⟨h1, h2, h3, ra_D_put h4, h5, h6, h7, h8, h9, ra_I_u h10 hk, h11⟩
theorem ra_R_rs0 {s : Nat} (h : ra_R B c m n st pr tk rs al tt pa bs sb ep pt nb lg sn lo lt lv gk gt gf gl gs gn sl ss bo ot so sq go mo nt fr tw tx gr ge g1 g2 g3 sv lf se) (hs : s < 10) (h0 : st s ≠ 0) (h1 : st s ≠ 1) : upd rs s 0 = rs := ra_us ((h.2.2.1 s hs).2 h0 h1).2.1
theorem ra_R_beg {s p : Nat} {v : Int32} {lg' gk' : Nat → Int32} (h : ra_R B c m n st pr tk rs al tt pa bs sb ep pt nb lg sn lo lt lv gk gt gf gl gs gn sl ss bo ot so sq go mo nt fr tw tx gr ge g1 g2 g3 sv lf se) (hs : s < 10) (hl : st s = 0) (hp : p ≤ 3) (hlg : ∀ j, j < 30 → lg' j = if 3 * s ≤ j ∧ j < 3 * s + 3 then 0 else lg j) (hgk : ∀ g, g < 40 → gk' g = if 4 * s ≤ g ∧ g < 4 * s + 4 then 0 else gk g) :
    ra_R (B + 1) (c + 1) (m + 1) n (upd st s 1) (upd pr s (nI p)) (upd tk s 4) (upd rs s 0) (upd al s 0) (upd tt 1 v) pa (upd bs s (nI p)) sb ep (upd pt s (ep s)) (upd nb s 0) lg' (vp_updL sn s (lN (c + 1))) lo lt lv gk' gt gf gl gs gn sl ss (upd bo s (bo s + 1)) ot (upd so s 0) (upd sq s 0) (upd go s 0) (upd mo s (nI (m + 1))) nt fr tw tx gr ge g1 g2 g3 sv lf se := by
  obtain ⟨h1, h2, h3, h4, h5, h6, h7, h8, h9, h10, h11⟩ := h
  have z : ∀ t, t < 10 → st t ≠ 0 → upd st s 1 t ≠ 0 := by
    intro t _ ht
    by_cases y : t = s
    · rw [y, pk_us]; decide
    · rw [pk_un y]; exact ht
  exact ⟨ra_E_mono (Nat.le_succ _) (ra_E_beg h1 hs hl), ra_O_last h2 hs, ra_W_ready h3 hs, ra_D_beg h4 hlg, ra_N_beg h5 hs hl, ra_L_c (ra_L_up h6 z) (Nat.le_succ _), ra_G_beg h7 hs hl hgk, ra_S_up h8 z, ra_T_u h9 (Or.inr (Or.inl rfl)), ra_I_mono (Nat.le_succ _) (ra_I_u h10 (by decide)), ra_P_beg h11 hp⟩
theorem ra_R_begS {s p k : Nat} {v : Int32} {lg' gk' : Nat → Int32} (h : ra_R B c m n st pr tk rs al tt pa bs sb ep pt nb lg sn lo lt lv gk gt gf gl gs gn sl ss bo ot so sq go mo nt fr tw tx gr ge g1 g2 g3 sv lf se) (hs : s < 10) (hl : st s = 0) (hp : p ≤ 3) (hlg : ∀ j, j < 30 → lg' j = if 3 * s ≤ j ∧ j < 3 * s + 3 then 0 else lg j) (hgk : ∀ g, g < 40 → gk' g = if 4 * s ≤ g ∧ g < 4 * s + 4 then 0 else gk g) (hk : k < 3) (h2 : sv k = 2) :
    ra_R (B + 1) (c + 1) (m + 1) n (upd st s 1) (upd pr s (nI p)) (upd tk s 4) (upd rs s 0) (upd al s 0) (upd tt 1 v) pa (upd bs s (nI p)) sb ep (upd pt s (ep s)) (upd nb s 0) lg' (vp_updL sn s (lN (c + 1))) lo lt lv gk' gt gf gl gs gn sl (upd ss k (nI s)) (upd bo s (bo s + 1)) ot (upd so s 0) (upd sq s 0) (upd go s 0) (upd mo s (nI (m + 1))) nt fr tw tx gr ge g1 g2 g3 (upd sv k 1) lf (upd se k (ep s)) := by
  obtain ⟨a1, a2, a3, a4, a5, a6, a7, a8, a9, a10, a11⟩ := ra_R_beg (v := v) h hs hl hp hlg hgk
  obtain ⟨-, -, -, -, -, -, -, h8, -, -, -⟩ := h
  exact ⟨a1, a2, a3, a4, a5, a6, a7, ra_S_beg h8 hs hl hk h2, a9, a10, a11⟩
theorem ra_R_end {s n' c' m' : Nat} {v w : Int32} {st' pt' rs' nb' mo' nt' fr' tw' tx' gr' pa' ss' sv' se' : Nat → Int32} {sn' lo' : Nat → Int64} (h : ra_R B c m n st pr tk rs al tt pa bs sb ep pt nb lg sn lo lt lv gk gt gf gl gs gn sl ss bo ot so sq go mo nt fr tw tx gr ge g1 g2 g3 sv lf se) (hs : s < 10) (hl : st s ≠ 0)
    (hc : c ≤ c') (hO : ra_O (B + 10) c' m' sn' mo') (hW : ra_W st' (upd ep s (ep s + 16)) pt' ot rs') (hZ : ra_Z (upd st s 0) st') (hT : ra_T st')
    (hnb : ∀ t, t < 10 → ∀ i, i < 14 → bt (nb' t) i = (bt (nb t) i && decide (i ≠ s))) (hnt : ∀ j, j < 140 → nt' j = if j / 14 = s ∨ j % 14 = s then 0 else nt j)
    (hL : ra_L c n' (upd st s 0) lo' lt lv fr' tw' tx') (hgr : ∀ g, g < 40 → gr' g = if 4 * s ≤ g ∧ g < 4 * s + 4 then 0 else gr g)
    (hr : ∀ k, k < 3 → (sv k = 1 ∧ ss k = nI s ∧ sv' k = 2 ∧ ss' k = -1 ∧ se' k = -1 ∧ ∃ p : Nat, 1 ≤ p ∧ p ≤ 8 ∧ pa' k = nI p) ∨ (¬ (sv k = 1 ∧ ss k = nI s) ∧ sv' k = sv k ∧ ss' k = ss k ∧ se' k = se k ∧ pa' k = pa k)) :
    ra_R (B + 11) c' m' n' st' pr tk rs' al (upd (upd tt 1 v) 5 w) pa' bs sb (upd ep s (ep s + 16)) pt' nb' lg sn' lo' lt lv gk gt gf gl gs gn sl ss' bo ot so sq go mo' nt' fr' tw' tx' gr' ge g1 g2 g3 sv' lf se' := by
  obtain ⟨h1, h2, h3, h4, h5, h6, h7, h8, h9, h10, h11⟩ := h
  exact ⟨ra_E_mono (by omega) (ra_E_sm (ra_E_end h1 hs hl) hZ), ra_O_mono (by omega) hO, hW, h4, ra_N_sm (ra_N_end h5 hs hnb hnt) hZ, ra_L_c (ra_L_sm hL hZ) hc, ra_G_sm (ra_G_end h7 hs hgr) hZ, ra_S_sm (ra_S_end h8 hs hr) hZ, hT, ra_I_mono (by omega) (ra_I_u (ra_I_u h10 (by decide)) (by decide)), ra_P_sm (ra_P_end h11) hZ⟩
end
end
section
/-! small walks: numbers first -/
theorem ra_m3 (s : Nat) : nI s * 3 = nI (3 * s) := by show nI s * nI 3 = _; rw [pk_mul, Nat.mul_comm]
theorem ra_m4 (s : Nat) : nI s * 4 = nI (4 * s) := by show nI s * nI 4 = _; rw [pk_mul, Nat.mul_comm]
theorem ra_m16 (s : Nat) : nI s * 16 = nI (16 * s) := by show nI s * nI 16 = _; rw [pk_mul, Nat.mul_comm]
theorem ra_4m (s : Nat) : 4 * nI s = nI (4 * s) := pk_mul 4 s
theorem ra_14m (s : Nat) : 14 * nI s = nI (14 * s) := pk_mul 14 s
theorem ra_16m (s : Nat) : 16 * nI s = nI (16 * s) := pk_mul 16 s
theorem ra_p2 (s : Nat) : nI s + 2 = nI (s + 2) := nI_add s 2
theorem ra_2p (s : Nat) : 2 + nI s = nI (2 + s) := nI_add 2 s
theorem ra_11p (s : Nat) : 11 + nI s = nI (11 + s) := nI_add 11 s
theorem ra_i {a N : Nat} (h : a < N) (hN : N < 2 ^ 31) : vp_in (nI a) N = True := eq_true (vp_in_nI h hN)
theorem ra_il {x : Int32} {N : Nat} (h : 0 ≤ x.toInt ∧ x.toInt < N) : vp_in x N := vp_in_iff.mpr h
theorem ra_n3 {i : Nat} (h : i < 3) : ((3 : Int32) ≤ nI i) = False := eq_false (nI_ge (b := 3) h (by decide))
theorem ra_y3 : ((3 : Int32) ≤ nI 3) = True := eq_true (nI_le (a := 3) (b := 3) (by omega) (by decide))
theorem ra_n4 {i : Nat} (h : i < 4) : ((4 : Int32) ≤ nI i) = False := eq_false (nI_ge (b := 4) h (by decide))
theorem ra_y4 : ((4 : Int32) ≤ nI 4) = True := eq_true (nI_le (a := 4) (b := 4) (by omega) (by decide))
theorem ra_n10 {i : Nat} (h : i < 10) : ((10 : Int32) ≤ nI i) = False := eq_false (nI_ge (b := 10) h (by decide))
theorem ra_y10 : ((10 : Int32) ≤ nI 10) = True := eq_true (nI_le (a := 10) (b := 10) (by omega) (by decide))
theorem ra_n14 {i : Nat} (h : i < 14) : ((14 : Int32) ≤ nI i) = False := eq_false (nI_ge (b := 14) h (by decide))
theorem ra_y14 : ((14 : Int32) ≤ nI 14) = True := eq_true (nI_le (a := 14) (b := 14) (by omega) (by decide))
theorem ra_n16 {i : Nat} (h : i < 16) : ((16 : Int32) ≤ nI i) = False := eq_false (nI_ge (b := 16) h (by decide))
theorem ra_y16 : ((16 : Int32) ≤ nI 16) = True := eq_true (nI_le (a := 16) (b := 16) (by omega) (by decide))
theorem ra_n30 {i : Nat} (h : i < 30) : ((30 : Int32) ≤ nI i) = False := eq_false (nI_ge (b := 30) h (by decide))
theorem ra_y30 : ((30 : Int32) ≤ nI 30) = True := eq_true (nI_le (a := 30) (b := 30) (by omega) (by decide))
theorem ra_n140 {i : Nat} (h : i < 140) : ((140 : Int32) ≤ nI i) = False := eq_false (nI_ge (b := 140) h (by decide))
theorem ra_y140 : ((140 : Int32) ≤ nI 140) = True := eq_true (nI_le (a := 140) (b := 140) (by omega) (by decide))
theorem ra_n0 {i : Nat} (h : i < 1000000) : (nI i < 0) = False := eq_false (nI_pos (by omega))
theorem ra_p0 {i : Nat} (h : i < 1000000) : (0 ≤ nI i) = True := eq_true (nI_pos' (by omega))
theorem ra_q0 : ((-1 : Int32) < 0) = True := by decide
theorem ra_q1 : ((0 : Int32) ≤ -1) = False := by decide
theorem ra_q2 : ((1 : Int32) = 0) = False := by decide
theorem ra_q3 : ((3 : Int32) = 0) = False := by decide
theorem ra_q4 : ((-3 : Int32) = 0) = False := by decide
theorem ra_q5 : ((-1 : Int32) = 0) = False := by decide
theorem ra_q6 : ((4 : Int32) = 3) = False := by decide
theorem ra_run (W : Nat → Nat → Prop) (e : Nat) (hx : ∀ n, W (n + 1) e) (hs : ∀ n i, i < e → W n (i + 1) → W (n + 1) i) : ∃ n, W n 0 := by
  have key : ∀ d i, i + d = e → W (d + 1) i := by
    intro d
    induction d with
    | zero => intro i h; have : i = e := by omega
              subst this; exact hx 0
    | succ d ih => intro i h; exact hs _ _ (by omega) (ih (i + 1) (by omega))
  exact ⟨e + 1, key e 0 (by omega)⟩
section
variable {B c m n : Nat} {st pr bs tk mk vl cl rs al wt wd tt sb pa du oft bg av ep pt nb lg lt lv gk gt gf gl gs gn sl ss bo ot so sq go mo nt fr tw tx gr ge g1 g2 g3 sv lf se cp : Nat → Int32} {sn lo : Nat → Int64}
theorem xl_makeReady {s : Nat} {post : SX → Prop} (hs : s < 10) (h : post (lN (c + 1), ep, upd st s 1, upd pt s (ep s), bs, pr, tk, mk, rs, vl, cl, nb, al, wt, lg, wd, vp_updL sn s (lN (c + 1)), lo, lt, lv, gk, gt, gf, gl, gs, gn, sl, ss, sb, pa, du, oft, bg, av, tt)) : wpX_makeReady post (lN c, ep, st, pt, bs, pr, tk, mk, rs, vl, cl, nb, al, wt, lg, wd, sn, lo, lt, lv, gk, gt, gf, gl, gs, gn, sl, ss, sb, pa, du, oft, bg, av, tt) (nI s) := by
  simp (disch := omega) only [wpX_makeReady, ra_i, ra_c, true_and, forall_eq, lN_1]
  exact h
theorem yl_ready {s : Nat} {x : Int32} {post : SY → Prop} (hs : s < 10) (h : post (nI n, nI (m + 1), upd st s 1, bo, bs, pr, tk, mk, ot, vl, upd rs s x, al, wt, so, sq, go, upd mo s (nI (m + 1)), cl, wd, nt, fr, tw, tx, gr, ge, g1, g2, g3, sv, sb, lf, pa, du, av, bg, oft, se, tt, cp)) : wpY_ready post (nI n, nI m, st, bo, bs, pr, tk, mk, ot, vl, rs, al, wt, so, sq, go, mo, cl, wd, nt, fr, tw, tx, gr, ge, g1, g2, g3, sv, sb, lf, pa, du, av, bg, oft, se, tt, cp) (nI s) x := by
  simp (disch := omega) only [wpY_ready, wpY_last, ra_i, ra_c, true_and, forall_eq, nI_1]
  exact h
theorem xl_startWaiting {s : Nat} {how whom : Int32} {post : SX → Prop} (hs : s < 10) (h : post (lN (c + 1), ep, upd st s how, upd pt s whom, bs, pr, tk, mk, upd rs s 0, vl, cl, nb, al, wt, lg, wd, vp_updL sn s (lN (c + 1)), lo, lt, lv, gk, gt, gf, gl, gs, gn, sl, ss, sb, pa, du, oft, bg, av, tt)) : wpX_startWaiting post (lN c, ep, st, pt, bs, pr, tk, mk, rs, vl, cl, nb, al, wt, lg, wd, sn, lo, lt, lv, gk, gt, gf, gl, gs, gn, sl, ss, sb, pa, du, oft, bg, av, tt) (nI s) how whom := by
  simp (disch := omega) only [wpX_startWaiting, ra_i, ra_c, true_and, forall_eq, lN_1]
  exact h
theorem yl_waits {s : Nat} {how whom : Int32} {post : SY → Prop} (hs : s < 10) (h : post (nI n, nI (m + 1), upd st s how, bo, bs, pr, tk, mk, upd ot s whom, vl, upd rs s 0, al, wt, so, sq, go, upd mo s (nI (m + 1)), cl, wd, nt, fr, tw, tx, gr, ge, g1, g2, g3, sv, sb, lf, pa, du, av, bg, oft, se, tt, cp)) : wpY_waits post (nI n, nI m, st, bo, bs, pr, tk, mk, ot, vl, rs, al, wt, so, sq, go, mo, cl, wd, nt, fr, tw, tx, gr, ge, g1, g2, g3, sv, sb, lf, pa, du, av, bg, oft, se, tt, cp) (nI s) how whom := by
  simp (disch := omega) only [wpY_waits, wpY_last, ra_i, ra_c, true_and, forall_eq, nI_1]
  exact h
theorem xl_putInto {s k : Nat} {src v : Int32} {post : SX → Prop} (hs : s < 10) (hk : k < 3) (h : post (lN c, ep, st, pt, bs, pr, tk, mk, rs, vl, cl, nb, al, wt, upd (upd (upd lg (3 * s) src) (3 * s + 1) (nI k)) (3 * s + 2) v, wd, sn, lo, lt, lv, gk, gt, gf, gl, gs, gn, sl, ss, sb, pa, du, oft, bg, av, upd tt (2 + k) (tt (2 + k) + 1))) : wpX_putInto post (lN c, ep, st, pt, bs, pr, tk, mk, rs, vl, cl, nb, al, wt, lg, wd, sn, lo, lt, lv, gk, gt, gf, gl, gs, gn, sl, ss, sb, pa, du, oft, bg, av, tt) (nI s) src (nI k) v := by
  simp (disch := omega) only [wpX_putInto, ra_i, ra_c, ra_m3, nI_1, ra_p2, ra_2p, true_and, forall_eq]
  exact h
theorem yl_gets {s k : Nat} {src v : Int32} {post : SY → Prop} (hs : s < 10) (hk : k < 3) (h : post (nI n, nI m, st, bo, bs, pr, tk, mk, ot, vl, rs, al, wt, upd so s src, upd sq s (nI k), upd go s v, mo, cl, wd, nt, fr, tw, tx, gr, ge, g1, g2, g3, sv, sb, lf, pa, du, av, bg, oft, se, upd tt (2 + k) (tt (2 + k) + 1), cp)) : wpY_gets post (nI n, nI m, st, bo, bs, pr, tk, mk, ot, vl, rs, al, wt, so, sq, go, mo, cl, wd, nt, fr, tw, tx, gr, ge, g1, g2, g3, sv, sb, lf, pa, du, av, bg, oft, se, tt, cp) (nI s) src (nI k) v := by
  simp (disch := omega) only [wpY_gets, ra_i, ra_c, ra_2p, true_and, forall_eq]
  exact h
end
end
section
/-! walks that only read -/
section
variable {B c m n : Nat} {st pr bs tk mk vl cl rs al wt wd tt sb pa du oft bg av ep pt nb lg lt lv gk gt gf gl gs gn sl ss bo ot so sq go mo nt fr tw tx gr ge g1 g2 g3 sv lf se cp : Nat → Int32} {sn lo : Nat → Int64}
theorem xl_free_n {post : Int32 → Prop} (hn : ∀ s, s < 10 → st s ≠ 0) (h : post (-1)) : wpX_freeSlot post (lN c, ep, st, pt, bs, pr, tk, mk, rs, vl, cl, nb, al, wt, lg, wd, sn, lo, lt, lv, gk, gt, gf, gl, gs, gn, sl, ss, sb, pa, du, oft, bg, av, tt) := by
  refine ra_run (fun n i => wX_freeSlot_2 post (lN c) ep st pt bs pr tk mk rs vl cl nb al wt lg wd sn lo lt lv gk gt gf gl gs gn sl ss sb pa du oft bg av tt n (nI i)) 10 (fun n => ?_) (fun n i hi ih => ?_)
  · simp (disch := omega) only [wX_freeSlot_2, not_true, not_false_iff, true_implies, false_implies, implies_true, true_and, and_true, forall_eq, eq_self, ra_i, ra_c, ra_m3, ra_m4, ra_m16, ra_4m, ra_14m, ra_16m, nI_add, nI_1, lN_1, ra_p2, ra_2p, ra_n0, ra_p0, ra_q0, ra_q1, ra_q2, ra_q3, ra_n3, ra_n4, ra_n10, ra_n14, ra_n16, ra_n30, ra_n140, ra_y3, ra_y4, ra_y10, ra_y14, ra_y16, ra_y30, ra_y140]
    exact h
  · have := hn i hi
    simp (disch := omega) only [wX_freeSlot_2, this, not_true, not_false_iff, true_implies, false_implies, implies_true, true_and, and_true, forall_eq, eq_self, ra_i, ra_c, ra_m3, ra_m4, ra_m16, ra_4m, ra_14m, ra_16m, nI_add, nI_1, lN_1, ra_p2, ra_2p, ra_n0, ra_p0, ra_q0, ra_q1, ra_q2, ra_q3, ra_n3, ra_n4, ra_n10, ra_n14, ra_n16, ra_n30, ra_n140, ra_y3, ra_y4, ra_y10, ra_y14, ra_y16, ra_y30, ra_y140]
    exact ih
theorem xl_free_s {k : Nat} {post : Int32 → Prop} (hk : k < 10) (h0 : st k = 0) (hn : ∀ s, s < k → st s ≠ 0) (h : post (nI k)) : wpX_freeSlot post (lN c, ep, st, pt, bs, pr, tk, mk, rs, vl, cl, nb, al, wt, lg, wd, sn, lo, lt, lv, gk, gt, gf, gl, gs, gn, sl, ss, sb, pa, du, oft, bg, av, tt) := by
  refine ra_run (fun n i => wX_freeSlot_2 post (lN c) ep st pt bs pr tk mk rs vl cl nb al wt lg wd sn lo lt lv gk gt gf gl gs gn sl ss sb pa du oft bg av tt n (nI i)) k (fun n => ?_) (fun n i hi ih => ?_)
  · simp (disch := omega) only [wX_freeSlot_2, h0, not_true, not_false_iff, true_implies, false_implies, implies_true, true_and, and_true, forall_eq, eq_self, ra_i, ra_c, ra_m3, ra_m4, ra_m16, ra_4m, ra_14m, ra_16m, nI_add, nI_1, lN_1, ra_p2, ra_2p, ra_n0, ra_p0, ra_q0, ra_q1, ra_q2, ra_q3, ra_n3, ra_n4, ra_n10, ra_n14, ra_n16, ra_n30, ra_n140, ra_y3, ra_y4, ra_y10, ra_y14, ra_y16, ra_y30, ra_y140]
    exact h
  · have := hn i hi
    simp (disch := omega) only [wX_freeSlot_2, this, not_true, not_false_iff, true_implies, false_implies, implies_true, true_and, and_true, forall_eq, eq_self, ra_i, ra_c, ra_m3, ra_m4, ra_m16, ra_4m, ra_14m, ra_16m, nI_add, nI_1, lN_1, ra_p2, ra_2p, ra_n0, ra_p0, ra_q0, ra_q1, ra_q2, ra_q3, ra_n3, ra_n4, ra_n10, ra_n14, ra_n16, ra_n30, ra_n140, ra_y3, ra_y4, ra_y10, ra_y14, ra_y16, ra_y30, ra_y140]
    exact ih
theorem yl_free_n {post : Int32 → Prop} (hn : ∀ s, s < 10 → st s ≠ 0) (h : post (-1)) : wpY_free post (nI n, nI m, st, bo, bs, pr, tk, mk, ot, vl, rs, al, wt, so, sq, go, mo, cl, wd, nt, fr, tw, tx, gr, ge, g1, g2, g3, sv, sb, lf, pa, du, av, bg, oft, se, tt, cp) := by
  refine ra_run (fun q i => wY_free_2 post (nI n) (nI m) st bo bs pr tk mk ot vl rs al wt so sq go mo cl wd nt fr tw tx gr ge g1 g2 g3 sv sb lf pa du av bg oft se tt cp q (nI i)) 10 (fun n => ?_) (fun n i hi ih => ?_)
  · simp (disch := omega) only [wY_free_2, not_true, not_false_iff, true_implies, false_implies, implies_true, true_and, and_true, forall_eq, eq_self, ra_i, ra_c, ra_m3, ra_m4, ra_m16, ra_4m, ra_14m, ra_16m, nI_add, nI_1, lN_1, ra_p2, ra_2p, ra_n0, ra_p0, ra_q0, ra_q1, ra_q2, ra_q3, ra_n3, ra_n4, ra_n10, ra_n14, ra_n16, ra_n30, ra_n140, ra_y3, ra_y4, ra_y10, ra_y14, ra_y16, ra_y30, ra_y140]
    exact h
  · have := hn i hi
    simp (disch := omega) only [wY_free_2, this, not_true, not_false_iff, true_implies, false_implies, implies_true, true_and, and_true, forall_eq, eq_self, ra_i, ra_c, ra_m3, ra_m4, ra_m16, ra_4m, ra_14m, ra_16m, nI_add, nI_1, lN_1, ra_p2, ra_2p, ra_n0, ra_p0, ra_q0, ra_q1, ra_q2, ra_q3, ra_n3, ra_n4, ra_n10, ra_n14, ra_n16, ra_n30, ra_n140, ra_y3, ra_y4, ra_y10, ra_y14, ra_y16, ra_y30, ra_y140]
    exact ih
theorem yl_free_s {k : Nat} {post : Int32 → Prop} (hk : k < 10) (h0 : st k = 0) (hn : ∀ s, s < k → st s ≠ 0) (h : post (nI k)) : wpY_free post (nI n, nI m, st, bo, bs, pr, tk, mk, ot, vl, rs, al, wt, so, sq, go, mo, cl, wd, nt, fr, tw, tx, gr, ge, g1, g2, g3, sv, sb, lf, pa, du, av, bg, oft, se, tt, cp) := by
  refine ra_run (fun q i => wY_free_2 post (nI n) (nI m) st bo bs pr tk mk ot vl rs al wt so sq go mo cl wd nt fr tw tx gr ge g1 g2 g3 sv sb lf pa du av bg oft se tt cp q (nI i)) k (fun n => ?_) (fun n i hi ih => ?_)
  · simp (disch := omega) only [wY_free_2, h0, not_true, not_false_iff, true_implies, false_implies, implies_true, true_and, and_true, forall_eq, eq_self, ra_i, ra_c, ra_m3, ra_m4, ra_m16, ra_4m, ra_14m, ra_16m, nI_add, nI_1, lN_1, ra_p2, ra_2p, ra_n0, ra_p0, ra_q0, ra_q1, ra_q2, ra_q3, ra_n3, ra_n4, ra_n10, ra_n14, ra_n16, ra_n30, ra_n140, ra_y3, ra_y4, ra_y10, ra_y14, ra_y16, ra_y30, ra_y140]
    exact h
  · have := hn i hi
    simp (disch := omega) only [wY_free_2, this, not_true, not_false_iff, true_implies, false_implies, implies_true, true_and, and_true, forall_eq, eq_self, ra_i, ra_c, ra_m3, ra_m4, ra_m16, ra_4m, ra_14m, ra_16m, nI_add, nI_1, lN_1, ra_p2, ra_2p, ra_n0, ra_p0, ra_q0, ra_q1, ra_q2, ra_q3, ra_n3, ra_n4, ra_n10, ra_n14, ra_n16, ra_n30, ra_n140, ra_y3, ra_y4, ra_y10, ra_y14, ra_y16, ra_y30, ra_y140]
    exact ih
/-- who runs -/
def ra_q (pr : Nat → Int32) (sn : Nat → Int64) : Nat → Nat → Bool := fun i j => decide (pr i < pr j ∨ (pr i = pr j ∧ sn i < sn j))
def ra_r (st pr : Nat → Int32) (sn : Nat → Int64) (n : Nat) : Option Nat := ra_best (fun i => decide (st i = 1)) (ra_q pr sn) n
theorem xl_runningSlot {post : Int32 → Prop} (h : post (ra_e (ra_r st pr sn 10))) : wpX_runningSlot post (lN c, ep, st, pt, bs, pr, tk, mk, rs, vl, cl, nb, al, wt, lg, wd, sn, lo, lt, lv, gk, gt, gf, gl, gs, gn, sl, ss, sb, pa, du, oft, bg, av, tt) := by
  refine ra_run (fun n i => wX_runningSlot_4 post (lN c) ep st pt bs pr tk mk rs vl cl nb al wt lg wd sn lo lt lv gk gt gf gl gs gn sl ss sb pa du oft bg av tt n (ra_e (ra_r st pr sn i)) (nI i)) 10 (fun n => ?_) (fun n i hi ih => ?_)
  · simp (disch := omega) only [wX_runningSlot_4, not_true, not_false_iff, true_implies, false_implies, implies_true, true_and, and_true, forall_eq, eq_self, ra_i, ra_c, ra_m3, ra_m4, ra_m16, ra_4m, ra_14m, ra_16m, nI_add, nI_1, lN_1, ra_p2, ra_2p, ra_n0, ra_p0, ra_q0, ra_q1, ra_q2, ra_q3, ra_n3, ra_n4, ra_n10, ra_n14, ra_n16, ra_n30, ra_n140, ra_y3, ra_y4, ra_y10, ra_y14, ra_y16, ra_y30, ra_y140]
    exact h
  · have e : ra_r st pr sn (i + 1) = match ra_r st pr sn i with
      | none => if decide (st i = 1) = true then some i else none
      | some b => if (decide (st i = 1) && ra_q pr sn i b) = true then some i else some b := rfl
    rw [e] at ih
    by_cases h1 : st i = 1
    · cases hb : ra_r st pr sn i with
      | none =>
        rw [hb] at ih
        simp only [h1, decide_true, if_true] at ih
        simp (disch := omega) only [wX_runningSlot_4, h1, ra_e, not_true, not_false_iff, true_implies, false_implies, implies_true, true_and, and_true, forall_eq, eq_self, ra_i, ra_c, ra_m3, ra_m4, ra_m16, ra_4m, ra_14m, ra_16m, nI_add, nI_1, lN_1, ra_p2, ra_2p, ra_n0, ra_p0, ra_q0, ra_q1, ra_q2, ra_q3, ra_n3, ra_n4, ra_n10, ra_n14, ra_n16, ra_n30, ra_n140, ra_y3, ra_y4, ra_y10, ra_y14, ra_y16, ra_y30, ra_y140]
        exact ih
      | some b =>
        have hb' : b < 10 := by have := (ra_best_in hb).1; omega
        rw [hb] at ih
        simp only [h1, decide_true, Bool.true_and, ra_q, decide_eq_true_eq] at ih
        simp (disch := omega) only [wX_runningSlot_4, wpX_runsBefore, h1, ra_e, not_true, not_false_iff, true_implies, false_implies, implies_true, true_and, and_true, forall_eq, eq_self, ra_i, ra_c, ra_m3, ra_m4, ra_m16, ra_4m, ra_14m, ra_16m, nI_add, nI_1, lN_1, ra_p2, ra_2p, ra_n0, ra_p0, ra_q0, ra_q1, ra_q2, ra_q3, ra_n3, ra_n4, ra_n10, ra_n14, ra_n16, ra_n30, ra_n140, ra_y3, ra_y4, ra_y10, ra_y14, ra_y16, ra_y30, ra_y140]
        by_cases a : pr i < pr b
        · simp only [a, true_or, if_true] at ih
          simp (disch := omega) only [a, not_true, not_false_iff, true_implies, false_implies, implies_true, true_and, and_true, forall_eq, eq_self, ra_i, ra_c, ra_m3, ra_m4, ra_m16, ra_4m, ra_14m, ra_16m, nI_add, nI_1, lN_1, ra_p2, ra_2p, ra_n0, ra_p0, ra_q0, ra_q1, ra_q2, ra_q3, ra_n3, ra_n4, ra_n10, ra_n14, ra_n16, ra_n30, ra_n140, ra_y3, ra_y4, ra_y10, ra_y14, ra_y16, ra_y30, ra_y140]
          exact ih
        · by_cases a2 : pr i = pr b
          · by_cases a3 : sn i < sn b
            · have a4 : ¬ sn b ≤ sn i := Int64.not_le.mpr a3
              simp only [a, a2, a3, and_self, or_true, if_true] at ih
              simp (disch := omega) only [a, a2, a4, Int32.lt_irrefl, not_true, not_false_iff, true_implies, false_implies, implies_true, true_and, and_true, forall_eq, eq_self, ra_i, ra_c, ra_m3, ra_m4, ra_m16, ra_4m, ra_14m, ra_16m, nI_add, nI_1, lN_1, ra_p2, ra_2p, ra_n0, ra_p0, ra_q0, ra_q1, ra_q2, ra_q3, ra_n3, ra_n4, ra_n10, ra_n14, ra_n16, ra_n30, ra_n140, ra_y3, ra_y4, ra_y10, ra_y14, ra_y16, ra_y30, ra_y140]
              exact ih
            · have a4 : sn b ≤ sn i := Int64.not_lt.mp a3
              simp only [a, a2, a3, and_false, Int32.lt_irrefl, or_self, if_false] at ih
              simp (disch := omega) only [a, a2, a4, Int32.lt_irrefl, not_true, not_false_iff, true_implies, false_implies, implies_true, true_and, and_true, forall_eq, eq_self, ra_i, ra_c, ra_m3, ra_m4, ra_m16, ra_4m, ra_14m, ra_16m, nI_add, nI_1, lN_1, ra_p2, ra_2p, ra_n0, ra_p0, ra_q0, ra_q1, ra_q2, ra_q3, ra_n3, ra_n4, ra_n10, ra_n14, ra_n16, ra_n30, ra_n140, ra_y3, ra_y4, ra_y10, ra_y14, ra_y16, ra_y30, ra_y140]
              exact ih
          · simp only [a, a2, false_and, or_self, if_false] at ih
            simp (disch := omega) only [a, a2, not_true, not_false_iff, true_implies, false_implies, implies_true, true_and, and_true, forall_eq, eq_self, ra_i, ra_c, ra_m3, ra_m4, ra_m16, ra_4m, ra_14m, ra_16m, nI_add, nI_1, lN_1, ra_p2, ra_2p, ra_n0, ra_p0, ra_q0, ra_q1, ra_q2, ra_q3, ra_n3, ra_n4, ra_n10, ra_n14, ra_n16, ra_n30, ra_n140, ra_y3, ra_y4, ra_y10, ra_y14, ra_y16, ra_y30, ra_y140]
            exact ih
    · cases hb : ra_r st pr sn i with
      | none =>
        rw [hb] at ih
        simp only [h1, decide_false, if_false, Bool.false_eq_true] at ih
        simp (disch := omega) only [wX_runningSlot_4, h1, not_true, not_false_iff, true_implies, false_implies, implies_true, true_and, and_true, forall_eq, eq_self, ra_i, ra_c, ra_m3, ra_m4, ra_m16, ra_4m, ra_14m, ra_16m, nI_add, nI_1, lN_1, ra_p2, ra_2p, ra_n0, ra_p0, ra_q0, ra_q1, ra_q2, ra_q3, ra_n3, ra_n4, ra_n10, ra_n14, ra_n16, ra_n30, ra_n140, ra_y3, ra_y4, ra_y10, ra_y14, ra_y16, ra_y30, ra_y140]
        exact ih
      | some b =>
        rw [hb] at ih
        simp only [h1, decide_false, Bool.false_and, if_false, Bool.false_eq_true] at ih
        simp (disch := omega) only [wX_runningSlot_4, h1, not_true, not_false_iff, true_implies, false_implies, implies_true, true_and, and_true, forall_eq, eq_self, ra_i, ra_c, ra_m3, ra_m4, ra_m16, ra_4m, ra_14m, ra_16m, nI_add, nI_1, lN_1, ra_p2, ra_2p, ra_n0, ra_p0, ra_q0, ra_q1, ra_q2, ra_q3, ra_n3, ra_n4, ra_n10, ra_n14, ra_n16, ra_n30, ra_n140, ra_y3, ra_y4, ra_y10, ra_y14, ra_y16, ra_y30, ra_y140]
        exact ih
def ra_qY (pr mo : Nat → Int32) : Nat → Nat → Bool := fun i j => decide (pr i < pr j ∨ (pr i = pr j ∧ mo i < mo j))
def ra_rY (st pr mo : Nat → Int32) (n : Nat) : Option Nat := ra_best (fun i => decide (st i = 1)) (ra_qY pr mo) n
theorem yl_first {post : Int32 → Prop} (h : post (ra_e (ra_rY st pr mo 10))) : wpY_first post (nI n, nI m, st, bo, bs, pr, tk, mk, ot, vl, rs, al, wt, so, sq, go, mo, cl, wd, nt, fr, tw, tx, gr, ge, g1, g2, g3, sv, sb, lf, pa, du, av, bg, oft, se, tt, cp) := by
  refine ra_run (fun q i => wY_first_4 post (nI n) (nI m) st bo bs pr tk mk ot vl rs al wt so sq go mo cl wd nt fr tw tx gr ge g1 g2 g3 sv sb lf pa du av bg oft se tt cp q (ra_e (ra_rY st pr mo i)) (nI i)) 10 (fun n => ?_) (fun n i hi ih => ?_)
  · simp (disch := omega) only [wY_first_4, not_true, not_false_iff, true_implies, false_implies, implies_true, true_and, and_true, forall_eq, eq_self, ra_i, ra_c, ra_m3, ra_m4, ra_m16, ra_4m, ra_14m, ra_16m, nI_add, nI_1, lN_1, ra_p2, ra_2p, ra_n0, ra_p0, ra_q0, ra_q1, ra_q2, ra_q3, ra_n3, ra_n4, ra_n10, ra_n14, ra_n16, ra_n30, ra_n140, ra_y3, ra_y4, ra_y10, ra_y14, ra_y16, ra_y30, ra_y140]
    exact h
  · have e : ra_rY st pr mo (i + 1) = match ra_rY st pr mo i with
      | none => if decide (st i = 1) = true then some i else none
      | some b => if (decide (st i = 1) && ra_qY pr mo i b) = true then some i else some b := rfl
    rw [e] at ih
    by_cases h1 : st i = 1
    · cases hb : ra_rY st pr mo i with
      | none =>
        rw [hb] at ih
        simp only [h1, decide_true, if_true] at ih
        simp (disch := omega) only [wY_first_4, wY_first_25, h1, ra_e, not_true, not_false_iff, true_implies, false_implies, implies_true, true_and, and_true, forall_eq, eq_self, ra_i, ra_c, ra_m3, ra_m4, ra_m16, ra_4m, ra_14m, ra_16m, nI_add, nI_1, lN_1, ra_p2, ra_2p, ra_n0, ra_p0, ra_q0, ra_q1, ra_q2, ra_q3, ra_n3, ra_n4, ra_n10, ra_n14, ra_n16, ra_n30, ra_n140, ra_y3, ra_y4, ra_y10, ra_y14, ra_y16, ra_y30, ra_y140]
        exact ih
      | some b =>
        have hb' : b < 10 := by have := (ra_best_in hb).1; omega
        rw [hb] at ih
        simp only [h1, decide_true, Bool.true_and, ra_qY, decide_eq_true_eq] at ih
        simp (disch := omega) only [wY_first_4, wY_first_25, h1, ra_e, not_true, not_false_iff, true_implies, false_implies, implies_true, true_and, and_true, forall_eq, eq_self, ra_i, ra_c, ra_m3, ra_m4, ra_m16, ra_4m, ra_14m, ra_16m, nI_add, nI_1, lN_1, ra_p2, ra_2p, ra_n0, ra_p0, ra_q0, ra_q1, ra_q2, ra_q3, ra_n3, ra_n4, ra_n10, ra_n14, ra_n16, ra_n30, ra_n140, ra_y3, ra_y4, ra_y10, ra_y14, ra_y16, ra_y30, ra_y140]
        by_cases a : pr i < pr b
        · simp only [a, true_or, if_true] at ih
          simp (disch := omega) only [a, not_true, not_false_iff, true_implies, false_implies, implies_true, true_and, and_true, forall_eq, eq_self, ra_i, ra_c, ra_m3, ra_m4, ra_m16, ra_4m, ra_14m, ra_16m, nI_add, nI_1, lN_1, ra_p2, ra_2p, ra_n0, ra_p0, ra_q0, ra_q1, ra_q2, ra_q3, ra_n3, ra_n4, ra_n10, ra_n14, ra_n16, ra_n30, ra_n140, ra_y3, ra_y4, ra_y10, ra_y14, ra_y16, ra_y30, ra_y140]
          exact ih
        · by_cases a2 : pr i = pr b
          · by_cases a3 : mo i < mo b
            · have a4 : ¬ mo b ≤ mo i := Int32.not_le.mpr a3
              simp only [a, a2, a3, and_self, or_true, if_true] at ih
              simp (disch := omega) only [a, a2, a4, Int32.lt_irrefl, not_true, not_false_iff, true_implies, false_implies, implies_true, true_and, and_true, forall_eq, eq_self, ra_i, ra_c, ra_m3, ra_m4, ra_m16, ra_4m, ra_14m, ra_16m, nI_add, nI_1, lN_1, ra_p2, ra_2p, ra_n0, ra_p0, ra_q0, ra_q1, ra_q2, ra_q3, ra_n3, ra_n4, ra_n10, ra_n14, ra_n16, ra_n30, ra_n140, ra_y3, ra_y4, ra_y10, ra_y14, ra_y16, ra_y30, ra_y140]
              exact ih
            · have a4 : mo b ≤ mo i := Int32.not_lt.mp a3
              simp only [a, a2, a3, and_false, Int32.lt_irrefl, or_self, if_false] at ih
              simp (disch := omega) only [a, a2, a4, Int32.lt_irrefl, not_true, not_false_iff, true_implies, false_implies, implies_true, true_and, and_true, forall_eq, eq_self, ra_i, ra_c, ra_m3, ra_m4, ra_m16, ra_4m, ra_14m, ra_16m, nI_add, nI_1, lN_1, ra_p2, ra_2p, ra_n0, ra_p0, ra_q0, ra_q1, ra_q2, ra_q3, ra_n3, ra_n4, ra_n10, ra_n14, ra_n16, ra_n30, ra_n140, ra_y3, ra_y4, ra_y10, ra_y14, ra_y16, ra_y30, ra_y140]
              exact ih
          · simp only [a, a2, false_and, or_self, if_false] at ih
            simp (disch := omega) only [a, a2, not_true, not_false_iff, true_implies, false_implies, implies_true, true_and, and_true, forall_eq, eq_self, ra_i, ra_c, ra_m3, ra_m4, ra_m16, ra_4m, ra_14m, ra_16m, nI_add, nI_1, lN_1, ra_p2, ra_2p, ra_n0, ra_p0, ra_q0, ra_q1, ra_q2, ra_q3, ra_n3, ra_n4, ra_n10, ra_n14, ra_n16, ra_n30, ra_n140, ra_y3, ra_y4, ra_y10, ra_y14, ra_y16, ra_y30, ra_y140]
            exact ih
    · cases hb : ra_rY st pr mo i with
      | none =>
        rw [hb] at ih
        simp only [h1, decide_false, if_false, Bool.false_eq_true] at ih
        simp (disch := omega) only [wY_first_4, wY_first_25, h1, not_true, not_false_iff, true_implies, false_implies, implies_true, true_and, and_true, forall_eq, eq_self, ra_i, ra_c, ra_m3, ra_m4, ra_m16, ra_4m, ra_14m, ra_16m, nI_add, nI_1, lN_1, ra_p2, ra_2p, ra_n0, ra_p0, ra_q0, ra_q1, ra_q2, ra_q3, ra_n3, ra_n4, ra_n10, ra_n14, ra_n16, ra_n30, ra_n140, ra_y3, ra_y4, ra_y10, ra_y14, ra_y16, ra_y30, ra_y140]
        exact ih
      | some b =>
        rw [hb] at ih
        simp only [h1, decide_false, Bool.false_and, if_false, Bool.false_eq_true] at ih
        simp (disch := omega) only [wY_first_4, wY_first_25, h1, not_true, not_false_iff, true_implies, false_implies, implies_true, true_and, and_true, forall_eq, eq_self, ra_i, ra_c, ra_m3, ra_m4, ra_m16, ra_4m, ra_14m, ra_16m, nI_add, nI_1, lN_1, ra_p2, ra_2p, ra_n0, ra_p0, ra_q0, ra_q1, ra_q2, ra_q3, ra_n3, ra_n4, ra_n10, ra_n14, ra_n16, ra_n30, ra_n140, ra_y3, ra_y4, ra_y10, ra_y14, ra_y16, ra_y30, ra_y140]
        exact ih
theorem ra_r_eq (hB : B ≤ 2 ^ 26) (h : ra_O B c m sn mo) : ra_rY st pr mo 10 = ra_r st pr sn 10 := by
  refine ra_best_eq (fun _ _ => rfl) (fun i j hi hj _ _ => ?_)
  exact decide_eq_decide.mpr (or_congr Iff.rfl (and_congr Iff.rfl (ra_O_lt hB h hi hj).symm))
/-- one that runs, or none: the same on both sides -/
theorem ra_run_both (hB : B ≤ 2 ^ 26) (h : ra_R B c m n st pr tk rs al tt pa bs sb ep pt nb lg sn lo lt lv gk gt gf gl gs gn sl ss bo ot so sq go mo nt fr tw tx gr ge g1 g2 g3 sv lf se) : ((∀ post : Int32 → Prop, post (-1) → wpX_runningSlot post (lN c, ep, st, pt, bs, pr, tk, mk, rs, vl, cl, nb, al, wt, lg, wd, sn, lo, lt, lv, gk, gt, gf, gl, gs, gn, sl, ss, sb, pa, du, oft, bg, av, tt)) ∧ (∀ post : Int32 → Prop, post (-1) → wpY_first post (nI n, nI m, st, bo, bs, pr, tk, mk, ot, vl, rs, al, wt, so, sq, go, mo, cl, wd, nt, fr, tw, tx, gr, ge, g1, g2, g3, sv, sb, lf, pa, du, av, bg, oft, se, tt, cp))) ∨
    ∃ r, r < 10 ∧ st r = 1 ∧ (∀ post : Int32 → Prop, post (nI r) → wpX_runningSlot post (lN c, ep, st, pt, bs, pr, tk, mk, rs, vl, cl, nb, al, wt, lg, wd, sn, lo, lt, lv, gk, gt, gf, gl, gs, gn, sl, ss, sb, pa, du, oft, bg, av, tt)) ∧ (∀ post : Int32 → Prop, post (nI r) → wpY_first post (nI n, nI m, st, bo, bs, pr, tk, mk, ot, vl, rs, al, wt, so, sq, go, mo, cl, wd, nt, fr, tw, tx, gr, ge, g1, g2, g3, sv, sb, lf, pa, du, av, bg, oft, se, tt, cp)) := by
  have e := ra_r_eq (st := st) (pr := pr) hB h.2.1
  cases hb : ra_r st pr sn 10 with
  | none =>
    refine Or.inl ⟨fun post hp => xl_runningSlot ?_, fun post hp => yl_first ?_⟩
    · rw [hb]; exact hp
    · rw [e, hb]; exact hp
  | some r =>
    have hr := ra_best_in hb
    refine Or.inr ⟨r, hr.1, of_decide_eq_true hr.2, fun post hp => xl_runningSlot ?_, fun post hp => yl_first ?_⟩
    · rw [hb]; exact hp
    · rw [e, hb]; exact hp
end
end
section
/-! endpoints asked, refusals, who takes, who is stuck -/
theorem ra_le0 {st : Nat → Int32} {s : Nat} (hT : ra_T st) (hs : s < 10) : (st s ≤ 0) = (st s = 0) := by
  rcases hT s hs with h | h | h | h | h <;> rw [h] <;> decide
theorem ra_le1 {st : Nat → Int32} {s : Nat} (hT : ra_T st) (hs : s < 10) : (st s ≤ 1) = (st s = 0 ∨ st s = 1) := by
  rcases hT s hs with h | h | h | h | h <;> rw [h] <;> decide
theorem ra_w9 {j : Nat} (h : j < 10) : ((9 : Int32) < nI j) = False := eq_false (nI_nlt (a := 9) (b := j) (by omega) (by omega))
theorem ra_w9' {j : Nat} (h : 10 ≤ j) (h' : j < 1000) : ((9 : Int32) < nI j) = True := eq_true (nI_lt (a := 9) (b := j) (by omega) (by omega))
theorem ra_g10 {j : Nat} (h : 10 ≤ j) (h' : j < 1000) : ((10 : Int32) ≤ nI j) = True := eq_true (nI_le (a := 10) (b := j) (by omega) (by omega))
section
variable {B c m n : Nat} {st pr bs tk mk vl cl rs al wt wd tt sb pa du oft bg av ep pt nb lg lt lv gk gt gf gl gs gn sl ss bo ot so sq go mo nt fr tw tx gr ge g1 g2 g3 sv lf se cp : Nat → Int32} {sn lo : Nat → Int64}
theorem xl_slotOf_s {s : Nat} {e : Int32} {post : Int32 → Prop} (hs : s < 10) (hl : st s ≠ 0) (he : ep s = e) (ha : e &&& 15 = nI s) (h : post (nI s)) : wpX_slotOf post (lN c, ep, st, pt, bs, pr, tk, mk, rs, vl, cl, nb, al, wt, lg, wd, sn, lo, lt, lv, gk, gt, gf, gl, gs, gn, sl, ss, sb, pa, du, oft, bg, av, tt) e := by
  simp (disch := omega) only [wpX_slotOf, wpX_hasProcess, ha, he, hl, not_true, not_false_iff, true_implies, false_implies, implies_true, true_and, and_true, forall_eq, eq_self, ra_i, ra_c, ra_m3, ra_m4, ra_m16, ra_4m, ra_14m, ra_16m, nI_add, nI_1, lN_1, ra_p2, ra_2p, ra_n0, ra_p0, ra_q0, ra_q1, ra_q2, ra_q3, ra_n3, ra_n4, ra_n10, ra_n14, ra_n16, ra_n30, ra_n140, ra_y3, ra_y4, ra_y10, ra_y14, ra_y16, ra_y30, ra_y140]
  exact h
theorem xl_slotOf_n {e : Int32} {post : Int32 → Prop} (hn : ∀ s, s < 10 → st s ≠ 0 → ep s ≠ e) (h : post (-1)) : wpX_slotOf post (lN c, ep, st, pt, bs, pr, tk, mk, rs, vl, cl, nb, al, wt, lg, wd, sn, lo, lt, lv, gk, gt, gf, gl, gs, gn, sl, ss, sb, pa, du, oft, bg, av, tt) e := by
  obtain ⟨j, hj, ej⟩ := pk_andE e (m := 15) 4 (by decide)
  by_cases h10 : j < 10
  · by_cases hl : st j = 0
    · simp (disch := omega) only [wpX_slotOf, wpX_hasProcess, ej, hl, not_true, not_false_iff, true_implies, false_implies, implies_true, true_and, and_true, forall_eq, eq_self, ra_i, ra_c, ra_m3, ra_m4, ra_m16, ra_4m, ra_14m, ra_16m, nI_add, nI_1, lN_1, ra_p2, ra_2p, ra_n0, ra_p0, ra_q0, ra_q1, ra_q2, ra_q3, ra_n3, ra_n4, ra_n10, ra_n14, ra_n16, ra_n30, ra_n140, ra_y3, ra_y4, ra_y10, ra_y14, ra_y16, ra_y30, ra_y140]
      exact h
    · have := hn j h10 hl
      simp (disch := omega) only [wpX_slotOf, wpX_hasProcess, ej, hl, this, not_true, not_false_iff, true_implies, false_implies, implies_true, true_and, and_true, forall_eq, eq_self, ra_i, ra_c, ra_m3, ra_m4, ra_m16, ra_4m, ra_14m, ra_16m, nI_add, nI_1, lN_1, ra_p2, ra_2p, ra_n0, ra_p0, ra_q0, ra_q1, ra_q2, ra_q3, ra_n3, ra_n4, ra_n10, ra_n14, ra_n16, ra_n30, ra_n140, ra_y3, ra_y4, ra_y10, ra_y14, ra_y16, ra_y30, ra_y140]
      exact h
  · simp (disch := omega) only [wpX_slotOf, wpX_hasProcess, ej, ra_g10, not_true, not_false_iff, true_implies, false_implies, implies_true, true_and, and_true, forall_eq, eq_self, ra_i, ra_c, ra_m3, ra_m4, ra_m16, ra_4m, ra_14m, ra_16m, nI_add, nI_1, lN_1, ra_p2, ra_2p, ra_n0, ra_p0, ra_q0, ra_q1, ra_q2, ra_q3, ra_n3, ra_n4, ra_n10, ra_n14, ra_n16, ra_n30, ra_n140, ra_y3, ra_y4, ra_y10, ra_y14, ra_y16, ra_y30, ra_y140]
    exact h
theorem yl_slotOf_s {s : Nat} {e : Int32} {post : Int32 → Prop} (hs : s < 10) (hl : ¬ st s ≤ 0) (he : 16 * (bo s - 1) + nI s = e) (hp : ¬ e < 0) (ha : e &&& 15 = nI s) (h : post (nI s)) : wpY_slotOf post (nI n, nI m, st, bo, bs, pr, tk, mk, ot, vl, rs, al, wt, so, sq, go, mo, cl, wd, nt, fr, tw, tx, gr, ge, g1, g2, g3, sv, sb, lf, pa, du, av, bg, oft, se, tt, cp) e := by
  simp (disch := omega) only [wpY_slotOf, wpY_isThere, wpY_within, wpY_endpoint, ha, he, hl, hp, ra_w9, not_true, not_false_iff, true_implies, false_implies, implies_true, true_and, and_true, forall_eq, eq_self, ra_i, ra_c, ra_m3, ra_m4, ra_m16, ra_4m, ra_14m, ra_16m, nI_add, nI_1, lN_1, ra_p2, ra_2p, ra_n0, ra_p0, ra_q0, ra_q1, ra_q2, ra_q3, ra_n3, ra_n4, ra_n10, ra_n14, ra_n16, ra_n30, ra_n140, ra_y3, ra_y4, ra_y10, ra_y14, ra_y16, ra_y30, ra_y140]
  exact h
theorem yl_slotOf_n {e : Int32} {post : Int32 → Prop} (hT : ra_T st) (hn : ∀ s, s < 10 → st s ≠ 0 → 16 * (bo s - 1) + nI s ≠ e) (h : post (-1)) : wpY_slotOf post (nI n, nI m, st, bo, bs, pr, tk, mk, ot, vl, rs, al, wt, so, sq, go, mo, cl, wd, nt, fr, tw, tx, gr, ge, g1, g2, g3, sv, sb, lf, pa, du, av, bg, oft, se, tt, cp) e := by
  by_cases hp : e < 0
  · simp (disch := omega) only [wpY_slotOf, hp, not_true, not_false_iff, true_implies, false_implies, implies_true, true_and, and_true, forall_eq, eq_self, ra_i, ra_c, ra_m3, ra_m4, ra_m16, ra_4m, ra_14m, ra_16m, nI_add, nI_1, lN_1, ra_p2, ra_2p, ra_n0, ra_p0, ra_q0, ra_q1, ra_q2, ra_q3, ra_n3, ra_n4, ra_n10, ra_n14, ra_n16, ra_n30, ra_n140, ra_y3, ra_y4, ra_y10, ra_y14, ra_y16, ra_y30, ra_y140]
    exact h
  · obtain ⟨j, hj, ej⟩ := pk_andE e (m := 15) 4 (by decide)
    by_cases h10 : j < 10
    · by_cases hl : st j = 0
      · have hl0 : st j ≤ 0 := by rw [ra_le0 hT h10]; exact hl
        simp (disch := omega) only [wpY_slotOf, wpY_isThere, wpY_within, hp, ej, hl0, ra_w9, not_true, not_false_iff, true_implies, false_implies, implies_true, true_and, and_true, forall_eq, eq_self, ra_i, ra_c, ra_m3, ra_m4, ra_m16, ra_4m, ra_14m, ra_16m, nI_add, nI_1, lN_1, ra_p2, ra_2p, ra_n0, ra_p0, ra_q0, ra_q1, ra_q2, ra_q3, ra_n3, ra_n4, ra_n10, ra_n14, ra_n16, ra_n30, ra_n140, ra_y3, ra_y4, ra_y10, ra_y14, ra_y16, ra_y30, ra_y140]
        exact h
      · have := hn j h10 hl
        simp (disch := omega) only [wpY_slotOf, wpY_isThere, wpY_within, wpY_endpoint, hp, ej, ra_le0 hT h10, hl, this, ra_w9, not_true, not_false_iff, true_implies, false_implies, implies_true, true_and, and_true, forall_eq, eq_self, ra_i, ra_c, ra_m3, ra_m4, ra_m16, ra_4m, ra_14m, ra_16m, nI_add, nI_1, lN_1, ra_p2, ra_2p, ra_n0, ra_p0, ra_q0, ra_q1, ra_q2, ra_q3, ra_n3, ra_n4, ra_n10, ra_n14, ra_n16, ra_n30, ra_n140, ra_y3, ra_y4, ra_y10, ra_y14, ra_y16, ra_y30, ra_y140]
        exact h
    · simp (disch := omega) only [wpY_slotOf, wpY_isThere, wpY_within, hp, ej, ra_w9', not_true, not_false_iff, true_implies, false_implies, implies_true, true_and, and_true, forall_eq, eq_self, ra_i, ra_c, ra_m3, ra_m4, ra_m16, ra_4m, ra_14m, ra_16m, nI_add, nI_1, lN_1, ra_p2, ra_2p, ra_n0, ra_p0, ra_q0, ra_q1, ra_q2, ra_q3, ra_n3, ra_n4, ra_n10, ra_n14, ra_n16, ra_n30, ra_n140, ra_y3, ra_y4, ra_y10, ra_y14, ra_y16, ra_y30, ra_y140]
      exact h
theorem ra_slot_both (hB : B ≤ 2 ^ 26) (h : ra_R B c m n st pr tk rs al tt pa bs sb ep pt nb lg sn lo lt lv gk gt gf gl gs gn sl ss bo ot so sq go mo nt fr tw tx gr ge g1 g2 g3 sv lf se) (e : Int32) : ((∀ s, s < 10 → st s ≠ 0 → ep s ≠ e) ∧ (∀ post : Int32 → Prop, post (-1) → wpX_slotOf post (lN c, ep, st, pt, bs, pr, tk, mk, rs, vl, cl, nb, al, wt, lg, wd, sn, lo, lt, lv, gk, gt, gf, gl, gs, gn, sl, ss, sb, pa, du, oft, bg, av, tt) e) ∧ (∀ post : Int32 → Prop, post (-1) → wpY_slotOf post (nI n, nI m, st, bo, bs, pr, tk, mk, ot, vl, rs, al, wt, so, sq, go, mo, cl, wd, nt, fr, tw, tx, gr, ge, g1, g2, g3, sv, sb, lf, pa, du, av, bg, oft, se, tt, cp) e)) ∨
    ∃ s, s < 10 ∧ st s ≠ 0 ∧ ep s = e ∧ e &&& 15 = nI s ∧ ¬ e < 0 ∧ (∀ post : Int32 → Prop, post (nI s) → wpX_slotOf post (lN c, ep, st, pt, bs, pr, tk, mk, rs, vl, cl, nb, al, wt, lg, wd, sn, lo, lt, lv, gk, gt, gf, gl, gs, gn, sl, ss, sb, pa, du, oft, bg, av, tt) e) ∧ (∀ post : Int32 → Prop, post (nI s) → wpY_slotOf post (nI n, nI m, st, bo, bs, pr, tk, mk, ot, vl, rs, al, wt, so, sq, go, mo, cl, wd, nt, fr, tw, tx, gr, ge, g1, g2, g3, sv, sb, lf, pa, du, av, bg, oft, se, tt, cp) e) := by
  obtain ⟨hE, -, -, -, -, -, -, -, hT, -, -⟩ := h
  by_cases z : ∃ s, s < 10 ∧ st s ≠ 0 ∧ ep s = e
  · obtain ⟨s, hs, hl, he⟩ := z
    have ha : e &&& 15 = nI s := by rw [← he]; exact ra_E_and hB hE hs
    have hp : ¬ e < 0 := by rw [← he]; exact Int32.not_lt.mpr (ra_E_pos hB hE hs)
    refine Or.inr ⟨s, hs, hl, he, ha, hp, fun post hp => xl_slotOf_s hs hl he ha hp, fun post hq => yl_slotOf_s hs ?_ ?_ hp ha hq⟩
    · rw [ra_le0 hT hs]; exact hl
    · rw [ra_E_y hE hs hl]; exact he
  · have z' : ∀ s, s < 10 → st s ≠ 0 → ep s ≠ e := fun s hs hl he => z ⟨s, hs, hl, he⟩
    refine Or.inl ⟨z', fun post hp => xl_slotOf_n z' hp, fun post hp => yl_slotOf_n hT (fun s hs hl => ?_) hp⟩
    rw [ra_E_y hE hs hl]
    exact z' s hs hl
theorem ra_ref0 {r : Nat} (hB : B ≤ 2 ^ 26) (h : ra_R B c m n st pr tk rs al tt pa bs sb ep pt nb lg sn lo lt lv gk gt gf gl gs gn sl ss bo ot so sq go mo nt fr tw tx gr ge g1 g2 g3 sv lf se) (hr : r < 10) (h1 : st r = 1) (e : Int32) : (∃ w : Int32, (w = -1 ∨ w = -3) ∧ (∀ post : Int32 → Prop, post w → wpX_refusal post (lN c, ep, st, pt, bs, pr, tk, mk, rs, vl, cl, nb, al, wt, lg, wd, sn, lo, lt, lv, gk, gt, gf, gl, gs, gn, sl, ss, sb, pa, du, oft, bg, av, tt) (nI r) e) ∧ (∀ post : Int32 → Prop, post w → wpX_refusalToReach post (lN c, ep, st, pt, bs, pr, tk, mk, rs, vl, cl, nb, al, wt, lg, wd, sn, lo, lt, lv, gk, gt, gf, gl, gs, gn, sl, ss, sb, pa, du, oft, bg, av, tt) (nI r) e) ∧ (∀ (post : Int32 → Prop) (b : Int32), post w → wpY_wrong post (nI n, nI m, st, bo, bs, pr, tk, mk, ot, vl, rs, al, wt, so, sq, go, mo, cl, wd, nt, fr, tw, tx, gr, ge, g1, g2, g3, sv, sb, lf, pa, du, av, bg, oft, se, tt, cp) (nI r) e b)) ∨
    ∃ s, s < 10 ∧ s ≠ r ∧ st s ≠ 0 ∧ ep s = e ∧ e &&& 15 = nI s ∧ (∀ post : Int32 → Prop, post 0 → wpX_refusal post (lN c, ep, st, pt, bs, pr, tk, mk, rs, vl, cl, nb, al, wt, lg, wd, sn, lo, lt, lv, gk, gt, gf, gl, gs, gn, sl, ss, sb, pa, du, oft, bg, av, tt) (nI r) e) ∧ (∀ post : Int32 → Prop, post 0 → wpY_wrong post (nI n, nI m, st, bo, bs, pr, tk, mk, ot, vl, rs, al, wt, so, sq, go, mo, cl, wd, nt, fr, tw, tx, gr, ge, g1, g2, g3, sv, sb, lf, pa, du, av, bg, oft, se, tt, cp) (nI r) e 0) := by
  rcases ra_slot_both hB h e with ⟨hn, hX, hY⟩ | ⟨s, hs, hl, he, ha, hp, hX, hY⟩
  · refine Or.inl ⟨-3, Or.inr rfl, fun post hp => ?_, fun post hp => ?_, fun post b hp => ?_⟩
    · simp (disch := omega) only [wpX_refusal, not_true, not_false_iff, true_implies, false_implies, implies_true, true_and, and_true, forall_eq, eq_self, ra_i, ra_c, ra_m3, ra_m4, ra_m16, ra_4m, ra_14m, ra_16m, nI_add, nI_1, lN_1, ra_p2, ra_2p, ra_n0, ra_p0, ra_q0, ra_q1, ra_q2, ra_q3, ra_n3, ra_n4, ra_n10, ra_n14, ra_n16, ra_n30, ra_n140, ra_y3, ra_y4, ra_y10, ra_y14, ra_y16, ra_y30, ra_y140]
      refine hX _ ?_
      simp (disch := omega) only [not_true, not_false_iff, true_implies, false_implies, implies_true, true_and, and_true, forall_eq, eq_self, ra_i, ra_c, ra_m3, ra_m4, ra_m16, ra_4m, ra_14m, ra_16m, nI_add, nI_1, lN_1, ra_p2, ra_2p, ra_n0, ra_p0, ra_q0, ra_q1, ra_q2, ra_q3, ra_n3, ra_n4, ra_n10, ra_n14, ra_n16, ra_n30, ra_n140, ra_y3, ra_y4, ra_y10, ra_y14, ra_y16, ra_y30, ra_y140]
      exact hp
    · simp (disch := omega) only [wpX_refusalToReach, wpX_refusal, not_true, not_false_iff, true_implies, false_implies, implies_true, true_and, and_true, forall_eq, eq_self, ra_i, ra_c, ra_m3, ra_m4, ra_m16, ra_4m, ra_14m, ra_16m, nI_add, nI_1, lN_1, ra_p2, ra_2p, ra_n0, ra_p0, ra_q0, ra_q1, ra_q2, ra_q3, ra_n3, ra_n4, ra_n10, ra_n14, ra_n16, ra_n30, ra_n140, ra_y3, ra_y4, ra_y10, ra_y14, ra_y16, ra_y30, ra_y140]
      refine hX _ ?_
      simp (disch := omega) only [ra_q4, not_true, not_false_iff, true_implies, false_implies, implies_true, true_and, and_true, forall_eq, eq_self, ra_i, ra_c, ra_m3, ra_m4, ra_m16, ra_4m, ra_14m, ra_16m, nI_add, nI_1, lN_1, ra_p2, ra_2p, ra_n0, ra_p0, ra_q0, ra_q1, ra_q2, ra_q3, ra_n3, ra_n4, ra_n10, ra_n14, ra_n16, ra_n30, ra_n140, ra_y3, ra_y4, ra_y10, ra_y14, ra_y16, ra_y30, ra_y140]
      exact hp
    · simp only [wpY_wrong]
      refine hY _ ?_
      simp (disch := omega) only [not_true, not_false_iff, true_implies, false_implies, implies_true, true_and, and_true, forall_eq, eq_self, ra_i, ra_c, ra_m3, ra_m4, ra_m16, ra_4m, ra_14m, ra_16m, nI_add, nI_1, lN_1, ra_p2, ra_2p, ra_n0, ra_p0, ra_q0, ra_q1, ra_q2, ra_q3, ra_n3, ra_n4, ra_n10, ra_n14, ra_n16, ra_n30, ra_n140, ra_y3, ra_y4, ra_y10, ra_y14, ra_y16, ra_y30, ra_y140]
      exact hp
  · by_cases z : s = r
    · subst z
      refine Or.inl ⟨-1, Or.inl rfl, fun post hp => ?_, fun post hp => ?_, fun post b hp => ?_⟩
      · simp (disch := omega) only [wpX_refusal, not_true, not_false_iff, true_implies, false_implies, implies_true, true_and, and_true, forall_eq, eq_self, ra_i, ra_c, ra_m3, ra_m4, ra_m16, ra_4m, ra_14m, ra_16m, nI_add, nI_1, lN_1, ra_p2, ra_2p, ra_n0, ra_p0, ra_q0, ra_q1, ra_q2, ra_q3, ra_n3, ra_n4, ra_n10, ra_n14, ra_n16, ra_n30, ra_n140, ra_y3, ra_y4, ra_y10, ra_y14, ra_y16, ra_y30, ra_y140]
        refine hX _ ?_
        simp (disch := omega) only [he, not_true, not_false_iff, true_implies, false_implies, implies_true, true_and, and_true, forall_eq, eq_self, ra_i, ra_c, ra_m3, ra_m4, ra_m16, ra_4m, ra_14m, ra_16m, nI_add, nI_1, lN_1, ra_p2, ra_2p, ra_n0, ra_p0, ra_q0, ra_q1, ra_q2, ra_q3, ra_n3, ra_n4, ra_n10, ra_n14, ra_n16, ra_n30, ra_n140, ra_y3, ra_y4, ra_y10, ra_y14, ra_y16, ra_y30, ra_y140]
        exact hp
      · simp (disch := omega) only [wpX_refusalToReach, wpX_refusal, not_true, not_false_iff, true_implies, false_implies, implies_true, true_and, and_true, forall_eq, eq_self, ra_i, ra_c, ra_m3, ra_m4, ra_m16, ra_4m, ra_14m, ra_16m, nI_add, nI_1, lN_1, ra_p2, ra_2p, ra_n0, ra_p0, ra_q0, ra_q1, ra_q2, ra_q3, ra_n3, ra_n4, ra_n10, ra_n14, ra_n16, ra_n30, ra_n140, ra_y3, ra_y4, ra_y10, ra_y14, ra_y16, ra_y30, ra_y140]
        refine hX _ ?_
        simp (disch := omega) only [he, ra_q5, not_true, not_false_iff, true_implies, false_implies, implies_true, true_and, and_true, forall_eq, eq_self, ra_i, ra_c, ra_m3, ra_m4, ra_m16, ra_4m, ra_14m, ra_16m, nI_add, nI_1, lN_1, ra_p2, ra_2p, ra_n0, ra_p0, ra_q0, ra_q1, ra_q2, ra_q3, ra_n3, ra_n4, ra_n10, ra_n14, ra_n16, ra_n30, ra_n140, ra_y3, ra_y4, ra_y10, ra_y14, ra_y16, ra_y30, ra_y140]
        exact hp
      · simp only [wpY_wrong]
        refine hY _ ?_
        simp (disch := omega) only [not_true, not_false_iff, true_implies, false_implies, implies_true, true_and, and_true, forall_eq, eq_self, ra_i, ra_c, ra_m3, ra_m4, ra_m16, ra_4m, ra_14m, ra_16m, nI_add, nI_1, lN_1, ra_p2, ra_2p, ra_n0, ra_p0, ra_q0, ra_q1, ra_q2, ra_q3, ra_n3, ra_n4, ra_n10, ra_n14, ra_n16, ra_n30, ra_n140, ra_y3, ra_y4, ra_y10, ra_y14, ra_y16, ra_y30, ra_y140]
        exact hp
    · have ne : ¬ e = ep r := by
        intro y
        exact z (ra_E_inj hB h.1 hs hr (he.trans y))
      have nn : ¬ nI s = nI r := by
        rw [nI_eq (by omega) (by omega)]; exact z
      refine Or.inr ⟨s, hs, z, hl, he, ha, fun post hp => ?_, fun post hp => ?_⟩
      · simp (disch := omega) only [wpX_refusal, not_true, not_false_iff, true_implies, false_implies, implies_true, true_and, and_true, forall_eq, eq_self, ra_i, ra_c, ra_m3, ra_m4, ra_m16, ra_4m, ra_14m, ra_16m, nI_add, nI_1, lN_1, ra_p2, ra_2p, ra_n0, ra_p0, ra_q0, ra_q1, ra_q2, ra_q3, ra_n3, ra_n4, ra_n10, ra_n14, ra_n16, ra_n30, ra_n140, ra_y3, ra_y4, ra_y10, ra_y14, ra_y16, ra_y30, ra_y140]
        refine hX _ ?_
        simp (disch := omega) only [ne, not_true, not_false_iff, true_implies, false_implies, implies_true, true_and, and_true, forall_eq, eq_self, ra_i, ra_c, ra_m3, ra_m4, ra_m16, ra_4m, ra_14m, ra_16m, nI_add, nI_1, lN_1, ra_p2, ra_2p, ra_n0, ra_p0, ra_q0, ra_q1, ra_q2, ra_q3, ra_n3, ra_n4, ra_n10, ra_n14, ra_n16, ra_n30, ra_n140, ra_y3, ra_y4, ra_y10, ra_y14, ra_y16, ra_y30, ra_y140]
        exact hp
      · simp only [wpY_wrong]
        refine hY _ ?_
        simp (disch := omega) only [nn, not_true, not_false_iff, true_implies, false_implies, implies_true, true_and, and_true, forall_eq, eq_self, ra_i, ra_c, ra_m3, ra_m4, ra_m16, ra_4m, ra_14m, ra_16m, nI_add, nI_1, lN_1, ra_p2, ra_2p, ra_n0, ra_p0, ra_q0, ra_q1, ra_q2, ra_q3, ra_n3, ra_n4, ra_n10, ra_n14, ra_n16, ra_n30, ra_n140, ra_y3, ra_y4, ra_y10, ra_y14, ra_y16, ra_y30, ra_y140]
        exact hp
theorem ra_ref1 {r : Nat} (hB : B ≤ 2 ^ 26) (h : ra_R B c m n st pr tk rs al tt pa bs sb ep pt nb lg sn lo lt lv gk gt gf gl gs gn sl ss bo ot so sq go mo nt fr tw tx gr ge g1 g2 g3 sv lf se) (hr : r < 10) (h1 : st r = 1) (e : Int32) : (∃ w : Int32, (w = -1 ∨ w = -3 ∨ w = -4) ∧ (∀ post : Int32 → Prop, post w → wpX_refusalToReach post (lN c, ep, st, pt, bs, pr, tk, mk, rs, vl, cl, nb, al, wt, lg, wd, sn, lo, lt, lv, gk, gt, gf, gl, gs, gn, sl, ss, sb, pa, du, oft, bg, av, tt) (nI r) e) ∧ (∀ post : Int32 → Prop, post w → wpY_wrong post (nI n, nI m, st, bo, bs, pr, tk, mk, ot, vl, rs, al, wt, so, sq, go, mo, cl, wd, nt, fr, tw, tx, gr, ge, g1, g2, g3, sv, sb, lf, pa, du, av, bg, oft, se, tt, cp) (nI r) e 1)) ∨
    ∃ s, s < 10 ∧ s ≠ r ∧ st s ≠ 0 ∧ ep s = e ∧ e &&& 15 = nI s ∧ (∀ post : Int32 → Prop, post 0 → wpX_refusalToReach post (lN c, ep, st, pt, bs, pr, tk, mk, rs, vl, cl, nb, al, wt, lg, wd, sn, lo, lt, lv, gk, gt, gf, gl, gs, gn, sl, ss, sb, pa, du, oft, bg, av, tt) (nI r) e) ∧ (∀ post : Int32 → Prop, post 0 → wpY_wrong post (nI n, nI m, st, bo, bs, pr, tk, mk, ot, vl, rs, al, wt, so, sq, go, mo, cl, wd, nt, fr, tw, tx, gr, ge, g1, g2, g3, sv, sb, lf, pa, du, av, bg, oft, se, tt, cp) (nI r) e 1) := by
  rcases ra_ref0 hB h hr h1 e with ⟨w, hw, -, hX, hY⟩ | ⟨s, hs, z, hl, he, ha, hX, hY⟩
  · exact Or.inl ⟨w, hw.imp id Or.inl, hX, fun post hp => hY post 1 hp⟩
  · rcases ra_slot_both hB h e with ⟨hn, -, -⟩ | ⟨s', hs', -, -, ha', hp', hX', hY'⟩
    · exact absurd he (hn s hs hl)
    · have es : s' = s := by
        have := ha'.symm.trans ha
        rw [nI_eq (by omega) (by omega)] at this
        exact this
      subst es
      have nn : ¬ nI s' = nI r := by
        rw [nI_eq (by omega) (by omega)]; exact z
      by_cases g : ((mk r >>> (nI s' &&& 31)) &&& 1) = 0
      · refine Or.inl ⟨-4, Or.inr (Or.inr rfl), fun post hp => ?_, fun post hp => ?_⟩
        · simp only [wpX_refusalToReach]
          refine hX _ ?_
          simp (disch := omega) only [not_true, not_false_iff, true_implies, false_implies, implies_true, true_and, and_true, forall_eq, eq_self, ra_i, ra_c, ra_m3, ra_m4, ra_m16, ra_4m, ra_14m, ra_16m, nI_add, nI_1, lN_1, ra_p2, ra_2p, ra_n0, ra_p0, ra_q0, ra_q1, ra_q2, ra_q3, ra_n3, ra_n4, ra_n10, ra_n14, ra_n16, ra_n30, ra_n140, ra_y3, ra_y4, ra_y10, ra_y14, ra_y16, ra_y30, ra_y140]
          refine hX' _ ?_
          simp (disch := omega) only [g, not_true, not_false_iff, true_implies, false_implies, implies_true, true_and, and_true, forall_eq, eq_self, ra_i, ra_c, ra_m3, ra_m4, ra_m16, ra_4m, ra_14m, ra_16m, nI_add, nI_1, lN_1, ra_p2, ra_2p, ra_n0, ra_p0, ra_q0, ra_q1, ra_q2, ra_q3, ra_n3, ra_n4, ra_n10, ra_n14, ra_n16, ra_n30, ra_n140, ra_y3, ra_y4, ra_y10, ra_y14, ra_y16, ra_y30, ra_y140]
          exact hp
        · simp only [wpY_wrong]
          refine hY' _ ?_
          simp (disch := omega) only [nn, g, not_true, not_false_iff, true_implies, false_implies, implies_true, true_and, and_true, forall_eq, eq_self, ra_i, ra_c, ra_m3, ra_m4, ra_m16, ra_4m, ra_14m, ra_16m, nI_add, nI_1, lN_1, ra_p2, ra_2p, ra_n0, ra_p0, ra_q0, ra_q1, ra_q2, ra_q3, ra_n3, ra_n4, ra_n10, ra_n14, ra_n16, ra_n30, ra_n140, ra_y3, ra_y4, ra_y10, ra_y14, ra_y16, ra_y30, ra_y140]
          exact hp
      · refine Or.inr ⟨s', hs', z, hl, he, ha, fun post hp => ?_, fun post hp => ?_⟩
        · simp only [wpX_refusalToReach]
          refine hX _ ?_
          simp (disch := omega) only [not_true, not_false_iff, true_implies, false_implies, implies_true, true_and, and_true, forall_eq, eq_self, ra_i, ra_c, ra_m3, ra_m4, ra_m16, ra_4m, ra_14m, ra_16m, nI_add, nI_1, lN_1, ra_p2, ra_2p, ra_n0, ra_p0, ra_q0, ra_q1, ra_q2, ra_q3, ra_n3, ra_n4, ra_n10, ra_n14, ra_n16, ra_n30, ra_n140, ra_y3, ra_y4, ra_y10, ra_y14, ra_y16, ra_y30, ra_y140]
          refine hX' _ ?_
          simp (disch := omega) only [g, not_true, not_false_iff, true_implies, false_implies, implies_true, true_and, and_true, forall_eq, eq_self, ra_i, ra_c, ra_m3, ra_m4, ra_m16, ra_4m, ra_14m, ra_16m, nI_add, nI_1, lN_1, ra_p2, ra_2p, ra_n0, ra_p0, ra_q0, ra_q1, ra_q2, ra_q3, ra_n3, ra_n4, ra_n10, ra_n14, ra_n16, ra_n30, ra_n140, ra_y3, ra_y4, ra_y10, ra_y14, ra_y16, ra_y30, ra_y140]
          exact hp
        · simp only [wpY_wrong]
          refine hY' _ ?_
          simp (disch := omega) only [nn, g, not_true, not_false_iff, true_implies, false_implies, implies_true, true_and, and_true, forall_eq, eq_self, ra_i, ra_c, ra_m3, ra_m4, ra_m16, ra_4m, ra_14m, ra_16m, nI_add, nI_1, lN_1, ra_p2, ra_2p, ra_n0, ra_p0, ra_q0, ra_q1, ra_q2, ra_q3, ra_n3, ra_n4, ra_n10, ra_n14, ra_n16, ra_n30, ra_n140, ra_y3, ra_y4, ra_y10, ra_y14, ra_y16, ra_y30, ra_y140]
          exact hp
/-- who takes -/
def ra_tk (st pt : Nat → Int32) (s : Nat) (src : Int32) (k : Nat) : Prop := (st s = 3 ∧ (pt s = -1 ∨ pt s = src)) ∨ (st s = 4 ∧ pt s = src ∧ k = 0)
theorem xl_takes {s k : Nat} {src : Int32} {post : Int32 → Prop} (hs : s < 10) (hk : k < 1000) (h1 : ra_tk st pt s src k → post 1) (h0 : ¬ ra_tk st pt s src k → post 0) : wpX_takes post (lN c, ep, st, pt, bs, pr, tk, mk, rs, vl, cl, nb, al, wt, lg, wd, sn, lo, lt, lv, gk, gt, gf, gl, gs, gn, sl, ss, sb, pa, du, oft, bg, av, tt) (nI s) src (nI k) := by
  have hk0 : (nI k = 0) = (k = 0) := propext (by rw [← nI_0]; exact nI_eq (by omega) (by omega))
  simp (disch := omega) only [wpX_takes, hk0, not_true, not_false_iff, true_implies, false_implies, implies_true, true_and, and_true, forall_eq, eq_self, ra_i, ra_c, ra_m3, ra_m4, ra_m16, ra_4m, ra_14m, ra_16m, nI_add, nI_1, lN_1, ra_p2, ra_2p, ra_n0, ra_p0, ra_q0, ra_q1, ra_q2, ra_q3, ra_n3, ra_n4, ra_n10, ra_n14, ra_n16, ra_n30, ra_n140, ra_y3, ra_y4, ra_y10, ra_y14, ra_y16, ra_y30, ra_y140]
  refine br_c (fun a => br_c (fun b => h1 (Or.inl ⟨a, Or.inl b⟩)) (fun b => br_c (fun d => h1 (Or.inl ⟨a, Or.inr d⟩)) (fun d => h0 ?_))) (fun a => br_c (fun b => br_c (fun d => br_c (fun f => h1 (Or.inr ⟨b, d, f⟩)) (fun f => h0 ?_)) (fun d => h0 ?_)) (fun b => h0 ?_))
  · rintro (⟨-, y | y⟩ | ⟨y, -⟩)
    · exact b y
    · exact d y
    · rw [a] at y; exact absurd y (by decide)
  · rintro (⟨y, -⟩ | ⟨-, -, y⟩)
    · exact a y
    · exact f y
  · rintro (⟨y, -⟩ | ⟨-, y, -⟩)
    · exact a y
    · exact d y
  · rintro (⟨y, -⟩ | ⟨y, -⟩)
    · exact a y
    · exact b y
theorem yl_takes {s k : Nat} {src : Int32} {post : Int32 → Prop} (hs : s < 10) (hk : k < 1000) (hW : ra_W st ep pt ot rs) (h1 : ra_tk st pt s src k → post 1) (h0 : ¬ ra_tk st pt s src k → post 0) : wpY_takes post (nI n, nI m, st, bo, bs, pr, tk, mk, ot, vl, rs, al, wt, so, sq, go, mo, cl, wd, nt, fr, tw, tx, gr, ge, g1, g2, g3, sv, sb, lf, pa, du, av, bg, oft, se, tt, cp) (nI s) src (nI k) := by
  have hk0 : (nI k = 0) = (k = 0) := propext (by rw [← nI_0]; exact nI_eq (by omega) (by omega))
  have e3 : st s = 3 → pt s = ot s := fun z => ((hW s hs).2 (by rw [z]; decide) (by rw [z]; decide)).1
  have e4 : st s = 4 → pt s = ot s := fun z => ((hW s hs).2 (by rw [z]; decide) (by rw [z]; decide)).1
  have w30 : (∀ a : st s ≠ 3 ∨ (ot s ≠ -1 ∧ ot s ≠ src), True) → (st s ≠ 3 ∨ (ot s ≠ -1 ∧ ot s ≠ src)) → wY_takes_30 post (nI s) src (nI k) (nI n) (nI m) st bo bs pr tk mk ot vl rs al wt so sq go mo cl wd nt fr tw tx gr ge g1 g2 g3 sv sb lf pa du av bg oft se tt cp := by
    intro _ a
    simp (disch := omega) only [wY_takes_30, hk0, not_true, not_false_iff, true_implies, false_implies, implies_true, true_and, and_true, forall_eq, eq_self, ra_i, ra_c, ra_m3, ra_m4, ra_m16, ra_4m, ra_14m, ra_16m, nI_add, nI_1, lN_1, ra_p2, ra_2p, ra_n0, ra_p0, ra_q0, ra_q1, ra_q2, ra_q3, ra_n3, ra_n4, ra_n10, ra_n14, ra_n16, ra_n30, ra_n140, ra_y3, ra_y4, ra_y10, ra_y14, ra_y16, ra_y30, ra_y140]
    refine br_c (fun b => br_c (fun f => br_c (fun d => h1 (Or.inr ⟨b, (e4 b).trans d, f⟩)) (fun d => h0 ?_)) (fun f => h0 ?_)) (fun b => h0 ?_)
    · rintro (⟨y, -⟩ | ⟨-, y, -⟩)
      · rw [b] at y; exact absurd y (by decide)
      · exact d ((e4 b).symm.trans y)
    · rintro (⟨y, -⟩ | ⟨-, -, y⟩)
      · rw [b] at y; exact absurd y (by decide)
      · exact f y
    · rintro (⟨y, w⟩ | ⟨y, -⟩)
      · rcases a with a | ⟨a, a'⟩
        · exact a y
        · rw [e3 y] at w; exact w.elim a a'
      · exact b y
  simp (disch := omega) only [wpY_takes, not_true, not_false_iff, true_implies, false_implies, implies_true, true_and, and_true, forall_eq, eq_self, ra_i, ra_c, ra_m3, ra_m4, ra_m16, ra_4m, ra_14m, ra_16m, nI_add, nI_1, lN_1, ra_p2, ra_2p, ra_n0, ra_p0, ra_q0, ra_q1, ra_q2, ra_q3, ra_n3, ra_n4, ra_n10, ra_n14, ra_n16, ra_n30, ra_n140, ra_y3, ra_y4, ra_y10, ra_y14, ra_y16, ra_y30, ra_y140]
  exact br_c (fun a => br_c (fun b => h1 (Or.inl ⟨a, Or.inl ((e3 a).trans b)⟩)) (fun b => br_c (fun d => h1 (Or.inl ⟨a, Or.inr ((e3 a).trans d)⟩)) (fun d => w30 (fun _ => trivial) (Or.inr ⟨b, d⟩)))) (fun a => w30 (fun _ => trivial) (Or.inl a))
theorem xl_isWaiting_t {s : Nat} {post : Int32 → Prop} (hs : s < 10) (hT : ra_T st) (h0 : st s ≠ 0) (h1 : st s ≠ 1) (h : post 1) : wpX_isWaiting post (lN c, ep, st, pt, bs, pr, tk, mk, rs, vl, cl, nb, al, wt, lg, wd, sn, lo, lt, lv, gk, gt, gf, gl, gs, gn, sl, ss, sb, pa, du, oft, bg, av, tt) (nI s) := by
  simp (disch := omega) only [wpX_isWaiting, not_true, not_false_iff, true_implies, false_implies, implies_true, true_and, and_true, forall_eq, eq_self, ra_i, ra_c, ra_m3, ra_m4, ra_m16, ra_4m, ra_14m, ra_16m, nI_add, nI_1, lN_1, ra_p2, ra_2p, ra_n0, ra_p0, ra_q0, ra_q1, ra_q2, ra_q3, ra_n3, ra_n4, ra_n10, ra_n14, ra_n16, ra_n30, ra_n140, ra_y3, ra_y4, ra_y10, ra_y14, ra_y16, ra_y30, ra_y140]
  refine br_c (fun _ => h) (fun a => br_c (fun _ => h) (fun b => br_c (fun _ => h) (fun d => ?_)))
  rcases hT s hs with y | y | y | y | y
  · exact absurd y h0
  · exact absurd y h1
  · exact absurd y a
  · exact absurd y b
  · exact absurd y d
theorem xl_isWaiting_f {s : Nat} {post : Int32 → Prop} (hs : s < 10) (hw : st s = 0 ∨ st s = 1) (h : post 0) : wpX_isWaiting post (lN c, ep, st, pt, bs, pr, tk, mk, rs, vl, cl, nb, al, wt, lg, wd, sn, lo, lt, lv, gk, gt, gf, gl, gs, gn, sl, ss, sb, pa, du, oft, bg, av, tt) (nI s) := by
  have a2 : ¬ st s = 2 := by rcases hw with y | y <;> rw [y] <;> decide
  have a3 : ¬ st s = 3 := by rcases hw with y | y <;> rw [y] <;> decide
  have a4 : ¬ st s = 4 := by rcases hw with y | y <;> rw [y] <;> decide
  simp (disch := omega) only [wpX_isWaiting, a2, a3, a4, not_true, not_false_iff, true_implies, false_implies, implies_true, true_and, and_true, forall_eq, eq_self, ra_i, ra_c, ra_m3, ra_m4, ra_m16, ra_4m, ra_14m, ra_16m, nI_add, nI_1, lN_1, ra_p2, ra_2p, ra_n0, ra_p0, ra_q0, ra_q1, ra_q2, ra_q3, ra_n3, ra_n4, ra_n10, ra_n14, ra_n16, ra_n30, ra_n140, ra_y3, ra_y4, ra_y10, ra_y14, ra_y16, ra_y30, ra_y140]
  exact h
theorem ra_stuck {r : Nat} (hB : B ≤ 2 ^ 26) (h : ra_R B c m n st pr tk rs al tt pa bs sb ep pt nb lg sn lo lt lv gk gt gf gl gs gn sl ss bo ot so sq go mo nt fr tw tx gr ge g1 g2 g3 sv lf se) (hr : r < 10) : ∀ d i p : Nat, i + d = 10 → p < 10 → ∃ b : Int32, (b = 0 ∨ b = 1) ∧ (∀ post : Int32 → Prop, post b → wX_isStuckBehind_5 post (nI r) (lN c) ep st pt bs pr tk mk rs vl cl nb al wt lg wd sn lo lt lv gk gt gf gl gs gn sl ss sb pa du oft bg av tt (d + 1) (nI p) (nI i)) ∧ (∀ post : Int32 → Prop, post b → wY_isStuck_5 post (nI r) (nI n) (nI m) st bo bs pr tk mk ot vl rs al wt so sq go mo cl wd nt fr tw tx gr ge g1 g2 g3 sv sb lf pa du av bg oft se tt cp (d + 1) (nI p) (nI i)) := by
  have hT := h.2.2.2.2.2.2.2.2.1
  have hE := h.1
  intro d
  induction d with
  | zero =>
    intro i p hi hp
    have : i = 10 := by omega
    subst this
    refine ⟨0, Or.inl rfl, fun post hq => ?_, fun post hq => ?_⟩
    · simp (disch := omega) only [wX_isStuckBehind_5, not_true, not_false_iff, true_implies, false_implies, implies_true, true_and, and_true, forall_eq, eq_self, ra_i, ra_c, ra_m3, ra_m4, ra_m16, ra_4m, ra_14m, ra_16m, nI_add, nI_1, lN_1, ra_p2, ra_2p, ra_n0, ra_p0, ra_q0, ra_q1, ra_q2, ra_q3, ra_n3, ra_n4, ra_n10, ra_n14, ra_n16, ra_n30, ra_n140, ra_y3, ra_y4, ra_y10, ra_y14, ra_y16, ra_y30, ra_y140]
      exact hq
    · simp (disch := omega) only [wY_isStuck_5, not_true, not_false_iff, true_implies, false_implies, implies_true, true_and, and_true, forall_eq, eq_self, ra_i, ra_c, ra_m3, ra_m4, ra_m16, ra_4m, ra_14m, ra_16m, nI_add, nI_1, lN_1, ra_p2, ra_2p, ra_n0, ra_p0, ra_q0, ra_q1, ra_q2, ra_q3, ra_n3, ra_n4, ra_n10, ra_n14, ra_n16, ra_n30, ra_n140, ra_y3, ra_y4, ra_y10, ra_y14, ra_y16, ra_y30, ra_y140]
      exact hq
  | succ d ih =>
    intro i p hi hp
    have i10 : i < 10 := by omega
    by_cases w : st p = 0 ∨ st p = 1
    · have w' : st p ≤ 1 := by rw [ra_le1 hT hp]; exact w
      refine ⟨0, Or.inl rfl, fun post hq => ?_, fun post hq => ?_⟩
      · simp (disch := omega) only [wX_isStuckBehind_5, not_true, not_false_iff, true_implies, false_implies, implies_true, true_and, and_true, forall_eq, eq_self, ra_i, ra_c, ra_m3, ra_m4, ra_m16, ra_4m, ra_14m, ra_16m, nI_add, nI_1, lN_1, ra_p2, ra_2p, ra_n0, ra_p0, ra_q0, ra_q1, ra_q2, ra_q3, ra_n3, ra_n4, ra_n10, ra_n14, ra_n16, ra_n30, ra_n140, ra_y3, ra_y4, ra_y10, ra_y14, ra_y16, ra_y30, ra_y140]
        refine xl_isWaiting_f hp w ?_
        simp (disch := omega) only [not_true, not_false_iff, true_implies, false_implies, implies_true, true_and, and_true, forall_eq, eq_self, ra_i, ra_c, ra_m3, ra_m4, ra_m16, ra_4m, ra_14m, ra_16m, nI_add, nI_1, lN_1, ra_p2, ra_2p, ra_n0, ra_p0, ra_q0, ra_q1, ra_q2, ra_q3, ra_n3, ra_n4, ra_n10, ra_n14, ra_n16, ra_n30, ra_n140, ra_y3, ra_y4, ra_y10, ra_y14, ra_y16, ra_y30, ra_y140]
        exact hq
      · simp (disch := omega) only [wY_isStuck_5, w', not_true, not_false_iff, true_implies, false_implies, implies_true, true_and, and_true, forall_eq, eq_self, ra_i, ra_c, ra_m3, ra_m4, ra_m16, ra_4m, ra_14m, ra_16m, nI_add, nI_1, lN_1, ra_p2, ra_2p, ra_n0, ra_p0, ra_q0, ra_q1, ra_q2, ra_q3, ra_n3, ra_n4, ra_n10, ra_n14, ra_n16, ra_n30, ra_n140, ra_y3, ra_y4, ra_y10, ra_y14, ra_y16, ra_y30, ra_y140]
        exact hq
    · have w0 : st p ≠ 0 := fun y => w (Or.inl y)
      have w1 : st p ≠ 1 := fun y => w (Or.inr y)
      have w' : ¬ st p ≤ 1 := by rw [ra_le1 hT hp]; exact w
      obtain ⟨e1, -, e2⟩ := (h.2.2.1 p hp).2 w0 w1
      rcases e2 with e2 | ⟨t, ht, hl, e2⟩
      · have en : ¬ 0 ≤ ot p := by rw [← e1, e2]; decide
        refine ⟨0, Or.inl rfl, fun post hq => ?_, fun post hq => ?_⟩
        · simp (disch := omega) only [wX_isStuckBehind_5, not_true, not_false_iff, true_implies, false_implies, implies_true, true_and, and_true, forall_eq, eq_self, ra_i, ra_c, ra_m3, ra_m4, ra_m16, ra_4m, ra_14m, ra_16m, nI_add, nI_1, lN_1, ra_p2, ra_2p, ra_n0, ra_p0, ra_q0, ra_q1, ra_q2, ra_q3, ra_n3, ra_n4, ra_n10, ra_n14, ra_n16, ra_n30, ra_n140, ra_y3, ra_y4, ra_y10, ra_y14, ra_y16, ra_y30, ra_y140]
          refine xl_isWaiting_t hp hT w0 w1 ?_
          simp (disch := omega) only [not_true, not_false_iff, true_implies, false_implies, implies_true, true_and, and_true, forall_eq, eq_self, ra_i, ra_c, ra_m3, ra_m4, ra_m16, ra_4m, ra_14m, ra_16m, nI_add, nI_1, lN_1, ra_p2, ra_2p, ra_n0, ra_p0, ra_q0, ra_q1, ra_q2, ra_q3, ra_n3, ra_n4, ra_n10, ra_n14, ra_n16, ra_n30, ra_n140, ra_y3, ra_y4, ra_y10, ra_y14, ra_y16, ra_y30, ra_y140]
          refine xl_slotOf_n (fun s hs _ => ?_) ?_
          · rw [e2]; exact ra_E_ne hB hE hs
          · simp (disch := omega) only [not_true, not_false_iff, true_implies, false_implies, implies_true, true_and, and_true, forall_eq, eq_self, ra_i, ra_c, ra_m3, ra_m4, ra_m16, ra_4m, ra_14m, ra_16m, nI_add, nI_1, lN_1, ra_p2, ra_2p, ra_n0, ra_p0, ra_q0, ra_q1, ra_q2, ra_q3, ra_n3, ra_n4, ra_n10, ra_n14, ra_n16, ra_n30, ra_n140, ra_y3, ra_y4, ra_y10, ra_y14, ra_y16, ra_y30, ra_y140]
            exact hq
        · simp (disch := omega) only [wY_isStuck_5, w', en, not_true, not_false_iff, true_implies, false_implies, implies_true, true_and, and_true, forall_eq, eq_self, ra_i, ra_c, ra_m3, ra_m4, ra_m16, ra_4m, ra_14m, ra_16m, nI_add, nI_1, lN_1, ra_p2, ra_2p, ra_n0, ra_p0, ra_q0, ra_q1, ra_q2, ra_q3, ra_n3, ra_n4, ra_n10, ra_n14, ra_n16, ra_n30, ra_n140, ra_y3, ra_y4, ra_y10, ra_y14, ra_y16, ra_y30, ra_y140]
          exact hq
      · have ha : pt p &&& 15 = nI t := by rw [e2]; exact ra_E_and hB hE ht
        have ha' : ot p &&& 15 = nI t := by rw [← e1]; exact ha
        have en : 0 ≤ ot p := by rw [← e1, e2]; exact ra_E_pos hB hE ht
        by_cases z : t = r
        · subst z
          refine ⟨1, Or.inr rfl, fun post hq => ?_, fun post hq => ?_⟩
          · simp (disch := omega) only [wX_isStuckBehind_5, not_true, not_false_iff, true_implies, false_implies, implies_true, true_and, and_true, forall_eq, eq_self, ra_i, ra_c, ra_m3, ra_m4, ra_m16, ra_4m, ra_14m, ra_16m, nI_add, nI_1, lN_1, ra_p2, ra_2p, ra_n0, ra_p0, ra_q0, ra_q1, ra_q2, ra_q3, ra_n3, ra_n4, ra_n10, ra_n14, ra_n16, ra_n30, ra_n140, ra_y3, ra_y4, ra_y10, ra_y14, ra_y16, ra_y30, ra_y140]
            refine xl_isWaiting_t hp hT w0 w1 ?_
            simp (disch := omega) only [not_true, not_false_iff, true_implies, false_implies, implies_true, true_and, and_true, forall_eq, eq_self, ra_i, ra_c, ra_m3, ra_m4, ra_m16, ra_4m, ra_14m, ra_16m, nI_add, nI_1, lN_1, ra_p2, ra_2p, ra_n0, ra_p0, ra_q0, ra_q1, ra_q2, ra_q3, ra_n3, ra_n4, ra_n10, ra_n14, ra_n16, ra_n30, ra_n140, ra_y3, ra_y4, ra_y10, ra_y14, ra_y16, ra_y30, ra_y140]
            refine xl_slotOf_s ht hl e2.symm ha ?_
            simp (disch := omega) only [not_true, not_false_iff, true_implies, false_implies, implies_true, true_and, and_true, forall_eq, eq_self, ra_i, ra_c, ra_m3, ra_m4, ra_m16, ra_4m, ra_14m, ra_16m, nI_add, nI_1, lN_1, ra_p2, ra_2p, ra_n0, ra_p0, ra_q0, ra_q1, ra_q2, ra_q3, ra_n3, ra_n4, ra_n10, ra_n14, ra_n16, ra_n30, ra_n140, ra_y3, ra_y4, ra_y10, ra_y14, ra_y16, ra_y30, ra_y140]
            exact hq
          · simp (disch := omega) only [wY_isStuck_5, w', en, ha', not_true, not_false_iff, true_implies, false_implies, implies_true, true_and, and_true, forall_eq, eq_self, ra_i, ra_c, ra_m3, ra_m4, ra_m16, ra_4m, ra_14m, ra_16m, nI_add, nI_1, lN_1, ra_p2, ra_2p, ra_n0, ra_p0, ra_q0, ra_q1, ra_q2, ra_q3, ra_n3, ra_n4, ra_n10, ra_n14, ra_n16, ra_n30, ra_n140, ra_y3, ra_y4, ra_y10, ra_y14, ra_y16, ra_y30, ra_y140]
            exact hq
        · have nn : ¬ nI t = nI r := by rw [nI_eq (by omega) (by omega)]; exact z
          obtain ⟨b, hb, hX, hY⟩ := ih (i + 1) t (by omega) ht
          refine ⟨b, hb, fun post hq => ?_, fun post hq => ?_⟩
          · rw [wX_isStuckBehind_5]
            simp (disch := omega) only [not_true, not_false_iff, true_implies, false_implies, implies_true, true_and, and_true, forall_eq, eq_self, ra_i, ra_c, ra_m3, ra_m4, ra_m16, ra_4m, ra_14m, ra_16m, nI_add, nI_1, lN_1, ra_p2, ra_2p, ra_n0, ra_p0, ra_q0, ra_q1, ra_q2, ra_q3, ra_n3, ra_n4, ra_n10, ra_n14, ra_n16, ra_n30, ra_n140, ra_y3, ra_y4, ra_y10, ra_y14, ra_y16, ra_y30, ra_y140]
            refine xl_isWaiting_t hp hT w0 w1 ?_
            simp (disch := omega) only [not_true, not_false_iff, true_implies, false_implies, implies_true, true_and, and_true, forall_eq, eq_self, ra_i, ra_c, ra_m3, ra_m4, ra_m16, ra_4m, ra_14m, ra_16m, nI_add, nI_1, lN_1, ra_p2, ra_2p, ra_n0, ra_p0, ra_q0, ra_q1, ra_q2, ra_q3, ra_n3, ra_n4, ra_n10, ra_n14, ra_n16, ra_n30, ra_n140, ra_y3, ra_y4, ra_y10, ra_y14, ra_y16, ra_y30, ra_y140]
            refine xl_slotOf_s ht hl e2.symm ha ?_
            simp (disch := omega) only [nn, not_true, not_false_iff, true_implies, false_implies, implies_true, true_and, and_true, forall_eq, eq_self, ra_i, ra_c, ra_m3, ra_m4, ra_m16, ra_4m, ra_14m, ra_16m, nI_add, nI_1, lN_1, ra_p2, ra_2p, ra_n0, ra_p0, ra_q0, ra_q1, ra_q2, ra_q3, ra_n3, ra_n4, ra_n10, ra_n14, ra_n16, ra_n30, ra_n140, ra_y3, ra_y4, ra_y10, ra_y14, ra_y16, ra_y30, ra_y140]
            exact hX post hq
          · rw [wY_isStuck_5]
            simp (disch := omega) only [w', en, ha', nn, not_true, not_false_iff, true_implies, false_implies, implies_true, true_and, and_true, forall_eq, eq_self, ra_i, ra_c, ra_m3, ra_m4, ra_m16, ra_4m, ra_14m, ra_16m, nI_add, nI_1, lN_1, ra_p2, ra_2p, ra_n0, ra_p0, ra_q0, ra_q1, ra_q2, ra_q3, ra_n3, ra_n4, ra_n10, ra_n14, ra_n16, ra_n30, ra_n140, ra_y3, ra_y4, ra_y10, ra_y14, ra_y16, ra_y30, ra_y140]
            exact hY post hq
theorem ra_stuck_both {r s : Nat} (hB : B ≤ 2 ^ 26) (h : ra_R B c m n st pr tk rs al tt pa bs sb ep pt nb lg sn lo lt lv gk gt gf gl gs gn sl ss bo ot so sq go mo nt fr tw tx gr ge g1 g2 g3 sv lf se) (hr : r < 10) (hs : s < 10) : ∃ b : Int32, (b = 0 ∨ b = 1) ∧ (∀ post : Int32 → Prop, post b → wpX_isStuckBehind post (lN c, ep, st, pt, bs, pr, tk, mk, rs, vl, cl, nb, al, wt, lg, wd, sn, lo, lt, lv, gk, gt, gf, gl, gs, gn, sl, ss, sb, pa, du, oft, bg, av, tt) (nI s) (nI r)) ∧ (∀ post : Int32 → Prop, post b → wpY_isStuck post (nI n, nI m, st, bo, bs, pr, tk, mk, ot, vl, rs, al, wt, so, sq, go, mo, cl, wd, nt, fr, tw, tx, gr, ge, g1, g2, g3, sv, sb, lf, pa, du, av, bg, oft, se, tt, cp) (nI s) (nI r)) := by
  obtain ⟨b, hb, hX, hY⟩ := ra_stuck hB h hr 10 0 s rfl hs
  exact ⟨b, hb, fun post hq => ⟨11, hX post hq⟩, fun post hq => ⟨11, hY post hq⟩⟩
end
end
section
/-! a note is brought; a message is handed over -/
theorem ra_nb0 : vp_nar .boolean 0 = 0 := rfl
theorem ra_nb1 : vp_nar .boolean 1 = 1 := rfl
def ra_so (ep : Nat → Int32) (k : Nat) : Int32 := if k < 10 then ep k else (-2) - (nI k - 10)
section
variable {B c m n : Nat} {st pr bs tk mk vl cl rs al wt wd tt sb pa du oft bg av ep pt nb lg lt lv gk gt gf gl gs gn sl ss bo ot so sq go mo nt fr tw tx gr ge g1 g2 g3 sv lf se cp : Nat → Int32} {sn lo : Nat → Int64}
theorem xl_noteSource {k : Nat} {post : Int32 → Prop} (hk : k < 14) (h : post (ra_so ep k)) : wpX_noteSource post (lN c, ep, st, pt, bs, pr, tk, mk, rs, vl, cl, nb, al, wt, lg, wd, sn, lo, lt, lv, gk, gt, gf, gl, gs, gn, sl, ss, sb, pa, du, oft, bg, av, tt) (nI k) := by
  unfold ra_so at h
  by_cases z : k < 10
  · rw [if_pos z] at h
    simp (disch := omega) only [wpX_noteSource, not_true, not_false_iff, true_implies, false_implies, implies_true, true_and, and_true, forall_eq, eq_self, ra_i, ra_c, ra_m3, ra_m4, ra_m16, ra_4m, ra_14m, ra_16m, nI_add, nI_1, lN_1, ra_p2, ra_2p, ra_n0, ra_p0, ra_q0, ra_q1, ra_q2, ra_q3, ra_n3, ra_n4, ra_n10, ra_n14, ra_n16, ra_n30, ra_n140, ra_y3, ra_y4, ra_y10, ra_y14, ra_y16, ra_y30, ra_y140]
    exact h
  · rw [if_neg z] at h
    simp (disch := omega) only [wpX_noteSource, ra_g10, not_true, not_false_iff, true_implies, false_implies, implies_true, true_and, and_true, forall_eq, eq_self, ra_i, ra_c, ra_m3, ra_m4, ra_m16, ra_4m, ra_14m, ra_16m, nI_add, nI_1, lN_1, ra_p2, ra_2p, ra_n0, ra_p0, ra_q0, ra_q1, ra_q2, ra_q3, ra_n3, ra_n4, ra_n10, ra_n14, ra_n16, ra_n30, ra_n140, ra_y3, ra_y4, ra_y10, ra_y14, ra_y16, ra_y30, ra_y140]
    exact h
theorem yl_sourceOf_l {k : Nat} {post : Int32 → Prop} (hk : k < 10) (h : post (16 * (bo k - 1) + nI k)) : wpY_sourceOf post (nI n, nI m, st, bo, bs, pr, tk, mk, ot, vl, rs, al, wt, so, sq, go, mo, cl, wd, nt, fr, tw, tx, gr, ge, g1, g2, g3, sv, sb, lf, pa, du, av, bg, oft, se, tt, cp) (nI k) := by
  simp (disch := omega) only [wpY_sourceOf, wpY_endpoint, not_true, not_false_iff, true_implies, false_implies, implies_true, true_and, and_true, forall_eq, eq_self, ra_i, ra_c, ra_m3, ra_m4, ra_m16, ra_4m, ra_14m, ra_16m, nI_add, nI_1, lN_1, ra_p2, ra_2p, ra_n0, ra_p0, ra_q0, ra_q1, ra_q2, ra_q3, ra_n3, ra_n4, ra_n10, ra_n14, ra_n16, ra_n30, ra_n140, ra_y3, ra_y4, ra_y10, ra_y14, ra_y16, ra_y30, ra_y140]
  exact h
theorem yl_sourceOf {k : Nat} {post : Int32 → Prop} (hk : k < 14) (hl : k < 10 → 16 * (bo k - 1) + nI k = ep k) (h : post (ra_so ep k)) : wpY_sourceOf post (nI n, nI m, st, bo, bs, pr, tk, mk, ot, vl, rs, al, wt, so, sq, go, mo, cl, wd, nt, fr, tw, tx, gr, ge, g1, g2, g3, sv, sb, lf, pa, du, av, bg, oft, se, tt, cp) (nI k) := by
  unfold ra_so at h
  by_cases z : k < 10
  · rw [if_pos z] at h
    refine yl_sourceOf_l z ?_
    rw [hl z]
    exact h
  · rw [if_neg z] at h
    have : k = 10 ∨ k = 11 ∨ k = 12 ∨ k = 13 := by omega
    rcases this with rfl | rfl | rfl | rfl
    · have a : nI 10 = 10 := by decide
      simp (disch := omega) only [wpY_sourceOf, ra_g10, a, not_true, not_false_iff, true_implies, false_implies, implies_true, true_and, and_true, forall_eq, eq_self, ra_i, ra_c, ra_m3, ra_m4, ra_m16, ra_4m, ra_14m, ra_16m, nI_add, nI_1, lN_1, ra_p2, ra_2p, ra_n0, ra_p0, ra_q0, ra_q1, ra_q2, ra_q3, ra_n3, ra_n4, ra_n10, ra_n14, ra_n16, ra_n30, ra_n140, ra_y3, ra_y4, ra_y10, ra_y14, ra_y16, ra_y30, ra_y140]
      exact br_t (by decide) h
    · have a : ¬ nI 11 = 10 := by decide
      simp (disch := omega) only [wpY_sourceOf, ra_g10, a, not_true, not_false_iff, true_implies, false_implies, implies_true, true_and, and_true, forall_eq, eq_self, ra_i, ra_c, ra_m3, ra_m4, ra_m16, ra_4m, ra_14m, ra_16m, nI_add, nI_1, lN_1, ra_p2, ra_2p, ra_n0, ra_p0, ra_q0, ra_q1, ra_q2, ra_q3, ra_n3, ra_n4, ra_n10, ra_n14, ra_n16, ra_n30, ra_n140, ra_y3, ra_y4, ra_y10, ra_y14, ra_y16, ra_y30, ra_y140]
      exact h
    · have a : ¬ nI 12 = 10 := by decide
      simp (disch := omega) only [wpY_sourceOf, ra_g10, a, not_true, not_false_iff, true_implies, false_implies, implies_true, true_and, and_true, forall_eq, eq_self, ra_i, ra_c, ra_m3, ra_m4, ra_m16, ra_4m, ra_14m, ra_16m, nI_add, nI_1, lN_1, ra_p2, ra_2p, ra_n0, ra_p0, ra_q0, ra_q1, ra_q2, ra_q3, ra_n3, ra_n4, ra_n10, ra_n14, ra_n16, ra_n30, ra_n140, ra_y3, ra_y4, ra_y10, ra_y14, ra_y16, ra_y30, ra_y140]
      exact h
    · have a : ¬ nI 13 = 10 := by decide
      simp (disch := omega) only [wpY_sourceOf, ra_g10, a, not_true, not_false_iff, true_implies, false_implies, implies_true, true_and, and_true, forall_eq, eq_self, ra_i, ra_c, ra_m3, ra_m4, ra_m16, ra_4m, ra_14m, ra_16m, nI_add, nI_1, lN_1, ra_p2, ra_2p, ra_n0, ra_p0, ra_q0, ra_q1, ra_q2, ra_q3, ra_n3, ra_n4, ra_n10, ra_n14, ra_n16, ra_n30, ra_n140, ra_y3, ra_y4, ra_y10, ra_y14, ra_y16, ra_y30, ra_y140]
      exact h
theorem ra_R_note {s k : Nat} (h : ra_R B c m n st pr tk rs al tt pa bs sb ep pt nb lg sn lo lt lv gk gt gf gl gs gn sl ss bo ot so sq go mo nt fr tw tx gr ge g1 g2 g3 sv lf se) (hs : s < 10) (hl : st s ≠ 0) (hk : k < 14) (hkl : k < 10 → st k ≠ 0) : ra_R B c m n st pr tk rs al tt pa bs sb ep pt (upd nb s (nb s ||| ((1 : Int32) <<< (nI k &&& 31)))) lg sn lo lt lv gk gt gf gl gs gn sl ss bo ot so sq go mo (upd nt (14 * s + k) 1) fr tw tx gr ge g1 g2 g3 sv lf se := by
  obtain ⟨h1, h2, h3, h4, h5, h6, h7, h8, h9, h10, h11⟩ := h
  exact ⟨h1, h2, h3, h4, ra_N_set h5 hs hl hk hkl, h6, h7, h8, h9, h10, h11⟩
theorem ra_tk_w {s k : Nat} {x : Int32} (t : ra_tk st pt s x k) : st s ≠ 0 ∧ st s ≠ 1 := by
  rcases t with ⟨a, -⟩ | ⟨a, -⟩ <;> rw [a] <;> exact ⟨by decide, by decide⟩
theorem ra_notify {s k : Nat} (h : ra_R B c m n st pr tk rs al tt pa bs sb ep pt nb lg sn lo lt lv gk gt gf gl gs gn sl ss bo ot so sq go mo nt fr tw tx gr ge g1 g2 g3 sv lf se) (hs : s < 10) (hl : st s ≠ 0) (hk : k < 14) (hkl : k < 10 → st k ≠ 0) : ∃ (u' : SX) (v' : SY), ra_RR (B + 1) u' v' ∧ (∀ post : SX → Prop, post u' → wpX_bringNote post (lN c, ep, st, pt, bs, pr, tk, mk, rs, vl, cl, nb, al, wt, lg, wd, sn, lo, lt, lv, gk, gt, gf, gl, gs, gn, sl, ss, sb, pa, du, oft, bg, av, tt) (nI s) (nI k)) ∧ (∀ post : SY → Prop, post v' → wpY_notify post (nI n, nI m, st, bo, bs, pr, tk, mk, ot, vl, rs, al, wt, so, sq, go, mo, cl, wd, nt, fr, tw, tx, gr, ge, g1, g2, g3, sv, sb, lf, pa, du, av, bg, oft, se, tt, cp) (nI s) (nI k)) := by
  have hE := h.1
  have hW := h.2.2.1
  have hy : k < 10 → 16 * (bo k - 1) + nI k = ep k := fun z => ra_E_y hE z (hkl z)
  by_cases t : ra_tk st pt s (ra_so ep k) 1
  · obtain ⟨w0, w1⟩ := ra_tk_w t
    have e := ra_R_rs0 h hs w0 w1
    refine ⟨_, _, ra_in (mk := mk) (vl := vl) (cl := cl) (wt := wt) (wd := wd) (du := du) (oft := oft) (bg := bg) (av := av) (cp := cp) (ra_R_ready0 (ra_R_put (s := s) (k := 2 + 1) (x := ra_so ep k) (y := nI 1) (w := 0) (v := tt (2 + 1) + 1) h (by omega)) hs hl), fun post hp => ?_, fun post hp => ?_⟩
    · simp only [wpX_bringNote]
      refine xl_noteSource hk ?_
      refine xl_takes (k := 1) hs (by omega) (fun _ => ?_) (fun y => absurd t y)
      refine br_f (by decide) ?_
      refine xl_putInto (k := 1) hs (by omega) ?_
      refine xl_makeReady hs ?_
      exact hp
    · simp only [wpY_notify]
      refine yl_sourceOf hk hy ?_
      refine yl_takes (k := 1) hs (by omega) hW (fun _ => ?_) (fun y => absurd t y)
      refine br_f (by decide) ?_
      refine yl_gets (k := 1) hs (by omega) ?_
      refine yl_ready hs ?_
      rw [e]
      exact hp
  · refine ⟨_, _, ra_RR_mono (ra_in (mk := mk) (vl := vl) (cl := cl) (wt := wt) (wd := wd) (du := du) (oft := oft) (bg := bg) (av := av) (cp := cp) (ra_R_note h hs hl hk hkl)) (Nat.le_succ _), fun post hp => ?_, fun post hp => ?_⟩
    · simp only [wpX_bringNote]
      refine xl_noteSource hk ?_
      refine xl_takes (k := 1) hs (by omega) (fun y => absurd y t) (fun _ => ?_)
      refine br_t rfl ?_
      simp (disch := omega) only [not_true, not_false_iff, true_implies, false_implies, implies_true, true_and, and_true, forall_eq, eq_self, ra_i, ra_c, ra_m3, ra_m4, ra_m16, ra_4m, ra_14m, ra_16m, nI_add, nI_1, lN_1, ra_p2, ra_2p, ra_n0, ra_p0, ra_q0, ra_q1, ra_q2, ra_q3, ra_n3, ra_n4, ra_n10, ra_n14, ra_n16, ra_n30, ra_n140, ra_y3, ra_y4, ra_y10, ra_y14, ra_y16, ra_y30, ra_y140]
      exact hp
    · simp only [wpY_notify]
      refine yl_sourceOf hk hy ?_
      refine yl_takes (k := 1) hs (by omega) hW (fun y => absurd y t) (fun _ => ?_)
      refine br_t rfl ?_
      simp (disch := omega) only [ra_nb1, not_true, not_false_iff, true_implies, false_implies, implies_true, true_and, and_true, forall_eq, eq_self, ra_i, ra_c, ra_m3, ra_m4, ra_m16, ra_4m, ra_14m, ra_16m, nI_add, nI_1, lN_1, ra_p2, ra_2p, ra_n0, ra_p0, ra_q0, ra_q1, ra_q2, ra_q3, ra_n3, ra_n4, ra_n10, ra_n14, ra_n16, ra_n30, ra_n140, ra_y3, ra_y4, ra_y10, ra_y14, ra_y16, ra_y30, ra_y140]
      exact hp
theorem ra_hand {to x b : Int32} (hB : B ≤ 2 ^ 26) (h : ra_R B c m n st pr tk rs al tt pa bs sb ep pt nb lg sn lo lt lv gk gt gf gl gs gn sl ss bo ot so sq go mo nt fr tw tx gr ge g1 g2 g3 sv lf se) : ∃ (w : Int32) (u' : SX) (v' : SY), ra_RR (B + 2) u' v' ∧ (∀ post : Int32 → SX → Prop, post w u' → wpX_handMessage post (lN c, ep, st, pt, bs, pr, tk, mk, rs, vl, cl, nb, al, wt, lg, wd, sn, lo, lt, lv, gk, gt, gf, gl, gs, gn, sl, ss, sb, pa, du, oft, bg, av, tt) to x b) ∧ (∀ post : Int32 → SY → Prop, post w v' → wpY_hand post (nI n, nI m, st, bo, bs, pr, tk, mk, ot, vl, rs, al, wt, so, sq, go, mo, cl, wd, nt, fr, tw, tx, gr, ge, g1, g2, g3, sv, sb, lf, pa, du, av, bg, oft, se, tt, cp) to x b) := by
  have hE := h.1
  have hW := h.2.2.1
  rcases ra_run_both hB h with ⟨rX, rY⟩ | ⟨r, hr, hr1, rX, rY⟩
  · refine ⟨-1, _, _, ra_RR_mono (ra_in (mk := mk) (vl := vl) (cl := cl) (wt := wt) (wd := wd) (du := du) (oft := oft) (bg := bg) (av := av) (cp := cp) h) (by omega), fun post hp => ?_, fun post hp => ?_⟩
    · simp only [wpX_handMessage]
      refine rX _ ?_
      simp only [wpX_refusalToReach, wpX_refusal, ra_q1, ra_q5, not_false_iff, true_implies, false_implies, true_and]
      exact hp
    · simp only [wpY_hand]
      refine rY _ ?_
      simp only [ra_q1, not_false_iff, true_implies, false_implies, true_and]
      exact hp
  · have yr : 16 * (bo r - 1) + nI r = ep r := ra_E_y hE hr (by rw [hr1]; decide)
    have rl : st r ≠ 0 := by rw [hr1]; decide
    rcases ra_ref1 hB h hr hr1 to with ⟨w, hw, hX, hY⟩ | ⟨s, hs, z, hl, he, ha, hX, hY⟩
    · have w0 : ¬ w = 0 := by rcases hw with rfl | rfl | rfl <;> decide
      have w1 : ¬ 0 ≤ w := by rcases hw with rfl | rfl | rfl <;> decide
      refine ⟨w, _, _, ra_RR_mono (ra_in (mk := mk) (vl := vl) (cl := cl) (wt := wt) (wd := wd) (du := du) (oft := oft) (bg := bg) (av := av) (cp := cp) h) (by omega), fun post hp => ?_, fun post hp => ?_⟩
      · simp only [wpX_handMessage]
        refine rX _ ?_
        refine hX _ ?_
        exact br_f w0 hp
      · simp only [wpY_hand]
        refine rY _ ?_
        refine br_t (nI_pos' (by omega)) ?_
        refine hY _ ?_
        refine nm_e ?_
        exact br_f w1 hp
    · by_cases t : ra_tk st pt s (ep r) 0
      · obtain ⟨w0, w1⟩ := ra_tk_w t
        have e := ra_R_rs0 h hs w0 w1
        have h2 := ra_R_ready0 (ra_R_put (s := s) (k := 2 + 0) (x := ep r) (y := nI 0) (w := x) (v := tt (2 + 0) + 1) h (by omega)) hs hl
        by_cases b0 : b = 0
        · refine ⟨0, _, _, ra_RR_mono (ra_in (mk := mk) (vl := vl) (cl := cl) (wt := wt) (wd := wd) (du := du) (oft := oft) (bg := bg) (av := av) (cp := cp) h2) (by omega), fun post hp => ?_, fun post hp => ?_⟩
          · simp only [wpX_handMessage]
            refine rX _ (hX _ (br_t rfl (xl_slotOf_s hs hl he ha ⟨vp_in_nI hr (by decide), ?_⟩)))
            rw [ra_c (show r < 1000 by omega)]
            refine xl_takes (k := 0) hs (by omega) (fun _ => br_f (by decide) ⟨vp_in_nI hr (by decide), ?_⟩) (fun y => absurd t y)
            refine xl_putInto (k := 0) hs (by omega) (xl_makeReady hs (br_t b0 hp))
          · simp only [wpY_hand]
            refine rY _ (br_t (nI_pos' (by omega)) (hY _ (nm_r ha (br_t (by decide) ?_))))
            simp (disch := omega) only [wpY_endpoint, yr, not_true, not_false_iff, true_implies, false_implies, implies_true, true_and, and_true, forall_eq, eq_self, ra_i, ra_c, ra_m3, ra_m4, ra_m16, ra_4m, ra_14m, ra_16m, nI_add, nI_1, lN_1, ra_p2, ra_2p, ra_n0, ra_p0, ra_q0, ra_q1, ra_q2, ra_q3, ra_n3, ra_n4, ra_n10, ra_n14, ra_n16, ra_n30, ra_n140, ra_y3, ra_y4, ra_y10, ra_y14, ra_y16, ra_y30, ra_y140]
            refine yl_takes (k := 0) hs (by omega) hW (fun _ => br_f (by decide) (br_f (by decide) ?_)) (fun y => absurd t y)
            refine yl_gets (k := 0) hs (by omega) (yl_ready hs (br_t b0 ?_))
            rw [e]
            exact hp
        · have rs1 : upd st s 1 r ≠ 0 := by rw [pk_un (fun y => z y.symm)]; exact rl
          have h3 := ra_R_wait (s := r) (how := 4) (whom := to) h2 hr rs1 (Or.inr (Or.inr rfl)) (Or.inr ⟨s, hs, by rw [pk_us]; decide, he.symm⟩)
          refine ⟨-2, _, _, ra_in (mk := mk) (vl := vl) (cl := cl) (wt := wt) (wd := wd) (du := du) (oft := oft) (bg := bg) (av := av) (cp := cp) h3, fun post hp => ?_, fun post hp => ?_⟩
          · simp only [wpX_handMessage]
            refine rX _ (hX _ (br_t rfl (xl_slotOf_s hs hl he ha ⟨vp_in_nI hr (by decide), ?_⟩)))
            rw [ra_c (show r < 1000 by omega)]
            refine xl_takes (k := 0) hs (by omega) (fun _ => br_f (by decide) ⟨vp_in_nI hr (by decide), ?_⟩) (fun y => absurd t y)
            refine xl_putInto (k := 0) hs (by omega) (xl_makeReady hs (br_f b0 (xl_startWaiting hr hp)))
          · simp only [wpY_hand]
            refine rY _ (br_t (nI_pos' (by omega)) (hY _ (nm_r ha (br_t (by decide) ?_))))
            simp (disch := omega) only [wpY_endpoint, yr, not_true, not_false_iff, true_implies, false_implies, implies_true, true_and, and_true, forall_eq, eq_self, ra_i, ra_c, ra_m3, ra_m4, ra_m16, ra_4m, ra_14m, ra_16m, nI_add, nI_1, lN_1, ra_p2, ra_2p, ra_n0, ra_p0, ra_q0, ra_q1, ra_q2, ra_q3, ra_n3, ra_n4, ra_n10, ra_n14, ra_n16, ra_n30, ra_n140, ra_y3, ra_y4, ra_y10, ra_y14, ra_y16, ra_y30, ra_y140]
            refine yl_takes (k := 0) hs (by omega) hW (fun _ => br_f (by decide) (br_f (by decide) ?_)) (fun y => absurd t y)
            refine yl_gets (k := 0) hs (by omega) (yl_ready hs (br_f b0 (yl_waits hr ?_)))
            rw [e]
            exact hp
      · obtain ⟨g, hg, gX, gY⟩ := ra_stuck_both hB h hr hs
        rcases hg with rfl | rfl
        · have h3 := ra_R_wait (s := r) (how := 2) (whom := to) h hr rl (Or.inl rfl) (Or.inr ⟨s, hs, hl, he.symm⟩)
          refine ⟨-2, _, _, ra_RR_mono (ra_in (mk := mk) (vl := upd vl r x) (cl := upd cl r (vp_nar .boolean b)) (wt := wt) (wd := wd) (du := du) (oft := oft) (bg := bg) (av := av) (cp := cp) h3) (by omega), fun post hp => ?_, fun post hp => ?_⟩
          · simp only [wpX_handMessage]
            refine rX _ (hX _ (br_t rfl (xl_slotOf_s hs hl he ha ⟨vp_in_nI hr (by decide), ?_⟩)))
            rw [ra_c (show r < 1000 by omega)]
            refine xl_takes (k := 0) hs (by omega) (fun y => absurd y t) (fun _ => br_t rfl (gX _ (br_t rfl ?_)))
            simp (disch := omega) only [not_true, not_false_iff, true_implies, false_implies, implies_true, true_and, and_true, forall_eq, eq_self, ra_i, ra_c, ra_m3, ra_m4, ra_m16, ra_4m, ra_14m, ra_16m, nI_add, nI_1, lN_1, ra_p2, ra_2p, ra_n0, ra_p0, ra_q0, ra_q1, ra_q2, ra_q3, ra_n3, ra_n4, ra_n10, ra_n14, ra_n16, ra_n30, ra_n140, ra_y3, ra_y4, ra_y10, ra_y14, ra_y16, ra_y30, ra_y140]
            exact xl_startWaiting hr hp
          · simp only [wpY_hand]
            refine rY _ (br_t (nI_pos' (by omega)) (hY _ (nm_r ha (br_t (by decide) ?_))))
            simp (disch := omega) only [wpY_endpoint, yr, not_true, not_false_iff, true_implies, false_implies, implies_true, true_and, and_true, forall_eq, eq_self, ra_i, ra_c, ra_m3, ra_m4, ra_m16, ra_4m, ra_14m, ra_16m, nI_add, nI_1, lN_1, ra_p2, ra_2p, ra_n0, ra_p0, ra_q0, ra_q1, ra_q2, ra_q3, ra_n3, ra_n4, ra_n10, ra_n14, ra_n16, ra_n30, ra_n140, ra_y3, ra_y4, ra_y10, ra_y14, ra_y16, ra_y30, ra_y140]
            refine yl_takes (k := 0) hs (by omega) hW (fun y => absurd y t) (fun _ => br_t rfl (gY _ (br_t rfl (br_t rfl ?_))))
            simp (disch := omega) only [not_true, not_false_iff, true_implies, false_implies, implies_true, true_and, and_true, forall_eq, eq_self, ra_i, ra_c, ra_m3, ra_m4, ra_m16, ra_4m, ra_14m, ra_16m, nI_add, nI_1, lN_1, ra_p2, ra_2p, ra_n0, ra_p0, ra_q0, ra_q1, ra_q2, ra_q3, ra_n3, ra_n4, ra_n10, ra_n14, ra_n16, ra_n30, ra_n140, ra_y3, ra_y4, ra_y10, ra_y14, ra_y16, ra_y30, ra_y140]
            exact yl_waits hr hp
        · refine ⟨-5, _, _, ra_RR_mono (ra_in (mk := mk) (vl := vl) (cl := cl) (wt := wt) (wd := wd) (du := du) (oft := oft) (bg := bg) (av := av) (cp := cp) h) (by omega), fun post hp => ?_, fun post hp => ?_⟩
          · simp only [wpX_handMessage]
            refine rX _ (hX _ (br_t rfl (xl_slotOf_s hs hl he ha ⟨vp_in_nI hr (by decide), ?_⟩)))
            rw [ra_c (show r < 1000 by omega)]
            exact xl_takes (k := 0) hs (by omega) (fun y => absurd y t) (fun _ => br_t rfl (gX _ (br_f (by decide) hp)))
          · simp only [wpY_hand]
            refine rY _ (br_t (nI_pos' (by omega)) (hY _ (nm_r ha (br_t (by decide) ?_))))
            simp (disch := omega) only [wpY_endpoint, yr, not_true, not_false_iff, true_implies, false_implies, implies_true, true_and, and_true, forall_eq, eq_self, ra_i, ra_c, ra_m3, ra_m4, ra_m16, ra_4m, ra_14m, ra_16m, nI_add, nI_1, lN_1, ra_p2, ra_2p, ra_n0, ra_p0, ra_q0, ra_q1, ra_q2, ra_q3, ra_n3, ra_n4, ra_n10, ra_n14, ra_n16, ra_n30, ra_n140, ra_y3, ra_y4, ra_y10, ra_y14, ra_y16, ra_y30, ra_y140]
            exact yl_takes (k := 0) hs (by omega) hW (fun y => absurd y t) (fun _ => br_t rfl (gY _ (br_f (by decide) hp)))
end
end
section
/-! a process begins -/
theorem ra_d3 {i : Nat} (h : i < 1000) : nI i / 3 = nI (i / 3) := pk_div (a := i) (d := 3) (by omega) (by omega) (by omega)
theorem ra_d14 {i : Nat} (h : i < 1000) : nI i / 14 = nI (i / 14) := pk_div (a := i) (d := 14) (by omega) (by omega) (by omega)
theorem ra_r14 {i : Nat} (h : i < 1000) : nI i - nI (i / 14) * 14 = nI (i % 14) := by
  have := pk_rem (a := i) (d := 14) (by omega) (by omega) (by omega)
  rw [pk_div (by omega) (by omega) (by omega)] at this
  exact this
theorem ra_eq {a b : Nat} (ha : a < 1000) (hb : b < 1000) : (nI a = nI b) = (a = b) := propext (nI_eq (by omega) (by omega))
theorem ra_uu (f : Nat → Int32) (k : Nat) (x y : Int32) : upd (upd f k x) k y = upd f k y := by
  funext j
  unfold upd
  split <;> rfl
section
variable {B c m n : Nat} {st pr bs tk mk vl cl rs al wt wd tt sb pa du oft bg av ep pt nb lg lt lv gk gt gf gl gs gn sl ss bo ot so sq go mo nt fr tw tx gr ge g1 g2 g3 sv lf se cp : Nat → Int32} {sn lo : Nat → Int64}
theorem xl_beg115 {s : Nat} {post : SX → Prop} (hs : s < 10) (h : post (lN (c + 1), ep, upd st s 1, upd pt s (ep s), bs, pr, tk, mk, rs, vl, cl, nb, al, wt, lg, wd, vp_updL sn s (lN (c + 1)), lo, lt, lv, ra_z gk (4 * s) 4, gt, gf, gl, gs, gn, sl, ss, sb, pa, du, oft, bg, av, upd tt 1 (tt 1 + 1))) : ∃ k, wX_beginProcess_115 post (nI s) (lN c) k 0 ep st pt bs pr tk mk rs vl cl nb al wt lg wd sn lo lt lv gk gt gf gl gs gn sl ss sb pa du oft bg av tt := by
  obtain ⟨k, hk⟩ := ra_run (fun n i => wX_beginProcess_115 post (nI s) (lN c) n (nI i) ep st pt bs pr tk mk rs vl cl nb al wt lg wd sn lo lt lv (ra_z gk (4 * s) i) gt gf gl gs gn sl ss sb pa du oft bg av tt) 4 (fun n => by
    simp (disch := omega) only [wX_beginProcess_115, not_true, not_false_iff, true_implies, false_implies, implies_true, true_and, and_true, forall_eq, eq_self, ra_i, ra_c, ra_m3, ra_m4, ra_m16, ra_4m, ra_14m, ra_16m, nI_add, nI_1, lN_1, ra_p2, ra_2p, ra_n0, ra_p0, ra_q0, ra_q1, ra_q2, ra_q3, ra_n3, ra_n4, ra_n10, ra_n14, ra_n16, ra_n30, ra_n140, ra_y3, ra_y4, ra_y10, ra_y14, ra_y16, ra_y30, ra_y140]
    exact xl_makeReady hs h) (fun n i hi ih => by
    simp (disch := omega) only [wX_beginProcess_115, ra_z_s, not_true, not_false_iff, true_implies, false_implies, implies_true, true_and, and_true, forall_eq, eq_self, ra_i, ra_c, ra_m3, ra_m4, ra_m16, ra_4m, ra_14m, ra_16m, nI_add, nI_1, lN_1, ra_p2, ra_2p, ra_n0, ra_p0, ra_q0, ra_q1, ra_q2, ra_q3, ra_n3, ra_n4, ra_n10, ra_n14, ra_n16, ra_n30, ra_n140, ra_y3, ra_y4, ra_y10, ra_y14, ra_y16, ra_y30, ra_y140]
    exact ih)
  try dsimp only at hk
  rw [ra_z_0] at hk
  exact ⟨k, hk⟩
theorem xl_beg86 {s : Nat} {post : SX → Prop} (hs : s < 10) (h : post (lN (c + 1), ep, upd st s 1, upd pt s (ep s), bs, pr, tk, mk, rs, vl, cl, nb, al, wt, lg, ra_z wd (16 * s) 16, vp_updL sn s (lN (c + 1)), lo, lt, lv, ra_z gk (4 * s) 4, gt, gf, gl, gs, gn, sl, ss, sb, pa, du, oft, bg, av, upd tt 1 (tt 1 + 1))) : ∃ k, wX_beginProcess_86 post (nI s) (lN c) k 0 ep st pt bs pr tk mk rs vl cl nb al wt lg wd sn lo lt lv gk gt gf gl gs gn sl ss sb pa du oft bg av tt := by
  obtain ⟨k, hk⟩ := ra_run (fun n i => wX_beginProcess_86 post (nI s) (lN c) n (nI i) ep st pt bs pr tk mk rs vl cl nb al wt lg (ra_z wd (16 * s) i) sn lo lt lv gk gt gf gl gs gn sl ss sb pa du oft bg av tt) 16 (fun n => by
    simp (disch := omega) only [wX_beginProcess_86, not_true, not_false_iff, true_implies, false_implies, implies_true, true_and, and_true, forall_eq, eq_self, ra_i, ra_c, ra_m3, ra_m4, ra_m16, ra_4m, ra_14m, ra_16m, nI_add, nI_1, lN_1, ra_p2, ra_2p, ra_n0, ra_p0, ra_q0, ra_q1, ra_q2, ra_q3, ra_n3, ra_n4, ra_n10, ra_n14, ra_n16, ra_n30, ra_n140, ra_y3, ra_y4, ra_y10, ra_y14, ra_y16, ra_y30, ra_y140]
    exact xl_beg115 hs h) (fun n i hi ih => by
    simp (disch := omega) only [wX_beginProcess_86, ra_z_s, not_true, not_false_iff, true_implies, false_implies, implies_true, true_and, and_true, forall_eq, eq_self, ra_i, ra_c, ra_m3, ra_m4, ra_m16, ra_4m, ra_14m, ra_16m, nI_add, nI_1, lN_1, ra_p2, ra_2p, ra_n0, ra_p0, ra_q0, ra_q1, ra_q2, ra_q3, ra_n3, ra_n4, ra_n10, ra_n14, ra_n16, ra_n30, ra_n140, ra_y3, ra_y4, ra_y10, ra_y14, ra_y16, ra_y30, ra_y140]
    exact ih)
  try dsimp only at hk
  rw [ra_z_0] at hk
  exact ⟨k, hk⟩
theorem xl_beg59 {s : Nat} {post : SX → Prop} (hs : s < 10) (h : post (lN (c + 1), ep, upd st s 1, upd pt s (ep s), bs, pr, tk, mk, rs, vl, cl, nb, al, wt, ra_z lg (3 * s) 3, ra_z wd (16 * s) 16, vp_updL sn s (lN (c + 1)), lo, lt, lv, ra_z gk (4 * s) 4, gt, gf, gl, gs, gn, sl, ss, sb, pa, du, oft, bg, av, upd tt 1 (tt 1 + 1))) : ∃ k, wX_beginProcess_59 post (nI s) (lN c) k 0 ep st pt bs pr tk mk rs vl cl nb al wt lg wd sn lo lt lv gk gt gf gl gs gn sl ss sb pa du oft bg av tt := by
  obtain ⟨k, hk⟩ := ra_run (fun n i => wX_beginProcess_59 post (nI s) (lN c) n (nI i) ep st pt bs pr tk mk rs vl cl nb al wt (ra_z lg (3 * s) i) wd sn lo lt lv gk gt gf gl gs gn sl ss sb pa du oft bg av tt) 3 (fun n => by
    simp (disch := omega) only [wX_beginProcess_59, not_true, not_false_iff, true_implies, false_implies, implies_true, true_and, and_true, forall_eq, eq_self, ra_i, ra_c, ra_m3, ra_m4, ra_m16, ra_4m, ra_14m, ra_16m, nI_add, nI_1, lN_1, ra_p2, ra_2p, ra_n0, ra_p0, ra_q0, ra_q1, ra_q2, ra_q3, ra_n3, ra_n4, ra_n10, ra_n14, ra_n16, ra_n30, ra_n140, ra_y3, ra_y4, ra_y10, ra_y14, ra_y16, ra_y30, ra_y140]
    exact xl_beg86 hs h) (fun n i hi ih => by
    simp (disch := omega) only [wX_beginProcess_59, ra_z_s, not_true, not_false_iff, true_implies, false_implies, implies_true, true_and, and_true, forall_eq, eq_self, ra_i, ra_c, ra_m3, ra_m4, ra_m16, ra_4m, ra_14m, ra_16m, nI_add, nI_1, lN_1, ra_p2, ra_2p, ra_n0, ra_p0, ra_q0, ra_q1, ra_q2, ra_q3, ra_n3, ra_n4, ra_n10, ra_n14, ra_n16, ra_n30, ra_n140, ra_y3, ra_y4, ra_y10, ra_y14, ra_y16, ra_y30, ra_y140]
    exact ih)
  try dsimp only at hk
  rw [ra_z_0] at hk
  exact ⟨k, hk⟩
theorem xl_beginProcess {s : Nat} {x y : Int32} {post : SX → Prop} (hs : s < 10) (h : post (lN (c + 1), ep, upd st s 1, upd pt s (ep s), upd bs s x, upd pr s x, upd tk s 4, upd mk s y, upd rs s 0, vl, cl, upd nb s 0, upd al s 0, upd wt s 0, ra_z lg (3 * s) 3, ra_z wd (16 * s) 16, vp_updL sn s (lN (c + 1)), lo, lt, lv, ra_z gk (4 * s) 4, gt, gf, gl, gs, gn, sl, ss, sb, pa, du, oft, bg, av, upd tt 1 (tt 1 + 1))) : wpX_beginProcess post (lN c, ep, st, pt, bs, pr, tk, mk, rs, vl, cl, nb, al, wt, lg, wd, sn, lo, lt, lv, gk, gt, gf, gl, gs, gn, sl, ss, sb, pa, du, oft, bg, av, tt) (nI s) x y := by
  simp (disch := omega) only [wpX_beginProcess, not_true, not_false_iff, true_implies, false_implies, implies_true, true_and, and_true, forall_eq, eq_self, ra_i, ra_c, ra_m3, ra_m4, ra_m16, ra_4m, ra_14m, ra_16m, nI_add, nI_1, lN_1, ra_p2, ra_2p, ra_n0, ra_p0, ra_q0, ra_q1, ra_q2, ra_q3, ra_n3, ra_n4, ra_n10, ra_n14, ra_n16, ra_n30, ra_n140, ra_y3, ra_y4, ra_y10, ra_y14, ra_y16, ra_y30, ra_y140]
  exact xl_beg59 hs h
theorem yl_beg76 {s : Nat} {post : Int32 → SY → Prop} (hs : s < 10) (h : post (16 * (bo s - 1) + nI s) (nI n, nI (m + 1), upd st s 1, bo, bs, pr, tk, mk, ot, vl, upd rs s 0, al, wt, so, sq, go, upd mo s (nI (m + 1)), cl, ra_z wd (16 * s) 16, nt, fr, tw, tx, gr, ge, g1, g2, g3, sv, sb, lf, pa, du, av, bg, oft, se, upd tt 1 (tt 1 + 1), cp)) : ∃ k, wY_begin_76 post (nI s) (nI n) (nI m) k 0 st bo bs pr tk mk ot vl rs al wt so sq go mo cl wd nt fr tw tx gr ge g1 g2 g3 sv sb lf pa du av bg oft se tt cp := by
  obtain ⟨k, hk⟩ := ra_run (fun q i => wY_begin_76 post (nI s) (nI n) (nI m) q (nI i) st bo bs pr tk mk ot vl rs al wt so sq go mo cl (ra_z wd (16 * s) i) nt fr tw tx gr ge g1 g2 g3 sv sb lf pa du av bg oft se tt cp) 16 (fun q => by
    simp (disch := omega) only [wY_begin_76, not_true, not_false_iff, true_implies, false_implies, implies_true, true_and, and_true, forall_eq, eq_self, ra_i, ra_c, ra_m3, ra_m4, ra_m16, ra_4m, ra_14m, ra_16m, nI_add, nI_1, lN_1, ra_p2, ra_2p, ra_n0, ra_p0, ra_q0, ra_q1, ra_q2, ra_q3, ra_n3, ra_n4, ra_n10, ra_n14, ra_n16, ra_n30, ra_n140, ra_y3, ra_y4, ra_y10, ra_y14, ra_y16, ra_y30, ra_y140]
    refine yl_ready hs ?_
    simp (disch := omega) only [wpY_endpoint, not_true, not_false_iff, true_implies, false_implies, implies_true, true_and, and_true, forall_eq, eq_self, ra_i, ra_c, ra_m3, ra_m4, ra_m16, ra_4m, ra_14m, ra_16m, nI_add, nI_1, lN_1, ra_p2, ra_2p, ra_n0, ra_p0, ra_q0, ra_q1, ra_q2, ra_q3, ra_n3, ra_n4, ra_n10, ra_n14, ra_n16, ra_n30, ra_n140, ra_y3, ra_y4, ra_y10, ra_y14, ra_y16, ra_y30, ra_y140]
    exact h) (fun q i hi ih => by
    simp (disch := omega) only [wY_begin_76, ra_z_s, not_true, not_false_iff, true_implies, false_implies, implies_true, true_and, and_true, forall_eq, eq_self, ra_i, ra_c, ra_m3, ra_m4, ra_m16, ra_4m, ra_14m, ra_16m, nI_add, nI_1, lN_1, ra_p2, ra_2p, ra_n0, ra_p0, ra_q0, ra_q1, ra_q2, ra_q3, ra_n3, ra_n4, ra_n10, ra_n14, ra_n16, ra_n30, ra_n140, ra_y3, ra_y4, ra_y10, ra_y14, ra_y16, ra_y30, ra_y140]
    exact ih)
  try dsimp only at hk
  rw [ra_z_0] at hk
  exact ⟨k, hk⟩
theorem yl_begin {s : Nat} {x y : Int32} {post : Int32 → SY → Prop} (hs : s < 10) (h : post (16 * (upd bo s (bo s + 1) s - 1) + nI s) (nI n, nI (m + 1), upd st s 1, upd bo s (bo s + 1), upd bs s x, upd pr s x, upd tk s 4, upd mk s y, ot, vl, upd rs s 0, upd al s 0, upd wt s 0, upd so s 0, upd sq s 0, upd go s 0, upd mo s (nI (m + 1)), cl, ra_z wd (16 * s) 16, nt, fr, tw, tx, gr, ge, g1, g2, g3, sv, sb, lf, pa, du, av, bg, oft, se, upd tt 1 (tt 1 + 1), cp)) : wpY_begin post (nI n, nI m, st, bo, bs, pr, tk, mk, ot, vl, rs, al, wt, so, sq, go, mo, cl, wd, nt, fr, tw, tx, gr, ge, g1, g2, g3, sv, sb, lf, pa, du, av, bg, oft, se, tt, cp) (nI s) x y := by
  simp (disch := omega) only [wpY_begin, not_true, not_false_iff, true_implies, false_implies, implies_true, true_and, and_true, forall_eq, eq_self, ra_i, ra_c, ra_m3, ra_m4, ra_m16, ra_4m, ra_14m, ra_16m, nI_add, nI_1, lN_1, ra_p2, ra_2p, ra_n0, ra_p0, ra_q0, ra_q1, ra_q2, ra_q3, ra_n3, ra_n4, ra_n10, ra_n14, ra_n16, ra_n30, ra_n140, ra_y3, ra_y4, ra_y10, ra_y14, ra_y16, ra_y30, ra_y140]
  exact yl_beg76 hs h
end
end
section
/-! a process ends: the letters -/
section
variable {B c m n : Nat} {st pr bs tk mk vl cl rs al wt wd tt sb pa du oft bg av ep pt nb lg lt lv gk gt gf gl gs gn sl ss bo ot so sq go mo nt fr tw tx gr ge g1 g2 g3 sv lf se cp : Nat → Int32} {sn lo : Nat → Int64}
theorem xl_dropLetters {s : Nat} {post : SX → Prop} (hs : s < 10) (h : post (lN c, ep, st, pt, bs, pr, tk, mk, rs, vl, cl, nb, al, wt, lg, wd, sn, ra_zL lo (fun p => decide (p / 3 = s ∨ lt p = nI s)) 30, lt, lv, gk, gt, gf, gl, gs, gn, sl, ss, sb, pa, du, oft, bg, av, tt)) : wpX_dropLetters post (lN c, ep, st, pt, bs, pr, tk, mk, rs, vl, cl, nb, al, wt, lg, wd, sn, lo, lt, lv, gk, gt, gf, gl, gs, gn, sl, ss, sb, pa, du, oft, bg, av, tt) (nI s) := by
  simp only [wpX_dropLetters]
  obtain ⟨k, hk⟩ := ra_run (fun n i => wX_dropLetters_2 post (nI s) (lN c) n (nI i) ep st pt bs pr tk mk rs vl cl nb al wt lg wd sn (ra_zL lo (fun p => decide (p / 3 = s ∨ lt p = nI s)) i) lt lv gk gt gf gl gs gn sl ss sb pa du oft bg av tt) 30 (fun n => by
    simp (disch := omega) only [wX_dropLetters_2, not_true, not_false_iff, true_implies, false_implies, implies_true, true_and, and_true, forall_eq, eq_self, ra_i, ra_c, ra_m3, ra_m4, ra_m16, ra_4m, ra_14m, ra_16m, nI_add, nI_1, lN_1, ra_p2, ra_2p, ra_n0, ra_p0, ra_q0, ra_q1, ra_q2, ra_q3, ra_n3, ra_n4, ra_n10, ra_n14, ra_n16, ra_n30, ra_n140, ra_y3, ra_y4, ra_y10, ra_y14, ra_y16, ra_y30, ra_y140]
    exact h) (fun n i hi ih => by
    try dsimp only at ih
    by_cases a : i / 3 = s
    · rw [← ra_zL_t lo (fun p => decide (p / 3 = s ∨ lt p = nI s)) i (by simp [a])] at ih
      simp (disch := omega) only [wX_dropLetters_2, ra_d3, ra_eq, a, not_true, not_false_iff, true_implies, false_implies, implies_true, true_and, and_true, forall_eq, eq_self, ra_i, ra_c, ra_m3, ra_m4, ra_m16, ra_4m, ra_14m, ra_16m, nI_add, nI_1, lN_1, ra_p2, ra_2p, ra_n0, ra_p0, ra_q0, ra_q1, ra_q2, ra_q3, ra_n3, ra_n4, ra_n10, ra_n14, ra_n16, ra_n30, ra_n140, ra_y3, ra_y4, ra_y10, ra_y14, ra_y16, ra_y30, ra_y140]
      exact ih
    · by_cases b : lt i = nI s
      · rw [← ra_zL_t lo (fun p => decide (p / 3 = s ∨ lt p = nI s)) i (by simp [b])] at ih
        simp (disch := omega) only [wX_dropLetters_2, ra_d3, ra_eq, a, b, not_true, not_false_iff, true_implies, false_implies, implies_true, true_and, and_true, forall_eq, eq_self, ra_i, ra_c, ra_m3, ra_m4, ra_m16, ra_4m, ra_14m, ra_16m, nI_add, nI_1, lN_1, ra_p2, ra_2p, ra_n0, ra_p0, ra_q0, ra_q1, ra_q2, ra_q3, ra_n3, ra_n4, ra_n10, ra_n14, ra_n16, ra_n30, ra_n140, ra_y3, ra_y4, ra_y10, ra_y14, ra_y16, ra_y30, ra_y140]
        exact ih
      · rw [← ra_zL_f lo (fun p => decide (p / 3 = s ∨ lt p = nI s)) i (by simp [a, b])] at ih
        simp (disch := omega) only [wX_dropLetters_2, ra_d3, ra_eq, a, b, not_true, not_false_iff, true_implies, false_implies, implies_true, true_and, and_true, forall_eq, eq_self, ra_i, ra_c, ra_m3, ra_m4, ra_m16, ra_4m, ra_14m, ra_16m, nI_add, nI_1, lN_1, ra_p2, ra_2p, ra_n0, ra_p0, ra_q0, ra_q1, ra_q2, ra_q3, ra_n3, ra_n4, ra_n10, ra_n14, ra_n16, ra_n30, ra_n140, ra_y3, ra_y4, ra_y10, ra_y14, ra_y16, ra_y30, ra_y140]
        exact ih)
  try dsimp only at hk
  rw [ra_zL_0] at hk
  exact ⟨k, hk⟩
theorem yl_takeOut {k : Nat} {post : SY → Prop} (hk : k < n) (hn : n ≤ 30) (h : post (nI (n - 1), nI m, st, bo, bs, pr, tk, mk, ot, vl, rs, al, wt, so, sq, go, mo, cl, wd, nt, ra_sh fr k n, ra_sh tw k n, ra_sh tx k n, gr, ge, g1, g2, g3, sv, sb, lf, pa, du, av, bg, oft, se, tt, cp)) : wpY_takeOut post (nI n, nI m, st, bo, bs, pr, tk, mk, ot, vl, rs, al, wt, so, sq, go, mo, cl, wd, nt, fr, tw, tx, gr, ge, g1, g2, g3, sv, sb, lf, pa, du, av, bg, oft, se, tt, cp) (nI k) := by
  obtain ⟨q, rfl⟩ : ∃ q, n = q + 1 := ⟨n - 1, by omega⟩
  simp (disch := omega) only [wpY_takeOut, nI_pred, not_true, not_false_iff, true_implies, false_implies, implies_true, true_and, and_true, forall_eq, eq_self, ra_i, ra_c, ra_m3, ra_m4, ra_m16, ra_4m, ra_14m, ra_16m, nI_add, nI_1, lN_1, ra_p2, ra_2p, ra_n0, ra_p0, ra_q0, ra_q1, ra_q2, ra_q3, ra_n3, ra_n4, ra_n10, ra_n14, ra_n16, ra_n30, ra_n140, ra_y3, ra_y4, ra_y10, ra_y14, ra_y16, ra_y30, ra_y140]
  have key : ∀ d i, i + d = q → k ≤ i → wY_takeOut_12 post (nI q) (nI m) (d + 1) (nI i) st bo bs pr tk mk ot vl rs al wt so sq go mo cl wd nt (ra_sh fr k (i + 1)) (ra_sh tw k (i + 1)) (ra_sh tx k (i + 1)) gr ge g1 g2 g3 sv sb lf pa du av bg oft se tt cp := by
    intro d
    induction d with
    | zero =>
      intro i hi _
      have : i = q := by omega
      subst this
      have a : nI i ≤ nI i := Int32.le_refl _
      simp (disch := omega) only [wY_takeOut_12, a, not_true, not_false_iff, true_implies, false_implies, implies_true, true_and, and_true, forall_eq, eq_self, ra_i, ra_c, ra_m3, ra_m4, ra_m16, ra_4m, ra_14m, ra_16m, nI_add, nI_1, lN_1, ra_p2, ra_2p, ra_n0, ra_p0, ra_q0, ra_q1, ra_q2, ra_q3, ra_n3, ra_n4, ra_n10, ra_n14, ra_n16, ra_n30, ra_n140, ra_y3, ra_y4, ra_y10, ra_y14, ra_y16, ra_y30, ra_y140]
      exact h
    | succ d ih =>
      intro i hi hki
      have a : ¬ nI q ≤ nI i := nI_ge (by omega) (by omega)
      rw [wY_takeOut_12]
      simp (disch := omega) only [a, ra_sh_s, not_true, not_false_iff, true_implies, false_implies, implies_true, true_and, and_true, forall_eq, eq_self, ra_i, ra_c, ra_m3, ra_m4, ra_m16, ra_4m, ra_14m, ra_16m, nI_add, nI_1, lN_1, ra_p2, ra_2p, ra_n0, ra_p0, ra_q0, ra_q1, ra_q2, ra_q3, ra_n3, ra_n4, ra_n10, ra_n14, ra_n16, ra_n30, ra_n140, ra_y3, ra_y4, ra_y10, ra_y14, ra_y16, ra_y30, ra_y140]
      exact ih (i + 1) (by omega) (by omega)
  have := key (q - k) k (by omega) (Nat.le_refl _)
  rw [ra_sh_0, ra_sh_0, ra_sh_0] at this
  exact ⟨_, this⟩
theorem ra_m1' (i : Nat) : nI i + (-1) = nI i - 1 := (Int32.sub_eq_add_neg _ _).symm
/-- Y's letters of s and to s, from the last to the first -/
theorem ra_endL {s : Nat} {gone : Int32} {st0 : Nat → Int32} (hs : s < 10) (hc : c ≤ 2 ^ 27) : ∀ (i n : Nat) (lo : Nat → Int64) (fr tw tx : Nat → Int32), i ≤ n → ra_L c n st0 lo lt lv fr tw tx → (∀ j, i ≤ j → j < n → ¬ (fr j = nI s ∨ tw j = nI s)) →
    ∃ (n' : Nat) (lo' : Nat → Int64) (fr' tw' tx' : Nat → Int32), ra_L c n' st0 lo' lt lv fr' tw' tx' ∧ (∀ j, j < n' → ¬ (fr' j = nI s ∨ tw' j = nI s)) ∧ (∀ p, p < 30 → lo' p = lo p ∨ (lo' p = 0 ∧ (p / 3 = s ∨ lt p = nI s))) ∧
      ∀ post : SY → Prop, wY_ends_78 post (nI s) gone 1 (-1) (nI (n')) (nI m) st bo bs pr tk mk ot vl rs al wt so sq go mo cl wd nt fr' tw' tx' gr ge g1 g2 g3 sv sb lf pa du av bg oft se tt cp → wY_ends_78 post (nI s) gone (i + 1) (nI i - 1) (nI n) (nI m) st bo bs pr tk mk ot vl rs al wt so sq go mo cl wd nt fr tw tx gr ge g1 g2 g3 sv sb lf pa du av bg oft se tt cp := by
  intro i
  induction i with
  | zero =>
    intro n lo fr tw tx _ hL hn
    exact ⟨n, lo, fr, tw, tx, hL, fun j hj => hn j (by omega) hj, fun p _ => Or.inl rfl, fun post h => h⟩
  | succ i ih =>
    intro n lo fr tw tx hi hL hn
    have n30 := (ra_L_n hc hL).1
    by_cases b : fr i = nI s ∨ tw i = nI s
    · obtain ⟨p, hp, hlo, e1, e2, -, -, -, hL'⟩ := ra_L_out' hc hL (show i < n by omega)
      obtain ⟨n', lo', fr', tw', tx', q1, q2, q3, q4⟩ := ih (n - 1) _ _ _ _ (by omega) hL' (fun j hj hj' => by
        have := hn (j + 1) (by omega) (by omega)
        unfold ra_sh
        rw [if_pos ⟨by omega, by omega⟩, if_pos ⟨by omega, by omega⟩]
        exact this)
      refine ⟨n', lo', fr', tw', tx', q1, q2, fun w hw => ?_, fun post h => ?_⟩
      · by_cases y : w = p
        · subst y
          have : w / 3 = s ∨ lt w = nI s := by
            rcases b with b | b
            · rw [e1, nI_eq (by omega) (by omega)] at b; exact Or.inl b
            · rw [e2] at b; exact Or.inr b
          rcases q3 w hw with z | z
          · rw [pk_uLs] at z; exact Or.inr ⟨z, this⟩
          · exact Or.inr z
        · rcases q3 w hw with z | z
          · rw [pk_uLn y] at z; exact Or.inl z
          · exact Or.inr z
      · have w := q4 post h
        have t : wY_ends_102 post (wY_ends_78 post (nI s) gone (i + 1)) (nI s) gone (nI i) (nI n) (nI m) st bo bs pr tk mk ot vl rs al wt so sq go mo cl wd nt fr tw tx gr ge g1 g2 g3 sv sb lf pa du av bg oft se tt cp := by
          simp only [wY_ends_102]
          refine yl_takeOut (by omega) n30 ?_
          simp only [forall_eq, ra_m1']
          exact w
        by_cases b1 : fr i = nI s
        · rw [wY_ends_78, nI_pred]
          simp (disch := omega) only [b1, not_true, not_false_iff, true_implies, false_implies, implies_true, true_and, and_true, forall_eq, eq_self, ra_i, ra_c, ra_m3, ra_m4, ra_m16, ra_4m, ra_14m, ra_16m, nI_add, nI_1, lN_1, ra_p2, ra_2p, ra_n0, ra_p0, ra_q0, ra_q1, ra_q2, ra_q3, ra_n3, ra_n4, ra_n10, ra_n14, ra_n16, ra_n30, ra_n140, ra_y3, ra_y4, ra_y10, ra_y14, ra_y16, ra_y30, ra_y140]
          exact t
        · have b2 : tw i = nI s := b.resolve_left b1
          rw [wY_ends_78, nI_pred]
          simp (disch := omega) only [b1, b2, not_true, not_false_iff, true_implies, false_implies, implies_true, true_and, and_true, forall_eq, eq_self, ra_i, ra_c, ra_m3, ra_m4, ra_m16, ra_4m, ra_14m, ra_16m, nI_add, nI_1, lN_1, ra_p2, ra_2p, ra_n0, ra_p0, ra_q0, ra_q1, ra_q2, ra_q3, ra_n3, ra_n4, ra_n10, ra_n14, ra_n16, ra_n30, ra_n140, ra_y3, ra_y4, ra_y10, ra_y14, ra_y16, ra_y30, ra_y140]
          exact t
    · obtain ⟨n', lo', fr', tw', tx', q1, q2, q3, q4⟩ := ih n lo fr tw tx (by omega) hL (fun j hj hj' => by
        by_cases y : j = i
        · rw [y]; exact b
        · exact hn j (by omega) hj')
      refine ⟨n', lo', fr', tw', tx', q1, q2, q3, fun post h => ?_⟩
      have w := q4 post h
      have b1 : ¬ fr i = nI s := fun z => b (Or.inl z)
      have b2 : ¬ tw i = nI s := fun z => b (Or.inr z)
      rw [wY_ends_78, nI_pred]
      simp (disch := omega) only [b1, b2, ra_m1', not_true, not_false_iff, true_implies, false_implies, implies_true, true_and, and_true, forall_eq, eq_self, ra_i, ra_c, ra_m3, ra_m4, ra_m16, ra_4m, ra_14m, ra_16m, nI_add, nI_1, lN_1, ra_p2, ra_2p, ra_n0, ra_p0, ra_q0, ra_q1, ra_q2, ra_q3, ra_n3, ra_n4, ra_n10, ra_n14, ra_n16, ra_n30, ra_n140, ra_y3, ra_y4, ra_y10, ra_y14, ra_y16, ra_y30, ra_y140]
      exact w
end
end
section
/-! a process ends: the rest -/
section
variable {B c m n : Nat} {st pr bs tk mk vl cl rs al wt wd tt sb pa du oft bg av ep pt nb lg lt lv gk gt gf gl gs gn sl ss bo ot so sq go mo nt fr tw tx gr ge g1 g2 g3 sv lf se cp : Nat → Int32} {sn lo : Nat → Int64}
theorem yl_ends35 {s : Nat} {gone : Int32} {post : SY → Prop} (hs : s < 10) (h : ∃ k, wY_ends_78 post (nI s) gone k (nI n - 1) (nI n) (nI m) st bo bs pr tk mk ot vl rs al wt so sq go mo cl wd (ra_zB nt (fun j => decide (j / 14 = s ∨ j % 14 = s)) 140) fr tw tx gr ge g1 g2 g3 sv sb lf pa du av bg oft se tt cp) : ∃ k, wY_ends_35 post (nI s) gone (nI n) (nI m) k 0 st bo bs pr tk mk ot vl rs al wt so sq go mo cl wd nt fr tw tx gr ge g1 g2 g3 sv sb lf pa du av bg oft se tt cp := by
  have q14 : ¬ ((14 : Int32) = 0) := by decide
  obtain ⟨k, hk⟩ := ra_run (fun q i => wY_ends_35 post (nI s) gone (nI n) (nI m) q (nI i) st bo bs pr tk mk ot vl rs al wt so sq go mo cl wd (ra_zB nt (fun j => decide (j / 14 = s ∨ j % 14 = s)) i) fr tw tx gr ge g1 g2 g3 sv sb lf pa du av bg oft se tt cp) 140 (fun q => by
    simp (disch := omega) only [wY_ends_35, not_true, not_false_iff, true_implies, false_implies, implies_true, true_and, and_true, forall_eq, eq_self, ra_i, ra_c, ra_m3, ra_m4, ra_m16, ra_4m, ra_14m, ra_16m, nI_add, nI_1, lN_1, ra_p2, ra_2p, ra_n0, ra_p0, ra_q0, ra_q1, ra_q2, ra_q3, ra_n3, ra_n4, ra_n10, ra_n14, ra_n16, ra_n30, ra_n140, ra_y3, ra_y4, ra_y10, ra_y14, ra_y16, ra_y30, ra_y140]
    exact h) (fun q i hi ih => by
    try dsimp only at ih
    by_cases a : i / 14 = s
    · rw [← ra_zB_t nt (fun j => decide (j / 14 = s ∨ j % 14 = s)) i (by simp [a])] at ih
      simp (disch := omega) only [wY_ends_35, q14, ra_d14, ra_eq, a, ra_nb0, not_true, not_false_iff, true_implies, false_implies, implies_true, true_and, and_true, forall_eq, eq_self, ra_i, ra_c, ra_m3, ra_m4, ra_m16, ra_4m, ra_14m, ra_16m, nI_add, nI_1, lN_1, ra_p2, ra_2p, ra_n0, ra_p0, ra_q0, ra_q1, ra_q2, ra_q3, ra_n3, ra_n4, ra_n10, ra_n14, ra_n16, ra_n30, ra_n140, ra_y3, ra_y4, ra_y10, ra_y14, ra_y16, ra_y30, ra_y140]
      exact ih
    · by_cases b : i % 14 = s
      · rw [← ra_zB_t nt (fun j => decide (j / 14 = s ∨ j % 14 = s)) i (by simp [b])] at ih
        simp (disch := omega) only [wY_ends_35, q14, ra_d14, ra_r14, ra_eq, a, b, ra_nb0, not_true, not_false_iff, true_implies, false_implies, implies_true, true_and, and_true, forall_eq, eq_self, ra_i, ra_c, ra_m3, ra_m4, ra_m16, ra_4m, ra_14m, ra_16m, nI_add, nI_1, lN_1, ra_p2, ra_2p, ra_n0, ra_p0, ra_q0, ra_q1, ra_q2, ra_q3, ra_n3, ra_n4, ra_n10, ra_n14, ra_n16, ra_n30, ra_n140, ra_y3, ra_y4, ra_y10, ra_y14, ra_y16, ra_y30, ra_y140]
        exact ih
      · rw [← ra_zB_f nt (fun j => decide (j / 14 = s ∨ j % 14 = s)) i (by simp [a, b])] at ih
        simp (disch := omega) only [wY_ends_35, q14, ra_d14, ra_r14, ra_eq, a, b, ra_nb0, not_true, not_false_iff, true_implies, false_implies, implies_true, true_and, and_true, forall_eq, eq_self, ra_i, ra_c, ra_m3, ra_m4, ra_m16, ra_4m, ra_14m, ra_16m, nI_add, nI_1, lN_1, ra_p2, ra_2p, ra_n0, ra_p0, ra_q0, ra_q1, ra_q2, ra_q3, ra_n3, ra_n4, ra_n10, ra_n14, ra_n16, ra_n30, ra_n140, ra_y3, ra_y4, ra_y10, ra_y14, ra_y16, ra_y30, ra_y140]
        exact ih)
  try dsimp only at hk
  rw [ra_zB_0] at hk
  exact ⟨k, hk⟩
theorem yl_ends117 {s : Nat} {gone : Int32} {post : SY → Prop} (hs : s < 10) (h : ∃ k, wY_ends_141 post gone k 0 (nI n) (nI m) st bo bs pr tk mk ot vl rs al wt so sq go mo cl wd nt fr tw tx (ra_z gr (4 * s) 4) ge g1 g2 g3 sv sb lf pa du av bg oft se tt cp) : ∃ k, wY_ends_117 post (nI s) gone (nI n) (nI m) k (4 * nI s) st bo bs pr tk mk ot vl rs al wt so sq go mo cl wd nt fr tw tx gr ge g1 g2 g3 sv sb lf pa du av bg oft se tt cp := by
  have e4 : nI (4 * s) + 4 = nI (4 * s + 4) := nI_add (4 * s) 4
  obtain ⟨k, hk⟩ := ra_run (fun q i => wY_ends_117 post (nI s) gone (nI n) (nI m) q (nI (4 * s + i)) st bo bs pr tk mk ot vl rs al wt so sq go mo cl wd nt fr tw tx (ra_z gr (4 * s) i) ge g1 g2 g3 sv sb lf pa du av bg oft se tt cp) 4 (fun q => by
    have a : nI (4 * s + 4) ≤ nI (4 * s + 4) := Int32.le_refl _
    simp (disch := omega) only [wY_ends_117, e4, a, not_true, not_false_iff, true_implies, false_implies, implies_true, true_and, and_true, forall_eq, eq_self, ra_i, ra_c, ra_m3, ra_m4, ra_m16, ra_4m, ra_14m, ra_16m, nI_add, nI_1, lN_1, ra_p2, ra_2p, ra_n0, ra_p0, ra_q0, ra_q1, ra_q2, ra_q3, ra_n3, ra_n4, ra_n10, ra_n14, ra_n16, ra_n30, ra_n140, ra_y3, ra_y4, ra_y10, ra_y14, ra_y16, ra_y30, ra_y140]
    exact h) (fun q i hi ih => by
    try dsimp only at ih
    have a : ¬ nI (4 * s + 4) ≤ nI (4 * s + i) := nI_ge (by omega) (by omega)
    simp (disch := omega) only [wY_ends_117, e4, a, ra_z_s, not_true, not_false_iff, true_implies, false_implies, implies_true, true_and, and_true, forall_eq, eq_self, ra_i, ra_c, ra_m3, ra_m4, ra_m16, ra_4m, ra_14m, ra_16m, nI_add, nI_1, lN_1, ra_p2, ra_2p, ra_n0, ra_p0, ra_q0, ra_q1, ra_q2, ra_q3, ra_n3, ra_n4, ra_n10, ra_n14, ra_n16, ra_n30, ra_n140, ra_y3, ra_y4, ra_y10, ra_y14, ra_y16, ra_y30, ra_y140]
    exact ih)
  try dsimp only at hk
  rw [ra_z_0] at hk
  rw [ra_4m]
  exact ⟨k, hk⟩
/-- those that waited for the one that ends -/
theorem ra_endl {s : Nat} {gone : Int32} (hs : s < 10) : ∀ (d i B c m : Nat) (st pt rs nb mo : Nat → Int32) (sn : Nat → Int64), i + d = 10 → ra_O B c m sn mo → ra_T st →
    (∀ t, t < 10 → (st t = 1 → pt t = ep t) ∧ (st t ≠ 0 → st t ≠ 1 → pt t = ot t ∧ ((pt t ≠ gone → rs t = 0 ∧ (pt t = -1 ∨ ∃ w, w < 10 ∧ st w ≠ 0 ∧ pt t = ep w)) ∧ (pt t = gone → i ≤ t)))) →
    ∃ (c' m' : Nat) (st' pt' rs' nb' mo' : Nat → Int32) (sn' : Nat → Int64), c ≤ c' ∧ ra_O (B + d) c' m' sn' mo' ∧ ra_T st' ∧ ra_W st' ep pt' ot rs' ∧ ra_Z st st' ∧
      (∀ t, t < 10 → nb' t = if i ≤ t then nb t &&& (((1 : Int32) <<< (nI s &&& 31)) ^^^ (-1)) else nb t) ∧
      (∀ post : SX → Prop, wX_endProcess_51 post (nI s) gone 1 (nI 10) (lN (c')) ep st' pt' bs pr tk mk rs' vl cl nb' al wt lg wd sn' lo lt lv gk gt gf gl gs gn sl ss sb pa du oft bg av tt → wX_endProcess_51 post (nI s) gone (d + 1) (nI i) (lN c) ep st pt bs pr tk mk rs vl cl nb al wt lg wd sn lo lt lv gk gt gf gl gs gn sl ss sb pa du oft bg av tt) ∧
      (∀ post : SY → Prop, wY_ends_141 post gone 1 (nI 10) (nI n) (nI (m')) st' bo bs pr tk mk ot vl rs' al wt so sq go mo' cl wd nt fr tw tx gr ge g1 g2 g3 sv sb lf pa du av bg oft se tt cp → wY_ends_141 post gone (d + 1) (nI i) (nI n) (nI m) st bo bs pr tk mk ot vl rs al wt so sq go mo cl wd nt fr tw tx gr ge g1 g2 g3 sv sb lf pa du av bg oft se tt cp) := by
  intro d
  induction d with
  | zero =>
    intro i B c m st pt rs nb mo sn hi hO hT hW
    have : i = 10 := by omega
    subst this
    refine ⟨c, m, st, pt, rs, nb, mo, sn, Nat.le_refl _, hO, hT, fun t ht => ?_, ra_Z_rf st, fun t ht => by rw [if_neg (by omega)], fun post h => h, fun post h => h⟩
    obtain ⟨a, b⟩ := hW t ht
    refine ⟨a, fun x y => ?_⟩
    obtain ⟨b1, b2, b3⟩ := b x y
    have ng : pt t ≠ gone := fun z => absurd (b3 z) (by omega)
    exact ⟨b1, b2 ng⟩
  | succ d ih =>
    intro i B c m st pt rs nb mo sn hi hO hT hW
    have i10 : i < 10 := by omega
    obtain ⟨wa, wb⟩ := hW i i10
    by_cases hit : st i ≠ 0 ∧ st i ≠ 1 ∧ pt i = gone
    · obtain ⟨x0, x1, xg⟩ := hit
      obtain ⟨y1, -⟩ := wb x0 x1
      have yg : ot i = gone := y1.symm.trans xg
      have le1 : ¬ st i ≤ 1 := by rw [ra_le1 hT i10]; exact fun z => z.elim x0 x1
      have lv : ∀ w, st w ≠ 0 → upd st i 1 w ≠ 0 := by
        intro w hw
        by_cases y : w = i
        · rw [y, pk_us]; decide
        · rw [pk_un y]; exact hw
      obtain ⟨c', m', st', pt', rs', nb', mo', sn', q1, q2, q3, q4, q5, q6, q7, q8⟩ := ih (i + 1) (B + 1) (c + 1) (m + 1) (upd st i 1) (upd pt i (ep i)) (upd rs i (-3)) (upd nb i (nb i &&& (((1 : Int32) <<< (nI s &&& 31)) ^^^ (-1)))) (upd mo i (nI (m + 1))) (vp_updL sn i (lN (c + 1))) (by omega) (ra_O_last hO i10) (ra_T_u hT (Or.inr (Or.inl rfl))) (fun t ht => by
        by_cases y : t = i
        · subst y
          exact ⟨fun _ => pk_us, fun _ z => absurd pk_us z⟩
        · rw [pk_un y, pk_un y, pk_un y]
          obtain ⟨a, b⟩ := hW t ht
          refine ⟨a, fun u v => ?_⟩
          obtain ⟨b1, b2, b3⟩ := b u v
          refine ⟨b1, fun z => ?_, fun z => by have := b3 z; omega⟩
          obtain ⟨b4, b5⟩ := b2 z
          exact ⟨b4, b5.imp id (fun ⟨w, hw, hl, e⟩ => ⟨w, hw, lv w hl, e⟩)⟩)
      refine ⟨c', m', st', pt', rs', nb', mo', sn', by omega, ra_O_mono (by omega) q2, q3, q4, ra_Z_tr (ra_Z_u x0 (by decide)) q5, fun t ht => ?_, fun post h => ?_, fun post h => ?_⟩
      · rw [q6 t ht]
        by_cases y : t = i
        · subst y
          rw [if_neg (by omega), if_pos (by omega), pk_us]
        · rw [pk_un y]
          by_cases y2 : i ≤ t
          · rw [if_pos (by omega), if_pos y2]
          · rw [if_neg (by omega), if_neg y2]
      · have w := q7 post h
        rw [wX_endProcess_51]
        simp (disch := omega) only [not_true, not_false_iff, true_implies, false_implies, implies_true, true_and, and_true, forall_eq, eq_self, ra_i, ra_c, ra_m3, ra_m4, ra_m16, ra_4m, ra_14m, ra_16m, nI_add, nI_1, lN_1, ra_p2, ra_2p, ra_n0, ra_p0, ra_q0, ra_q1, ra_q2, ra_q3, ra_n3, ra_n4, ra_n10, ra_n14, ra_n16, ra_n30, ra_n140, ra_y3, ra_y4, ra_y10, ra_y14, ra_y16, ra_y30, ra_y140]
        refine xl_isWaiting_t i10 hT x0 x1 ?_
        simp (disch := omega) only [xg, not_true, not_false_iff, true_implies, false_implies, implies_true, true_and, and_true, forall_eq, eq_self, ra_i, ra_c, ra_m3, ra_m4, ra_m16, ra_4m, ra_14m, ra_16m, nI_add, nI_1, lN_1, ra_p2, ra_2p, ra_n0, ra_p0, ra_q0, ra_q1, ra_q2, ra_q3, ra_n3, ra_n4, ra_n10, ra_n14, ra_n16, ra_n30, ra_n140, ra_y3, ra_y4, ra_y10, ra_y14, ra_y16, ra_y30, ra_y140]
        refine xl_makeReady i10 ?_
        simp (disch := omega) only [not_true, not_false_iff, true_implies, false_implies, implies_true, true_and, and_true, forall_eq, eq_self, ra_i, ra_c, ra_m3, ra_m4, ra_m16, ra_4m, ra_14m, ra_16m, nI_add, nI_1, lN_1, ra_p2, ra_2p, ra_n0, ra_p0, ra_q0, ra_q1, ra_q2, ra_q3, ra_n3, ra_n4, ra_n10, ra_n14, ra_n16, ra_n30, ra_n140, ra_y3, ra_y4, ra_y10, ra_y14, ra_y16, ra_y30, ra_y140]
        exact w
      · have w := q8 post h
        rw [wY_ends_141]
        simp (disch := omega) only [le1, yg, not_true, not_false_iff, true_implies, false_implies, implies_true, true_and, and_true, forall_eq, eq_self, ra_i, ra_c, ra_m3, ra_m4, ra_m16, ra_4m, ra_14m, ra_16m, nI_add, nI_1, lN_1, ra_p2, ra_2p, ra_n0, ra_p0, ra_q0, ra_q1, ra_q2, ra_q3, ra_n3, ra_n4, ra_n10, ra_n14, ra_n16, ra_n30, ra_n140, ra_y3, ra_y4, ra_y10, ra_y14, ra_y16, ra_y30, ra_y140]
        refine yl_ready i10 ?_
        simp (disch := omega) only [not_true, not_false_iff, true_implies, false_implies, implies_true, true_and, and_true, forall_eq, eq_self, ra_i, ra_c, ra_m3, ra_m4, ra_m16, ra_4m, ra_14m, ra_16m, nI_add, nI_1, lN_1, ra_p2, ra_2p, ra_n0, ra_p0, ra_q0, ra_q1, ra_q2, ra_q3, ra_n3, ra_n4, ra_n10, ra_n14, ra_n16, ra_n30, ra_n140, ra_y3, ra_y4, ra_y10, ra_y14, ra_y16, ra_y30, ra_y140]
        exact w
    · obtain ⟨c', m', st', pt', rs', nb', mo', sn', q1, q2, q3, q4, q5, q6, q7, q8⟩ := ih (i + 1) B c m st pt rs (upd nb i (nb i &&& (((1 : Int32) <<< (nI s &&& 31)) ^^^ (-1)))) mo sn (by omega) hO hT (fun t ht => by
        obtain ⟨a, b⟩ := hW t ht
        refine ⟨a, fun u v => ?_⟩
        obtain ⟨b1, b2, b3⟩ := b u v
        refine ⟨b1, b2, fun z => ?_⟩
        have b4 := b3 z
        by_cases y : t = i
        · subst y
          exact absurd ⟨u, v, z⟩ hit
        · omega)
      refine ⟨c', m', st', pt', rs', nb', mo', sn', q1, ra_O_mono (by omega) q2, q3, q4, q5, fun t ht => ?_, fun post h => ?_, fun post h => ?_⟩
      · rw [q6 t ht]
        by_cases y : t = i
        · subst y
          rw [if_neg (by omega), if_pos (by omega), pk_us]
        · rw [pk_un y]
          by_cases y2 : i ≤ t
          · rw [if_pos (by omega), if_pos y2]
          · rw [if_neg (by omega), if_neg y2]
      · have w := q7 post h
        rw [wX_endProcess_51]
        simp (disch := omega) only [not_true, not_false_iff, true_implies, false_implies, implies_true, true_and, and_true, forall_eq, eq_self, ra_i, ra_c, ra_m3, ra_m4, ra_m16, ra_4m, ra_14m, ra_16m, nI_add, nI_1, lN_1, ra_p2, ra_2p, ra_n0, ra_p0, ra_q0, ra_q1, ra_q2, ra_q3, ra_n3, ra_n4, ra_n10, ra_n14, ra_n16, ra_n30, ra_n140, ra_y3, ra_y4, ra_y10, ra_y14, ra_y16, ra_y30, ra_y140]
        by_cases x01 : st i = 0 ∨ st i = 1
        · refine xl_isWaiting_f i10 x01 ?_
          simp (disch := omega) only [not_true, not_false_iff, true_implies, false_implies, implies_true, true_and, and_true, forall_eq, eq_self, ra_i, ra_c, ra_m3, ra_m4, ra_m16, ra_4m, ra_14m, ra_16m, nI_add, nI_1, lN_1, ra_p2, ra_2p, ra_n0, ra_p0, ra_q0, ra_q1, ra_q2, ra_q3, ra_n3, ra_n4, ra_n10, ra_n14, ra_n16, ra_n30, ra_n140, ra_y3, ra_y4, ra_y10, ra_y14, ra_y16, ra_y30, ra_y140]
          exact w
        · have x0 : st i ≠ 0 := fun z => x01 (Or.inl z)
          have x1 : st i ≠ 1 := fun z => x01 (Or.inr z)
          have xg : ¬ pt i = gone := fun z => hit ⟨x0, x1, z⟩
          refine xl_isWaiting_t i10 hT x0 x1 ?_
          simp (disch := omega) only [xg, not_true, not_false_iff, true_implies, false_implies, implies_true, true_and, and_true, forall_eq, eq_self, ra_i, ra_c, ra_m3, ra_m4, ra_m16, ra_4m, ra_14m, ra_16m, nI_add, nI_1, lN_1, ra_p2, ra_2p, ra_n0, ra_p0, ra_q0, ra_q1, ra_q2, ra_q3, ra_n3, ra_n4, ra_n10, ra_n14, ra_n16, ra_n30, ra_n140, ra_y3, ra_y4, ra_y10, ra_y14, ra_y16, ra_y30, ra_y140]
          exact w
      · have w := q8 post h
        rw [wY_ends_141]
        by_cases x01 : st i = 0 ∨ st i = 1
        · have le1 : st i ≤ 1 := by rw [ra_le1 hT i10]; exact x01
          simp (disch := omega) only [le1, not_true, not_false_iff, true_implies, false_implies, implies_true, true_and, and_true, forall_eq, eq_self, ra_i, ra_c, ra_m3, ra_m4, ra_m16, ra_4m, ra_14m, ra_16m, nI_add, nI_1, lN_1, ra_p2, ra_2p, ra_n0, ra_p0, ra_q0, ra_q1, ra_q2, ra_q3, ra_n3, ra_n4, ra_n10, ra_n14, ra_n16, ra_n30, ra_n140, ra_y3, ra_y4, ra_y10, ra_y14, ra_y16, ra_y30, ra_y140]
          exact w
        · have x0 : st i ≠ 0 := fun z => x01 (Or.inl z)
          have x1 : st i ≠ 1 := fun z => x01 (Or.inr z)
          have le1 : ¬ st i ≤ 1 := by rw [ra_le1 hT i10]; exact x01
          have xg : ¬ ot i = gone := fun z => hit ⟨x0, x1, ((wb x0 x1).1).trans z⟩
          simp (disch := omega) only [le1, xg, not_true, not_false_iff, true_implies, false_implies, implies_true, true_and, and_true, forall_eq, eq_self, ra_i, ra_c, ra_m3, ra_m4, ra_m16, ra_4m, ra_14m, ra_16m, nI_add, nI_1, lN_1, ra_p2, ra_2p, ra_n0, ra_p0, ra_q0, ra_q1, ra_q2, ra_q3, ra_n3, ra_n4, ra_n10, ra_n14, ra_n16, ra_n30, ra_n140, ra_y3, ra_y4, ra_y10, ra_y14, ra_y16, ra_y30, ra_y140]
          exact w
end
end
section
/-! a process ends: its service is put down; all together -/
theorem ra_pz : ∀ p, p < 9 → 1 ≤ p → ((8 : Int32) ≤ nI p * 2 → nI (min (2 * p) 8) = 8) ∧ (¬ (8 : Int32) ≤ nI p * 2 → nI p * 2 = nI (min (2 * p) 8)) ∧ (nI p ≤ 4 → 2 * nI p = nI (min (2 * p) 8)) ∧ (¬ nI p ≤ 4 → nI (min (2 * p) 8) = 8) := by decide +kernel
section
variable {B c m n : Nat} {st pr bs tk mk vl cl rs al wt wd tt sb pa du oft bg av ep pt nb lg lt lv gk gt gf gl gs gn sl ss bo ot so sq go mo nt fr tw tx gr ge g1 g2 g3 sv lf se cp : Nat → Int32} {sn lo : Nat → Int64}
theorem xl_putDown27 {k p : Nat} {x : Int32} {post : SX → Prop} (hk : k < 3) (h1 : 1 ≤ p) (h8 : p ≤ 8) (hp : pa k = nI p) (h : post (lN c, ep, st, pt, bs, pr, tk, mk, rs, vl, cl, nb, al, wt, lg, wd, sn, lo, lt, lv, gk, gt, gf, gl, gs, gn, sl, upd ss k (-1), sb, upd pa k (nI (min (2 * p) 8)), upd du k (x + nI p), oft, bg, av, tt)) : wX_putDown_27 post (nI k) x (lN c) ep st pt bs pr tk mk rs vl cl nb al wt lg wd sn lo lt lv gk gt gf gl gs gn sl ss sb pa du oft bg av tt := by
  obtain ⟨z1, z2, -, -⟩ := ra_pz p (by omega) h1
  simp (disch := omega) only [wX_putDown_27, hp, not_true, not_false_iff, true_implies, false_implies, implies_true, true_and, and_true, forall_eq, eq_self, ra_i, ra_c, ra_m3, ra_m4, ra_m16, ra_4m, ra_14m, ra_16m, nI_add, nI_1, lN_1, ra_p2, ra_2p, ra_n0, ra_p0, ra_q0, ra_q1, ra_q2, ra_q3, ra_n3, ra_n4, ra_n10, ra_n14, ra_n16, ra_n30, ra_n140, ra_y3, ra_y4, ra_y10, ra_y14, ra_y16, ra_y30, ra_y140]
  refine br_c (fun y => ?_) (fun y => ?_)
  · rw [← z1 y]; exact h
  · rw [z2 y]; exact h
theorem xl_putDown {k p : Nat} {post : SX → Prop} (hk : k < 3) (h1 : 1 ≤ p) (h8 : p ≤ 8) (hp : pa k = nI p) (h : ∀ q : Nat, q = (if tt 0 - bg k < 16 then p else 1) → post (lN c, ep, st, pt, bs, pr, tk, mk, rs, vl, cl, nb, al, wt, lg, wd, sn, lo, lt, lv, gk, gt, gf, gl, gs, gn, sl, upd ss k (-1), sb, upd pa k (nI (min (2 * q) 8)), upd du k (tt 0 + nI q), oft, bg, av, tt)) : wpX_putDown post (lN c, ep, st, pt, bs, pr, tk, mk, rs, vl, cl, nb, al, wt, lg, wd, sn, lo, lt, lv, gk, gt, gf, gl, gs, gn, sl, ss, sb, pa, du, oft, bg, av, tt) (nI k) := by
  simp (disch := omega) only [wpX_putDown, not_true, not_false_iff, true_implies, false_implies, implies_true, true_and, and_true, forall_eq, eq_self, ra_i, ra_c, ra_m3, ra_m4, ra_m16, ra_4m, ra_14m, ra_16m, nI_add, nI_1, lN_1, ra_p2, ra_2p, ra_n0, ra_p0, ra_q0, ra_q1, ra_q2, ra_q3, ra_n3, ra_n4, ra_n10, ra_n14, ra_n16, ra_n30, ra_n140, ra_y3, ra_y4, ra_y10, ra_y14, ra_y16, ra_y30, ra_y140]
  refine br_c (fun y => ?_) (fun y => ?_)
  · exact xl_putDown27 hk h1 h8 hp (h p (by rw [if_pos y]))
  · refine xl_putDown27 (p := 1) hk (by omega) (by omega) pk_us ?_
    rw [ra_uu]
    exact h 1 (by rw [if_neg y])
theorem yl_down25 {k p : Nat} {post : SY → Prop} (hk : k < 3) (h1 : 1 ≤ p) (h8 : p ≤ 8) (hp : pa k = nI p) (h : post (nI n, nI m, st, bo, bs, pr, tk, mk, ot, vl, rs, al, wt, so, sq, go, mo, cl, wd, nt, fr, tw, tx, gr, ge, g1, g2, g3, upd sv k 2, sb, lf, upd pa k (nI (min (2 * p) 8)), upd du k (tt 0 + nI p), av, bg, oft, upd se k (-1), tt, cp)) : wY_down_25 post (nI k) (nI n) (nI m) st bo bs pr tk mk ot vl rs al wt so sq go mo cl wd nt fr tw tx gr ge g1 g2 g3 sv sb lf pa du av bg oft se tt cp := by
  obtain ⟨-, -, z1, z2⟩ := ra_pz p (by omega) h1
  simp (disch := omega) only [wY_down_25, hp, not_true, not_false_iff, true_implies, false_implies, implies_true, true_and, and_true, forall_eq, eq_self, ra_i, ra_c, ra_m3, ra_m4, ra_m16, ra_4m, ra_14m, ra_16m, nI_add, nI_1, lN_1, ra_p2, ra_2p, ra_n0, ra_p0, ra_q0, ra_q1, ra_q2, ra_q3, ra_n3, ra_n4, ra_n10, ra_n14, ra_n16, ra_n30, ra_n140, ra_y3, ra_y4, ra_y10, ra_y14, ra_y16, ra_y30, ra_y140]
  refine br_c (fun y => ?_) (fun y => ?_)
  · rw [z1 y]; exact h
  · rw [← z2 y]; exact h
theorem yl_down {k p : Nat} {post : SY → Prop} (hk : k < 3) (h1 : 1 ≤ p) (h8 : p ≤ 8) (hp : pa k = nI p) (h : ∀ q : Nat, q = (if tt 0 - bg k < 16 then p else 1) → post (nI n, nI m, st, bo, bs, pr, tk, mk, ot, vl, rs, al, wt, so, sq, go, mo, cl, wd, nt, fr, tw, tx, gr, ge, g1, g2, g3, upd sv k 2, sb, lf, upd pa k (nI (min (2 * q) 8)), upd du k (tt 0 + nI q), av, bg, oft, upd se k (-1), tt, cp)) : wpY_down post (nI n, nI m, st, bo, bs, pr, tk, mk, ot, vl, rs, al, wt, so, sq, go, mo, cl, wd, nt, fr, tw, tx, gr, ge, g1, g2, g3, sv, sb, lf, pa, du, av, bg, oft, se, tt, cp) (nI k) := by
  simp (disch := omega) only [wpY_down, not_true, not_false_iff, true_implies, false_implies, implies_true, true_and, and_true, forall_eq, eq_self, ra_i, ra_c, ra_m3, ra_m4, ra_m16, ra_4m, ra_14m, ra_16m, nI_add, nI_1, lN_1, ra_p2, ra_2p, ra_n0, ra_p0, ra_q0, ra_q1, ra_q2, ra_q3, ra_n3, ra_n4, ra_n10, ra_n14, ra_n16, ra_n30, ra_n140, ra_y3, ra_y4, ra_y10, ra_y14, ra_y16, ra_y30, ra_y140]
  refine br_c (fun y => ?_) (fun y => ?_)
  · exact yl_down25 hk h1 h8 hp (h p (by rw [if_pos y]))
  · refine yl_down25 (p := 1) hk (by omega) (by omega) pk_us ?_
    rw [ra_uu]
    exact h 1 (by rw [if_neg y])
theorem xl_serviceOf_n {s : Nat} {post : Int32 → Prop} (hn : ∀ k, k < 3 → ¬ (sl k ≠ 0 ∧ ss k = nI s)) (h : post (-1)) : wpX_serviceOf post (lN c, ep, st, pt, bs, pr, tk, mk, rs, vl, cl, nb, al, wt, lg, wd, sn, lo, lt, lv, gk, gt, gf, gl, gs, gn, sl, ss, sb, pa, du, oft, bg, av, tt) (nI s) := by
  refine ra_run (fun n i => wX_serviceOf_2 post (nI s) (lN c) ep st pt bs pr tk mk rs vl cl nb al wt lg wd sn lo lt lv gk gt gf gl gs gn sl ss sb pa du oft bg av tt n (nI i)) 3 (fun n => ?_) (fun n i hi ih => ?_)
  · simp (disch := omega) only [wX_serviceOf_2, not_true, not_false_iff, true_implies, false_implies, implies_true, true_and, and_true, forall_eq, eq_self, ra_i, ra_c, ra_m3, ra_m4, ra_m16, ra_4m, ra_14m, ra_16m, nI_add, nI_1, lN_1, ra_p2, ra_2p, ra_n0, ra_p0, ra_q0, ra_q1, ra_q2, ra_q3, ra_n3, ra_n4, ra_n10, ra_n14, ra_n16, ra_n30, ra_n140, ra_y3, ra_y4, ra_y10, ra_y14, ra_y16, ra_y30, ra_y140]
    exact h
  · by_cases a : sl i = 0
    · simp (disch := omega) only [wX_serviceOf_2, a, not_true, not_false_iff, true_implies, false_implies, implies_true, true_and, and_true, forall_eq, eq_self, ra_i, ra_c, ra_m3, ra_m4, ra_m16, ra_4m, ra_14m, ra_16m, nI_add, nI_1, lN_1, ra_p2, ra_2p, ra_n0, ra_p0, ra_q0, ra_q1, ra_q2, ra_q3, ra_n3, ra_n4, ra_n10, ra_n14, ra_n16, ra_n30, ra_n140, ra_y3, ra_y4, ra_y10, ra_y14, ra_y16, ra_y30, ra_y140]
      exact ih
    · have b : ¬ ss i = nI s := fun z => hn i hi ⟨a, z⟩
      simp (disch := omega) only [wX_serviceOf_2, a, b, not_true, not_false_iff, true_implies, false_implies, implies_true, true_and, and_true, forall_eq, eq_self, ra_i, ra_c, ra_m3, ra_m4, ra_m16, ra_4m, ra_14m, ra_16m, nI_add, nI_1, lN_1, ra_p2, ra_2p, ra_n0, ra_p0, ra_q0, ra_q1, ra_q2, ra_q3, ra_n3, ra_n4, ra_n10, ra_n14, ra_n16, ra_n30, ra_n140, ra_y3, ra_y4, ra_y10, ra_y14, ra_y16, ra_y30, ra_y140]
      exact ih
theorem xl_serviceOf_s {s k : Nat} {post : Int32 → Prop} (hk : k < 3) (h1 : sl k ≠ 0) (h2 : ss k = nI s) (hn : ∀ j, j < k → ¬ (sl j ≠ 0 ∧ ss j = nI s)) (h : post (nI k)) : wpX_serviceOf post (lN c, ep, st, pt, bs, pr, tk, mk, rs, vl, cl, nb, al, wt, lg, wd, sn, lo, lt, lv, gk, gt, gf, gl, gs, gn, sl, ss, sb, pa, du, oft, bg, av, tt) (nI s) := by
  refine ra_run (fun n i => wX_serviceOf_2 post (nI s) (lN c) ep st pt bs pr tk mk rs vl cl nb al wt lg wd sn lo lt lv gk gt gf gl gs gn sl ss sb pa du oft bg av tt n (nI i)) k (fun n => ?_) (fun n i hi ih => ?_)
  · simp (disch := omega) only [wX_serviceOf_2, h1, h2, not_true, not_false_iff, true_implies, false_implies, implies_true, true_and, and_true, forall_eq, eq_self, ra_i, ra_c, ra_m3, ra_m4, ra_m16, ra_4m, ra_14m, ra_16m, nI_add, nI_1, lN_1, ra_p2, ra_2p, ra_n0, ra_p0, ra_q0, ra_q1, ra_q2, ra_q3, ra_n3, ra_n4, ra_n10, ra_n14, ra_n16, ra_n30, ra_n140, ra_y3, ra_y4, ra_y10, ra_y14, ra_y16, ra_y30, ra_y140]
    exact h
  · by_cases a : sl i = 0
    · simp (disch := omega) only [wX_serviceOf_2, a, not_true, not_false_iff, true_implies, false_implies, implies_true, true_and, and_true, forall_eq, eq_self, ra_i, ra_c, ra_m3, ra_m4, ra_m16, ra_4m, ra_14m, ra_16m, nI_add, nI_1, lN_1, ra_p2, ra_2p, ra_n0, ra_p0, ra_q0, ra_q1, ra_q2, ra_q3, ra_n3, ra_n4, ra_n10, ra_n14, ra_n16, ra_n30, ra_n140, ra_y3, ra_y4, ra_y10, ra_y14, ra_y16, ra_y30, ra_y140]
      exact ih
    · have b : ¬ ss i = nI s := fun z => hn i hi ⟨a, z⟩
      simp (disch := omega) only [wX_serviceOf_2, a, b, not_true, not_false_iff, true_implies, false_implies, implies_true, true_and, and_true, forall_eq, eq_self, ra_i, ra_c, ra_m3, ra_m4, ra_m16, ra_4m, ra_14m, ra_16m, nI_add, nI_1, lN_1, ra_p2, ra_2p, ra_n0, ra_p0, ra_q0, ra_q1, ra_q2, ra_q3, ra_n3, ra_n4, ra_n10, ra_n14, ra_n16, ra_n30, ra_n140, ra_y3, ra_y4, ra_y10, ra_y14, ra_y16, ra_y30, ra_y140]
      exact ih
/-- Y's services from i on: none is the one's -/
theorem yl_ends182_n {gone : Int32} {post : SY → Prop} : ∀ (d i : Nat), i + d = 3 → (∀ k, i ≤ k → k < 3 → ¬ (sv k = 1 ∧ se k = gone)) → post (nI n, nI m, st, bo, bs, pr, tk, mk, ot, vl, rs, al, wt, so, sq, go, mo, cl, wd, nt, fr, tw, tx, gr, ge, g1, g2, g3, sv, sb, lf, pa, du, av, bg, oft, se, tt, cp) → wY_ends_182 post gone (d + 1) (nI i) (nI n) (nI m) st bo bs pr tk mk ot vl rs al wt so sq go mo cl wd nt fr tw tx gr ge g1 g2 g3 sv sb lf pa du av bg oft se tt cp := by
  intro d
  induction d with
  | zero =>
    intro i hi hn h
    have : i = 3 := by omega
    subst this
    simp (disch := omega) only [wY_ends_182, not_true, not_false_iff, true_implies, false_implies, implies_true, true_and, and_true, forall_eq, eq_self, ra_i, ra_c, ra_m3, ra_m4, ra_m16, ra_4m, ra_14m, ra_16m, nI_add, nI_1, lN_1, ra_p2, ra_2p, ra_n0, ra_p0, ra_q0, ra_q1, ra_q2, ra_q3, ra_n3, ra_n4, ra_n10, ra_n14, ra_n16, ra_n30, ra_n140, ra_y3, ra_y4, ra_y10, ra_y14, ra_y16, ra_y30, ra_y140]
    exact h
  | succ d ih =>
    intro i hi hn h
    have w := ih (i + 1) (by omega) (fun k hk => hn k (by omega)) h
    by_cases a : sv i = 1
    · have b : ¬ se i = gone := fun z => hn i (by omega) (by omega) ⟨a, z⟩
      rw [wY_ends_182]
      simp (disch := omega) only [a, b, not_true, not_false_iff, true_implies, false_implies, implies_true, true_and, and_true, forall_eq, eq_self, ra_i, ra_c, ra_m3, ra_m4, ra_m16, ra_4m, ra_14m, ra_16m, nI_add, nI_1, lN_1, ra_p2, ra_2p, ra_n0, ra_p0, ra_q0, ra_q1, ra_q2, ra_q3, ra_n3, ra_n4, ra_n10, ra_n14, ra_n16, ra_n30, ra_n140, ra_y3, ra_y4, ra_y10, ra_y14, ra_y16, ra_y30, ra_y140]
      exact w
    · rw [wY_ends_182]
      simp (disch := omega) only [a, not_true, not_false_iff, true_implies, false_implies, implies_true, true_and, and_true, forall_eq, eq_self, ra_i, ra_c, ra_m3, ra_m4, ra_m16, ra_4m, ra_14m, ra_16m, nI_add, nI_1, lN_1, ra_p2, ra_2p, ra_n0, ra_p0, ra_q0, ra_q1, ra_q2, ra_q3, ra_n3, ra_n4, ra_n10, ra_n14, ra_n16, ra_n30, ra_n140, ra_y3, ra_y4, ra_y10, ra_y14, ra_y16, ra_y30, ra_y140]
      exact w
theorem yl_ends182_s {gone : Int32} {k p : Nat} {post : SY → Prop} (hk : k < 3) (hv : sv k = 1) (he : se k = gone) (hn : ∀ j, j < 3 → j ≠ k → ¬ (sv j = 1 ∧ se j = gone)) (h1 : 1 ≤ p) (h8 : p ≤ 8) (hp : pa k = nI p)
    (h : ∀ q : Nat, q = (if tt 0 - bg k < 16 then p else 1) → post (nI n, nI m, st, bo, bs, pr, tk, mk, ot, vl, rs, al, wt, so, sq, go, mo, cl, wd, nt, fr, tw, tx, gr, ge, g1, g2, g3, upd sv k 2, sb, lf, upd pa k (nI (min (2 * q) 8)), upd du k (tt 0 + nI q), av, bg, oft, upd se k (-1), tt, cp)) : ∀ (d i : Nat), i + d = 3 → i ≤ k → wY_ends_182 post gone (d + 1) (nI i) (nI n) (nI m) st bo bs pr tk mk ot vl rs al wt so sq go mo cl wd nt fr tw tx gr ge g1 g2 g3 sv sb lf pa du av bg oft se tt cp := by
  intro d
  induction d with
  | zero => intro i hi hik; omega
  | succ d ih =>
    intro i hi hik
    by_cases e : i = k
    · subst e
      rw [wY_ends_182]
      simp (disch := omega) only [hv, he, not_true, not_false_iff, true_implies, false_implies, implies_true, true_and, and_true, forall_eq, eq_self, ra_i, ra_c, ra_m3, ra_m4, ra_m16, ra_4m, ra_14m, ra_16m, nI_add, nI_1, lN_1, ra_p2, ra_2p, ra_n0, ra_p0, ra_q0, ra_q1, ra_q2, ra_q3, ra_n3, ra_n4, ra_n10, ra_n14, ra_n16, ra_n30, ra_n140, ra_y3, ra_y4, ra_y10, ra_y14, ra_y16, ra_y30, ra_y140]
      refine yl_down hk h1 h8 hp (fun q hq => ?_)
      simp (disch := omega) only [not_true, not_false_iff, true_implies, false_implies, implies_true, true_and, and_true, forall_eq, eq_self, ra_i, ra_c, ra_m3, ra_m4, ra_m16, ra_4m, ra_14m, ra_16m, nI_add, nI_1, lN_1, ra_p2, ra_2p, ra_n0, ra_p0, ra_q0, ra_q1, ra_q2, ra_q3, ra_n3, ra_n4, ra_n10, ra_n14, ra_n16, ra_n30, ra_n140, ra_y3, ra_y4, ra_y10, ra_y14, ra_y16, ra_y30, ra_y140]
      refine yl_ends182_n d (i + 1) (by omega) (fun j hj hj3 => ?_) (h q hq)
      rw [pk_un (by omega), pk_un (by omega)]
      exact hn j hj3 (by omega)
    · have w := ih (i + 1) (by omega) (by omega)
      have nn := hn i (by omega) e
      by_cases a : sv i = 1
      · have b : ¬ se i = gone := fun z => nn ⟨a, z⟩
        rw [wY_ends_182]
        simp (disch := omega) only [a, b, not_true, not_false_iff, true_implies, false_implies, implies_true, true_and, and_true, forall_eq, eq_self, ra_i, ra_c, ra_m3, ra_m4, ra_m16, ra_4m, ra_14m, ra_16m, nI_add, nI_1, lN_1, ra_p2, ra_2p, ra_n0, ra_p0, ra_q0, ra_q1, ra_q2, ra_q3, ra_n3, ra_n4, ra_n10, ra_n14, ra_n16, ra_n30, ra_n140, ra_y3, ra_y4, ra_y10, ra_y14, ra_y16, ra_y30, ra_y140]
        exact w
      · rw [wY_ends_182]
        simp (disch := omega) only [a, not_true, not_false_iff, true_implies, false_implies, implies_true, true_and, and_true, forall_eq, eq_self, ra_i, ra_c, ra_m3, ra_m4, ra_m16, ra_4m, ra_14m, ra_16m, nI_add, nI_1, lN_1, ra_p2, ra_2p, ra_n0, ra_p0, ra_q0, ra_q1, ra_q2, ra_q3, ra_n3, ra_n4, ra_n10, ra_n14, ra_n16, ra_n30, ra_n140, ra_y3, ra_y4, ra_y10, ra_y14, ra_y16, ra_y30, ra_y140]
        exact w
theorem ra_ends {s : Nat} (hB : B + 20 ≤ 2 ^ 26) (h : ra_R B c m n st pr tk rs al tt pa bs sb ep pt nb lg sn lo lt lv gk gt gf gl gs gn sl ss bo ot so sq go mo nt fr tw tx gr ge g1 g2 g3 sv lf se) (hs : s < 10) (hl : st s ≠ 0) : ∃ (c' m' n' : Nat) (st' pt' rs' nb' mo' nt' fr' tw' tx' gr' pa' ss' sv' se' du' tt' : Nat → Int32) (sn' lo' : Nat → Int64),
    ra_R (B + 11) c' m' n' st' pr tk rs' al tt' pa' bs sb (upd ep s (ep s + 16)) pt' nb' lg sn' lo' lt lv gk gt gf gl gs gn sl ss' bo ot so sq go mo' nt' fr' tw' tx' gr' ge g1 g2 g3 sv' lf se' ∧
    (∀ k, k < 3 → sv k = 1 → se k = ep s → tt' 0 < du' k) ∧
    (∀ post : SX → Prop, post (lN (c'), upd ep s (ep s + 16), st', pt', bs, pr, tk, mk, rs', vl, cl, nb', al, wt, lg, wd, sn', lo', lt, lv, gk, gt, gf, gl, gs, gn, sl, ss', sb, pa', du', oft, bg, av, tt') → wpX_endProcess post (lN c, ep, st, pt, bs, pr, tk, mk, rs, vl, cl, nb, al, wt, lg, wd, sn, lo, lt, lv, gk, gt, gf, gl, gs, gn, sl, ss, sb, pa, du, oft, bg, av, tt) (nI s)) ∧
    (∀ post : SY → Prop, post (nI (n'), nI (m'), st', bo, bs, pr, tk, mk, ot, vl, rs', al, wt, so, sq, go, mo', cl, wd, nt', fr', tw', tx', gr', ge, g1, g2, g3, sv', sb, lf, pa', du', av, bg, oft, se', tt', cp) → wpY_ends post (nI n, nI m, st, bo, bs, pr, tk, mk, ot, vl, rs, al, wt, so, sq, go, mo, cl, wd, nt, fr, tw, tx, gr, ge, g1, g2, g3, sv, sb, lf, pa, du, av, bg, oft, se, tt, cp) (nI s)) := by
  have hR := h
  obtain ⟨hE, hO, hW, hD, hN, hL, hG, hS, hT, hI, hP⟩ := h
  have hcB : c ≤ B := hO.1
  have n30 := (ra_L_n (show c ≤ 2 ^ 27 by omega) hL).1
  have yl : 16 * (bo s - 1) + nI s = ep s := ra_E_y hE hs hl
  -- letters
  obtain ⟨n', lo1, fr', tw', tx', L1, L2, L3, L4⟩ := ra_endL (s := s) (gone := ep s) (st := upd st s 0) (m := m) (bo := bo) (bs := bs) (pr := pr) (tk := tk) (mk := mk) (ot := ot) (vl := vl) (rs := rs) (al := al) (wt := wt) (so := so) (sq := sq) (go := go) (mo := mo) (cl := cl) (wd := wd) (nt := ra_zB nt (fun j => decide (j / 14 = s ∨ j % 14 = s)) 140) (gr := gr) (ge := ge) (g1 := g1) (g2 := g2) (g3 := g3) (sv := sv) (sb := sb) (lf := lf) (pa := pa) (du := du) (av := av) (bg := bg) (oft := oft) (se := se) (tt := upd (upd tt 1 (tt 1 - 1)) 5 (upd tt 1 (tt 1 - 1) 5 + 1)) (cp := cp) hs (show c ≤ 2 ^ 27 by omega) n n lo fr tw tx (Nat.le_refl _) hL (fun j h1 h2 => by omega)
  have hL' : ra_L c n' (upd st s 0) (ra_zL lo (fun p => decide (p / 3 = s ∨ lt p = nI s)) 30) lt lv fr' tw' tx' := ra_L_drop (n := n) (by omega) hs L1 L2 L3 (fun p hp => by
    unfold ra_zL
    by_cases y : p / 3 = s ∨ lt p = nI s
    · rw [if_pos ⟨hp, decide_eq_true y⟩, if_pos y]
    · rw [if_neg (fun z => y (of_decide_eq_true z.2)), if_neg y])
  -- those that waited
  have hWg : ∀ t, t < 10 → (upd st s 0 t = 1 → pt t = upd ep s (ep s + 16) t) ∧ (upd st s 0 t ≠ 0 → upd st s 0 t ≠ 1 → pt t = ot t ∧ ((pt t ≠ ep s → rs t = 0 ∧ (pt t = -1 ∨ ∃ w, w < 10 ∧ upd st s 0 w ≠ 0 ∧ pt t = upd ep s (ep s + 16) w)) ∧ (pt t = ep s → 0 ≤ t))) := by
    intro t ht
    by_cases y : t = s
    · subst y
      refine ⟨fun z => ?_, fun z => absurd pk_us z⟩
      rw [pk_us] at z; exact absurd z (by decide)
    · rw [pk_un y, pk_un y]
      obtain ⟨a, b⟩ := hW t ht
      refine ⟨a, fun u v => ?_⟩
      obtain ⟨b1, b2, b3⟩ := b u v
      refine ⟨b1, fun z => ⟨b2, b3.imp id ?_⟩, fun _ => Nat.zero_le _⟩
      rintro ⟨w, hw, hlw, e⟩
      have ws : w ≠ s := fun q => z (by rw [e, q])
      exact ⟨w, hw, by rw [pk_un ws]; exact hlw, by rw [pk_un ws]; exact e⟩
  obtain ⟨c', m', st', pt', rs', nb', mo', sn', q1, q2, q3, q4, q5, q6, q7, q8⟩ := ra_endl (s := s) (gone := ep s) (ep := upd ep s (ep s + 16)) (bs := bs) (pr := pr) (tk := tk) (mk := mk) (vl := vl) (cl := cl) (al := al) (wt := wt) (lg := lg) (wd := wd) (lo := ra_zL lo (fun p => decide (p / 3 = s ∨ lt p = nI s)) 30) (lt := lt) (lv := lv) (gk := gk) (gt := gt) (gf := gf) (gl := gl) (gs := gs) (gn := gn) (sl := sl) (ss := ss) (sb := sb) (pa := pa) (du := du) (oft := oft) (bg := bg) (av := av) (tt := upd (upd tt 1 (tt 1 - 1)) 5 (upd tt 1 (tt 1 - 1) 5 + 1)) (n := n') (bo := bo) (ot := ot) (so := so) (sq := sq) (go := go) (nt := ra_zB nt (fun j => decide (j / 14 = s ∨ j % 14 = s)) 140) (fr := fr') (tw := tw') (tx := tx') (gr := ra_z gr (4 * s) 4) (ge := ge) (g1 := g1) (g2 := g2) (g3 := g3) (sv := sv) (lf := lf) (se := se) (cp := cp) hs 10 0 B c m (upd st s 0) pt rs nb mo sn rfl hO (ra_T_u hT (Or.inl rfl)) hWg
  have hnb : ∀ t, t < 10 → ∀ i, i < 14 → bt (nb' t) i = (bt (nb t) i && decide (i ≠ s)) := by
    intro t ht i hi
    rw [q6 t ht, if_pos (Nat.zero_le _)]
    exact ra_cl (nb t) (by omega) (by omega)
  have hnt : ∀ j, j < 140 → ra_zB nt (fun j => decide (j / 14 = s ∨ j % 14 = s)) 140 j = if j / 14 = s ∨ j % 14 = s then 0 else nt j := by
    intro j hj
    unfold ra_zB
    by_cases y : j / 14 = s ∨ j % 14 = s
    · rw [if_pos ⟨hj, decide_eq_true y⟩, if_pos y]
    · rw [if_neg (fun z => y (of_decide_eq_true z.2)), if_neg y]
  have hgr : ∀ g, g < 40 → ra_z gr (4 * s) 4 g = if 4 * s ≤ g ∧ g < 4 * s + 4 then 0 else gr g := fun g _ => rfl
  -- which service
  have key : ∀ k, k < 3 → ((sv k = 1 ∧ se k = ep s) ↔ (sv k = 1 ∧ ss k = nI s)) ∧ ((sl k ≠ 0 ∧ ss k = nI s) ↔ (sv k = 1 ∧ ss k = nI s)) := by
    intro k hk
    rcases hS.1 k hk with ⟨a, b⟩ | ⟨a, -, -, ⟨b, t, ht, e1, -, e2⟩ | ⟨b, e1, -⟩⟩
    · rw [a, b]
      exact ⟨⟨fun z => absurd z.1 (by decide), fun z => absurd z.1 (by decide)⟩, ⟨fun z => absurd rfl z.1, fun z => absurd z.1 (by decide)⟩⟩
    · refine ⟨⟨fun z => ⟨b, ?_⟩, fun z => ⟨b, ?_⟩⟩, ⟨fun z => ⟨b, z.2⟩, fun z => ⟨a, z.2⟩⟩⟩
      · have := ra_E_inj (by omega) hE ht hs (e2.symm.trans z.2)
        rw [e1, this]
      · have z2 := z.2
        rw [e1, nI_eq (by omega) (by omega)] at z2
        rw [e2, z2]
    · have ne : ¬ ss k = nI s := by
        rw [e1]
        intro z
        have : ¬ nI s < 0 := nI_pos (by omega)
        rw [← z] at this
        exact this (by decide)
      exact ⟨⟨fun z => by rw [b] at z; exact absurd z.1 (by decide), fun z => absurd z.2 ne⟩, ⟨fun z => absurd z.2 ne, fun z => absurd z.2 ne⟩⟩
  obtain ⟨T, hTB, hT0⟩ := hI
  have tt0 : upd (upd tt 1 (tt 1 - 1)) 5 (upd tt 1 (tt 1 - 1) 5 + 1) 0 = tt 0 := rfl
  rcases ra_first (fun k => sv k = 1 ∧ ss k = nI s) 3 with none | ⟨k, hk, hit, -⟩
  · refine ⟨c', m', n', st', pt', rs', nb', mo', _, fr', tw', tx', _, pa, ss, sv, se, du, _, sn', _, ra_R_end (v := tt 1 - 1) (w := upd tt 1 (tt 1 - 1) 5 + 1) hR hs hl q1 q2 q4 q5 q3 hnb hnt hL' hgr (fun k hk => Or.inr ⟨none k hk, rfl, rfl, rfl, rfl⟩), fun k hk a b => absurd ((key k hk).1.mp ⟨a, b⟩) (none k hk), fun post hp => ?_, fun post hp => ?_⟩
    · simp (disch := omega) only [wpX_endProcess, not_true, not_false_iff, true_implies, false_implies, implies_true, true_and, and_true, forall_eq, eq_self, ra_i, ra_c, ra_m3, ra_m4, ra_m16, ra_4m, ra_14m, ra_16m, nI_add, nI_1, lN_1, ra_p2, ra_2p, ra_n0, ra_p0, ra_q0, ra_q1, ra_q2, ra_q3, ra_n3, ra_n4, ra_n10, ra_n14, ra_n16, ra_n30, ra_n140, ra_y3, ra_y4, ra_y10, ra_y14, ra_y16, ra_y30, ra_y140]
      refine xl_dropLetters hs ⟨11, q7 post ?_⟩
      rw [wX_endProcess_51]
      simp (disch := omega) only [not_true, not_false_iff, true_implies, false_implies, implies_true, true_and, and_true, forall_eq, eq_self, ra_i, ra_c, ra_m3, ra_m4, ra_m16, ra_4m, ra_14m, ra_16m, nI_add, nI_1, lN_1, ra_p2, ra_2p, ra_n0, ra_p0, ra_q0, ra_q1, ra_q2, ra_q3, ra_n3, ra_n4, ra_n10, ra_n14, ra_n16, ra_n30, ra_n140, ra_y3, ra_y4, ra_y10, ra_y14, ra_y16, ra_y30, ra_y140]
      refine xl_serviceOf_n (fun k hk z => none k hk ((key k hk).2.mp z)) ?_
      exact br_t (by decide) hp
    · simp (disch := omega) only [wpY_ends, wpY_endpoint, yl, not_true, not_false_iff, true_implies, false_implies, implies_true, true_and, and_true, forall_eq, eq_self, ra_i, ra_c, ra_m3, ra_m4, ra_m16, ra_4m, ra_14m, ra_16m, nI_add, nI_1, lN_1, ra_p2, ra_2p, ra_n0, ra_p0, ra_q0, ra_q1, ra_q2, ra_q3, ra_n3, ra_n4, ra_n10, ra_n14, ra_n16, ra_n30, ra_n140, ra_y3, ra_y4, ra_y10, ra_y14, ra_y16, ra_y30, ra_y140]
      refine yl_ends35 hs ⟨n + 1, L4 post ?_⟩
      rw [wY_ends_78]
      refine br_t (by decide) (nm_e (yl_ends117 hs ⟨11, q8 post ?_⟩))
      rw [wY_ends_141]
      simp (disch := omega) only [not_true, not_false_iff, true_implies, false_implies, implies_true, true_and, and_true, forall_eq, eq_self, ra_i, ra_c, ra_m3, ra_m4, ra_m16, ra_4m, ra_14m, ra_16m, nI_add, nI_1, lN_1, ra_p2, ra_2p, ra_n0, ra_p0, ra_q0, ra_q1, ra_q2, ra_q3, ra_n3, ra_n4, ra_n10, ra_n14, ra_n16, ra_n30, ra_n140, ra_y3, ra_y4, ra_y10, ra_y14, ra_y16, ra_y30, ra_y140]
      exact ⟨4, yl_ends182_n 3 0 rfl (fun k _ hk z => none k hk ((key k hk).1.mp z)) hp⟩
  · obtain ⟨hv, hss⟩ := hit
    obtain ⟨p, hp1, hp8, hpa⟩ : ∃ p : Nat, 1 ≤ p ∧ p ≤ 8 ∧ pa k = nI p := by
      rcases hS.1 k hk with ⟨a, -⟩ | ⟨-, -, a, -⟩
      · rw [hv] at a; exact absurd a (by decide)
      · exact a
    have uniq : ∀ j, j < 3 → j ≠ k → ¬ (sv j = 1 ∧ ss j = nI s) := fun j hj ne z => ne (hS.2 j k hj hk z.1 hv (z.2.trans hss.symm))
    have slk : sl k ≠ 0 := ((key k hk).2.mpr ⟨hv, hss⟩).1
    have sek : se k = ep s := ((key k hk).1.mpr ⟨hv, hss⟩).2
    obtain ⟨q, hq, hq1, hq8⟩ : ∃ q : Nat, q = (if tt 0 - bg k < 16 then p else 1) ∧ 1 ≤ q ∧ q ≤ 8 := by
      refine ⟨_, rfl, ?_, ?_⟩ <;> split <;> omega
    refine ⟨c', m', n', st', pt', rs', nb', mo', _, fr', tw', tx', _, upd pa k (nI (min (2 * q) 8)), upd ss k (-1), upd sv k 2, upd se k (-1), upd du k (tt 0 + nI q), _, sn', _, ra_R_end (v := tt 1 - 1) (w := upd tt 1 (tt 1 - 1) 5 + 1) hR hs hl q1 q2 q4 q5 q3 hnb hnt hL' hgr (fun j hj => ?_), fun j hj a b => ?_, fun post hp => ?_, fun post hp => ?_⟩
    · by_cases y : j = k
      · subst y
        refine Or.inl ⟨hv, hss, pk_us, pk_us, pk_us, min (2 * q) 8, by omega, by omega, pk_us⟩
      · refine Or.inr ⟨uniq j hj y, pk_un y, pk_un y, pk_un y, pk_un y⟩
    · by_cases y : j = k
      · subst y
        rw [pk_us, tt0, hT0, nI_add, nI_ltI (by omega) (by omega)]
        omega
      · exact absurd ((key j hj).1.mp ⟨a, b⟩) (uniq j hj y)
    · simp (disch := omega) only [wpX_endProcess, not_true, not_false_iff, true_implies, false_implies, implies_true, true_and, and_true, forall_eq, eq_self, ra_i, ra_c, ra_m3, ra_m4, ra_m16, ra_4m, ra_14m, ra_16m, nI_add, nI_1, lN_1, ra_p2, ra_2p, ra_n0, ra_p0, ra_q0, ra_q1, ra_q2, ra_q3, ra_n3, ra_n4, ra_n10, ra_n14, ra_n16, ra_n30, ra_n140, ra_y3, ra_y4, ra_y10, ra_y14, ra_y16, ra_y30, ra_y140]
      refine xl_dropLetters hs ⟨11, q7 post ?_⟩
      rw [wX_endProcess_51]
      simp (disch := omega) only [not_true, not_false_iff, true_implies, false_implies, implies_true, true_and, and_true, forall_eq, eq_self, ra_i, ra_c, ra_m3, ra_m4, ra_m16, ra_4m, ra_14m, ra_16m, nI_add, nI_1, lN_1, ra_p2, ra_2p, ra_n0, ra_p0, ra_q0, ra_q1, ra_q2, ra_q3, ra_n3, ra_n4, ra_n10, ra_n14, ra_n16, ra_n30, ra_n140, ra_y3, ra_y4, ra_y10, ra_y14, ra_y16, ra_y30, ra_y140]
      refine xl_serviceOf_s hk slk hss (fun j hj z => uniq j (by omega) (by omega) ((key j (by omega)).2.mp z)) ?_
      refine br_f (nI_pos (by omega)) ?_
      refine xl_putDown hk hp1 hp8 hpa (fun q' hq' => ?_)
      have : q' = q := hq'.trans hq.symm
      subst this
      exact hp
    · simp (disch := omega) only [wpY_ends, wpY_endpoint, yl, not_true, not_false_iff, true_implies, false_implies, implies_true, true_and, and_true, forall_eq, eq_self, ra_i, ra_c, ra_m3, ra_m4, ra_m16, ra_4m, ra_14m, ra_16m, nI_add, nI_1, lN_1, ra_p2, ra_2p, ra_n0, ra_p0, ra_q0, ra_q1, ra_q2, ra_q3, ra_n3, ra_n4, ra_n10, ra_n14, ra_n16, ra_n30, ra_n140, ra_y3, ra_y4, ra_y10, ra_y14, ra_y16, ra_y30, ra_y140]
      refine yl_ends35 hs ⟨n + 1, L4 post ?_⟩
      rw [wY_ends_78]
      refine br_t (by decide) (nm_e (yl_ends117 hs ⟨11, q8 post ?_⟩))
      rw [wY_ends_141]
      simp (disch := omega) only [not_true, not_false_iff, true_implies, false_implies, implies_true, true_and, and_true, forall_eq, eq_self, ra_i, ra_c, ra_m3, ra_m4, ra_m16, ra_4m, ra_14m, ra_16m, nI_add, nI_1, lN_1, ra_p2, ra_2p, ra_n0, ra_p0, ra_q0, ra_q1, ra_q2, ra_q3, ra_n3, ra_n4, ra_n10, ra_n14, ra_n16, ra_n30, ra_n140, ra_y3, ra_y4, ra_y10, ra_y14, ra_y16, ra_y30, ra_y140]
      refine ⟨4, yl_ends182_s hk hv sek (fun j hj y z => uniq j hj y ((key j hj).1.mp z)) hp1 hp8 hpa (fun q' hq' => ?_) 3 0 rfl (Nat.zero_le _)⟩
      have : q' = q := hq'.trans hq.symm
      subst this
      exact hp
end
end
section
/-! the pieces of a tick -/
section
variable {B c m n : Nat} {st pr bs tk mk vl cl rs al wt wd tt sb pa du oft bg av ep pt nb lg lt lv gk gt gf gl gs gn sl ss bo ot so sq go mo nt fr tw tx gr ge g1 g2 g3 sv lf se cp : Nat → Int32} {sn lo : Nat → Int64}
theorem ra_R_last {s : Nat} (h : ra_R B c m n st pr tk rs al tt pa bs sb ep pt nb lg sn lo lt lv gk gt gf gl gs gn sl ss bo ot so sq go mo nt fr tw tx gr ge g1 g2 g3 sv lf se) (hs : s < 10) : ra_R (B + 1) (c + 1) (m + 1) n st pr tk rs al tt pa bs sb ep pt nb lg (vp_updL sn s (lN (c + 1))) lo lt lv gk gt gf gl gs gn sl ss bo ot so sq go (upd mo s (nI (m + 1))) nt fr tw tx gr ge g1 g2 g3 sv lf se := by
  obtain ⟨h1, h2, h3, h4, h5, h6, h7, h8, h9, h10, h11⟩ := h
  exact ⟨ra_E_mono (Nat.le_succ _) h1, ra_O_last h2 hs, h3, h4, h5, ra_L_c h6 (Nat.le_succ _), h7, h8, h9, ra_I_mono (Nat.le_succ _) h10, h11⟩
theorem ra_R_pr {s p : Nat} (h : ra_R B c m n st pr tk rs al tt pa bs sb ep pt nb lg sn lo lt lv gk gt gf gl gs gn sl ss bo ot so sq go mo nt fr tw tx gr ge g1 g2 g3 sv lf se) (hp : p ≤ 3) : ra_R B c m n st (upd pr s (nI p)) tk rs al tt pa bs sb ep pt nb lg sn lo lt lv gk gt gf gl gs gn sl ss bo ot so sq go mo nt fr tw tx gr ge g1 g2 g3 sv lf se := by
  obtain ⟨h1, h2, h3, h4, h5, h6, h7, h8, h9, h10, h11⟩ := h
  exact ⟨h1, h2, h3, h4, h5, h6, h7, h8, h9, h10, ra_P_pr h11 hp⟩
theorem ra_R_tk {s p : Nat} (h : ra_R B c m n st pr tk rs al tt pa bs sb ep pt nb lg sn lo lt lv gk gt gf gl gs gn sl ss bo ot so sq go mo nt fr tw tx gr ge g1 g2 g3 sv lf se) (hp : 1 ≤ p) (hq : p ≤ 4) : ra_R B c m n st pr (upd tk s (nI p)) rs al tt pa bs sb ep pt nb lg sn lo lt lv gk gt gf gl gs gn sl ss bo ot so sq go mo nt fr tw tx gr ge g1 g2 g3 sv lf se := by
  obtain ⟨h1, h2, h3, h4, h5, h6, h7, h8, h9, h10, h11⟩ := h
  exact ⟨h1, h2, h3, h4, h5, h6, h7, h8, h9, h10, ra_P_tk h11 hp hq⟩
theorem ra_R_al {s p : Nat} (h : ra_R B c m n st pr tk rs al tt pa bs sb ep pt nb lg sn lo lt lv gk gt gf gl gs gn sl ss bo ot so sq go mo nt fr tw tx gr ge g1 g2 g3 sv lf se) (hp : p ≤ 100) : ra_R B c m n st pr tk rs (upd al s (nI p)) tt pa bs sb ep pt nb lg sn lo lt lv gk gt gf gl gs gn sl ss bo ot so sq go mo nt fr tw tx gr ge g1 g2 g3 sv lf se := by
  obtain ⟨h1, h2, h3, h4, h5, h6, h7, h8, h9, h10, h11⟩ := h
  exact ⟨h1, h2, h3, h4, h5, h6, h7, h8, h9, h10, ra_P_al h11 hp⟩
theorem ra_R_time (h : ra_R B c m n st pr tk rs al tt pa bs sb ep pt nb lg sn lo lt lv gk gt gf gl gs gn sl ss bo ot so sq go mo nt fr tw tx gr ge g1 g2 g3 sv lf se) : ra_R (B + 1) c m n st pr tk rs al (upd tt 0 (tt 0 + 1)) pa bs sb ep pt nb lg sn lo lt lv gk gt gf gl gs gn sl ss bo ot so sq go mo nt fr tw tx gr ge g1 g2 g3 sv lf se := by
  have h0 := ra_R_mono h (Nat.le_succ B)
  obtain ⟨h1, h2, h3, h4, h5, h6, h7, h8, h9, -, h11⟩ := h0
  obtain ⟨-, -, -, -, -, -, -, -, -, ⟨t, ht, e⟩, -⟩ := h
  exact ⟨h1, h2, h3, h4, h5, h6, h7, h8, h9, ⟨t + 1, by omega, by rw [pk_us, e, nI_1]⟩, h11⟩
theorem xl_comeIntoRow1 {s : Nat} {x : Int32} {post : SX → Prop} (hs : s < 10) (h1 : st s = 1) (h : post (lN (c + 1), ep, st, pt, bs, upd pr s x, tk, mk, rs, vl, cl, nb, al, wt, lg, wd, vp_updL sn s (lN (c + 1)), lo, lt, lv, gk, gt, gf, gl, gs, gn, sl, ss, sb, pa, du, oft, bg, av, tt)) : wpX_comeIntoRow post (lN c, ep, st, pt, bs, pr, tk, mk, rs, vl, cl, nb, al, wt, lg, wd, sn, lo, lt, lv, gk, gt, gf, gl, gs, gn, sl, ss, sb, pa, du, oft, bg, av, tt) (nI s) x := by
  simp (disch := omega) only [wpX_comeIntoRow, h1, not_true, not_false_iff, true_implies, false_implies, implies_true, true_and, and_true, forall_eq, eq_self, ra_i, ra_c, ra_m3, ra_m4, ra_m16, ra_4m, ra_14m, ra_16m, nI_add, nI_1, lN_1, ra_p2, ra_2p, ra_n0, ra_p0, ra_q0, ra_q1, ra_q2, ra_q3, ra_n3, ra_n4, ra_n10, ra_n14, ra_n16, ra_n30, ra_n140, ra_y3, ra_y4, ra_y10, ra_y14, ra_y16, ra_y30, ra_y140]
  exact h
theorem xl_comeIntoRow0 {s : Nat} {x : Int32} {post : SX → Prop} (hs : s < 10) (h1 : ¬ st s = 1) (h : post (lN c, ep, st, pt, bs, upd pr s x, tk, mk, rs, vl, cl, nb, al, wt, lg, wd, sn, lo, lt, lv, gk, gt, gf, gl, gs, gn, sl, ss, sb, pa, du, oft, bg, av, tt)) : wpX_comeIntoRow post (lN c, ep, st, pt, bs, pr, tk, mk, rs, vl, cl, nb, al, wt, lg, wd, sn, lo, lt, lv, gk, gt, gf, gl, gs, gn, sl, ss, sb, pa, du, oft, bg, av, tt) (nI s) x := by
  simp (disch := omega) only [wpX_comeIntoRow, h1, not_true, not_false_iff, true_implies, false_implies, implies_true, true_and, and_true, forall_eq, eq_self, ra_i, ra_c, ra_m3, ra_m4, ra_m16, ra_4m, ra_14m, ra_16m, nI_add, nI_1, lN_1, ra_p2, ra_2p, ra_n0, ra_p0, ra_q0, ra_q1, ra_q2, ra_q3, ra_n3, ra_n4, ra_n10, ra_n14, ra_n16, ra_n30, ra_n140, ra_y3, ra_y4, ra_y10, ra_y14, ra_y16, ra_y30, ra_y140]
  exact h
theorem yl_last {s : Nat} {post : SY → Prop} (hs : s < 10) (h : post (nI n, nI (m + 1), st, bo, bs, pr, tk, mk, ot, vl, rs, al, wt, so, sq, go, upd mo s (nI (m + 1)), cl, wd, nt, fr, tw, tx, gr, ge, g1, g2, g3, sv, sb, lf, pa, du, av, bg, oft, se, tt, cp)) : wpY_last post (nI n, nI m, st, bo, bs, pr, tk, mk, ot, vl, rs, al, wt, so, sq, go, mo, cl, wd, nt, fr, tw, tx, gr, ge, g1, g2, g3, sv, sb, lf, pa, du, av, bg, oft, se, tt, cp) (nI s) := by
  simp (disch := omega) only [wpY_last, not_true, not_false_iff, true_implies, false_implies, implies_true, true_and, and_true, forall_eq, eq_self, ra_i, ra_c, ra_m3, ra_m4, ra_m16, ra_4m, ra_14m, ra_16m, nI_add, nI_1, lN_1, ra_p2, ra_2p, ra_n0, ra_p0, ra_q0, ra_q1, ra_q2, ra_q3, ra_n3, ra_n4, ra_n10, ra_n14, ra_n16, ra_n30, ra_n140, ra_y3, ra_y4, ra_y10, ra_y14, ra_y16, ra_y30, ra_y140]
  exact h
theorem ra_sink (hB : B ≤ 2 ^ 26) (h : ra_R B c m n st pr tk rs al tt pa bs sb ep pt nb lg sn lo lt lv gk gt gf gl gs gn sl ss bo ot so sq go mo nt fr tw tx gr ge g1 g2 g3 sv lf se) : ∃ (u' : SX) (v' : SY), ra_RR (B + 1) u' v' ∧ (∀ post : SX → Prop, post u' → wpX_ageRunning post (lN c, ep, st, pt, bs, pr, tk, mk, rs, vl, cl, nb, al, wt, lg, wd, sn, lo, lt, lv, gk, gt, gf, gl, gs, gn, sl, ss, sb, pa, du, oft, bg, av, tt)) ∧ (∀ post : SY → Prop, post v' → wpY_sink post (nI n, nI m, st, bo, bs, pr, tk, mk, ot, vl, rs, al, wt, so, sq, go, mo, cl, wd, nt, fr, tw, tx, gr, ge, g1, g2, g3, sv, sb, lf, pa, du, av, bg, oft, se, tt, cp)) := by
  rcases ra_run_both hB h with ⟨rX, rY⟩ | ⟨r, hr, hr1, rX, rY⟩
  · refine ⟨_, _, ra_RR_mono (ra_in (mk := mk) (vl := vl) (cl := cl) (wt := wt) (wd := wd) (du := du) (oft := oft) (bg := bg) (av := av) (cp := cp) h) (by omega), fun post hp => ?_, fun post hp => ?_⟩
    · simp only [wpX_ageRunning]
      exact rX _ (br_f (by decide) hp)
    · simp only [wpY_sink]
      exact rY _ (br_f (by decide) hp)
  · have hr0 : st r ≠ 0 := by rw [hr1]; decide
    obtain ⟨⟨p, hp3, hpr⟩, -, -, hk⟩ := h.2.2.2.2.2.2.2.2.2.2 r hr
    obtain ⟨k, hk1, hk4, hkt⟩ := hk hr0
    obtain ⟨q, rfl⟩ : ∃ q, k = q + 1 := ⟨k - 1, by omega⟩
    have e1 : tk r - 1 = nI q := by rw [hkt, nI_pred]
    by_cases q0 : q = 0
    · subst q0
      by_cases p3 : p = 3
      · subst p3
        have a3 : (3 : Int32) ≤ nI 3 := by decide
        have ep3 : upd pr r 3 = pr := ra_us hpr
        refine ⟨_, _, ra_in (mk := mk) (vl := vl) (cl := cl) (wt := wt) (wd := wd) (du := du) (oft := oft) (bg := bg) (av := av) (cp := cp) (ra_R_last (ra_R_tk (s := r) (p := 4) h (by omega) (by omega)) hr), fun post hp => ?_, fun post hp => ?_⟩
        · simp only [wpX_ageRunning]
          refine rX _ (br_t (nI_pos' (by omega)) ?_)
          simp (disch := omega) only [e1, pk_us, nI_0, ra_uu, hpr, a3, wX_ageRunning_58, not_true, not_false_iff, true_implies, false_implies, implies_true, true_and, and_true, forall_eq, eq_self, ra_i, ra_c, ra_m3, ra_m4, ra_m16, ra_4m, ra_14m, ra_16m, nI_add, nI_1, lN_1, ra_p2, ra_2p, ra_n0, ra_p0, ra_q0, ra_q1, ra_q2, ra_q3, ra_n3, ra_n4, ra_n10, ra_n14, ra_n16, ra_n30, ra_n140, ra_y3, ra_y4, ra_y10, ra_y14, ra_y16, ra_y30, ra_y140]
          refine xl_comeIntoRow1 hr hr1 ?_
          rw [ep3]
          exact hp
        · simp only [wpY_sink]
          refine rY _ (br_t (nI_pos' (by omega)) ?_)
          simp (disch := omega) only [e1, pk_us, nI_0, ra_uu, hpr, a3, Int32.le_refl, wY_sink_57, not_true, not_false_iff, true_implies, false_implies, implies_true, true_and, and_true, forall_eq, eq_self, ra_i, ra_c, ra_m3, ra_m4, ra_m16, ra_4m, ra_14m, ra_16m, nI_add, nI_1, lN_1, ra_p2, ra_2p, ra_n0, ra_p0, ra_q0, ra_q1, ra_q2, ra_q3, ra_n3, ra_n4, ra_n10, ra_n14, ra_n16, ra_n30, ra_n140, ra_y3, ra_y4, ra_y10, ra_y14, ra_y16, ra_y30, ra_y140]
          exact yl_last hr hp
      · have a3 : ¬ (3 : Int32) ≤ nI p := nI_ge (b := 3) (by omega) (by decide)
        refine ⟨_, _, ra_in (mk := mk) (vl := vl) (cl := cl) (wt := wt) (wd := wd) (du := du) (oft := oft) (bg := bg) (av := av) (cp := cp) (ra_R_last (ra_R_pr (s := r) (p := p + 1) (ra_R_tk (s := r) (p := 4) h (by omega) (by omega)) (by omega)) hr), fun post hp => ?_, fun post hp => ?_⟩
        · simp only [wpX_ageRunning]
          refine rX _ (br_t (nI_pos' (by omega)) ?_)
          simp (disch := omega) only [e1, pk_us, nI_0, ra_uu, hpr, a3, wX_ageRunning_58, not_true, not_false_iff, true_implies, false_implies, implies_true, true_and, and_true, forall_eq, eq_self, ra_i, ra_c, ra_m3, ra_m4, ra_m16, ra_4m, ra_14m, ra_16m, nI_add, nI_1, lN_1, ra_p2, ra_2p, ra_n0, ra_p0, ra_q0, ra_q1, ra_q2, ra_q3, ra_n3, ra_n4, ra_n10, ra_n14, ra_n16, ra_n30, ra_n140, ra_y3, ra_y4, ra_y10, ra_y14, ra_y16, ra_y30, ra_y140]
          exact xl_comeIntoRow1 hr hr1 hp
        · simp only [wpY_sink]
          refine rY _ (br_t (nI_pos' (by omega)) ?_)
          simp (disch := omega) only [e1, pk_us, nI_0, ra_uu, hpr, a3, Int32.le_refl, wY_sink_57, not_true, not_false_iff, true_implies, false_implies, implies_true, true_and, and_true, forall_eq, eq_self, ra_i, ra_c, ra_m3, ra_m4, ra_m16, ra_4m, ra_14m, ra_16m, nI_add, nI_1, lN_1, ra_p2, ra_2p, ra_n0, ra_p0, ra_q0, ra_q1, ra_q2, ra_q3, ra_n3, ra_n4, ra_n10, ra_n14, ra_n16, ra_n30, ra_n140, ra_y3, ra_y4, ra_y10, ra_y14, ra_y16, ra_y30, ra_y140]
          exact yl_last hr hp
    · have n0 : ¬ nI q = 0 := nI_ne0 (by omega) (by omega)
      have n1 : ¬ nI q ≤ 0 := nI_nle (by omega) (by omega)
      refine ⟨_, _, ra_RR_mono (ra_in (mk := mk) (vl := vl) (cl := cl) (wt := wt) (wd := wd) (du := du) (oft := oft) (bg := bg) (av := av) (cp := cp) (ra_R_tk (s := r) (p := q) h (by omega) (by omega))) (by omega), fun post hp => ?_, fun post hp => ?_⟩
      · simp only [wpX_ageRunning]
        refine rX _ (br_t (nI_pos' (by omega)) ?_)
        simp (disch := omega) only [e1, pk_us, n0, not_true, not_false_iff, true_implies, false_implies, implies_true, true_and, and_true, forall_eq, eq_self, ra_i, ra_c, ra_m3, ra_m4, ra_m16, ra_4m, ra_14m, ra_16m, nI_add, nI_1, lN_1, ra_p2, ra_2p, ra_n0, ra_p0, ra_q0, ra_q1, ra_q2, ra_q3, ra_n3, ra_n4, ra_n10, ra_n14, ra_n16, ra_n30, ra_n140, ra_y3, ra_y4, ra_y10, ra_y14, ra_y16, ra_y30, ra_y140]
        exact hp
      · simp only [wpY_sink]
        refine rY _ (br_t (nI_pos' (by omega)) ?_)
        simp (disch := omega) only [e1, pk_us, n1, not_true, not_false_iff, true_implies, false_implies, implies_true, true_and, and_true, forall_eq, eq_self, ra_i, ra_c, ra_m3, ra_m4, ra_m16, ra_4m, ra_14m, ra_16m, nI_add, nI_1, lN_1, ra_p2, ra_2p, ra_n0, ra_p0, ra_q0, ra_q1, ra_q2, ra_q3, ra_n3, ra_n4, ra_n10, ra_n14, ra_n16, ra_n30, ra_n140, ra_y3, ra_y4, ra_y10, ra_y14, ra_y16, ra_y30, ra_y140]
        exact hp
theorem ra_rise : ∀ (d i B : Nat) (c m n : Nat) (st pr bs tk mk vl cl rs al wt wd tt sb pa du oft bg av ep pt nb lg lt lv gk gt gf gl gs gn sl ss bo ot so sq go mo nt fr tw tx gr ge g1 g2 g3 sv lf se cp : Nat → Int32) (sn lo : Nat → Int64), i + d = 10 → B + d ≤ 2 ^ 26 → ra_R B c m n st pr tk rs al tt pa bs sb ep pt nb lg sn lo lt lv gk gt gf gl gs gn sl ss bo ot so sq go mo nt fr tw tx gr ge g1 g2 g3 sv lf se → ∃ (u' : SX) (v' : SY), ra_RR (B + d) u' v' ∧ (∀ post : SX → Prop, post u' → wX_relieveAll_2 post (d + 1) (nI i) (lN c) ep st pt bs pr tk mk rs vl cl nb al wt lg wd sn lo lt lv gk gt gf gl gs gn sl ss sb pa du oft bg av tt) ∧ (∀ post : SY → Prop, post v' → wY_rise_2 post (d + 1) (nI i) (nI n) (nI m) st bo bs pr tk mk ot vl rs al wt so sq go mo cl wd nt fr tw tx gr ge g1 g2 g3 sv sb lf pa du av bg oft se tt cp) := by
  intro d
  induction d with
  | zero =>
    intro i B c m n st pr bs tk mk vl cl rs al wt wd tt sb pa du oft bg av ep pt nb lg lt lv gk gt gf gl gs gn sl ss bo ot so sq go mo nt fr tw tx gr ge g1 g2 g3 sv lf se cp sn lo hi hB h
    have : i = 10 := by omega
    subst this
    refine ⟨_, _, ra_in (mk := mk) (vl := vl) (cl := cl) (wt := wt) (wd := wd) (du := du) (oft := oft) (bg := bg) (av := av) (cp := cp) h, fun post hp => ?_, fun post hp => ?_⟩
    · simp (disch := omega) only [wX_relieveAll_2, not_true, not_false_iff, true_implies, false_implies, implies_true, true_and, and_true, forall_eq, eq_self, ra_i, ra_c, ra_m3, ra_m4, ra_m16, ra_4m, ra_14m, ra_16m, nI_add, nI_1, lN_1, ra_p2, ra_2p, ra_n0, ra_p0, ra_q0, ra_q1, ra_q2, ra_q3, ra_n3, ra_n4, ra_n10, ra_n14, ra_n16, ra_n30, ra_n140, ra_y3, ra_y4, ra_y10, ra_y14, ra_y16, ra_y30, ra_y140]
      exact hp
    · simp (disch := omega) only [wY_rise_2, not_true, not_false_iff, true_implies, false_implies, implies_true, true_and, and_true, forall_eq, eq_self, ra_i, ra_c, ra_m3, ra_m4, ra_m16, ra_4m, ra_14m, ra_16m, nI_add, nI_1, lN_1, ra_p2, ra_2p, ra_n0, ra_p0, ra_q0, ra_q1, ra_q2, ra_q3, ra_n3, ra_n4, ra_n10, ra_n14, ra_n16, ra_n30, ra_n140, ra_y3, ra_y4, ra_y10, ra_y14, ra_y16, ra_y30, ra_y140]
      exact hp
  | succ d ih =>
    intro i B c m n st pr bs tk mk vl cl rs al wt wd tt sb pa du oft bg av ep pt nb lg lt lv gk gt gf gl gs gn sl ss bo ot so sq go mo nt fr tw tx gr ge g1 g2 g3 sv lf se cp sn lo hi hB h
    have i10 : i < 10 := by omega
    obtain ⟨⟨p, hp3, hpr⟩, -, ⟨b, hb3, hbs⟩, -⟩ := h.2.2.2.2.2.2.2.2.2.2 i i10
    by_cases s0 : st i = 0
    · obtain ⟨u', v', hR, hX, hY⟩ := ih (i + 1) B _ _ _ _ _ _ _ mk vl cl _ _ wt wd _ _ _ du oft bg av _ _ _ _ _ _ _ _ _ _ _ _ _ _ _ _ _ _ _ _ _ _ _ _ _ _ _ _ _ _ _ _ cp _ _ (by omega) (by omega) h
      refine ⟨u', v', ra_RR_mono hR (by omega), fun post hp => ?_, fun post hp => ?_⟩
      · have w := hX post hp
        rw [wX_relieveAll_2]
        simp (disch := omega) only [s0, not_true, not_false_iff, true_implies, false_implies, implies_true, true_and, and_true, forall_eq, eq_self, ra_i, ra_c, ra_m3, ra_m4, ra_m16, ra_4m, ra_14m, ra_16m, nI_add, nI_1, lN_1, ra_p2, ra_2p, ra_n0, ra_p0, ra_q0, ra_q1, ra_q2, ra_q3, ra_n3, ra_n4, ra_n10, ra_n14, ra_n16, ra_n30, ra_n140, ra_y3, ra_y4, ra_y10, ra_y14, ra_y16, ra_y30, ra_y140]
        exact w
      · have w := hY post hp
        rw [wY_rise_2]
        simp (disch := omega) only [s0, not_true, not_false_iff, true_implies, false_implies, implies_true, true_and, and_true, forall_eq, eq_self, ra_i, ra_c, ra_m3, ra_m4, ra_m16, ra_4m, ra_14m, ra_16m, nI_add, nI_1, lN_1, ra_p2, ra_2p, ra_n0, ra_p0, ra_q0, ra_q1, ra_q2, ra_q3, ra_n3, ra_n4, ra_n10, ra_n14, ra_n16, ra_n30, ra_n140, ra_y3, ra_y4, ra_y10, ra_y14, ra_y16, ra_y30, ra_y140]
        exact w
    · by_cases pb : p ≤ b
      · have e1 : nI p ≤ nI b := nI_le pb (by omega)
        have e2 : ¬ nI b < nI p := nI_nlt pb (by omega)
        obtain ⟨u', v', hR, hX, hY⟩ := ih (i + 1) B _ _ _ _ _ _ _ mk vl cl _ _ wt wd _ _ _ du oft bg av _ _ _ _ _ _ _ _ _ _ _ _ _ _ _ _ _ _ _ _ _ _ _ _ _ _ _ _ _ _ _ _ cp _ _ (by omega) (by omega) h
        refine ⟨u', v', ra_RR_mono hR (by omega), fun post hp => ?_, fun post hp => ?_⟩
        · have w := hX post hp
          rw [wX_relieveAll_2]
          simp (disch := omega) only [s0, hpr, hbs, e1, not_true, not_false_iff, true_implies, false_implies, implies_true, true_and, and_true, forall_eq, eq_self, ra_i, ra_c, ra_m3, ra_m4, ra_m16, ra_4m, ra_14m, ra_16m, nI_add, nI_1, lN_1, ra_p2, ra_2p, ra_n0, ra_p0, ra_q0, ra_q1, ra_q2, ra_q3, ra_n3, ra_n4, ra_n10, ra_n14, ra_n16, ra_n30, ra_n140, ra_y3, ra_y4, ra_y10, ra_y14, ra_y16, ra_y30, ra_y140]
          exact w
        · have w := hY post hp
          rw [wY_rise_2]
          simp (disch := omega) only [s0, hpr, hbs, e2, not_true, not_false_iff, true_implies, false_implies, implies_true, true_and, and_true, forall_eq, eq_self, ra_i, ra_c, ra_m3, ra_m4, ra_m16, ra_4m, ra_14m, ra_16m, nI_add, nI_1, lN_1, ra_p2, ra_2p, ra_n0, ra_p0, ra_q0, ra_q1, ra_q2, ra_q3, ra_n3, ra_n4, ra_n10, ra_n14, ra_n16, ra_n30, ra_n140, ra_y3, ra_y4, ra_y10, ra_y14, ra_y16, ra_y30, ra_y140]
          exact w
      · have e1 : ¬ nI p ≤ nI b := nI_ge (by omega) (by omega)
        have e2 : nI b < nI p := nI_lt (by omega) (by omega)
        obtain ⟨q, rfl⟩ : ∃ q, p = q + 1 := ⟨p - 1, by omega⟩
        by_cases s1 : st i = 1
        · obtain ⟨u', v', hR, hX, hY⟩ := ih (i + 1) (B + 1) _ _ _ _ _ _ _ mk vl cl _ _ wt wd _ _ _ du oft bg av _ _ _ _ _ _ _ _ _ _ _ _ _ _ _ _ _ _ _ _ _ _ _ _ _ _ _ _ _ _ _ _ cp _ _ (by omega) (by omega) (ra_R_last (ra_R_pr (s := i) (p := q) h (by omega)) i10)
          refine ⟨u', v', ra_RR_mono hR (by omega), fun post hp => ?_, fun post hp => ?_⟩
          · have w := hX post hp
            rw [wX_relieveAll_2]
            simp (disch := omega) only [s0, hpr, hbs, e1, nI_pred, not_true, not_false_iff, true_implies, false_implies, implies_true, true_and, and_true, forall_eq, eq_self, ra_i, ra_c, ra_m3, ra_m4, ra_m16, ra_4m, ra_14m, ra_16m, nI_add, nI_1, lN_1, ra_p2, ra_2p, ra_n0, ra_p0, ra_q0, ra_q1, ra_q2, ra_q3, ra_n3, ra_n4, ra_n10, ra_n14, ra_n16, ra_n30, ra_n140, ra_y3, ra_y4, ra_y10, ra_y14, ra_y16, ra_y30, ra_y140]
            refine xl_comeIntoRow1 i10 s1 ?_
            simp (disch := omega) only [not_true, not_false_iff, true_implies, false_implies, implies_true, true_and, and_true, forall_eq, eq_self, ra_i, ra_c, ra_m3, ra_m4, ra_m16, ra_4m, ra_14m, ra_16m, nI_add, nI_1, lN_1, ra_p2, ra_2p, ra_n0, ra_p0, ra_q0, ra_q1, ra_q2, ra_q3, ra_n3, ra_n4, ra_n10, ra_n14, ra_n16, ra_n30, ra_n140, ra_y3, ra_y4, ra_y10, ra_y14, ra_y16, ra_y30, ra_y140]
            exact w
          · have w := hY post hp
            rw [wY_rise_2]
            simp (disch := omega) only [s0, s1, hpr, hbs, e2, nI_pred, not_true, not_false_iff, true_implies, false_implies, implies_true, true_and, and_true, forall_eq, eq_self, ra_i, ra_c, ra_m3, ra_m4, ra_m16, ra_4m, ra_14m, ra_16m, nI_add, nI_1, lN_1, ra_p2, ra_2p, ra_n0, ra_p0, ra_q0, ra_q1, ra_q2, ra_q3, ra_n3, ra_n4, ra_n10, ra_n14, ra_n16, ra_n30, ra_n140, ra_y3, ra_y4, ra_y10, ra_y14, ra_y16, ra_y30, ra_y140]
            refine yl_last i10 ?_
            simp (disch := omega) only [not_true, not_false_iff, true_implies, false_implies, implies_true, true_and, and_true, forall_eq, eq_self, ra_i, ra_c, ra_m3, ra_m4, ra_m16, ra_4m, ra_14m, ra_16m, nI_add, nI_1, lN_1, ra_p2, ra_2p, ra_n0, ra_p0, ra_q0, ra_q1, ra_q2, ra_q3, ra_n3, ra_n4, ra_n10, ra_n14, ra_n16, ra_n30, ra_n140, ra_y3, ra_y4, ra_y10, ra_y14, ra_y16, ra_y30, ra_y140]
            exact w
        · obtain ⟨u', v', hR, hX, hY⟩ := ih (i + 1) B _ _ _ _ _ _ _ mk vl cl _ _ wt wd _ _ _ du oft bg av _ _ _ _ _ _ _ _ _ _ _ _ _ _ _ _ _ _ _ _ _ _ _ _ _ _ _ _ _ _ _ _ cp _ _ (by omega) (by omega) (ra_R_pr (s := i) (p := q) h (by omega))
          refine ⟨u', v', ra_RR_mono hR (by omega), fun post hp => ?_, fun post hp => ?_⟩
          · have w := hX post hp
            rw [wX_relieveAll_2]
            simp (disch := omega) only [s0, hpr, hbs, e1, nI_pred, not_true, not_false_iff, true_implies, false_implies, implies_true, true_and, and_true, forall_eq, eq_self, ra_i, ra_c, ra_m3, ra_m4, ra_m16, ra_4m, ra_14m, ra_16m, nI_add, nI_1, lN_1, ra_p2, ra_2p, ra_n0, ra_p0, ra_q0, ra_q1, ra_q2, ra_q3, ra_n3, ra_n4, ra_n10, ra_n14, ra_n16, ra_n30, ra_n140, ra_y3, ra_y4, ra_y10, ra_y14, ra_y16, ra_y30, ra_y140]
            refine xl_comeIntoRow0 i10 s1 ?_
            simp (disch := omega) only [not_true, not_false_iff, true_implies, false_implies, implies_true, true_and, and_true, forall_eq, eq_self, ra_i, ra_c, ra_m3, ra_m4, ra_m16, ra_4m, ra_14m, ra_16m, nI_add, nI_1, lN_1, ra_p2, ra_2p, ra_n0, ra_p0, ra_q0, ra_q1, ra_q2, ra_q3, ra_n3, ra_n4, ra_n10, ra_n14, ra_n16, ra_n30, ra_n140, ra_y3, ra_y4, ra_y10, ra_y14, ra_y16, ra_y30, ra_y140]
            exact w
          · have w := hY post hp
            rw [wY_rise_2]
            simp (disch := omega) only [s0, s1, hpr, hbs, e2, nI_pred, not_true, not_false_iff, true_implies, false_implies, implies_true, true_and, and_true, forall_eq, eq_self, ra_i, ra_c, ra_m3, ra_m4, ra_m16, ra_4m, ra_14m, ra_16m, nI_add, nI_1, lN_1, ra_p2, ra_2p, ra_n0, ra_p0, ra_q0, ra_q1, ra_q2, ra_q3, ra_n3, ra_n4, ra_n10, ra_n14, ra_n16, ra_n30, ra_n140, ra_y3, ra_y4, ra_y10, ra_y14, ra_y16, ra_y30, ra_y140]
            exact w
end
end
section
/-! alarms, watchers, services, a tick, ticks -/
section
variable {B c m n : Nat} {st pr bs tk mk vl cl rs al wt wd tt sb pa du oft bg av ep pt nb lg lt lv gk gt gf gl gs gn sl ss bo ot so sq go mo nt fr tw tx gr ge g1 g2 g3 sv lf se cp : Nat → Int32} {sn lo : Nat → Int64}
def xa_38 (post : Int32 → SX → Prop) (q : Nat) (x k : Int32) (u : SX) : Prop := match u with
  | (cm, ep, st, pt, bs, pr, tk, mk, rs, vl, cl, nb, al, wt, lg, wd, sn, lo, lt, lv, gk, gt, gf, gl, gs, gn, sl, ss, sb, pa, du, oft, bg, av, tt) => wX_oneTick_38 post q x k cm ep st pt bs pr tk mk rs vl cl nb al wt lg wd sn lo lt lv gk gt gf gl gs gn sl ss sb pa du oft bg av tt
def ya_95 (post : Int32 → SY → Prop) (q : Nat) (x k : Int32) (v : SY) : Prop := match v with
  | (ln, mm, st, bo, bs, pr, tk, mk, ot, vl, rs, al, wt, so, sq, go, mo, cl, wd, nt, fr, tw, tx, gr, ge, g1, g2, g3, sv, sb, lf, pa, du, av, bg, oft, se, tt, cp) => wY_tickOnce_95 post q x k ln mm st bo bs pr tk mk ot vl rs al wt so sq go mo cl wd nt fr tw tx gr ge g1 g2 g3 sv sb lf pa du av bg oft se tt cp
theorem ra_alarms : ∀ (d i B : Nat) (c m n : Nat) (st pr bs tk mk vl cl rs al wt wd tt sb pa du oft bg av ep pt nb lg lt lv gk gt gf gl gs gn sl ss bo ot so sq go mo nt fr tw tx gr ge g1 g2 g3 sv lf se cp : Nat → Int32) (sn lo : Nat → Int64), i + d = 10 → B + d ≤ 2 ^ 26 → ra_R B c m n st pr tk rs al tt pa bs sb ep pt nb lg sn lo lt lv gk gt gf gl gs gn sl ss bo ot so sq go mo nt fr tw tx gr ge g1 g2 g3 sv lf se → ∃ (u' : SX) (v' : SY), ra_RR (B + d) u' v' ∧ (∀ post : SX → Prop, post u' → wX_ringAlarms_2 post (d + 1) (nI i) (lN c) ep st pt bs pr tk mk rs vl cl nb al wt lg wd sn lo lt lv gk gt gf gl gs gn sl ss sb pa du oft bg av tt) ∧ (∀ (post : Int32 → SY → Prop) (q : Nat), ya_95 post q 0 0 v' → wY_tickOnce_34 post 0 (d + 1) (nI i) (nI n) (nI m) st bo bs pr tk mk ot vl rs al wt so sq go mo cl wd nt fr tw tx gr ge g1 g2 g3 sv sb lf pa du av bg oft se tt cp) := by
  intro d
  induction d with
  | zero =>
    intro i B c m n st pr bs tk mk vl cl rs al wt wd tt sb pa du oft bg av ep pt nb lg lt lv gk gt gf gl gs gn sl ss bo ot so sq go mo nt fr tw tx gr ge g1 g2 g3 sv lf se cp sn lo hi hB h
    have : i = 10 := by omega
    subst this
    refine ⟨_, _, ra_in (mk := mk) (vl := vl) (cl := cl) (wt := wt) (wd := wd) (du := du) (oft := oft) (bg := bg) (av := av) (cp := cp) h, fun post hp => ?_, fun post q hp => ?_⟩
    · simp (disch := omega) only [wX_ringAlarms_2, not_true, not_false_iff, true_implies, false_implies, implies_true, true_and, and_true, forall_eq, eq_self, ra_i, ra_c, ra_m3, ra_m4, ra_m16, ra_4m, ra_14m, ra_16m, nI_add, nI_1, lN_1, ra_p2, ra_2p, ra_n0, ra_p0, ra_q0, ra_q1, ra_q2, ra_q3, ra_n3, ra_n4, ra_n10, ra_n14, ra_n16, ra_n30, ra_n140, ra_y3, ra_y4, ra_y10, ra_y14, ra_y16, ra_y30, ra_y140]
      exact hp
    · simp (disch := omega) only [wY_tickOnce_34, not_true, not_false_iff, true_implies, false_implies, implies_true, true_and, and_true, forall_eq, eq_self, ra_i, ra_c, ra_m3, ra_m4, ra_m16, ra_4m, ra_14m, ra_16m, nI_add, nI_1, lN_1, ra_p2, ra_2p, ra_n0, ra_p0, ra_q0, ra_q1, ra_q2, ra_q3, ra_n3, ra_n4, ra_n10, ra_n14, ra_n16, ra_n30, ra_n140, ra_y3, ra_y4, ra_y10, ra_y14, ra_y16, ra_y30, ra_y140]
      exact ⟨q, hp⟩
  | succ d ih =>
    intro i B c m n st pr bs tk mk vl cl rs al wt wd tt sb pa du oft bg av ep pt nb lg lt lv gk gt gf gl gs gn sl ss bo ot so sq go mo nt fr tw tx gr ge g1 g2 g3 sv lf se cp sn lo hi hB h
    have i10 : i < 10 := by omega
    obtain ⟨-, ⟨a, ha, hal⟩, -, -⟩ := h.2.2.2.2.2.2.2.2.2.2 i i10
    by_cases s0 : st i = 0
    · obtain ⟨u', v', hR, hX, hY⟩ := ih (i + 1) B _ _ _ _ _ _ _ mk vl cl _ _ wt wd _ _ _ du oft bg av _ _ _ _ _ _ _ _ _ _ _ _ _ _ _ _ _ _ _ _ _ _ _ _ _ _ _ _ _ _ _ _ cp _ _ (by omega) (by omega) h
      refine ⟨u', v', ra_RR_mono hR (by omega), fun post hp => ?_, fun post q hp => ?_⟩
      · have w := hX post hp
        rw [wX_ringAlarms_2]
        simp (disch := omega) only [s0, not_true, not_false_iff, true_implies, false_implies, implies_true, true_and, and_true, forall_eq, eq_self, ra_i, ra_c, ra_m3, ra_m4, ra_m16, ra_4m, ra_14m, ra_16m, nI_add, nI_1, lN_1, ra_p2, ra_2p, ra_n0, ra_p0, ra_q0, ra_q1, ra_q2, ra_q3, ra_n3, ra_n4, ra_n10, ra_n14, ra_n16, ra_n30, ra_n140, ra_y3, ra_y4, ra_y10, ra_y14, ra_y16, ra_y30, ra_y140]
        exact w
      · have w := hY post q hp
        rw [wY_tickOnce_34]
        simp (disch := omega) only [s0, not_true, not_false_iff, true_implies, false_implies, implies_true, true_and, and_true, forall_eq, eq_self, ra_i, ra_c, ra_m3, ra_m4, ra_m16, ra_4m, ra_14m, ra_16m, nI_add, nI_1, lN_1, ra_p2, ra_2p, ra_n0, ra_p0, ra_q0, ra_q1, ra_q2, ra_q3, ra_n3, ra_n4, ra_n10, ra_n14, ra_n16, ra_n30, ra_n140, ra_y3, ra_y4, ra_y10, ra_y14, ra_y16, ra_y30, ra_y140]
        exact w
    · by_cases a0 : a = 0
      · subst a0
        have e1 : al i = 0 := hal
        obtain ⟨u', v', hR, hX, hY⟩ := ih (i + 1) B _ _ _ _ _ _ _ mk vl cl _ _ wt wd _ _ _ du oft bg av _ _ _ _ _ _ _ _ _ _ _ _ _ _ _ _ _ _ _ _ _ _ _ _ _ _ _ _ _ _ _ _ cp _ _ (by omega) (by omega) h
        refine ⟨u', v', ra_RR_mono hR (by omega), fun post hp => ?_, fun post q hp => ?_⟩
        · have w := hX post hp
          rw [wX_ringAlarms_2]
          simp (disch := omega) only [s0, e1, Int32.le_refl, not_true, not_false_iff, true_implies, false_implies, implies_true, true_and, and_true, forall_eq, eq_self, ra_i, ra_c, ra_m3, ra_m4, ra_m16, ra_4m, ra_14m, ra_16m, nI_add, nI_1, lN_1, ra_p2, ra_2p, ra_n0, ra_p0, ra_q0, ra_q1, ra_q2, ra_q3, ra_n3, ra_n4, ra_n10, ra_n14, ra_n16, ra_n30, ra_n140, ra_y3, ra_y4, ra_y10, ra_y14, ra_y16, ra_y30, ra_y140]
          exact w
        · have w := hY post q hp
          rw [wY_tickOnce_34]
          simp (disch := omega) only [s0, e1, not_true, not_false_iff, true_implies, false_implies, implies_true, true_and, and_true, forall_eq, eq_self, ra_i, ra_c, ra_m3, ra_m4, ra_m16, ra_4m, ra_14m, ra_16m, nI_add, nI_1, lN_1, ra_p2, ra_2p, ra_n0, ra_p0, ra_q0, ra_q1, ra_q2, ra_q3, ra_n3, ra_n4, ra_n10, ra_n14, ra_n16, ra_n30, ra_n140, ra_y3, ra_y4, ra_y10, ra_y14, ra_y16, ra_y30, ra_y140]
          exact w
      · have e1 : ¬ nI a = 0 := nI_ne0 (by omega) (by omega)
        have e2 : ¬ nI a ≤ 0 := nI_nle (by omega) (by omega)
        obtain ⟨t, rfl⟩ : ∃ t, a = t + 1 := ⟨a - 1, by omega⟩
        by_cases t0 : t = 0
        · subst t0
          obtain ⟨u1, v1, hR1, hX1, hY1⟩ := ra_notify (s := i) (k := 10) (mk := mk) (vl := vl) (cl := cl) (wt := wt) (wd := wd) (du := du) (oft := oft) (bg := bg) (av := av) (cp := cp) (ra_R_al (s := i) (p := 0) h (by omega)) i10 s0 (by omega) (fun z => absurd z (by omega))
          obtain ⟨c', m', n', st', pr', bs', tk', mk', vl', cl', rs', al', wt', wd', tt', sb', pa', du', oft', bg', av', ep', pt', nb', lg', lt', lv', gk', gt', gf', gl', gs', gn', sl', ss', bo', ot', so', sq', go', mo', nt', fr', tw', tx', gr', ge', g1', g2', g3', sv', lf', se', cp', sn', lo', rfl, rfl, h1⟩ := hR1
          obtain ⟨u', v', hR, hX, hY⟩ := ih (i + 1) (B + 1) _ _ _ _ _ _ _ mk' vl' cl' _ _ wt' wd' _ _ _ du' oft' bg' av' _ _ _ _ _ _ _ _ _ _ _ _ _ _ _ _ _ _ _ _ _ _ _ _ _ _ _ _ _ _ _ _ cp' _ _ (by omega) (by omega) h1
          refine ⟨u', v', ra_RR_mono hR (by omega), fun post hp => ?_, fun post q hp => ?_⟩
          · have w := hX post hp
            rw [wX_ringAlarms_2]
            simp (disch := omega) only [s0, hal, e2, nI_pred, pk_us, nI_0, not_true, not_false_iff, true_implies, false_implies, implies_true, true_and, and_true, forall_eq, eq_self, ra_i, ra_c, ra_m3, ra_m4, ra_m16, ra_4m, ra_14m, ra_16m, nI_add, nI_1, lN_1, ra_p2, ra_2p, ra_n0, ra_p0, ra_q0, ra_q1, ra_q2, ra_q3, ra_n3, ra_n4, ra_n10, ra_n14, ra_n16, ra_n30, ra_n140, ra_y3, ra_y4, ra_y10, ra_y14, ra_y16, ra_y30, ra_y140]
            refine hX1 _ ?_
            simp (disch := omega) only [not_true, not_false_iff, true_implies, false_implies, implies_true, true_and, and_true, forall_eq, eq_self, ra_i, ra_c, ra_m3, ra_m4, ra_m16, ra_4m, ra_14m, ra_16m, nI_add, nI_1, lN_1, ra_p2, ra_2p, ra_n0, ra_p0, ra_q0, ra_q1, ra_q2, ra_q3, ra_n3, ra_n4, ra_n10, ra_n14, ra_n16, ra_n30, ra_n140, ra_y3, ra_y4, ra_y10, ra_y14, ra_y16, ra_y30, ra_y140]
            exact w
          · have w := hY post q hp
            rw [wY_tickOnce_34]
            simp (disch := omega) only [s0, hal, e1, nI_pred, pk_us, nI_0, not_true, not_false_iff, true_implies, false_implies, implies_true, true_and, and_true, forall_eq, eq_self, ra_i, ra_c, ra_m3, ra_m4, ra_m16, ra_4m, ra_14m, ra_16m, nI_add, nI_1, lN_1, ra_p2, ra_2p, ra_n0, ra_p0, ra_q0, ra_q1, ra_q2, ra_q3, ra_n3, ra_n4, ra_n10, ra_n14, ra_n16, ra_n30, ra_n140, ra_y3, ra_y4, ra_y10, ra_y14, ra_y16, ra_y30, ra_y140]
            refine hY1 _ ?_
            simp (disch := omega) only [not_true, not_false_iff, true_implies, false_implies, implies_true, true_and, and_true, forall_eq, eq_self, ra_i, ra_c, ra_m3, ra_m4, ra_m16, ra_4m, ra_14m, ra_16m, nI_add, nI_1, lN_1, ra_p2, ra_2p, ra_n0, ra_p0, ra_q0, ra_q1, ra_q2, ra_q3, ra_n3, ra_n4, ra_n10, ra_n14, ra_n16, ra_n30, ra_n140, ra_y3, ra_y4, ra_y10, ra_y14, ra_y16, ra_y30, ra_y140]
            exact w
        · have e3 : ¬ nI t = 0 := nI_ne0 (by omega) (by omega)
          obtain ⟨u', v', hR, hX, hY⟩ := ih (i + 1) B _ _ _ _ _ _ _ mk vl cl _ _ wt wd _ _ _ du oft bg av _ _ _ _ _ _ _ _ _ _ _ _ _ _ _ _ _ _ _ _ _ _ _ _ _ _ _ _ _ _ _ _ cp _ _ (by omega) (by omega) (ra_R_al (s := i) (p := t) h (by omega))
          refine ⟨u', v', ra_RR_mono hR (by omega), fun post hp => ?_, fun post q hp => ?_⟩
          · have w := hX post hp
            rw [wX_ringAlarms_2]
            simp (disch := omega) only [s0, hal, e2, nI_pred, pk_us, e3, not_true, not_false_iff, true_implies, false_implies, implies_true, true_and, and_true, forall_eq, eq_self, ra_i, ra_c, ra_m3, ra_m4, ra_m16, ra_4m, ra_14m, ra_16m, nI_add, nI_1, lN_1, ra_p2, ra_2p, ra_n0, ra_p0, ra_q0, ra_q1, ra_q2, ra_q3, ra_n3, ra_n4, ra_n10, ra_n14, ra_n16, ra_n30, ra_n140, ra_y3, ra_y4, ra_y10, ra_y14, ra_y16, ra_y30, ra_y140]
            exact w
          · have w := hY post q hp
            rw [wY_tickOnce_34]
            simp (disch := omega) only [s0, hal, e1, nI_pred, pk_us, e3, not_true, not_false_iff, true_implies, false_implies, implies_true, true_and, and_true, forall_eq, eq_self, ra_i, ra_c, ra_m3, ra_m4, ra_m16, ra_4m, ra_14m, ra_16m, nI_add, nI_1, lN_1, ra_p2, ra_2p, ra_n0, ra_p0, ra_q0, ra_q1, ra_q2, ra_q3, ra_n3, ra_n4, ra_n10, ra_n14, ra_n16, ra_n30, ra_n140, ra_y3, ra_y4, ra_y10, ra_y14, ra_y16, ra_y30, ra_y140]
            exact w
theorem ra_watchers {k : Nat} (hk : k < 3) : ∀ (d i B : Nat) (c m n : Nat) (st pr bs tk mk vl cl rs al wt wd tt sb pa du oft bg av ep pt nb lg lt lv gk gt gf gl gs gn sl ss bo ot so sq go mo nt fr tw tx gr ge g1 g2 g3 sv lf se cp : Nat → Int32) (sn lo : Nat → Int64), i + d = 10 → B + d ≤ 2 ^ 26 → ra_R B c m n st pr tk rs al tt pa bs sb ep pt nb lg sn lo lt lv gk gt gf gl gs gn sl ss bo ot so sq go mo nt fr tw tx gr ge g1 g2 g3 sv lf se → ∃ (u' : SX) (v' : SY), ra_RR (B + d) u' v' ∧ (∀ post : SX → Prop, post u' → wX_tellWatchers_2 post (nI k) (d + 1) (nI i) (lN c) ep st pt bs pr tk mk rs vl cl nb al wt lg wd sn lo lt lv gk gt gf gl gs gn sl ss sb pa du oft bg av tt) ∧ (∀ post : Int32 → SY → Prop, post 1 v' → wY_revive_144 post (nI k) (d + 1) (nI i) (nI n) (nI m) st bo bs pr tk mk ot vl rs al wt so sq go mo cl wd nt fr tw tx gr ge g1 g2 g3 sv sb lf pa du av bg oft se tt cp) := by
  intro d
  induction d with
  | zero =>
    intro i B c m n st pr bs tk mk vl cl rs al wt wd tt sb pa du oft bg av ep pt nb lg lt lv gk gt gf gl gs gn sl ss bo ot so sq go mo nt fr tw tx gr ge g1 g2 g3 sv lf se cp sn lo hi hB h
    have : i = 10 := by omega
    subst this
    refine ⟨_, _, ra_in (mk := mk) (vl := vl) (cl := cl) (wt := wt) (wd := wd) (du := du) (oft := oft) (bg := bg) (av := av) (cp := cp) h, fun post hp => ?_, fun post hp => ?_⟩
    · simp (disch := omega) only [wX_tellWatchers_2, not_true, not_false_iff, true_implies, false_implies, implies_true, true_and, and_true, forall_eq, eq_self, ra_i, ra_c, ra_m3, ra_m4, ra_m16, ra_4m, ra_14m, ra_16m, nI_add, nI_1, lN_1, ra_p2, ra_2p, ra_n0, ra_p0, ra_q0, ra_q1, ra_q2, ra_q3, ra_n3, ra_n4, ra_n10, ra_n14, ra_n16, ra_n30, ra_n140, ra_y3, ra_y4, ra_y10, ra_y14, ra_y16, ra_y30, ra_y140]
      exact hp
    · simp (disch := omega) only [wY_revive_144, not_true, not_false_iff, true_implies, false_implies, implies_true, true_and, and_true, forall_eq, eq_self, ra_i, ra_c, ra_m3, ra_m4, ra_m16, ra_4m, ra_14m, ra_16m, nI_add, nI_1, lN_1, ra_p2, ra_2p, ra_n0, ra_p0, ra_q0, ra_q1, ra_q2, ra_q3, ra_n3, ra_n4, ra_n10, ra_n14, ra_n16, ra_n30, ra_n140, ra_y3, ra_y4, ra_y10, ra_y14, ra_y16, ra_y30, ra_y140]
      exact hp
  | succ d ih =>
    intro i B c m n st pr bs tk mk vl cl rs al wt wd tt sb pa du oft bg av ep pt nb lg lt lv gk gt gf gl gs gn sl ss bo ot so sq go mo nt fr tw tx gr ge g1 g2 g3 sv lf se cp sn lo hi hB h
    have i10 : i < 10 := by omega
    have hT := h.2.2.2.2.2.2.2.2.1
    have e0 := ra_le0 hT i10
    have bb := ra_bit (wt i) (k := k) (by omega)
    by_cases s0 : st i = 0
    · obtain ⟨u', v', hR, hX, hY⟩ := ih (i + 1) B _ _ _ _ _ _ _ mk vl cl _ _ wt wd _ _ _ du oft bg av _ _ _ _ _ _ _ _ _ _ _ _ _ _ _ _ _ _ _ _ _ _ _ _ _ _ _ _ _ _ _ _ cp _ _ (by omega) (by omega) h
      refine ⟨u', v', ra_RR_mono hR (by omega), fun post hp => ?_, fun post hp => ?_⟩
      · have w := hX post hp
        rw [wX_tellWatchers_2]
        simp (disch := omega) only [s0, not_true, not_false_iff, true_implies, false_implies, implies_true, true_and, and_true, forall_eq, eq_self, ra_i, ra_c, ra_m3, ra_m4, ra_m16, ra_4m, ra_14m, ra_16m, nI_add, nI_1, lN_1, ra_p2, ra_2p, ra_n0, ra_p0, ra_q0, ra_q1, ra_q2, ra_q3, ra_n3, ra_n4, ra_n10, ra_n14, ra_n16, ra_n30, ra_n140, ra_y3, ra_y4, ra_y10, ra_y14, ra_y16, ra_y30, ra_y140]
        exact w
      · have w := hY post hp
        have le : st i ≤ 0 := by rw [e0]; exact s0
        rw [wY_revive_144]
        simp (disch := omega) only [le, not_true, not_false_iff, true_implies, false_implies, implies_true, true_and, and_true, forall_eq, eq_self, ra_i, ra_c, ra_m3, ra_m4, ra_m16, ra_4m, ra_14m, ra_16m, nI_add, nI_1, lN_1, ra_p2, ra_2p, ra_n0, ra_p0, ra_q0, ra_q1, ra_q2, ra_q3, ra_n3, ra_n4, ra_n10, ra_n14, ra_n16, ra_n30, ra_n140, ra_y3, ra_y4, ra_y10, ra_y14, ra_y16, ra_y30, ra_y140]
        exact w
    · by_cases b1 : bt (wt i) k = true
      · rw [b1, if_pos rfl] at bb
        obtain ⟨u1, v1, hR1, hX1, hY1⟩ := ra_notify (s := i) (k := 11 + k) (mk := mk) (vl := vl) (cl := cl) (wt := wt) (wd := wd) (du := du) (oft := oft) (bg := bg) (av := av) (cp := cp) h i10 s0 (by omega) (fun z => absurd z (by omega))
        obtain ⟨c', m', n', st', pr', bs', tk', mk', vl', cl', rs', al', wt', wd', tt', sb', pa', du', oft', bg', av', ep', pt', nb', lg', lt', lv', gk', gt', gf', gl', gs', gn', sl', ss', bo', ot', so', sq', go', mo', nt', fr', tw', tx', gr', ge', g1', g2', g3', sv', lf', se', cp', sn', lo', rfl, rfl, h1⟩ := hR1
        obtain ⟨u', v', hR, hX, hY⟩ := ih (i + 1) (B + 1) _ _ _ _ _ _ _ mk' vl' cl' _ _ wt' wd' _ _ _ du' oft' bg' av' _ _ _ _ _ _ _ _ _ _ _ _ _ _ _ _ _ _ _ _ _ _ _ _ _ _ _ _ _ _ _ _ cp' _ _ (by omega) (by omega) h1
        refine ⟨u', v', ra_RR_mono hR (by omega), fun post hp => ?_, fun post hp => ?_⟩
        · have w := hX post hp
          rw [wX_tellWatchers_2]
          simp (disch := omega) only [s0, bb, ra_11p, not_true, not_false_iff, true_implies, false_implies, implies_true, true_and, and_true, forall_eq, eq_self, ra_i, ra_c, ra_m3, ra_m4, ra_m16, ra_4m, ra_14m, ra_16m, nI_add, nI_1, lN_1, ra_p2, ra_2p, ra_n0, ra_p0, ra_q0, ra_q1, ra_q2, ra_q3, ra_n3, ra_n4, ra_n10, ra_n14, ra_n16, ra_n30, ra_n140, ra_y3, ra_y4, ra_y10, ra_y14, ra_y16, ra_y30, ra_y140]
          refine hX1 _ ?_
          simp (disch := omega) only [not_true, not_false_iff, true_implies, false_implies, implies_true, true_and, and_true, forall_eq, eq_self, ra_i, ra_c, ra_m3, ra_m4, ra_m16, ra_4m, ra_14m, ra_16m, nI_add, nI_1, lN_1, ra_p2, ra_2p, ra_n0, ra_p0, ra_q0, ra_q1, ra_q2, ra_q3, ra_n3, ra_n4, ra_n10, ra_n14, ra_n16, ra_n30, ra_n140, ra_y3, ra_y4, ra_y10, ra_y14, ra_y16, ra_y30, ra_y140]
          exact w
        · have w := hY post hp
          rw [wY_revive_144]
          simp (disch := omega) only [e0, s0, bb, ra_11p, not_true, not_false_iff, true_implies, false_implies, implies_true, true_and, and_true, forall_eq, eq_self, ra_i, ra_c, ra_m3, ra_m4, ra_m16, ra_4m, ra_14m, ra_16m, nI_add, nI_1, lN_1, ra_p2, ra_2p, ra_n0, ra_p0, ra_q0, ra_q1, ra_q2, ra_q3, ra_n3, ra_n4, ra_n10, ra_n14, ra_n16, ra_n30, ra_n140, ra_y3, ra_y4, ra_y10, ra_y14, ra_y16, ra_y30, ra_y140]
          refine hY1 _ ?_
          simp (disch := omega) only [not_true, not_false_iff, true_implies, false_implies, implies_true, true_and, and_true, forall_eq, eq_self, ra_i, ra_c, ra_m3, ra_m4, ra_m16, ra_4m, ra_14m, ra_16m, nI_add, nI_1, lN_1, ra_p2, ra_2p, ra_n0, ra_p0, ra_q0, ra_q1, ra_q2, ra_q3, ra_n3, ra_n4, ra_n10, ra_n14, ra_n16, ra_n30, ra_n140, ra_y3, ra_y4, ra_y10, ra_y14, ra_y16, ra_y30, ra_y140]
          exact w
      · rw [if_neg b1] at bb
        have z01 : ¬ (0 : Int32) = 1 := by decide
        obtain ⟨u', v', hR, hX, hY⟩ := ih (i + 1) B _ _ _ _ _ _ _ mk vl cl _ _ wt wd _ _ _ du oft bg av _ _ _ _ _ _ _ _ _ _ _ _ _ _ _ _ _ _ _ _ _ _ _ _ _ _ _ _ _ _ _ _ cp _ _ (by omega) (by omega) h
        refine ⟨u', v', ra_RR_mono hR (by omega), fun post hp => ?_, fun post hp => ?_⟩
        · have w := hX post hp
          rw [wX_tellWatchers_2]
          simp (disch := omega) only [s0, bb, not_true, not_false_iff, true_implies, false_implies, implies_true, true_and, and_true, forall_eq, eq_self, ra_i, ra_c, ra_m3, ra_m4, ra_m16, ra_4m, ra_14m, ra_16m, nI_add, nI_1, lN_1, ra_p2, ra_2p, ra_n0, ra_p0, ra_q0, ra_q1, ra_q2, ra_q3, ra_n3, ra_n4, ra_n10, ra_n14, ra_n16, ra_n30, ra_n140, ra_y3, ra_y4, ra_y10, ra_y14, ra_y16, ra_y30, ra_y140]
          exact w
        · have w := hY post hp
          rw [wY_revive_144]
          simp (disch := omega) only [e0, s0, bb, z01, not_true, not_false_iff, true_implies, false_implies, implies_true, true_and, and_true, forall_eq, eq_self, ra_i, ra_c, ra_m3, ra_m4, ra_m16, ra_4m, ra_14m, ra_16m, nI_add, nI_1, lN_1, ra_p2, ra_2p, ra_n0, ra_p0, ra_q0, ra_q1, ra_q2, ra_q3, ra_n3, ra_n4, ra_n10, ra_n14, ra_n16, ra_n30, ra_n140, ra_y3, ra_y4, ra_y10, ra_y14, ra_y16, ra_y30, ra_y140]
          exact w
end
end
section
/-! one service's turn, a tick, ticks -/
section
variable {B c m n : Nat} {st pr bs tk mk vl cl rs al wt wd tt sb pa du oft bg av ep pt nb lg lt lv gk gt gf gl gs gn sl ss bo ot so sq go mo nt fr tw tx gr ge g1 g2 g3 sv lf se cp : Nat → Int32} {sn lo : Nat → Int64}
theorem ra_q7 : ((1 : Int32) = 2) = False := by decide
theorem ra_x0 (x : Int32) : x + 0 = x := Int32.add_zero x
theorem ra_free_both (hT : ra_T st) : ((∀ post : Int32 → Prop, post (-1) → wpX_freeSlot post (lN c, ep, st, pt, bs, pr, tk, mk, rs, vl, cl, nb, al, wt, lg, wd, sn, lo, lt, lv, gk, gt, gf, gl, gs, gn, sl, ss, sb, pa, du, oft, bg, av, tt)) ∧ (∀ post : Int32 → Prop, post (-1) → wpY_free post (nI n, nI m, st, bo, bs, pr, tk, mk, ot, vl, rs, al, wt, so, sq, go, mo, cl, wd, nt, fr, tw, tx, gr, ge, g1, g2, g3, sv, sb, lf, pa, du, av, bg, oft, se, tt, cp))) ∨
    ∃ s, s < 10 ∧ st s = 0 ∧ (∀ post : Int32 → Prop, post (nI s) → wpX_freeSlot post (lN c, ep, st, pt, bs, pr, tk, mk, rs, vl, cl, nb, al, wt, lg, wd, sn, lo, lt, lv, gk, gt, gf, gl, gs, gn, sl, ss, sb, pa, du, oft, bg, av, tt)) ∧ (∀ post : Int32 → Prop, post (nI s) → wpY_free post (nI n, nI m, st, bo, bs, pr, tk, mk, ot, vl, rs, al, wt, so, sq, go, mo, cl, wd, nt, fr, tw, tx, gr, ge, g1, g2, g3, sv, sb, lf, pa, du, av, bg, oft, se, tt, cp)) := by
  rcases ra_first (fun s => st s = 0) 10 with h | ⟨s, hs, h0, hn⟩
  · exact Or.inl ⟨fun post hp => xl_free_n h hp, fun post hp => yl_free_n h hp⟩
  · exact Or.inr ⟨s, hs, h0, fun post hp => xl_free_s hs h0 hn hp, fun post hp => yl_free_s hs h0 hn hp⟩
theorem ra_revive {k : Nat} (hk : k < 3) (hB : B + 20 ≤ 2 ^ 26) (h : ra_R B c m n st pr tk rs al tt pa bs sb ep pt nb lg sn lo lt lv gk gt gf gl gs gn sl ss bo ot so sq go mo nt fr tw tx gr ge g1 g2 g3 sv lf se) : ∃ (b : Int32) (u' : SX) (v' : SY), ra_RR (B + 11) u' v' ∧ (∀ (post : Int32 → SX → Prop) (q : Nat) (x : Int32), xa_38 post q (x + b) (nI (k + 1)) u' → wX_oneTick_38 post (q + 1) x (nI k) (lN c) ep st pt bs pr tk mk rs vl cl nb al wt lg wd sn lo lt lv gk gt gf gl gs gn sl ss sb pa du oft bg av tt) ∧ (∀ (post : Int32 → SY → Prop) (q : Nat) (x : Int32), ya_95 post q (x + b) (nI (k + 1)) v' → wY_tickOnce_95 post (q + 1) x (nI k) (nI n) (nI m) st bo bs pr tk mk ot vl rs al wt so sq go mo cl wd nt fr tw tx gr ge g1 g2 g3 sv sb lf pa du av bg oft se tt cp) := by
  have hR := h
  obtain ⟨hE, hO, hW, hD, hN, hL, hG, hS, hT, hI, hP⟩ := h
  rcases hS.1 k hk with ⟨v0, l0⟩ | ⟨l0, ⟨lf0, b, hb3, hsb⟩, ⟨p, hp1, hp8, hpa⟩, ⟨v1, s, hs, e1, hl, e2⟩ | ⟨v2, e1, e2⟩⟩
  · -- none
    have n1 : ¬ sv k = 1 := by rw [v0]; decide
    have n2 : ¬ sv k = 2 := by rw [v0]; decide
    refine ⟨0, _, _, ra_RR_mono (ra_in (mk := mk) (vl := vl) (cl := cl) (wt := wt) (wd := wd) (du := du) (oft := oft) (bg := bg) (av := av) (cp := cp) hR) (by omega), fun post q x hp => ?_, fun post q x hp => ?_⟩
    · rw [ra_x0] at hp
      rw [wX_oneTick_38]
      simp (disch := omega) only [wpX_stepService, l0, not_true, not_false_iff, true_implies, false_implies, implies_true, true_and, and_true, forall_eq, eq_self, ra_i, ra_c, ra_m3, ra_m4, ra_m16, ra_4m, ra_14m, ra_16m, nI_add, nI_1, lN_1, ra_p2, ra_2p, ra_n0, ra_p0, ra_q0, ra_q1, ra_q2, ra_q3, ra_n3, ra_n4, ra_n10, ra_n14, ra_n16, ra_n30, ra_n140, ra_y3, ra_y4, ra_y10, ra_y14, ra_y16, ra_y30, ra_y140]
      exact hp
    · rw [wY_tickOnce_95]
      simp (disch := omega) only [wpY_revive, wY_revive_45, n1, not_true, not_false_iff, true_implies, false_implies, implies_true, true_and, and_true, forall_eq, eq_self, ra_i, ra_c, ra_m3, ra_m4, ra_m16, ra_4m, ra_14m, ra_16m, nI_add, nI_1, lN_1, ra_p2, ra_2p, ra_n0, ra_p0, ra_q0, ra_q1, ra_q2, ra_q3, ra_n3, ra_n4, ra_n10, ra_n14, ra_n16, ra_n30, ra_n140, ra_y3, ra_y4, ra_y10, ra_y14, ra_y16, ra_y30, ra_y140]
      have z : ∀ r : Int32, vp_in (nI k) 3 ∧ (sv k = 2 → False) := fun _ => ⟨vp_in_nI hk (by decide), fun y => n2 y⟩
      rcases ra_free_both (c := c) (m := m) (n := n) (ep := ep) (pt := pt) (bs := bs) (pr := pr) (tk := tk) (mk := mk) (rs := rs) (vl := vl) (cl := cl) (nb := nb) (al := al) (wt := wt) (lg := lg) (wd := wd) (sn := sn) (lo := lo) (lt := lt) (lv := lv) (gk := gk) (gt := gt) (gf := gf) (gl := gl) (gs := gs) (gn := gn) (sl := sl) (ss := ss) (sb := sb) (pa := pa) (du := du) (oft := oft) (bg := bg) (av := av) (tt := tt) (bo := bo) (ot := ot) (so := so) (sq := sq) (go := go) (mo := mo) (nt := nt) (fr := fr) (tw := tw) (tx := tx) (gr := gr) (ge := ge) (g1 := g1) (g2 := g2) (g3 := g3) (sv := sv) (lf := lf) (se := se) (cp := cp) hT with ⟨-, fY⟩ | ⟨s, hs, h0, -, fY⟩
      · refine fY _ ?_
        simp (disch := omega) only [n2, not_true, not_false_iff, true_implies, false_implies, implies_true, true_and, and_true, forall_eq, eq_self, ra_i, ra_c, ra_m3, ra_m4, ra_m16, ra_4m, ra_14m, ra_16m, nI_add, nI_1, lN_1, ra_p2, ra_2p, ra_n0, ra_p0, ra_q0, ra_q1, ra_q2, ra_q3, ra_n3, ra_n4, ra_n10, ra_n14, ra_n16, ra_n30, ra_n140, ra_y3, ra_y4, ra_y10, ra_y14, ra_y16, ra_y30, ra_y140]
        exact hp
      · refine fY _ ?_
        simp (disch := omega) only [n2, not_true, not_false_iff, true_implies, false_implies, implies_true, true_and, and_true, forall_eq, eq_self, ra_i, ra_c, ra_m3, ra_m4, ra_m16, ra_4m, ra_14m, ra_16m, nI_add, nI_1, lN_1, ra_p2, ra_2p, ra_n0, ra_p0, ra_q0, ra_q1, ra_q2, ra_q3, ra_n3, ra_n4, ra_n10, ra_n14, ra_n16, ra_n30, ra_n140, ra_y3, ra_y4, ra_y10, ra_y14, ra_y16, ra_y30, ra_y140]
        exact hp
  · -- running
    have n2 : ¬ sv k = 2 := by rw [v1]; decide
    by_cases silent : tt 0 - av k < sl k
    · have silY : tt 0 - av k < lf k := by rw [← lf0]; exact silent
      refine ⟨0, _, _, ra_RR_mono (ra_in (mk := mk) (vl := vl) (cl := cl) (wt := wt) (wd := wd) (du := du) (oft := oft) (bg := bg) (av := av) (cp := cp) hR) (by omega), fun post q x hp => ?_, fun post q x hp => ?_⟩
      · rw [ra_x0] at hp
        rw [wX_oneTick_38]
        simp (disch := omega) only [wpX_stepService, l0, e1, silent, not_true, not_false_iff, true_implies, false_implies, implies_true, true_and, and_true, forall_eq, eq_self, ra_i, ra_c, ra_m3, ra_m4, ra_m16, ra_4m, ra_14m, ra_16m, nI_add, nI_1, lN_1, ra_p2, ra_2p, ra_n0, ra_p0, ra_q0, ra_q1, ra_q2, ra_q3, ra_n3, ra_n4, ra_n10, ra_n14, ra_n16, ra_n30, ra_n140, ra_y3, ra_y4, ra_y10, ra_y14, ra_y16, ra_y30, ra_y140]
        exact hp
      · rw [wY_tickOnce_95]
        simp (disch := omega) only [wpY_revive, wY_revive_45, v1, silY, not_true, not_false_iff, true_implies, false_implies, implies_true, true_and, and_true, forall_eq, eq_self, ra_i, ra_c, ra_m3, ra_m4, ra_m16, ra_4m, ra_14m, ra_16m, nI_add, nI_1, lN_1, ra_p2, ra_2p, ra_n0, ra_p0, ra_q0, ra_q1, ra_q2, ra_q3, ra_n3, ra_n4, ra_n10, ra_n14, ra_n16, ra_n30, ra_n140, ra_y3, ra_y4, ra_y10, ra_y14, ra_y16, ra_y30, ra_y140]
        rcases ra_free_both (c := c) (m := m) (n := n) (st := st) (pr := pr) (bs := bs) (tk := tk) (mk := mk) (vl := vl) (cl := cl) (rs := rs) (al := al) (wt := wt) (wd := wd) (tt := tt) (sb := sb) (pa := pa) (du := du) (oft := oft) (bg := bg) (av := av) (ep := ep) (pt := pt) (nb := nb) (lg := lg) (lt := lt) (lv := lv) (gk := gk) (gt := gt) (gf := gf) (gl := gl) (gs := gs) (gn := gn) (sl := sl) (ss := ss) (bo := bo) (ot := ot) (so := so) (sq := sq) (go := go) (mo := mo) (nt := nt) (fr := fr) (tw := tw) (tx := tx) (gr := gr) (ge := ge) (g1 := g1) (g2 := g2) (g3 := g3) (sv := sv) (lf := lf) (se := se) (cp := cp) (sn := sn) (lo := lo) hT with ⟨-, fY⟩ | ⟨s, hs, h0, -, fY⟩
        · refine fY _ ?_
          simp (disch := omega) only [ra_q7, not_true, not_false_iff, true_implies, false_implies, implies_true, true_and, and_true, forall_eq, eq_self, ra_i, ra_c, ra_m3, ra_m4, ra_m16, ra_4m, ra_14m, ra_16m, nI_add, nI_1, lN_1, ra_p2, ra_2p, ra_n0, ra_p0, ra_q0, ra_q1, ra_q2, ra_q3, ra_n3, ra_n4, ra_n10, ra_n14, ra_n16, ra_n30, ra_n140, ra_y3, ra_y4, ra_y10, ra_y14, ra_y16, ra_y30, ra_y140]
          exact hp
        · refine fY _ ?_
          simp (disch := omega) only [ra_q7, not_true, not_false_iff, true_implies, false_implies, implies_true, true_and, and_true, forall_eq, eq_self, ra_i, ra_c, ra_m3, ra_m4, ra_m16, ra_4m, ra_14m, ra_16m, nI_add, nI_1, lN_1, ra_p2, ra_2p, ra_n0, ra_p0, ra_q0, ra_q1, ra_q2, ra_q3, ra_n3, ra_n4, ra_n10, ra_n14, ra_n16, ra_n30, ra_n140, ra_y3, ra_y4, ra_y10, ra_y14, ra_y16, ra_y30, ra_y140]
          exact hp
    · have silY : ¬ tt 0 - av k < lf k := by rw [← lf0]; exact silent
      have ea : se k &&& 15 = nI s := by rw [e2]; exact ra_E_and (by omega) hE hs
      obtain ⟨c', m', n', st', pt', rs', nb', mo', nt', fr', tw', tx', gr', pa', ss', sv', se', du', tt', sn', lo', hR', hdu, hX, hY⟩ := ra_ends (mk := mk) (vl := vl) (cl := cl) (wt := wt) (wd := wd) (du := du) (oft := oft) (bg := bg) (av := av) (cp := cp) hB hR hs hl
      have hdu' := hdu k hk v1 e2
      refine ⟨0, _, _, ra_in (mk := mk) (vl := vl) (cl := cl) (wt := wt) (wd := wd) (du := du') (oft := oft) (bg := bg) (av := av) (cp := cp) hR', fun post q x hp => ?_, fun post q x hp => ?_⟩
      · rw [ra_x0] at hp
        rw [wX_oneTick_38]
        simp (disch := omega) only [wpX_stepService, l0, e1, silent, not_true, not_false_iff, true_implies, false_implies, implies_true, true_and, and_true, forall_eq, eq_self, ra_i, ra_c, ra_m3, ra_m4, ra_m16, ra_4m, ra_14m, ra_16m, nI_add, nI_1, lN_1, ra_p2, ra_2p, ra_n0, ra_p0, ra_q0, ra_q1, ra_q2, ra_q3, ra_n3, ra_n4, ra_n10, ra_n14, ra_n16, ra_n30, ra_n140, ra_y3, ra_y4, ra_y10, ra_y14, ra_y16, ra_y30, ra_y140]
        refine hX _ ?_
        simp (disch := omega) only [not_true, not_false_iff, true_implies, false_implies, implies_true, true_and, and_true, forall_eq, eq_self, ra_i, ra_c, ra_m3, ra_m4, ra_m16, ra_4m, ra_14m, ra_16m, nI_add, nI_1, lN_1, ra_p2, ra_2p, ra_n0, ra_p0, ra_q0, ra_q1, ra_q2, ra_q3, ra_n3, ra_n4, ra_n10, ra_n14, ra_n16, ra_n30, ra_n140, ra_y3, ra_y4, ra_y10, ra_y14, ra_y16, ra_y30, ra_y140]
        exact hp
      · rw [wY_tickOnce_95]
        simp (disch := omega) only [wpY_revive, v1, silY, ea, not_true, not_false_iff, true_implies, false_implies, implies_true, true_and, and_true, forall_eq, eq_self, ra_i, ra_c, ra_m3, ra_m4, ra_m16, ra_4m, ra_14m, ra_16m, nI_add, nI_1, lN_1, ra_p2, ra_2p, ra_n0, ra_p0, ra_q0, ra_q1, ra_q2, ra_q3, ra_n3, ra_n4, ra_n10, ra_n14, ra_n16, ra_n30, ra_n140, ra_y3, ra_y4, ra_y10, ra_y14, ra_y16, ra_y30, ra_y140]
        refine hY _ ?_
        simp (disch := omega) only [wY_revive_45, not_true, not_false_iff, true_implies, false_implies, implies_true, true_and, and_true, forall_eq, eq_self, ra_i, ra_c, ra_m3, ra_m4, ra_m16, ra_4m, ra_14m, ra_16m, nI_add, nI_1, lN_1, ra_p2, ra_2p, ra_n0, ra_p0, ra_q0, ra_q1, ra_q2, ra_q3, ra_n3, ra_n4, ra_n10, ra_n14, ra_n16, ra_n30, ra_n140, ra_y3, ra_y4, ra_y10, ra_y14, ra_y16, ra_y30, ra_y140]
        rcases ra_free_both (c := c') (m := m') (n := n') (st := st') (pr := pr) (bs := bs) (tk := tk) (mk := mk) (vl := vl) (cl := cl) (rs := rs') (al := al) (wt := wt) (wd := wd) (tt := tt') (sb := sb) (pa := pa') (du := du') (oft := oft) (bg := bg) (av := av) (ep := upd ep s (ep s + 16)) (pt := pt') (nb := nb') (lg := lg) (lt := lt) (lv := lv) (gk := gk) (gt := gt) (gf := gf) (gl := gl) (gs := gs) (gn := gn) (sl := sl) (ss := ss') (bo := bo) (ot := ot) (so := so) (sq := sq) (go := go) (mo := mo') (nt := nt') (fr := fr') (tw := tw') (tx := tx') (gr := gr') (ge := ge) (g1 := g1) (g2 := g2) (g3 := g3) (sv := sv') (lf := lf) (se := se') (cp := cp) (sn := sn') (lo := lo') hR'.2.2.2.2.2.2.2.2.1 with ⟨-, fY⟩ | ⟨s, hs, h0, -, fY⟩
        · refine fY _ ?_
          simp (disch := omega) only [hdu', not_true, not_false_iff, true_implies, false_implies, implies_true, true_and, and_true, forall_eq, eq_self, ra_i, ra_c, ra_m3, ra_m4, ra_m16, ra_4m, ra_14m, ra_16m, nI_add, nI_1, lN_1, ra_p2, ra_2p, ra_n0, ra_p0, ra_q0, ra_q1, ra_q2, ra_q3, ra_n3, ra_n4, ra_n10, ra_n14, ra_n16, ra_n30, ra_n140, ra_y3, ra_y4, ra_y10, ra_y14, ra_y16, ra_y30, ra_y140]
          exact br_c (fun _ => hp) (fun _ => hp)
        · refine fY _ ?_
          simp (disch := omega) only [hdu', not_true, not_false_iff, true_implies, false_implies, implies_true, true_and, and_true, forall_eq, eq_self, ra_i, ra_c, ra_m3, ra_m4, ra_m16, ra_4m, ra_14m, ra_16m, nI_add, nI_1, lN_1, ra_p2, ra_2p, ra_n0, ra_p0, ra_q0, ra_q1, ra_q2, ra_q3, ra_n3, ra_n4, ra_n10, ra_n14, ra_n16, ra_n30, ra_n140, ra_y3, ra_y4, ra_y10, ra_y14, ra_y16, ra_y30, ra_y140]
          exact br_c (fun _ => hp) (fun _ => hp)
  · -- down
    have n1 : ¬ sv k = 1 := by rw [v2]; decide
    rcases ra_free_both (c := c) (m := m) (n := n) (st := st) (pr := pr) (bs := bs) (tk := tk) (mk := mk) (vl := vl) (cl := cl) (rs := rs) (al := al) (wt := wt) (wd := wd) (tt := tt) (sb := sb) (pa := pa) (du := du) (oft := oft) (bg := bg) (av := av) (ep := ep) (pt := pt) (nb := nb) (lg := lg) (lt := lt) (lv := lv) (gk := gk) (gt := gt) (gf := gf) (gl := gl) (gs := gs) (gn := gn) (sl := sl) (ss := ss) (bo := bo) (ot := ot) (so := so) (sq := sq) (go := go) (mo := mo) (nt := nt) (fr := fr) (tw := tw) (tx := tx) (gr := gr) (ge := ge) (g1 := g1) (g2 := g2) (g3 := g3) (sv := sv) (lf := lf) (se := se) (cp := cp) (sn := sn) (lo := lo) hT with ⟨fX, fY⟩ | ⟨s, hs, h0, fX, fY⟩
    · refine ⟨0, _, _, ra_RR_mono (ra_in (mk := mk) (vl := vl) (cl := cl) (wt := wt) (wd := wd) (du := du) (oft := oft) (bg := bg) (av := av) (cp := cp) hR) (by omega), fun post q x hp => ?_, fun post q x hp => ?_⟩
      · rw [ra_x0] at hp
        rw [wX_oneTick_38]
        simp (disch := omega) only [wpX_stepService, l0, e1, not_true, not_false_iff, true_implies, false_implies, implies_true, true_and, and_true, forall_eq, eq_self, ra_i, ra_c, ra_m3, ra_m4, ra_m16, ra_4m, ra_14m, ra_16m, nI_add, nI_1, lN_1, ra_p2, ra_2p, ra_n0, ra_p0, ra_q0, ra_q1, ra_q2, ra_q3, ra_n3, ra_n4, ra_n10, ra_n14, ra_n16, ra_n30, ra_n140, ra_y3, ra_y4, ra_y10, ra_y14, ra_y16, ra_y30, ra_y140]
        refine fX _ ?_
        simp (disch := omega) only [not_true, not_false_iff, true_implies, false_implies, implies_true, true_and, and_true, forall_eq, eq_self, ra_i, ra_c, ra_m3, ra_m4, ra_m16, ra_4m, ra_14m, ra_16m, nI_add, nI_1, lN_1, ra_p2, ra_2p, ra_n0, ra_p0, ra_q0, ra_q1, ra_q2, ra_q3, ra_n3, ra_n4, ra_n10, ra_n14, ra_n16, ra_n30, ra_n140, ra_y3, ra_y4, ra_y10, ra_y14, ra_y16, ra_y30, ra_y140]
        exact br_c (fun _ => hp) (fun _ => hp)
      · rw [wY_tickOnce_95]
        simp (disch := omega) only [wpY_revive, wY_revive_45, n1, not_true, not_false_iff, true_implies, false_implies, implies_true, true_and, and_true, forall_eq, eq_self, ra_i, ra_c, ra_m3, ra_m4, ra_m16, ra_4m, ra_14m, ra_16m, nI_add, nI_1, lN_1, ra_p2, ra_2p, ra_n0, ra_p0, ra_q0, ra_q1, ra_q2, ra_q3, ra_n3, ra_n4, ra_n10, ra_n14, ra_n16, ra_n30, ra_n140, ra_y3, ra_y4, ra_y10, ra_y14, ra_y16, ra_y30, ra_y140]
        refine fY _ ?_
        simp (disch := omega) only [v2, not_true, not_false_iff, true_implies, false_implies, implies_true, true_and, and_true, forall_eq, eq_self, ra_i, ra_c, ra_m3, ra_m4, ra_m16, ra_4m, ra_14m, ra_16m, nI_add, nI_1, lN_1, ra_p2, ra_2p, ra_n0, ra_p0, ra_q0, ra_q1, ra_q2, ra_q3, ra_n3, ra_n4, ra_n10, ra_n14, ra_n16, ra_n30, ra_n140, ra_y3, ra_y4, ra_y10, ra_y14, ra_y16, ra_y30, ra_y140]
        exact br_c (fun _ => hp) (fun _ => hp)
    · by_cases due : tt 0 < du k
      · refine ⟨0, _, _, ra_RR_mono (ra_in (mk := mk) (vl := vl) (cl := cl) (wt := wt) (wd := wd) (du := du) (oft := oft) (bg := bg) (av := av) (cp := cp) hR) (by omega), fun post q x hp => ?_, fun post q x hp => ?_⟩
        · rw [ra_x0] at hp
          rw [wX_oneTick_38]
          simp (disch := omega) only [wpX_stepService, l0, e1, not_true, not_false_iff, true_implies, false_implies, implies_true, true_and, and_true, forall_eq, eq_self, ra_i, ra_c, ra_m3, ra_m4, ra_m16, ra_4m, ra_14m, ra_16m, nI_add, nI_1, lN_1, ra_p2, ra_2p, ra_n0, ra_p0, ra_q0, ra_q1, ra_q2, ra_q3, ra_n3, ra_n4, ra_n10, ra_n14, ra_n16, ra_n30, ra_n140, ra_y3, ra_y4, ra_y10, ra_y14, ra_y16, ra_y30, ra_y140]
          refine fX _ ?_
          simp (disch := omega) only [due, not_true, not_false_iff, true_implies, false_implies, implies_true, true_and, and_true, forall_eq, eq_self, ra_i, ra_c, ra_m3, ra_m4, ra_m16, ra_4m, ra_14m, ra_16m, nI_add, nI_1, lN_1, ra_p2, ra_2p, ra_n0, ra_p0, ra_q0, ra_q1, ra_q2, ra_q3, ra_n3, ra_n4, ra_n10, ra_n14, ra_n16, ra_n30, ra_n140, ra_y3, ra_y4, ra_y10, ra_y14, ra_y16, ra_y30, ra_y140]
          exact hp
        · rw [wY_tickOnce_95]
          simp (disch := omega) only [wpY_revive, wY_revive_45, n1, not_true, not_false_iff, true_implies, false_implies, implies_true, true_and, and_true, forall_eq, eq_self, ra_i, ra_c, ra_m3, ra_m4, ra_m16, ra_4m, ra_14m, ra_16m, nI_add, nI_1, lN_1, ra_p2, ra_2p, ra_n0, ra_p0, ra_q0, ra_q1, ra_q2, ra_q3, ra_n3, ra_n4, ra_n10, ra_n14, ra_n16, ra_n30, ra_n140, ra_y3, ra_y4, ra_y10, ra_y14, ra_y16, ra_y30, ra_y140]
          refine fY _ ?_
          simp (disch := omega) only [v2, due, not_true, not_false_iff, true_implies, false_implies, implies_true, true_and, and_true, forall_eq, eq_self, ra_i, ra_c, ra_m3, ra_m4, ra_m16, ra_4m, ra_14m, ra_16m, nI_add, nI_1, lN_1, ra_p2, ra_2p, ra_n0, ra_p0, ra_q0, ra_q1, ra_q2, ra_q3, ra_n3, ra_n4, ra_n10, ra_n14, ra_n16, ra_n30, ra_n140, ra_y3, ra_y4, ra_y10, ra_y14, ra_y16, ra_y30, ra_y140]
          exact hp
      · have hb := ra_R_begS (s := s) (p := b) (k := k) (v := tt 1 + 1) (lg' := ra_z lg (3 * s) 3) (gk' := ra_z gk (4 * s) 4) hR hs h0 hb3 (fun _ _ => rfl) (fun _ _ => rfl) hk v2
        have ye : 16 * (upd bo s (bo s + 1) s - 1) + nI s = ep s := ra_E_y hb.1 hs (by rw [pk_us]; decide)
        obtain ⟨u', v', hR', hX, hY⟩ := ra_watchers hk 10 0 (B + 1) _ _ _ _ _ _ _ (upd mk s 1023) vl cl _ _ (upd wt s 0) (ra_z wd (16 * s) 16) _ _ _ du (upd oft k (oft k + 1)) (upd bg k (tt 0)) (upd av k (tt 0)) _ _ _ _ _ _ _ _ _ _ _ _ _ _ _ _ _ _ _ _ _ _ _ _ _ _ _ _ _ _ _ _ cp _ _ rfl (by omega) hb
        have t0 : upd tt 1 (tt 1 + 1) 0 = tt 0 := rfl
        refine ⟨1, u', v', ra_RR_mono hR' (by omega), fun post q x hp => ?_, fun post q x hp => ?_⟩
        · rw [wX_oneTick_38]
          simp (disch := omega) only [wpX_stepService, l0, e1, not_true, not_false_iff, true_implies, false_implies, implies_true, true_and, and_true, forall_eq, eq_self, ra_i, ra_c, ra_m3, ra_m4, ra_m16, ra_4m, ra_14m, ra_16m, nI_add, nI_1, lN_1, ra_p2, ra_2p, ra_n0, ra_p0, ra_q0, ra_q1, ra_q2, ra_q3, ra_n3, ra_n4, ra_n10, ra_n14, ra_n16, ra_n30, ra_n140, ra_y3, ra_y4, ra_y10, ra_y14, ra_y16, ra_y30, ra_y140]
          refine fX _ ?_
          simp (disch := omega) only [due, hsb, not_true, not_false_iff, true_implies, false_implies, implies_true, true_and, and_true, forall_eq, eq_self, ra_i, ra_c, ra_m3, ra_m4, ra_m16, ra_4m, ra_14m, ra_16m, nI_add, nI_1, lN_1, ra_p2, ra_2p, ra_n0, ra_p0, ra_q0, ra_q1, ra_q2, ra_q3, ra_n3, ra_n4, ra_n10, ra_n14, ra_n16, ra_n30, ra_n140, ra_y3, ra_y4, ra_y10, ra_y14, ra_y16, ra_y30, ra_y140]
          refine xl_beginProcess hs ?_
          simp (disch := omega) only [not_true, not_false_iff, true_implies, false_implies, implies_true, true_and, and_true, forall_eq, eq_self, ra_i, ra_c, ra_m3, ra_m4, ra_m16, ra_4m, ra_14m, ra_16m, nI_add, nI_1, lN_1, ra_p2, ra_2p, ra_n0, ra_p0, ra_q0, ra_q1, ra_q2, ra_q3, ra_n3, ra_n4, ra_n10, ra_n14, ra_n16, ra_n30, ra_n140, ra_y3, ra_y4, ra_y10, ra_y14, ra_y16, ra_y30, ra_y140]
          refine ⟨11, hX _ ?_⟩
          obtain ⟨c', m', n', st', pr', bs', tk', mk', vl', cl', rs', al', wt', wd', tt', sb', pa', du', oft', bg', av', ep', pt', nb', lg', lt', lv', gk', gt', gf', gl', gs', gn', sl', ss', bo', ot', so', sq', go', mo', nt', fr', tw', tx', gr', ge', g1', g2', g3', sv', lf', se', cp', sn', lo', rfl, rfl, -⟩ := hR'
          exact hp
        · rw [wY_tickOnce_95]
          simp (disch := omega) only [wpY_revive, wY_revive_45, n1, not_true, not_false_iff, true_implies, false_implies, implies_true, true_and, and_true, forall_eq, eq_self, ra_i, ra_c, ra_m3, ra_m4, ra_m16, ra_4m, ra_14m, ra_16m, nI_add, nI_1, lN_1, ra_p2, ra_2p, ra_n0, ra_p0, ra_q0, ra_q1, ra_q2, ra_q3, ra_n3, ra_n4, ra_n10, ra_n14, ra_n16, ra_n30, ra_n140, ra_y3, ra_y4, ra_y10, ra_y14, ra_y16, ra_y30, ra_y140]
          refine fY _ ?_
          simp (disch := omega) only [v2, due, hsb, not_true, not_false_iff, true_implies, false_implies, implies_true, true_and, and_true, forall_eq, eq_self, ra_i, ra_c, ra_m3, ra_m4, ra_m16, ra_4m, ra_14m, ra_16m, nI_add, nI_1, lN_1, ra_p2, ra_2p, ra_n0, ra_p0, ra_q0, ra_q1, ra_q2, ra_q3, ra_n3, ra_n4, ra_n10, ra_n14, ra_n16, ra_n30, ra_n140, ra_y3, ra_y4, ra_y10, ra_y14, ra_y16, ra_y30, ra_y140]
          refine yl_begin hs ?_
          simp (disch := omega) only [ye, t0, not_true, not_false_iff, true_implies, false_implies, implies_true, true_and, and_true, forall_eq, eq_self, ra_i, ra_c, ra_m3, ra_m4, ra_m16, ra_4m, ra_14m, ra_16m, nI_add, nI_1, lN_1, ra_p2, ra_2p, ra_n0, ra_p0, ra_q0, ra_q1, ra_q2, ra_q3, ra_n3, ra_n4, ra_n10, ra_n14, ra_n16, ra_n30, ra_n140, ra_y3, ra_y4, ra_y10, ra_y14, ra_y16, ra_y30, ra_y140]
          refine ⟨11, hY _ ?_⟩
          obtain ⟨c', m', n', st', pr', bs', tk', mk', vl', cl', rs', al', wt', wd', tt', sb', pa', du', oft', bg', av', ep', pt', nb', lg', lt', lv', gk', gt', gf', gl', gs', gn', sl', ss', bo', ot', so', sq', go', mo', nt', fr', tw', tx', gr', ge', g1', g2', g3', sv', lf', se', cp', sn', lo', rfl, rfl, -⟩ := hR'
          exact hp
end
end
section
/-! a tick, ticks -/
section
variable {B c m n : Nat} {st pr bs tk mk vl cl rs al wt wd tt sb pa du oft bg av ep pt nb lg lt lv gk gt gf gl gs gn sl ss bo ot so sq go mo nt fr tw tx gr ge g1 g2 g3 sv lf se cp : Nat → Int32} {sn lo : Nat → Int64}
theorem ra_services : ∀ (d k B : Nat) (c m n : Nat) (st pr bs tk mk vl cl rs al wt wd tt sb pa du oft bg av ep pt nb lg lt lv gk gt gf gl gs gn sl ss bo ot so sq go mo nt fr tw tx gr ge g1 g2 g3 sv lf se cp : Nat → Int32) (sn lo : Nat → Int64), k + d = 3 → B + 11 * d + 20 ≤ 2 ^ 26 → ra_R B c m n st pr tk rs al tt pa bs sb ep pt nb lg sn lo lt lv gk gt gf gl gs gn sl ss bo ot so sq go mo nt fr tw tx gr ge g1 g2 g3 sv lf se → ∃ (t : Int32) (u' : SX) (v' : SY), ra_RR (B + 11 * d) u' v' ∧ (∀ (post : Int32 → SX → Prop) (x : Int32), post (x + t) u' → wX_oneTick_38 post (d + 1) x (nI k) (lN c) ep st pt bs pr tk mk rs vl cl nb al wt lg wd sn lo lt lv gk gt gf gl gs gn sl ss sb pa du oft bg av tt) ∧ (∀ (post : Int32 → SY → Prop) (x : Int32), post (x + t) v' → wY_tickOnce_95 post (d + 1) x (nI k) (nI n) (nI m) st bo bs pr tk mk ot vl rs al wt so sq go mo cl wd nt fr tw tx gr ge g1 g2 g3 sv sb lf pa du av bg oft se tt cp) := by
  intro d
  induction d with
  | zero =>
    intro k B c m n st pr bs tk mk vl cl rs al wt wd tt sb pa du oft bg av ep pt nb lg lt lv gk gt gf gl gs gn sl ss bo ot so sq go mo nt fr tw tx gr ge g1 g2 g3 sv lf se cp sn lo hk hB h
    have : k = 3 := by omega
    subst this
    refine ⟨0, _, _, ra_in (mk := mk) (vl := vl) (cl := cl) (wt := wt) (wd := wd) (du := du) (oft := oft) (bg := bg) (av := av) (cp := cp) h, fun post x hp => ?_, fun post x hp => ?_⟩
    · rw [ra_x0] at hp
      simp (disch := omega) only [wX_oneTick_38, not_true, not_false_iff, true_implies, false_implies, implies_true, true_and, and_true, forall_eq, eq_self, ra_i, ra_c, ra_m3, ra_m4, ra_m16, ra_4m, ra_14m, ra_16m, nI_add, nI_1, lN_1, ra_p2, ra_2p, ra_n0, ra_p0, ra_q0, ra_q1, ra_q2, ra_q3, ra_n3, ra_n4, ra_n10, ra_n14, ra_n16, ra_n30, ra_n140, ra_y3, ra_y4, ra_y10, ra_y14, ra_y16, ra_y30, ra_y140]
      exact hp
    · rw [ra_x0] at hp
      simp (disch := omega) only [wY_tickOnce_95, not_true, not_false_iff, true_implies, false_implies, implies_true, true_and, and_true, forall_eq, eq_self, ra_i, ra_c, ra_m3, ra_m4, ra_m16, ra_4m, ra_14m, ra_16m, nI_add, nI_1, lN_1, ra_p2, ra_2p, ra_n0, ra_p0, ra_q0, ra_q1, ra_q2, ra_q3, ra_n3, ra_n4, ra_n10, ra_n14, ra_n16, ra_n30, ra_n140, ra_y3, ra_y4, ra_y10, ra_y14, ra_y16, ra_y30, ra_y140]
      exact hp
  | succ d ih =>
    intro k B c m n st pr bs tk mk vl cl rs al wt wd tt sb pa du oft bg av ep pt nb lg lt lv gk gt gf gl gs gn sl ss bo ot so sq go mo nt fr tw tx gr ge g1 g2 g3 sv lf se cp sn lo hk hB h
    obtain ⟨b, u1, v1, hR1, hX1, hY1⟩ := ra_revive (mk := mk) (vl := vl) (cl := cl) (wt := wt) (wd := wd) (du := du) (oft := oft) (bg := bg) (av := av) (cp := cp) (show k < 3 by omega) (by omega) h
    obtain ⟨c', m', n', st', pr', bs', tk', mk', vl', cl', rs', al', wt', wd', tt', sb', pa', du', oft', bg', av', ep', pt', nb', lg', lt', lv', gk', gt', gf', gl', gs', gn', sl', ss', bo', ot', so', sq', go', mo', nt', fr', tw', tx', gr', ge', g1', g2', g3', sv', lf', se', cp', sn', lo', rfl, rfl, h1⟩ := hR1
    obtain ⟨t, u', v', hR, hX, hY⟩ := ih (k + 1) (B + 11) _ _ _ _ _ _ _ mk' vl' cl' _ _ wt' wd' _ _ _ du' oft' bg' av' _ _ _ _ _ _ _ _ _ _ _ _ _ _ _ _ _ _ _ _ _ _ _ _ _ _ _ _ _ _ _ _ cp' _ _ (by omega) (by omega) h1
    refine ⟨b + t, u', v', ra_RR_mono hR (by omega), fun post x hp => ?_, fun post x hp => ?_⟩
    · rw [← Int32.add_assoc] at hp
      exact hX1 post (d + 1) x (hX post (x + b) hp)
    · rw [← Int32.add_assoc] at hp
      exact hY1 post (d + 1) x (hY post (x + b) hp)
theorem ra_tick2 (hB : B + 100 ≤ 2 ^ 26) (h : ra_R B c m n st pr tk rs al tt pa bs sb ep pt nb lg sn lo lt lv gk gt gf gl gs gn sl ss bo ot so sq go mo nt fr tw tx gr ge g1 g2 g3 sv lf se) : ∃ (t : Int32) (u' : SX) (v' : SY), ra_RR (B + 43) u' v' ∧ (∀ post : Int32 → SX → Prop, post t u' → wX_oneTick_30 post (lN c) ep st pt bs pr tk mk rs vl cl nb al wt lg wd sn lo lt lv gk gt gf gl gs gn sl ss sb pa du oft bg av tt) ∧ (∀ post : Int32 → SY → Prop, post t v' → ∃ q, wY_tickOnce_34 post 0 q 0 (nI n) (nI m) st bo bs pr tk mk ot vl rs al wt so sq go mo cl wd nt fr tw tx gr ge g1 g2 g3 sv sb lf pa du av bg oft se tt cp) := by
  obtain ⟨u1, v1, hR1, hX1, hY1⟩ := ra_alarms 10 0 B _ _ _ _ _ _ _ mk vl cl _ _ wt wd _ _ _ du oft bg av _ _ _ _ _ _ _ _ _ _ _ _ _ _ _ _ _ _ _ _ _ _ _ _ _ _ _ _ _ _ _ _ cp _ _ rfl (by omega) h
  obtain ⟨c', m', n', st', pr', bs', tk', mk', vl', cl', rs', al', wt', wd', tt', sb', pa', du', oft', bg', av', ep', pt', nb', lg', lt', lv', gk', gt', gf', gl', gs', gn', sl', ss', bo', ot', so', sq', go', mo', nt', fr', tw', tx', gr', ge', g1', g2', g3', sv', lf', se', cp', sn', lo', rfl, rfl, h1⟩ := hR1
  obtain ⟨t, u', v', hR, hX, hY⟩ := ra_services 3 0 (B + 10) _ _ _ _ _ _ _ mk' vl' cl' _ _ wt' wd' _ _ _ du' oft' bg' av' _ _ _ _ _ _ _ _ _ _ _ _ _ _ _ _ _ _ _ _ _ _ _ _ _ _ _ _ _ _ _ _ cp' _ _ rfl (by omega) h1
  refine ⟨0 + t, u', v', ra_RR_mono hR (by omega), fun post hp => ?_, fun post hp => ?_⟩
  · simp only [wX_oneTick_30, wpX_ringAlarms]
    exact ⟨11, hX1 _ ⟨4, hX post 0 hp⟩⟩
  · exact ⟨11, hY1 post 4 (hY post 0 hp)⟩
theorem ra_oneTick (hB : B + 200 ≤ 2 ^ 26) (h : ra_R B c m n st pr tk rs al tt pa bs sb ep pt nb lg sn lo lt lv gk gt gf gl gs gn sl ss bo ot so sq go mo nt fr tw tx gr ge g1 g2 g3 sv lf se) : ∃ (t : Int32) (u' : SX) (v' : SY), ra_RR (B + 60) u' v' ∧ (∀ post : Int32 → SX → Prop, post t u' → wpX_oneTick post (lN c, ep, st, pt, bs, pr, tk, mk, rs, vl, cl, nb, al, wt, lg, wd, sn, lo, lt, lv, gk, gt, gf, gl, gs, gn, sl, ss, sb, pa, du, oft, bg, av, tt)) ∧ (∀ post : Int32 → SY → Prop, post t v' → wpY_tickOnce post (nI n, nI m, st, bo, bs, pr, tk, mk, ot, vl, rs, al, wt, so, sq, go, mo, cl, wd, nt, fr, tw, tx, gr, ge, g1, g2, g3, sv, sb, lf, pa, du, av, bg, oft, se, tt, cp)) := by
  have q8 : ¬ ((8 : Int32) = 0) := by decide
  obtain ⟨u1, v1, hR1, hX1, hY1⟩ := ra_sink (mk := mk) (vl := vl) (cl := cl) (wt := wt) (wd := wd) (du := du) (oft := oft) (bg := bg) (av := av) (cp := cp) (by omega) (ra_R_time h)
  obtain ⟨c', m', n', st', pr', bs', tk', mk', vl', cl', rs', al', wt', wd', tt', sb', pa', du', oft', bg', av', ep', pt', nb', lg', lt', lv', gk', gt', gf', gl', gs', gn', sl', ss', bo', ot', so', sq', go', mo', nt', fr', tw', tx', gr', ge', g1', g2', g3', sv', lf', se', cp', sn', lo', rfl, rfl, h1⟩ := hR1
  by_cases e : tt' 0 - tt' 0 / 8 * 8 = 0
  · obtain ⟨u2, v2, hR2, hX2, hY2⟩ := ra_rise 10 0 (B + 1 + 1) _ _ _ _ _ _ _ mk' vl' cl' _ _ wt' wd' _ _ _ du' oft' bg' av' _ _ _ _ _ _ _ _ _ _ _ _ _ _ _ _ _ _ _ _ _ _ _ _ _ _ _ _ _ _ _ _ cp' _ _ rfl (by omega) h1
    obtain ⟨c'', m'', n'', st'', pr'', bs'', tk'', mk'', vl'', cl'', rs'', al'', wt'', wd'', tt'', sb'', pa'', du'', oft'', bg'', av'', ep'', pt'', nb'', lg'', lt'', lv'', gk'', gt'', gf'', gl'', gs'', gn'', sl'', ss'', bo'', ot'', so'', sq'', go'', mo'', nt'', fr'', tw'', tx'', gr'', ge'', g1'', g2'', g3'', sv'', lf'', se'', cp'', sn'', lo'', rfl, rfl, h2⟩ := hR2
    obtain ⟨t, u', v', hR, hX, hY⟩ := ra_tick2 (mk := mk'') (vl := vl'') (cl := cl'') (wt := wt'') (wd := wd'') (du := du'') (oft := oft'') (bg := bg'') (av := av'') (cp := cp'') (by omega) h2
    refine ⟨t, u', v', ra_RR_mono hR (by omega), fun post hp => ?_, fun post hp => ?_⟩
    · simp only [wpX_oneTick, forall_eq]
      refine hX1 _ ?_
      simp only [q8, e, not_false_iff, not_true, true_implies, false_implies, true_and, and_true, wpX_relieveAll]
      exact ⟨11, hX2 _ (hX post hp)⟩
    · simp only [wpY_tickOnce, forall_eq]
      refine hY1 _ ?_
      simp only [q8, e, not_false_iff, not_true, true_implies, false_implies, true_and, and_true, wpY_rise]
      exact ⟨11, hY2 _ (hY post hp)⟩
  · obtain ⟨t, u', v', hR, hX, hY⟩ := ra_tick2 (mk := mk') (vl := vl') (cl := cl') (wt := wt') (wd := wd') (du := du') (oft := oft') (bg := bg') (av := av') (cp := cp') (by omega) h1
    refine ⟨t, u', v', ra_RR_mono hR (by omega), fun post hp => ?_, fun post hp => ?_⟩
    · simp only [wpX_oneTick, forall_eq]
      refine hX1 _ ?_
      simp only [q8, e, not_false_iff, not_true, true_implies, false_implies, true_and, and_true]
      exact hX post hp
    · simp only [wpY_tickOnce, forall_eq]
      refine hY1 _ ?_
      simp only [q8, e, not_false_iff, not_true, true_implies, false_implies, true_and, and_true]
      exact hY post hp
theorem ra_ticks {N : Nat} (hN : N ≤ 100) : ∀ (d i B : Nat) (c m n : Nat) (st pr bs tk mk vl cl rs al wt wd tt sb pa du oft bg av ep pt nb lg lt lv gk gt gf gl gs gn sl ss bo ot so sq go mo nt fr tw tx gr ge g1 g2 g3 sv lf se cp : Nat → Int32) (sn lo : Nat → Int64), i + d = N → B + 60 * d + 200 ≤ 2 ^ 26 → ra_R B c m n st pr tk rs al tt pa bs sb ep pt nb lg sn lo lt lv gk gt gf gl gs gn sl ss bo ot so sq go mo nt fr tw tx gr ge g1 g2 g3 sv lf se → ∃ (t : Int32) (u' : SX) (v' : SY), ra_RR (B + 60 * d) u' v' ∧ (∀ (post : Int32 → SX → Prop) (x : Int32), post (x + t) u' → wX_tick_17 post (nI N) (d + 1) x (nI i) (lN c) ep st pt bs pr tk mk rs vl cl nb al wt lg wd sn lo lt lv gk gt gf gl gs gn sl ss sb pa du oft bg av tt) ∧ (∀ (post : Int32 → SY → Prop) (x : Int32), post (x + t) v' → wY_tick_16 post (nI N) (d + 1) x (nI i) (nI n) (nI m) st bo bs pr tk mk ot vl rs al wt so sq go mo cl wd nt fr tw tx gr ge g1 g2 g3 sv sb lf pa du av bg oft se tt cp) := by
  intro d
  induction d with
  | zero =>
    intro i B c m n st pr bs tk mk vl cl rs al wt wd tt sb pa du oft bg av ep pt nb lg lt lv gk gt gf gl gs gn sl ss bo ot so sq go mo nt fr tw tx gr ge g1 g2 g3 sv lf se cp sn lo hi hB h
    have : i = N := by omega
    subst this
    have le : nI i ≤ nI i := Int32.le_refl _
    refine ⟨0, _, _, ra_in (mk := mk) (vl := vl) (cl := cl) (wt := wt) (wd := wd) (du := du) (oft := oft) (bg := bg) (av := av) (cp := cp) h, fun post x hp => ?_, fun post x hp => ?_⟩
    · rw [ra_x0] at hp
      simp (disch := omega) only [wX_tick_17, le, not_true, not_false_iff, true_implies, false_implies, implies_true, true_and, and_true, forall_eq, eq_self, ra_i, ra_c, ra_m3, ra_m4, ra_m16, ra_4m, ra_14m, ra_16m, nI_add, nI_1, lN_1, ra_p2, ra_2p, ra_n0, ra_p0, ra_q0, ra_q1, ra_q2, ra_q3, ra_n3, ra_n4, ra_n10, ra_n14, ra_n16, ra_n30, ra_n140, ra_y3, ra_y4, ra_y10, ra_y14, ra_y16, ra_y30, ra_y140]
      exact hp
    · rw [ra_x0] at hp
      simp (disch := omega) only [wY_tick_16, le, not_true, not_false_iff, true_implies, false_implies, implies_true, true_and, and_true, forall_eq, eq_self, ra_i, ra_c, ra_m3, ra_m4, ra_m16, ra_4m, ra_14m, ra_16m, nI_add, nI_1, lN_1, ra_p2, ra_2p, ra_n0, ra_p0, ra_q0, ra_q1, ra_q2, ra_q3, ra_n3, ra_n4, ra_n10, ra_n14, ra_n16, ra_n30, ra_n140, ra_y3, ra_y4, ra_y10, ra_y14, ra_y16, ra_y30, ra_y140]
      exact hp
  | succ d ih =>
    intro i B c m n st pr bs tk mk vl cl rs al wt wd tt sb pa du oft bg av ep pt nb lg lt lv gk gt gf gl gs gn sl ss bo ot so sq go mo nt fr tw tx gr ge g1 g2 g3 sv lf se cp sn lo hi hB h
    have le : ¬ nI N ≤ nI i := nI_ge (by omega) (by omega)
    obtain ⟨b, u1, v1, hR1, hX1, hY1⟩ := ra_oneTick (mk := mk) (vl := vl) (cl := cl) (wt := wt) (wd := wd) (du := du) (oft := oft) (bg := bg) (av := av) (cp := cp) (by omega) h
    obtain ⟨c', m', n', st', pr', bs', tk', mk', vl', cl', rs', al', wt', wd', tt', sb', pa', du', oft', bg', av', ep', pt', nb', lg', lt', lv', gk', gt', gf', gl', gs', gn', sl', ss', bo', ot', so', sq', go', mo', nt', fr', tw', tx', gr', ge', g1', g2', g3', sv', lf', se', cp', sn', lo', rfl, rfl, h1⟩ := hR1
    obtain ⟨t, u', v', hR, hX, hY⟩ := ih (i + 1) (B + 60) _ _ _ _ _ _ _ mk' vl' cl' _ _ wt' wd' _ _ _ du' oft' bg' av' _ _ _ _ _ _ _ _ _ _ _ _ _ _ _ _ _ _ _ _ _ _ _ _ _ _ _ _ _ _ _ _ cp' _ _ (by omega) (by omega) h1
    refine ⟨b + t, u', v', ra_RR_mono hR (by omega), fun post x hp => ?_, fun post x hp => ?_⟩
    · rw [← Int32.add_assoc] at hp
      have w := hX post (x + b) hp
      rw [wX_tick_17]
      simp (disch := omega) only [le, not_true, not_false_iff, true_implies, false_implies, implies_true, true_and, and_true, forall_eq, eq_self, ra_i, ra_c, ra_m3, ra_m4, ra_m16, ra_4m, ra_14m, ra_16m, nI_add, nI_1, lN_1, ra_p2, ra_2p, ra_n0, ra_p0, ra_q0, ra_q1, ra_q2, ra_q3, ra_n3, ra_n4, ra_n10, ra_n14, ra_n16, ra_n30, ra_n140, ra_y3, ra_y4, ra_y10, ra_y14, ra_y16, ra_y30, ra_y140]
      refine hX1 _ ?_
      simp (disch := omega) only [not_true, not_false_iff, true_implies, false_implies, implies_true, true_and, and_true, forall_eq, eq_self, ra_i, ra_c, ra_m3, ra_m4, ra_m16, ra_4m, ra_14m, ra_16m, nI_add, nI_1, lN_1, ra_p2, ra_2p, ra_n0, ra_p0, ra_q0, ra_q1, ra_q2, ra_q3, ra_n3, ra_n4, ra_n10, ra_n14, ra_n16, ra_n30, ra_n140, ra_y3, ra_y4, ra_y10, ra_y14, ra_y16, ra_y30, ra_y140]
      exact w
    · rw [← Int32.add_assoc] at hp
      have w := hY post (x + b) hp
      rw [wY_tick_16]
      simp (disch := omega) only [le, not_true, not_false_iff, true_implies, false_implies, implies_true, true_and, and_true, forall_eq, eq_self, ra_i, ra_c, ra_m3, ra_m4, ra_m16, ra_4m, ra_14m, ra_16m, nI_add, nI_1, lN_1, ra_p2, ra_2p, ra_n0, ra_p0, ra_q0, ra_q1, ra_q2, ra_q3, ra_n3, ra_n4, ra_n10, ra_n14, ra_n16, ra_n30, ra_n140, ra_y3, ra_y4, ra_y10, ra_y14, ra_y16, ra_y30, ra_y140]
      refine hY1 _ ?_
      simp (disch := omega) only [not_true, not_false_iff, true_implies, false_implies, implies_true, true_and, and_true, forall_eq, eq_self, ra_i, ra_c, ra_m3, ra_m4, ra_m16, ra_4m, ra_14m, ra_16m, nI_add, nI_1, lN_1, ra_p2, ra_2p, ra_n0, ra_p0, ra_q0, ra_q1, ra_q2, ra_q3, ra_n3, ra_n4, ra_n10, ra_n14, ra_n16, ra_n30, ra_n140, ra_y3, ra_y4, ra_y10, ra_y14, ra_y16, ra_y30, ra_y140]
      exact w
end
end
section
/-! what is got first: notes -/
theorem ra_g14 {j : Nat} (h : 14 ≤ j) (h' : j < 1000) : ((14 : Int32) ≤ nI j) = True := eq_true (nI_le (a := 14) (b := j) (by omega) (by omega))
section
variable {B c m n : Nat} {st pr bs tk mk vl cl rs al wt wd tt sb pa du oft bg av ep pt nb lg lt lv gk gt gf gl gs gn sl ss bo ot so sq go mo nt fr tw tx gr ge g1 g2 g3 sv lf se cp : Nat → Int32} {sn lo : Nat → Int64}
def ra_fn (ep nb : Nat → Int32) (r : Nat) (e : Int32) (k : Nat) : Prop := bt (nb r) k = true ∧ (e = -1 ∨ ra_so ep k = e)
theorem xl_fn_skip {r k q : Nat} {e : Int32} {post : Int32 → Prop} (hr : r < 10) (hk : k < 14) (hn : ¬ ra_fn ep nb r e k) (h : wX_firstNote_2 post (nI r) e (lN c) ep st pt bs pr tk mk rs vl cl nb al wt lg wd sn lo lt lv gk gt gf gl gs gn sl ss sb pa du oft bg av tt q (nI (k + 1))) : wX_firstNote_2 post (nI r) e (lN c) ep st pt bs pr tk mk rs vl cl nb al wt lg wd sn lo lt lv gk gt gf gl gs gn sl ss sb pa du oft bg av tt (q + 1) (nI k) := by
  have bb := ra_bit (nb r) (k := k) (by omega)
  rw [wX_firstNote_2]
  simp (disch := omega) only [not_true, not_false_iff, true_implies, false_implies, implies_true, true_and, and_true, forall_eq, eq_self, ra_i, ra_c, ra_m3, ra_m4, ra_m16, ra_4m, ra_14m, ra_16m, nI_add, nI_1, lN_1, ra_p2, ra_2p, ra_n0, ra_p0, ra_q0, ra_q1, ra_q2, ra_q3, ra_n3, ra_n4, ra_n10, ra_n14, ra_n16, ra_n30, ra_n140, ra_y3, ra_y4, ra_y10, ra_y14, ra_y16, ra_y30, ra_y140]
  refine xl_noteSource hk ?_
  by_cases b : bt (nb r) k = true
  · rw [if_pos b] at bb
    have e1 : ¬ e = -1 := fun z => hn ⟨b, Or.inl z⟩
    have e2 : ¬ ra_so ep k = e := fun z => hn ⟨b, Or.inr z⟩
    simp (disch := omega) only [bb, wpX_isFrom, e1, e2, not_true, not_false_iff, true_implies, false_implies, implies_true, true_and, and_true, forall_eq, eq_self, ra_i, ra_c, ra_m3, ra_m4, ra_m16, ra_4m, ra_14m, ra_16m, nI_add, nI_1, lN_1, ra_p2, ra_2p, ra_n0, ra_p0, ra_q0, ra_q1, ra_q2, ra_q3, ra_n3, ra_n4, ra_n10, ra_n14, ra_n16, ra_n30, ra_n140, ra_y3, ra_y4, ra_y10, ra_y14, ra_y16, ra_y30, ra_y140]
    exact h
  · rw [if_neg b] at bb
    simp (disch := omega) only [bb, not_true, not_false_iff, true_implies, false_implies, implies_true, true_and, and_true, forall_eq, eq_self, ra_i, ra_c, ra_m3, ra_m4, ra_m16, ra_4m, ra_14m, ra_16m, nI_add, nI_1, lN_1, ra_p2, ra_2p, ra_n0, ra_p0, ra_q0, ra_q1, ra_q2, ra_q3, ra_n3, ra_n4, ra_n10, ra_n14, ra_n16, ra_n30, ra_n140, ra_y3, ra_y4, ra_y10, ra_y14, ra_y16, ra_y30, ra_y140]
    exact h
theorem xl_firstNote_n {r : Nat} {e : Int32} {post : Int32 → Prop} (hr : r < 10) (hn : ∀ k, k < 14 → ¬ ra_fn ep nb r e k) (h : post (-1)) : wpX_firstNote post (lN c, ep, st, pt, bs, pr, tk, mk, rs, vl, cl, nb, al, wt, lg, wd, sn, lo, lt, lv, gk, gt, gf, gl, gs, gn, sl, ss, sb, pa, du, oft, bg, av, tt) (nI r) e := by
  refine ra_run (fun n i => wX_firstNote_2 post (nI r) e (lN c) ep st pt bs pr tk mk rs vl cl nb al wt lg wd sn lo lt lv gk gt gf gl gs gn sl ss sb pa du oft bg av tt n (nI i)) 14 (fun n => ?_) (fun n i hi ih => xl_fn_skip hr hi (hn i hi) ih)
  simp (disch := omega) only [wX_firstNote_2, not_true, not_false_iff, true_implies, false_implies, implies_true, true_and, and_true, forall_eq, eq_self, ra_i, ra_c, ra_m3, ra_m4, ra_m16, ra_4m, ra_14m, ra_16m, nI_add, nI_1, lN_1, ra_p2, ra_2p, ra_n0, ra_p0, ra_q0, ra_q1, ra_q2, ra_q3, ra_n3, ra_n4, ra_n10, ra_n14, ra_n16, ra_n30, ra_n140, ra_y3, ra_y4, ra_y10, ra_y14, ra_y16, ra_y30, ra_y140]
  exact h
theorem xl_firstNote_s {r k : Nat} {e : Int32} {post : Int32 → Prop} (hr : r < 10) (hk : k < 14) (hf : ra_fn ep nb r e k) (hn : ∀ j, j < k → ¬ ra_fn ep nb r e j) (h : post (nI k)) : wpX_firstNote post (lN c, ep, st, pt, bs, pr, tk, mk, rs, vl, cl, nb, al, wt, lg, wd, sn, lo, lt, lv, gk, gt, gf, gl, gs, gn, sl, ss, sb, pa, du, oft, bg, av, tt) (nI r) e := by
  refine ra_run (fun n i => wX_firstNote_2 post (nI r) e (lN c) ep st pt bs pr tk mk rs vl cl nb al wt lg wd sn lo lt lv gk gt gf gl gs gn sl ss sb pa du oft bg av tt n (nI i)) k (fun n => ?_) (fun n i hi ih => xl_fn_skip hr (by omega) (hn i hi) ih)
  have bb := ra_bit (nb r) (k := k) (by omega)
  rw [if_pos hf.1] at bb
  simp (disch := omega) only [wX_firstNote_2, not_true, not_false_iff, true_implies, false_implies, implies_true, true_and, and_true, forall_eq, eq_self, ra_i, ra_c, ra_m3, ra_m4, ra_m16, ra_4m, ra_14m, ra_16m, nI_add, nI_1, lN_1, ra_p2, ra_2p, ra_n0, ra_p0, ra_q0, ra_q1, ra_q2, ra_q3, ra_n3, ra_n4, ra_n10, ra_n14, ra_n16, ra_n30, ra_n140, ra_y3, ra_y4, ra_y10, ra_y14, ra_y16, ra_y30, ra_y140]
  refine xl_noteSource hk ?_
  rcases hf.2 with z | z
  · simp (disch := omega) only [bb, wpX_isFrom, z, not_true, not_false_iff, true_implies, false_implies, implies_true, true_and, and_true, forall_eq, eq_self, ra_i, ra_c, ra_m3, ra_m4, ra_m16, ra_4m, ra_14m, ra_16m, nI_add, nI_1, lN_1, ra_p2, ra_2p, ra_n0, ra_p0, ra_q0, ra_q1, ra_q2, ra_q3, ra_n3, ra_n4, ra_n10, ra_n14, ra_n16, ra_n30, ra_n140, ra_y3, ra_y4, ra_y10, ra_y14, ra_y16, ra_y30, ra_y140]
    exact h
  · by_cases e1 : e = -1
    · simp (disch := omega) only [bb, wpX_isFrom, e1, not_true, not_false_iff, true_implies, false_implies, implies_true, true_and, and_true, forall_eq, eq_self, ra_i, ra_c, ra_m3, ra_m4, ra_m16, ra_4m, ra_14m, ra_16m, nI_add, nI_1, lN_1, ra_p2, ra_2p, ra_n0, ra_p0, ra_q0, ra_q1, ra_q2, ra_q3, ra_n3, ra_n4, ra_n10, ra_n14, ra_n16, ra_n30, ra_n140, ra_y3, ra_y4, ra_y10, ra_y14, ra_y16, ra_y30, ra_y140]
      exact h
    · simp (disch := omega) only [bb, wpX_isFrom, e1, z, not_true, not_false_iff, true_implies, false_implies, implies_true, true_and, and_true, forall_eq, eq_self, ra_i, ra_c, ra_m3, ra_m4, ra_m16, ra_4m, ra_14m, ra_16m, nI_add, nI_1, lN_1, ra_p2, ra_2p, ra_n0, ra_p0, ra_q0, ra_q1, ra_q2, ra_q3, ra_n3, ra_n4, ra_n10, ra_n14, ra_n16, ra_n30, ra_n140, ra_y3, ra_y4, ra_y10, ra_y14, ra_y16, ra_y30, ra_y140]
      exact h
theorem yl_sourceOf_any {k : Nat} {post : Int32 → Prop} (hk : k < 14) (h : ∀ x, post x) : wpY_sourceOf post (nI n, nI m, st, bo, bs, pr, tk, mk, ot, vl, rs, al, wt, so, sq, go, mo, cl, wd, nt, fr, tw, tx, gr, ge, g1, g2, g3, sv, sb, lf, pa, du, av, bg, oft, se, tt, cp) (nI k) := by
  by_cases z : k < 10
  · exact yl_sourceOf_l z (h _)
  · exact yl_sourceOf (ep := fun _ => 0) hk (fun y => absurd y z) (h _)
theorem yl_fn_skip {r k q : Nat} {e : Int32} {post : Int32 → SY → Prop} (hr : r < 10) (hrl : st r ≠ 0) (hk : k < 14) (hE : ra_E B st ep bo) (hN : ra_N st nb nt) (hn : ¬ ra_fn ep nb r e k) (h : wY_fetch_2 post (nI r) e (nI n) (nI m) st bo bs pr tk mk ot vl rs al wt so sq go mo cl wd nt fr tw tx gr ge g1 g2 g3 sv sb lf pa du av bg oft se tt cp q (nI (k + 1))) : wY_fetch_2 post (nI r) e (nI n) (nI m) st bo bs pr tk mk ot vl rs al wt so sq go mo cl wd nt fr tw tx gr ge g1 g2 g3 sv sb lf pa du av bg oft se tt cp (q + 1) (nI k) := by
  obtain ⟨-, n2, n3⟩ := (hN r hr).2 hrl k hk
  rw [wY_fetch_2]
  simp (disch := omega) only [not_true, not_false_iff, true_implies, false_implies, implies_true, true_and, and_true, forall_eq, eq_self, ra_i, ra_c, ra_m3, ra_m4, ra_m16, ra_4m, ra_14m, ra_16m, nI_add, nI_1, lN_1, ra_p2, ra_2p, ra_n0, ra_p0, ra_q0, ra_q1, ra_q2, ra_q3, ra_n3, ra_n4, ra_n10, ra_n14, ra_n16, ra_n30, ra_n140, ra_y3, ra_y4, ra_y10, ra_y14, ra_y16, ra_y30, ra_y140]
  by_cases b : nt (14 * r + k) = 0
  · refine yl_sourceOf_any hk (fun x => ?_)
    simp (disch := omega) only [b, not_true, not_false_iff, true_implies, false_implies, implies_true, true_and, and_true, forall_eq, eq_self, ra_i, ra_c, ra_m3, ra_m4, ra_m16, ra_4m, ra_14m, ra_16m, nI_add, nI_1, lN_1, ra_p2, ra_2p, ra_n0, ra_p0, ra_q0, ra_q1, ra_q2, ra_q3, ra_n3, ra_n4, ra_n10, ra_n14, ra_n16, ra_n30, ra_n140, ra_y3, ra_y4, ra_y10, ra_y14, ra_y16, ra_y30, ra_y140]
    exact h
  · have b' := n2.mpr b
    have e1 : ¬ e = -1 := fun z => hn ⟨b', Or.inl z⟩
    have e2 : ¬ ra_so ep k = e := fun z => hn ⟨b', Or.inr z⟩
    refine yl_sourceOf hk (fun z => ra_E_y hE z (fun y => b (n3 z y))) ?_
    simp (disch := omega) only [b, e1, e2, not_true, not_false_iff, true_implies, false_implies, implies_true, true_and, and_true, forall_eq, eq_self, ra_i, ra_c, ra_m3, ra_m4, ra_m16, ra_4m, ra_14m, ra_16m, nI_add, nI_1, lN_1, ra_p2, ra_2p, ra_n0, ra_p0, ra_q0, ra_q1, ra_q2, ra_q3, ra_n3, ra_n4, ra_n10, ra_n14, ra_n16, ra_n30, ra_n140, ra_y3, ra_y4, ra_y10, ra_y14, ra_y16, ra_y30, ra_y140]
    exact h
theorem yl_fetch_n {r : Nat} {e : Int32} {post : Int32 → SY → Prop} (hr : r < 10) (hrl : st r ≠ 0) (hE : ra_E B st ep bo) (hN : ra_N st nb nt) (hn : ∀ k, k < 14 → ¬ ra_fn ep nb r e k) (h : ∃ q, wY_fetch_74 post (nI r) e (nI n) (nI m) st bo bs pr tk mk ot vl rs al wt so sq go mo cl wd nt fr tw tx gr ge g1 g2 g3 sv sb lf pa du av bg oft se tt cp q 0) : wpY_fetch post (nI n, nI m, st, bo, bs, pr, tk, mk, ot, vl, rs, al, wt, so, sq, go, mo, cl, wd, nt, fr, tw, tx, gr, ge, g1, g2, g3, sv, sb, lf, pa, du, av, bg, oft, se, tt, cp) (nI r) e := by
  refine ra_run (fun q i => wY_fetch_2 post (nI r) e (nI n) (nI m) st bo bs pr tk mk ot vl rs al wt so sq go mo cl wd nt fr tw tx gr ge g1 g2 g3 sv sb lf pa du av bg oft se tt cp q (nI i)) 14 (fun q => ?_) (fun q i hi ih => yl_fn_skip hr hrl hi hE hN (hn i hi) ih)
  simp (disch := omega) only [wY_fetch_2, not_true, not_false_iff, true_implies, false_implies, implies_true, true_and, and_true, forall_eq, eq_self, ra_i, ra_c, ra_m3, ra_m4, ra_m16, ra_4m, ra_14m, ra_16m, nI_add, nI_1, lN_1, ra_p2, ra_2p, ra_n0, ra_p0, ra_q0, ra_q1, ra_q2, ra_q3, ra_n3, ra_n4, ra_n10, ra_n14, ra_n16, ra_n30, ra_n140, ra_y3, ra_y4, ra_y10, ra_y14, ra_y16, ra_y30, ra_y140]
  exact h
theorem yl_fetch_s {r k : Nat} {e : Int32} {post : Int32 → SY → Prop} (hr : r < 10) (hrl : st r ≠ 0) (hE : ra_E B st ep bo) (hN : ra_N st nb nt) (hk : k < 14) (hf : ra_fn ep nb r e k) (hn : ∀ j, j < k → ¬ ra_fn ep nb r e j) (h : wY_fetch_43 post (nI r) (nI k) (ra_so ep k) (nI n) (nI m) st bo bs pr tk mk ot vl rs al wt so sq go mo cl wd nt fr tw tx gr ge g1 g2 g3 sv sb lf pa du av bg oft se tt cp) : wpY_fetch post (nI n, nI m, st, bo, bs, pr, tk, mk, ot, vl, rs, al, wt, so, sq, go, mo, cl, wd, nt, fr, tw, tx, gr, ge, g1, g2, g3, sv, sb, lf, pa, du, av, bg, oft, se, tt, cp) (nI r) e := by
  refine ra_run (fun q i => wY_fetch_2 post (nI r) e (nI n) (nI m) st bo bs pr tk mk ot vl rs al wt so sq go mo cl wd nt fr tw tx gr ge g1 g2 g3 sv sb lf pa du av bg oft se tt cp q (nI i)) k (fun q => ?_) (fun q i hi ih => yl_fn_skip hr hrl (by omega) hE hN (hn i hi) ih)
  obtain ⟨-, n2, n3⟩ := (hN r hr).2 hrl k hk
  have b := n2.mp hf.1
  simp (disch := omega) only [wY_fetch_2, not_true, not_false_iff, true_implies, false_implies, implies_true, true_and, and_true, forall_eq, eq_self, ra_i, ra_c, ra_m3, ra_m4, ra_m16, ra_4m, ra_14m, ra_16m, nI_add, nI_1, lN_1, ra_p2, ra_2p, ra_n0, ra_p0, ra_q0, ra_q1, ra_q2, ra_q3, ra_n3, ra_n4, ra_n10, ra_n14, ra_n16, ra_n30, ra_n140, ra_y3, ra_y4, ra_y10, ra_y14, ra_y16, ra_y30, ra_y140]
  refine yl_sourceOf hk (fun z => ra_E_y hE z (fun y => b (n3 z y))) ?_
  by_cases e1 : e = -1
  · simp (disch := omega) only [b, e1, not_true, not_false_iff, true_implies, false_implies, implies_true, true_and, and_true, forall_eq, eq_self, ra_i, ra_c, ra_m3, ra_m4, ra_m16, ra_4m, ra_14m, ra_16m, nI_add, nI_1, lN_1, ra_p2, ra_2p, ra_n0, ra_p0, ra_q0, ra_q1, ra_q2, ra_q3, ra_n3, ra_n4, ra_n10, ra_n14, ra_n16, ra_n30, ra_n140, ra_y3, ra_y4, ra_y10, ra_y14, ra_y16, ra_y30, ra_y140]
    exact h
  · have z := hf.2.resolve_left e1
    simp (disch := omega) only [b, e1, not_true, not_false_iff, true_implies, false_implies, implies_true, true_and, and_true, forall_eq, eq_self, ra_i, ra_c, ra_m3, ra_m4, ra_m16, ra_4m, ra_14m, ra_16m, nI_add, nI_1, lN_1, ra_p2, ra_2p, ra_n0, ra_p0, ra_q0, ra_q1, ra_q2, ra_q3, ra_n3, ra_n4, ra_n10, ra_n14, ra_n16, ra_n30, ra_n140, ra_y3, ra_y4, ra_y10, ra_y14, ra_y16, ra_y30, ra_y140]
    exact br_t z h
/-! letters -/
def ra_fl (ep lt : Nat → Int32) (lo : Nat → Int64) (r : Nat) (e : Int32) (p : Nat) : Bool := decide (¬ lo p = 0 ∧ lt p = nI r ∧ (e = -1 ∨ ep (p / 3) = e))
def ra_bl (ep lt : Nat → Int32) (lo : Nat → Int64) (r : Nat) (e : Int32) (n : Nat) : Option Nat := ra_best (ra_fl ep lt lo r e) (fun i j => decide ((lo i).toInt < (lo j).toInt)) n
theorem xl_fl_t {r i : Nat} {e : Int32} {z : Int32} {J : Int32 → Int32 → Prop} {post : Int32 → Prop} (hi : i < 30) (h : z = ra_e (ra_bl ep lt lo r e i)) (hf : ra_fl ep lt lo r e i = true) (hJ : J (ra_e (ra_bl ep lt lo r e (i + 1))) (nI (i + 1))) : wX_firstLetter_44 post J (nI r) e z (nI i) 1 (lN c) ep st pt bs pr tk mk rs vl cl nb al wt lg wd sn lo lt lv gk gt gf gl gs gn sl ss sb pa du oft bg av tt := by
  subst h
  have ee : ra_bl ep lt lo r e (i + 1) = match ra_bl ep lt lo r e i with
      | none => if ra_fl ep lt lo r e i = true then some i else none
      | some b => if (ra_fl ep lt lo r e i && decide ((lo i).toInt < (lo b).toInt)) = true then some i else some b := rfl
  rw [ee] at hJ
  cases hb : ra_bl ep lt lo r e i with
  | none =>
    rw [hb] at hJ
    simp only [hf, if_true] at hJ
    simp (disch := omega) only [wX_firstLetter_44, ra_e, not_true, not_false_iff, true_implies, false_implies, implies_true, true_and, and_true, forall_eq, eq_self, ra_i, ra_c, ra_m3, ra_m4, ra_m16, ra_4m, ra_14m, ra_16m, nI_add, nI_1, lN_1, ra_p2, ra_2p, ra_n0, ra_p0, ra_q0, ra_q1, ra_q2, ra_q3, ra_n3, ra_n4, ra_n10, ra_n14, ra_n16, ra_n30, ra_n140, ra_y3, ra_y4, ra_y10, ra_y14, ra_y16, ra_y30, ra_y140]
    exact hJ
  | some b =>
    have hb' : b < 30 := by have := (ra_best_in hb).1; omega
    rw [hb] at hJ
    simp only [hf, Bool.true_and, decide_eq_true_eq] at hJ
    simp (disch := omega) only [wX_firstLetter_44, ra_e, not_true, not_false_iff, true_implies, false_implies, implies_true, true_and, and_true, forall_eq, eq_self, ra_i, ra_c, ra_m3, ra_m4, ra_m16, ra_4m, ra_14m, ra_16m, nI_add, nI_1, lN_1, ra_p2, ra_2p, ra_n0, ra_p0, ra_q0, ra_q1, ra_q2, ra_q3, ra_n3, ra_n4, ra_n10, ra_n14, ra_n16, ra_n30, ra_n140, ra_y3, ra_y4, ra_y10, ra_y14, ra_y16, ra_y30, ra_y140]
    by_cases y : (lo i).toInt < (lo b).toInt
    · have y' : ¬ lo b ≤ lo i := by rw [Int64.le_iff_toInt_le]; omega
      rw [if_pos y] at hJ
      simp (disch := omega) only [y', not_true, not_false_iff, true_implies, false_implies, implies_true, true_and, and_true, forall_eq, eq_self, ra_i, ra_c, ra_m3, ra_m4, ra_m16, ra_4m, ra_14m, ra_16m, nI_add, nI_1, lN_1, ra_p2, ra_2p, ra_n0, ra_p0, ra_q0, ra_q1, ra_q2, ra_q3, ra_n3, ra_n4, ra_n10, ra_n14, ra_n16, ra_n30, ra_n140, ra_y3, ra_y4, ra_y10, ra_y14, ra_y16, ra_y30, ra_y140]
      exact hJ
    · have y' : lo b ≤ lo i := by rw [Int64.le_iff_toInt_le]; omega
      rw [if_neg y] at hJ
      simp (disch := omega) only [y', not_true, not_false_iff, true_implies, false_implies, implies_true, true_and, and_true, forall_eq, eq_self, ra_i, ra_c, ra_m3, ra_m4, ra_m16, ra_4m, ra_14m, ra_16m, nI_add, nI_1, lN_1, ra_p2, ra_2p, ra_n0, ra_p0, ra_q0, ra_q1, ra_q2, ra_q3, ra_n3, ra_n4, ra_n10, ra_n14, ra_n16, ra_n30, ra_n140, ra_y3, ra_y4, ra_y10, ra_y14, ra_y16, ra_y30, ra_y140]
      exact hJ
theorem xl_fl_f {r i : Nat} {e : Int32} {z : Int32} {J : Int32 → Int32 → Prop} {post : Int32 → Prop} (hi : i < 30) (h : z = ra_e (ra_bl ep lt lo r e i)) (hf : ¬ ra_fl ep lt lo r e i = true) (hJ : J (ra_e (ra_bl ep lt lo r e (i + 1))) (nI (i + 1))) : wX_firstLetter_43 post J (nI r) e z (nI i) (lN c) ep st pt bs pr tk mk rs vl cl nb al wt lg wd sn lo lt lv gk gt gf gl gs gn sl ss sb pa du oft bg av tt := by
  subst h
  have ee : ra_bl ep lt lo r e (i + 1) = match ra_bl ep lt lo r e i with
      | none => if ra_fl ep lt lo r e i = true then some i else none
      | some b => if (ra_fl ep lt lo r e i && decide ((lo i).toInt < (lo b).toInt)) = true then some i else some b := rfl
  rw [ee] at hJ
  cases hb : ra_bl ep lt lo r e i with
  | none =>
    rw [hb] at hJ
    simp only [hf, if_false] at hJ
    simp (disch := omega) only [wX_firstLetter_43, wX_firstLetter_44, not_true, not_false_iff, true_implies, false_implies, implies_true, true_and, and_true, forall_eq, eq_self, ra_i, ra_c, ra_m3, ra_m4, ra_m16, ra_4m, ra_14m, ra_16m, nI_add, nI_1, lN_1, ra_p2, ra_2p, ra_n0, ra_p0, ra_q0, ra_q1, ra_q2, ra_q3, ra_n3, ra_n4, ra_n10, ra_n14, ra_n16, ra_n30, ra_n140, ra_y3, ra_y4, ra_y10, ra_y14, ra_y16, ra_y30, ra_y140]
    exact hJ
  | some b =>
    rw [hb] at hJ
    simp only [ra_nt hf, Bool.false_and, Bool.false_eq_true, if_false] at hJ
    simp (disch := omega) only [wX_firstLetter_43, wX_firstLetter_44, not_true, not_false_iff, true_implies, false_implies, implies_true, true_and, and_true, forall_eq, eq_self, ra_i, ra_c, ra_m3, ra_m4, ra_m16, ra_4m, ra_14m, ra_16m, nI_add, nI_1, lN_1, ra_p2, ra_2p, ra_n0, ra_p0, ra_q0, ra_q1, ra_q2, ra_q3, ra_n3, ra_n4, ra_n10, ra_n14, ra_n16, ra_n30, ra_n140, ra_y3, ra_y4, ra_y10, ra_y14, ra_y16, ra_y30, ra_y140]
    exact hJ
theorem xl_firstLetter {r : Nat} {e : Int32} {post : Int32 → Prop} (h : post (ra_e (ra_bl ep lt lo r e 30))) : wpX_firstLetter post (lN c, ep, st, pt, bs, pr, tk, mk, rs, vl, cl, nb, al, wt, lg, wd, sn, lo, lt, lv, gk, gt, gf, gl, gs, gn, sl, ss, sb, pa, du, oft, bg, av, tt) (nI r) e := by
  refine ra_run (fun n i => wX_firstLetter_5 post (nI r) e (lN c) ep st pt bs pr tk mk rs vl cl nb al wt lg wd sn lo lt lv gk gt gf gl gs gn sl ss sb pa du oft bg av tt n (ra_e (ra_bl ep lt lo r e i)) (nI i)) 30 (fun n => ?_) (fun n i hi ih => ?_)
  · simp (disch := omega) only [wX_firstLetter_5, not_true, not_false_iff, true_implies, false_implies, implies_true, true_and, and_true, forall_eq, eq_self, ra_i, ra_c, ra_m3, ra_m4, ra_m16, ra_4m, ra_14m, ra_16m, nI_add, nI_1, lN_1, ra_p2, ra_2p, ra_n0, ra_p0, ra_q0, ra_q1, ra_q2, ra_q3, ra_n3, ra_n4, ra_n10, ra_n14, ra_n16, ra_n30, ra_n140, ra_y3, ra_y4, ra_y10, ra_y14, ra_y16, ra_y30, ra_y140]
    exact h
  · by_cases a : lo i = 0
    · have hf : ¬ ra_fl ep lt lo r e i = true := fun z => (of_decide_eq_true z).1 a
      have w := xl_fl_f (c := c) (st := st) (pt := pt) (bs := bs) (pr := pr) (tk := tk) (mk := mk) (rs := rs) (vl := vl) (cl := cl) (nb := nb) (al := al) (wt := wt) (lg := lg) (wd := wd) (sn := sn) (lv := lv) (gk := gk) (gt := gt) (gf := gf) (gl := gl) (gs := gs) (gn := gn) (sl := sl) (ss := ss) (sb := sb) (pa := pa) (du := du) (oft := oft) (bg := bg) (av := av) (tt := tt) (post := post) (J := wX_firstLetter_5 post (nI r) e (lN c) ep st pt bs pr tk mk rs vl cl nb al wt lg wd sn lo lt lv gk gt gf gl gs gn sl ss sb pa du oft bg av tt n) hi rfl hf ih
      simp (disch := omega) only [wX_firstLetter_5, wpX_isLetterFor, a, not_true, not_false_iff, true_implies, false_implies, implies_true, true_and, and_true, forall_eq, eq_self, ra_i, ra_c, ra_m3, ra_m4, ra_m16, ra_4m, ra_14m, ra_16m, nI_add, nI_1, lN_1, ra_p2, ra_2p, ra_n0, ra_p0, ra_q0, ra_q1, ra_q2, ra_q3, ra_n3, ra_n4, ra_n10, ra_n14, ra_n16, ra_n30, ra_n140, ra_y3, ra_y4, ra_y10, ra_y14, ra_y16, ra_y30, ra_y140]
      exact w
    · by_cases b : lt i = nI r
      · by_cases e1 : e = -1
        · have hf : ra_fl ep lt lo r e i = true := decide_eq_true ⟨a, b, Or.inl e1⟩
          have w := xl_fl_t (c := c) (st := st) (pt := pt) (bs := bs) (pr := pr) (tk := tk) (mk := mk) (rs := rs) (vl := vl) (cl := cl) (nb := nb) (al := al) (wt := wt) (lg := lg) (wd := wd) (sn := sn) (lv := lv) (gk := gk) (gt := gt) (gf := gf) (gl := gl) (gs := gs) (gn := gn) (sl := sl) (ss := ss) (sb := sb) (pa := pa) (du := du) (oft := oft) (bg := bg) (av := av) (tt := tt) (post := post) (J := wX_firstLetter_5 post (nI r) e (lN c) ep st pt bs pr tk mk rs vl cl nb al wt lg wd sn lo lt lv gk gt gf gl gs gn sl ss sb pa du oft bg av tt n) hi rfl hf ih
          simp (disch := omega) only [wX_firstLetter_5, wpX_isLetterFor, wpX_isFrom, a, b, e1, ra_d3, not_true, not_false_iff, true_implies, false_implies, implies_true, true_and, and_true, forall_eq, eq_self, ra_i, ra_c, ra_m3, ra_m4, ra_m16, ra_4m, ra_14m, ra_16m, nI_add, nI_1, lN_1, ra_p2, ra_2p, ra_n0, ra_p0, ra_q0, ra_q1, ra_q2, ra_q3, ra_n3, ra_n4, ra_n10, ra_n14, ra_n16, ra_n30, ra_n140, ra_y3, ra_y4, ra_y10, ra_y14, ra_y16, ra_y30, ra_y140]
          subst e1
          exact w
        · by_cases e2 : ep (i / 3) = e
          · have hf : ra_fl ep lt lo r e i = true := decide_eq_true ⟨a, b, Or.inr e2⟩
            have w := xl_fl_t (c := c) (st := st) (pt := pt) (bs := bs) (pr := pr) (tk := tk) (mk := mk) (rs := rs) (vl := vl) (cl := cl) (nb := nb) (al := al) (wt := wt) (lg := lg) (wd := wd) (sn := sn) (lv := lv) (gk := gk) (gt := gt) (gf := gf) (gl := gl) (gs := gs) (gn := gn) (sl := sl) (ss := ss) (sb := sb) (pa := pa) (du := du) (oft := oft) (bg := bg) (av := av) (tt := tt) (post := post) (J := wX_firstLetter_5 post (nI r) e (lN c) ep st pt bs pr tk mk rs vl cl nb al wt lg wd sn lo lt lv gk gt gf gl gs gn sl ss sb pa du oft bg av tt n) hi rfl hf ih
            simp (disch := omega) only [wX_firstLetter_5, wpX_isLetterFor, wpX_isFrom, a, b, e1, e2, ra_d3, not_true, not_false_iff, true_implies, false_implies, implies_true, true_and, and_true, forall_eq, eq_self, ra_i, ra_c, ra_m3, ra_m4, ra_m16, ra_4m, ra_14m, ra_16m, nI_add, nI_1, lN_1, ra_p2, ra_2p, ra_n0, ra_p0, ra_q0, ra_q1, ra_q2, ra_q3, ra_n3, ra_n4, ra_n10, ra_n14, ra_n16, ra_n30, ra_n140, ra_y3, ra_y4, ra_y10, ra_y14, ra_y16, ra_y30, ra_y140]
            exact w
          · have hf : ¬ ra_fl ep lt lo r e i = true := fun z => (of_decide_eq_true z).2.2.elim e1 e2
            have w := xl_fl_f (c := c) (st := st) (pt := pt) (bs := bs) (pr := pr) (tk := tk) (mk := mk) (rs := rs) (vl := vl) (cl := cl) (nb := nb) (al := al) (wt := wt) (lg := lg) (wd := wd) (sn := sn) (lv := lv) (gk := gk) (gt := gt) (gf := gf) (gl := gl) (gs := gs) (gn := gn) (sl := sl) (ss := ss) (sb := sb) (pa := pa) (du := du) (oft := oft) (bg := bg) (av := av) (tt := tt) (post := post) (J := wX_firstLetter_5 post (nI r) e (lN c) ep st pt bs pr tk mk rs vl cl nb al wt lg wd sn lo lt lv gk gt gf gl gs gn sl ss sb pa du oft bg av tt n) hi rfl hf ih
            simp (disch := omega) only [wX_firstLetter_5, wpX_isLetterFor, wpX_isFrom, a, b, e1, e2, ra_d3, not_true, not_false_iff, true_implies, false_implies, implies_true, true_and, and_true, forall_eq, eq_self, ra_i, ra_c, ra_m3, ra_m4, ra_m16, ra_4m, ra_14m, ra_16m, nI_add, nI_1, lN_1, ra_p2, ra_2p, ra_n0, ra_p0, ra_q0, ra_q1, ra_q2, ra_q3, ra_n3, ra_n4, ra_n10, ra_n14, ra_n16, ra_n30, ra_n140, ra_y3, ra_y4, ra_y10, ra_y14, ra_y16, ra_y30, ra_y140]
            exact w
      · have hf : ¬ ra_fl ep lt lo r e i = true := fun z => b (of_decide_eq_true z).2.1
        have w := xl_fl_f (c := c) (st := st) (pt := pt) (bs := bs) (pr := pr) (tk := tk) (mk := mk) (rs := rs) (vl := vl) (cl := cl) (nb := nb) (al := al) (wt := wt) (lg := lg) (wd := wd) (sn := sn) (lv := lv) (gk := gk) (gt := gt) (gf := gf) (gl := gl) (gs := gs) (gn := gn) (sl := sl) (ss := ss) (sb := sb) (pa := pa) (du := du) (oft := oft) (bg := bg) (av := av) (tt := tt) (post := post) (J := wX_firstLetter_5 post (nI r) e (lN c) ep st pt bs pr tk mk rs vl cl nb al wt lg wd sn lo lt lv gk gt gf gl gs gn sl ss sb pa du oft bg av tt n) hi rfl hf ih
        simp (disch := omega) only [wX_firstLetter_5, wpX_isLetterFor, a, b, not_true, not_false_iff, true_implies, false_implies, implies_true, true_and, and_true, forall_eq, eq_self, ra_i, ra_c, ra_m3, ra_m4, ra_m16, ra_4m, ra_14m, ra_16m, nI_add, nI_1, lN_1, ra_p2, ra_2p, ra_n0, ra_p0, ra_q0, ra_q1, ra_q2, ra_q3, ra_n3, ra_n4, ra_n10, ra_n14, ra_n16, ra_n30, ra_n140, ra_y3, ra_y4, ra_y10, ra_y14, ra_y16, ra_y30, ra_y140]
        exact w
end
end
section
/-! what is got first: Y's letters, the senders -/
section
variable {B c m n : Nat} {st pr bs tk mk vl cl rs al wt wd tt sb pa du oft bg av ep pt nb lg lt lv gk gt gf gl gs gn sl ss bo ot so sq go mo nt fr tw tx gr ge g1 g2 g3 sv lf se cp : Nat → Int32} {sn lo : Nat → Int64}
def ra_yf (ep fr tw : Nat → Int32) (r : Nat) (e : Int32) (j : Nat) : Prop := tw j = nI r ∧ (e = -1 ∨ ∃ a, a < 10 ∧ fr j = nI a ∧ ep a = e)
theorem yl_yf_skip {r j q : Nat} {e : Int32} {post : Int32 → SY → Prop} (hj : j < n) (hn : n ≤ 30) (hE : ra_E B st ep bo) (hfr : ∃ a, a < 10 ∧ fr j = nI a ∧ st a ≠ 0) (hnf : ¬ ra_yf ep fr tw r e j) (h : wY_fetch_74 post (nI r) e (nI n) (nI m) st bo bs pr tk mk ot vl rs al wt so sq go mo cl wd nt fr tw tx gr ge g1 g2 g3 sv sb lf pa du av bg oft se tt cp q (nI (j + 1))) : wY_fetch_74 post (nI r) e (nI n) (nI m) st bo bs pr tk mk ot vl rs al wt so sq go mo cl wd nt fr tw tx gr ge g1 g2 g3 sv sb lf pa du av bg oft se tt cp (q + 1) (nI j) := by
  obtain ⟨a, ha, ea, hl⟩ := hfr
  have le : ¬ nI n ≤ nI j := nI_ge (by omega) (by omega)
  have ya := ra_E_y hE ha hl
  rw [wY_fetch_74]
  by_cases b : tw j = nI r
  · have e1 : ¬ e = -1 := fun z => hnf ⟨b, Or.inl z⟩
    have e2 : ¬ ep a = e := fun z => hnf ⟨b, Or.inr ⟨a, ha, ea, z⟩⟩
    simp (disch := omega) only [le, b, e1, ea, wpY_endpoint, ya, e2, not_true, not_false_iff, true_implies, false_implies, implies_true, true_and, and_true, forall_eq, eq_self, ra_i, ra_c, ra_m3, ra_m4, ra_m16, ra_4m, ra_14m, ra_16m, nI_add, nI_1, lN_1, ra_p2, ra_2p, ra_n0, ra_p0, ra_q0, ra_q1, ra_q2, ra_q3, ra_n3, ra_n4, ra_n10, ra_n14, ra_n16, ra_n30, ra_n140, ra_y3, ra_y4, ra_y10, ra_y14, ra_y16, ra_y30, ra_y140]
    exact h
  · simp (disch := omega) only [le, b, not_true, not_false_iff, true_implies, false_implies, implies_true, true_and, and_true, forall_eq, eq_self, ra_i, ra_c, ra_m3, ra_m4, ra_m16, ra_4m, ra_14m, ra_16m, nI_add, nI_1, lN_1, ra_p2, ra_2p, ra_n0, ra_p0, ra_q0, ra_q1, ra_q2, ra_q3, ra_n3, ra_n4, ra_n10, ra_n14, ra_n16, ra_n30, ra_n140, ra_y3, ra_y4, ra_y10, ra_y14, ra_y16, ra_y30, ra_y140]
    exact h
theorem yl_fetch74_n {r : Nat} {e : Int32} {post : Int32 → SY → Prop} (hn : n ≤ 30) (hE : ra_E B st ep bo) (hfr : ∀ j, j < n → ∃ a, a < 10 ∧ fr j = nI a ∧ st a ≠ 0) (hnf : ∀ j, j < n → ¬ ra_yf ep fr tw r e j) (h : ∀ q, wY_fetch_74 post (nI r) e (nI n) (nI m) st bo bs pr tk mk ot vl rs al wt so sq go mo cl wd nt fr tw tx gr ge g1 g2 g3 sv sb lf pa du av bg oft se tt cp (q + 1) (nI n)) : ∃ q, wY_fetch_74 post (nI r) e (nI n) (nI m) st bo bs pr tk mk ot vl rs al wt so sq go mo cl wd nt fr tw tx gr ge g1 g2 g3 sv sb lf pa du av bg oft se tt cp q 0 :=
  ra_run (fun q i => wY_fetch_74 post (nI r) e (nI n) (nI m) st bo bs pr tk mk ot vl rs al wt so sq go mo cl wd nt fr tw tx gr ge g1 g2 g3 sv sb lf pa du av bg oft se tt cp q (nI i)) n h (fun q i hi ih => yl_yf_skip hi hn hE (hfr i hi) (hnf i hi) ih)
theorem yl_fetch74_s {r k : Nat} {e : Int32} {post : Int32 → SY → Prop} (hk : k < n) (hn : n ≤ 30) (hE : ra_E B st ep bo) (hfr : ∀ j, j < n → ∃ a, a < 10 ∧ fr j = nI a ∧ st a ≠ 0) (hf : ra_yf ep fr tw r e k) (hnf : ∀ j, j < k → ¬ ra_yf ep fr tw r e j) (h : wY_fetch_114 post (nI r) (nI k) (nI n) (nI m) st bo bs pr tk mk ot vl rs al wt so sq go mo cl wd nt fr tw tx gr ge g1 g2 g3 sv sb lf pa du av bg oft se tt cp) : ∃ q, wY_fetch_74 post (nI r) e (nI n) (nI m) st bo bs pr tk mk ot vl rs al wt so sq go mo cl wd nt fr tw tx gr ge g1 g2 g3 sv sb lf pa du av bg oft se tt cp q 0 := by
  refine ra_run (fun q i => wY_fetch_74 post (nI r) e (nI n) (nI m) st bo bs pr tk mk ot vl rs al wt so sq go mo cl wd nt fr tw tx gr ge g1 g2 g3 sv sb lf pa du av bg oft se tt cp q (nI i)) k (fun q => ?_) (fun q i hi ih => yl_yf_skip (by omega) hn hE (hfr i (by omega)) (hnf i hi) ih)
  have le : ¬ nI n ≤ nI k := nI_ge (by omega) (by omega)
  obtain ⟨b, hb⟩ := hf
  by_cases e1 : e = -1
  · simp (disch := omega) only [wY_fetch_74, le, b, e1, not_true, not_false_iff, true_implies, false_implies, implies_true, true_and, and_true, forall_eq, eq_self, ra_i, ra_c, ra_m3, ra_m4, ra_m16, ra_4m, ra_14m, ra_16m, nI_add, nI_1, lN_1, ra_p2, ra_2p, ra_n0, ra_p0, ra_q0, ra_q1, ra_q2, ra_q3, ra_n3, ra_n4, ra_n10, ra_n14, ra_n16, ra_n30, ra_n140, ra_y3, ra_y4, ra_y10, ra_y14, ra_y16, ra_y30, ra_y140]
    exact h
  · obtain ⟨a, ha, ea, ee⟩ := hb.resolve_left e1
    obtain ⟨a', ha', ea', hl⟩ := hfr k hk
    have : a = a' := by
      have z := ea.symm.trans ea'
      rw [nI_eq (by omega) (by omega)] at z
      exact z
    subst this
    have ya := ra_E_y hE ha hl
    simp (disch := omega) only [wY_fetch_74, le, b, e1, ea, wpY_endpoint, ya, ee, not_true, not_false_iff, true_implies, false_implies, implies_true, true_and, and_true, forall_eq, eq_self, ra_i, ra_c, ra_m3, ra_m4, ra_m16, ra_4m, ra_14m, ra_16m, nI_add, nI_1, lN_1, ra_p2, ra_2p, ra_n0, ra_p0, ra_q0, ra_q1, ra_q2, ra_q3, ra_n3, ra_n4, ra_n10, ra_n14, ra_n16, ra_n30, ra_n140, ra_y3, ra_y4, ra_y10, ra_y14, ra_y16, ra_y30, ra_y140]
    exact h
/-! the first sender -/
def ra_fs (st ep pt : Nat → Int32) (r : Nat) (e : Int32) (s : Nat) : Bool := decide (st s = 2 ∧ pt s = ep r ∧ (e = -1 ∨ ep s = e))
def ra_bs (st ep pt : Nat → Int32) (sn : Nat → Int64) (r : Nat) (e : Int32) (n : Nat) : Option Nat := ra_best (ra_fs st ep pt r e) (fun i j => decide (sn i < sn j)) n
def ra_bsY (st ep pt mo : Nat → Int32) (r : Nat) (e : Int32) (n : Nat) : Option Nat := ra_best (ra_fs st ep pt r e) (fun i j => decide (mo i < mo j)) n
theorem xl_fs_t {r i : Nat} {e : Int32} {z : Int32} {J : Int32 → Int32 → Prop} {post : Int32 → Prop} (hi : i < 10) (h : z = ra_e (ra_bs st ep pt sn r e i)) (hf : ra_fs st ep pt r e i = true) (hJ : J (ra_e (ra_bs st ep pt sn r e (i + 1))) (nI (i + 1))) : wX_firstSender_42 post J (nI r) e z (nI i) 1 (lN c) ep st pt bs pr tk mk rs vl cl nb al wt lg wd sn lo lt lv gk gt gf gl gs gn sl ss sb pa du oft bg av tt := by
  subst h
  have ee : ra_bs st ep pt sn r e (i + 1) = match ra_bs st ep pt sn r e i with
      | none => if ra_fs st ep pt r e i = true then some i else none
      | some b => if (ra_fs st ep pt r e i && decide (sn i < sn b)) = true then some i else some b := rfl
  rw [ee] at hJ
  cases hb : ra_bs st ep pt sn r e i with
  | none =>
    rw [hb] at hJ
    simp only [hf, if_true] at hJ
    simp (disch := omega) only [wX_firstSender_42, ra_e, not_true, not_false_iff, true_implies, false_implies, implies_true, true_and, and_true, forall_eq, eq_self, ra_i, ra_c, ra_m3, ra_m4, ra_m16, ra_4m, ra_14m, ra_16m, nI_add, nI_1, lN_1, ra_p2, ra_2p, ra_n0, ra_p0, ra_q0, ra_q1, ra_q2, ra_q3, ra_n3, ra_n4, ra_n10, ra_n14, ra_n16, ra_n30, ra_n140, ra_y3, ra_y4, ra_y10, ra_y14, ra_y16, ra_y30, ra_y140]
    exact hJ
  | some b =>
    have hb' : b < 10 := by have := (ra_best_in hb).1; omega
    rw [hb] at hJ
    simp only [hf, Bool.true_and, decide_eq_true_eq] at hJ
    simp (disch := omega) only [wX_firstSender_42, ra_e, not_true, not_false_iff, true_implies, false_implies, implies_true, true_and, and_true, forall_eq, eq_self, ra_i, ra_c, ra_m3, ra_m4, ra_m16, ra_4m, ra_14m, ra_16m, nI_add, nI_1, lN_1, ra_p2, ra_2p, ra_n0, ra_p0, ra_q0, ra_q1, ra_q2, ra_q3, ra_n3, ra_n4, ra_n10, ra_n14, ra_n16, ra_n30, ra_n140, ra_y3, ra_y4, ra_y10, ra_y14, ra_y16, ra_y30, ra_y140]
    by_cases y : sn i < sn b
    · have y' : ¬ sn b ≤ sn i := Int64.not_le.mpr y
      rw [if_pos y] at hJ
      simp (disch := omega) only [y', not_true, not_false_iff, true_implies, false_implies, implies_true, true_and, and_true, forall_eq, eq_self, ra_i, ra_c, ra_m3, ra_m4, ra_m16, ra_4m, ra_14m, ra_16m, nI_add, nI_1, lN_1, ra_p2, ra_2p, ra_n0, ra_p0, ra_q0, ra_q1, ra_q2, ra_q3, ra_n3, ra_n4, ra_n10, ra_n14, ra_n16, ra_n30, ra_n140, ra_y3, ra_y4, ra_y10, ra_y14, ra_y16, ra_y30, ra_y140]
      exact hJ
    · have y' : sn b ≤ sn i := Int64.not_lt.mp y
      rw [if_neg y] at hJ
      simp (disch := omega) only [y', not_true, not_false_iff, true_implies, false_implies, implies_true, true_and, and_true, forall_eq, eq_self, ra_i, ra_c, ra_m3, ra_m4, ra_m16, ra_4m, ra_14m, ra_16m, nI_add, nI_1, lN_1, ra_p2, ra_2p, ra_n0, ra_p0, ra_q0, ra_q1, ra_q2, ra_q3, ra_n3, ra_n4, ra_n10, ra_n14, ra_n16, ra_n30, ra_n140, ra_y3, ra_y4, ra_y10, ra_y14, ra_y16, ra_y30, ra_y140]
      exact hJ
theorem xl_fs_f {r i : Nat} {e : Int32} {z : Int32} {J : Int32 → Int32 → Prop} {post : Int32 → Prop} (hi : i < 10) (h : z = ra_e (ra_bs st ep pt sn r e i)) (hf : ¬ ra_fs st ep pt r e i = true) (hJ : J (ra_e (ra_bs st ep pt sn r e (i + 1))) (nI (i + 1))) : wX_firstSender_41 post J (nI r) e z (nI i) (lN c) ep st pt bs pr tk mk rs vl cl nb al wt lg wd sn lo lt lv gk gt gf gl gs gn sl ss sb pa du oft bg av tt := by
  subst h
  have ee : ra_bs st ep pt sn r e (i + 1) = match ra_bs st ep pt sn r e i with
      | none => if ra_fs st ep pt r e i = true then some i else none
      | some b => if (ra_fs st ep pt r e i && decide (sn i < sn b)) = true then some i else some b := rfl
  rw [ee] at hJ
  cases hb : ra_bs st ep pt sn r e i with
  | none =>
    rw [hb] at hJ
    simp only [hf, if_false] at hJ
    simp (disch := omega) only [wX_firstSender_41, wX_firstSender_42, not_true, not_false_iff, true_implies, false_implies, implies_true, true_and, and_true, forall_eq, eq_self, ra_i, ra_c, ra_m3, ra_m4, ra_m16, ra_4m, ra_14m, ra_16m, nI_add, nI_1, lN_1, ra_p2, ra_2p, ra_n0, ra_p0, ra_q0, ra_q1, ra_q2, ra_q3, ra_n3, ra_n4, ra_n10, ra_n14, ra_n16, ra_n30, ra_n140, ra_y3, ra_y4, ra_y10, ra_y14, ra_y16, ra_y30, ra_y140]
    exact hJ
  | some b =>
    rw [hb] at hJ
    simp only [ra_nt hf, Bool.false_and, Bool.false_eq_true, if_false] at hJ
    simp (disch := omega) only [wX_firstSender_41, wX_firstSender_42, not_true, not_false_iff, true_implies, false_implies, implies_true, true_and, and_true, forall_eq, eq_self, ra_i, ra_c, ra_m3, ra_m4, ra_m16, ra_4m, ra_14m, ra_16m, nI_add, nI_1, lN_1, ra_p2, ra_2p, ra_n0, ra_p0, ra_q0, ra_q1, ra_q2, ra_q3, ra_n3, ra_n4, ra_n10, ra_n14, ra_n16, ra_n30, ra_n140, ra_y3, ra_y4, ra_y10, ra_y14, ra_y16, ra_y30, ra_y140]
    exact hJ
theorem xl_firstSender {r : Nat} {e : Int32} {post : Int32 → Prop} (hr : r < 10) (h : post (ra_e (ra_bs st ep pt sn r e 10))) : wpX_firstSender post (lN c, ep, st, pt, bs, pr, tk, mk, rs, vl, cl, nb, al, wt, lg, wd, sn, lo, lt, lv, gk, gt, gf, gl, gs, gn, sl, ss, sb, pa, du, oft, bg, av, tt) (nI r) e := by
  refine ra_run (fun n i => wX_firstSender_5 post (nI r) e (lN c) ep st pt bs pr tk mk rs vl cl nb al wt lg wd sn lo lt lv gk gt gf gl gs gn sl ss sb pa du oft bg av tt n (ra_e (ra_bs st ep pt sn r e i)) (nI i)) 10 (fun n => ?_) (fun n i hi ih => ?_)
  · simp (disch := omega) only [wX_firstSender_5, not_true, not_false_iff, true_implies, false_implies, implies_true, true_and, and_true, forall_eq, eq_self, ra_i, ra_c, ra_m3, ra_m4, ra_m16, ra_4m, ra_14m, ra_16m, nI_add, nI_1, lN_1, ra_p2, ra_2p, ra_n0, ra_p0, ra_q0, ra_q1, ra_q2, ra_q3, ra_n3, ra_n4, ra_n10, ra_n14, ra_n16, ra_n30, ra_n140, ra_y3, ra_y4, ra_y10, ra_y14, ra_y16, ra_y30, ra_y140]
    exact h
  · by_cases a : st i = 2
    · by_cases b : pt i = ep r
      · by_cases e1 : e = -1
        · have hf : ra_fs st ep pt r e i = true := decide_eq_true ⟨a, b, Or.inl e1⟩
          have w := xl_fs_t (c := c) (bs := bs) (pr := pr) (tk := tk) (mk := mk) (rs := rs) (vl := vl) (cl := cl) (nb := nb) (al := al) (wt := wt) (lg := lg) (wd := wd) (lo := lo) (lt := lt) (lv := lv) (gk := gk) (gt := gt) (gf := gf) (gl := gl) (gs := gs) (gn := gn) (sl := sl) (ss := ss) (sb := sb) (pa := pa) (du := du) (oft := oft) (bg := bg) (av := av) (tt := tt) (post := post) (J := wX_firstSender_5 post (nI r) e (lN c) ep st pt bs pr tk mk rs vl cl nb al wt lg wd sn lo lt lv gk gt gf gl gs gn sl ss sb pa du oft bg av tt n) hi rfl hf ih
          simp (disch := omega) only [wX_firstSender_5, wpX_isInQueue, wpX_isFrom, a, b, e1, not_true, not_false_iff, true_implies, false_implies, implies_true, true_and, and_true, forall_eq, eq_self, ra_i, ra_c, ra_m3, ra_m4, ra_m16, ra_4m, ra_14m, ra_16m, nI_add, nI_1, lN_1, ra_p2, ra_2p, ra_n0, ra_p0, ra_q0, ra_q1, ra_q2, ra_q3, ra_n3, ra_n4, ra_n10, ra_n14, ra_n16, ra_n30, ra_n140, ra_y3, ra_y4, ra_y10, ra_y14, ra_y16, ra_y30, ra_y140]
          subst e1
          exact w
        · by_cases e2 : ep i = e
          · have hf : ra_fs st ep pt r e i = true := decide_eq_true ⟨a, b, Or.inr e2⟩
            have w := xl_fs_t (c := c) (bs := bs) (pr := pr) (tk := tk) (mk := mk) (rs := rs) (vl := vl) (cl := cl) (nb := nb) (al := al) (wt := wt) (lg := lg) (wd := wd) (lo := lo) (lt := lt) (lv := lv) (gk := gk) (gt := gt) (gf := gf) (gl := gl) (gs := gs) (gn := gn) (sl := sl) (ss := ss) (sb := sb) (pa := pa) (du := du) (oft := oft) (bg := bg) (av := av) (tt := tt) (post := post) (J := wX_firstSender_5 post (nI r) e (lN c) ep st pt bs pr tk mk rs vl cl nb al wt lg wd sn lo lt lv gk gt gf gl gs gn sl ss sb pa du oft bg av tt n) hi rfl hf ih
            simp (disch := omega) only [wX_firstSender_5, wpX_isInQueue, wpX_isFrom, a, b, e1, e2, not_true, not_false_iff, true_implies, false_implies, implies_true, true_and, and_true, forall_eq, eq_self, ra_i, ra_c, ra_m3, ra_m4, ra_m16, ra_4m, ra_14m, ra_16m, nI_add, nI_1, lN_1, ra_p2, ra_2p, ra_n0, ra_p0, ra_q0, ra_q1, ra_q2, ra_q3, ra_n3, ra_n4, ra_n10, ra_n14, ra_n16, ra_n30, ra_n140, ra_y3, ra_y4, ra_y10, ra_y14, ra_y16, ra_y30, ra_y140]
            exact w
          · have hf : ¬ ra_fs st ep pt r e i = true := fun z => (of_decide_eq_true z).2.2.elim e1 e2
            have w := xl_fs_f (c := c) (bs := bs) (pr := pr) (tk := tk) (mk := mk) (rs := rs) (vl := vl) (cl := cl) (nb := nb) (al := al) (wt := wt) (lg := lg) (wd := wd) (lo := lo) (lt := lt) (lv := lv) (gk := gk) (gt := gt) (gf := gf) (gl := gl) (gs := gs) (gn := gn) (sl := sl) (ss := ss) (sb := sb) (pa := pa) (du := du) (oft := oft) (bg := bg) (av := av) (tt := tt) (post := post) (J := wX_firstSender_5 post (nI r) e (lN c) ep st pt bs pr tk mk rs vl cl nb al wt lg wd sn lo lt lv gk gt gf gl gs gn sl ss sb pa du oft bg av tt n) hi rfl hf ih
            simp (disch := omega) only [wX_firstSender_5, wpX_isInQueue, wpX_isFrom, a, b, e1, e2, not_true, not_false_iff, true_implies, false_implies, implies_true, true_and, and_true, forall_eq, eq_self, ra_i, ra_c, ra_m3, ra_m4, ra_m16, ra_4m, ra_14m, ra_16m, nI_add, nI_1, lN_1, ra_p2, ra_2p, ra_n0, ra_p0, ra_q0, ra_q1, ra_q2, ra_q3, ra_n3, ra_n4, ra_n10, ra_n14, ra_n16, ra_n30, ra_n140, ra_y3, ra_y4, ra_y10, ra_y14, ra_y16, ra_y30, ra_y140]
            exact w
      · have hf : ¬ ra_fs st ep pt r e i = true := fun z => b (of_decide_eq_true z).2.1
        have w := xl_fs_f (c := c) (bs := bs) (pr := pr) (tk := tk) (mk := mk) (rs := rs) (vl := vl) (cl := cl) (nb := nb) (al := al) (wt := wt) (lg := lg) (wd := wd) (lo := lo) (lt := lt) (lv := lv) (gk := gk) (gt := gt) (gf := gf) (gl := gl) (gs := gs) (gn := gn) (sl := sl) (ss := ss) (sb := sb) (pa := pa) (du := du) (oft := oft) (bg := bg) (av := av) (tt := tt) (post := post) (J := wX_firstSender_5 post (nI r) e (lN c) ep st pt bs pr tk mk rs vl cl nb al wt lg wd sn lo lt lv gk gt gf gl gs gn sl ss sb pa du oft bg av tt n) hi rfl hf ih
        simp (disch := omega) only [wX_firstSender_5, wpX_isInQueue, a, b, not_true, not_false_iff, true_implies, false_implies, implies_true, true_and, and_true, forall_eq, eq_self, ra_i, ra_c, ra_m3, ra_m4, ra_m16, ra_4m, ra_14m, ra_16m, nI_add, nI_1, lN_1, ra_p2, ra_2p, ra_n0, ra_p0, ra_q0, ra_q1, ra_q2, ra_q3, ra_n3, ra_n4, ra_n10, ra_n14, ra_n16, ra_n30, ra_n140, ra_y3, ra_y4, ra_y10, ra_y14, ra_y16, ra_y30, ra_y140]
        exact w
    · have hf : ¬ ra_fs st ep pt r e i = true := fun z => a (of_decide_eq_true z).1
      have w := xl_fs_f (c := c) (bs := bs) (pr := pr) (tk := tk) (mk := mk) (rs := rs) (vl := vl) (cl := cl) (nb := nb) (al := al) (wt := wt) (lg := lg) (wd := wd) (lo := lo) (lt := lt) (lv := lv) (gk := gk) (gt := gt) (gf := gf) (gl := gl) (gs := gs) (gn := gn) (sl := sl) (ss := ss) (sb := sb) (pa := pa) (du := du) (oft := oft) (bg := bg) (av := av) (tt := tt) (post := post) (J := wX_firstSender_5 post (nI r) e (lN c) ep st pt bs pr tk mk rs vl cl nb al wt lg wd sn lo lt lv gk gt gf gl gs gn sl ss sb pa du oft bg av tt n) hi rfl hf ih
      simp (disch := omega) only [wX_firstSender_5, wpX_isInQueue, a, not_true, not_false_iff, true_implies, false_implies, implies_true, true_and, and_true, forall_eq, eq_self, ra_i, ra_c, ra_m3, ra_m4, ra_m16, ra_4m, ra_14m, ra_16m, nI_add, nI_1, lN_1, ra_p2, ra_2p, ra_n0, ra_p0, ra_q0, ra_q1, ra_q2, ra_q3, ra_n3, ra_n4, ra_n10, ra_n14, ra_n16, ra_n30, ra_n140, ra_y3, ra_y4, ra_y10, ra_y14, ra_y16, ra_y30, ra_y140]
      exact w
theorem yl_fs_t {r i : Nat} {e : Int32} {z : Int32} {J : Int32 → Int32 → Prop} {post : Int32 → Prop} (hi : i < 10) (h : z = ra_e (ra_bsY st ep pt mo r e i)) (hf : ra_fs st ep pt r e i = true) (hJ : J (ra_e (ra_bsY st ep pt mo r e (i + 1))) (nI (i + 1))) : wY_firstSender_53 post J (nI r) e z (nI i) (nI n) (nI m) st bo bs pr tk mk ot vl rs al wt so sq go mo cl wd nt fr tw tx gr ge g1 g2 g3 sv sb lf pa du av bg oft se tt cp := by
  subst h
  have ee : ra_bsY st ep pt mo r e (i + 1) = match ra_bsY st ep pt mo r e i with
      | none => if ra_fs st ep pt r e i = true then some i else none
      | some b => if (ra_fs st ep pt r e i && decide (mo i < mo b)) = true then some i else some b := rfl
  rw [ee] at hJ
  cases hb : ra_bsY st ep pt mo r e i with
  | none =>
    rw [hb] at hJ
    simp only [hf, if_true] at hJ
    simp (disch := omega) only [wY_firstSender_53, wY_firstSender_58, ra_e, not_true, not_false_iff, true_implies, false_implies, implies_true, true_and, and_true, forall_eq, eq_self, ra_i, ra_c, ra_m3, ra_m4, ra_m16, ra_4m, ra_14m, ra_16m, nI_add, nI_1, lN_1, ra_p2, ra_2p, ra_n0, ra_p0, ra_q0, ra_q1, ra_q2, ra_q3, ra_n3, ra_n4, ra_n10, ra_n14, ra_n16, ra_n30, ra_n140, ra_y3, ra_y4, ra_y10, ra_y14, ra_y16, ra_y30, ra_y140]
    exact hJ
  | some b =>
    have hb' : b < 10 := by have := (ra_best_in hb).1; omega
    rw [hb] at hJ
    simp only [hf, Bool.true_and, decide_eq_true_eq] at hJ
    simp (disch := omega) only [wY_firstSender_53, wY_firstSender_58, ra_e, not_true, not_false_iff, true_implies, false_implies, implies_true, true_and, and_true, forall_eq, eq_self, ra_i, ra_c, ra_m3, ra_m4, ra_m16, ra_4m, ra_14m, ra_16m, nI_add, nI_1, lN_1, ra_p2, ra_2p, ra_n0, ra_p0, ra_q0, ra_q1, ra_q2, ra_q3, ra_n3, ra_n4, ra_n10, ra_n14, ra_n16, ra_n30, ra_n140, ra_y3, ra_y4, ra_y10, ra_y14, ra_y16, ra_y30, ra_y140]
    by_cases y : mo i < mo b
    · have y' : ¬ mo b ≤ mo i := Int32.not_le.mpr y
      rw [if_pos y] at hJ
      simp (disch := omega) only [y', not_true, not_false_iff, true_implies, false_implies, implies_true, true_and, and_true, forall_eq, eq_self, ra_i, ra_c, ra_m3, ra_m4, ra_m16, ra_4m, ra_14m, ra_16m, nI_add, nI_1, lN_1, ra_p2, ra_2p, ra_n0, ra_p0, ra_q0, ra_q1, ra_q2, ra_q3, ra_n3, ra_n4, ra_n10, ra_n14, ra_n16, ra_n30, ra_n140, ra_y3, ra_y4, ra_y10, ra_y14, ra_y16, ra_y30, ra_y140]
      exact hJ
    · have y' : mo b ≤ mo i := Int32.not_lt.mp y
      rw [if_neg y] at hJ
      simp (disch := omega) only [y', not_true, not_false_iff, true_implies, false_implies, implies_true, true_and, and_true, forall_eq, eq_self, ra_i, ra_c, ra_m3, ra_m4, ra_m16, ra_4m, ra_14m, ra_16m, nI_add, nI_1, lN_1, ra_p2, ra_2p, ra_n0, ra_p0, ra_q0, ra_q1, ra_q2, ra_q3, ra_n3, ra_n4, ra_n10, ra_n14, ra_n16, ra_n30, ra_n140, ra_y3, ra_y4, ra_y10, ra_y14, ra_y16, ra_y30, ra_y140]
      exact hJ
theorem yl_fs_f {r i : Nat} {e : Int32} {z : Int32} {J : Int32 → Int32 → Prop} {post : Int32 → Prop} (hi : i < 10) (h : z = ra_e (ra_bsY st ep pt mo r e i)) (hf : ¬ ra_fs st ep pt r e i = true) (hJ : J (ra_e (ra_bsY st ep pt mo r e (i + 1))) (nI (i + 1))) : wY_firstSender_57 post J (nI r) e z (nI i) (nI n) (nI m) st bo bs pr tk mk ot vl rs al wt so sq go mo cl wd nt fr tw tx gr ge g1 g2 g3 sv sb lf pa du av bg oft se tt cp := by
  subst h
  have ee : ra_bsY st ep pt mo r e (i + 1) = match ra_bsY st ep pt mo r e i with
      | none => if ra_fs st ep pt r e i = true then some i else none
      | some b => if (ra_fs st ep pt r e i && decide (mo i < mo b)) = true then some i else some b := rfl
  rw [ee] at hJ
  cases hb : ra_bsY st ep pt mo r e i with
  | none =>
    rw [hb] at hJ
    simp only [hf, if_false] at hJ
    simp (disch := omega) only [wY_firstSender_57, wY_firstSender_58, not_true, not_false_iff, true_implies, false_implies, implies_true, true_and, and_true, forall_eq, eq_self, ra_i, ra_c, ra_m3, ra_m4, ra_m16, ra_4m, ra_14m, ra_16m, nI_add, nI_1, lN_1, ra_p2, ra_2p, ra_n0, ra_p0, ra_q0, ra_q1, ra_q2, ra_q3, ra_n3, ra_n4, ra_n10, ra_n14, ra_n16, ra_n30, ra_n140, ra_y3, ra_y4, ra_y10, ra_y14, ra_y16, ra_y30, ra_y140]
    exact hJ
  | some b =>
    rw [hb] at hJ
    simp only [ra_nt hf, Bool.false_and, Bool.false_eq_true, if_false] at hJ
    simp (disch := omega) only [wY_firstSender_57, wY_firstSender_58, not_true, not_false_iff, true_implies, false_implies, implies_true, true_and, and_true, forall_eq, eq_self, ra_i, ra_c, ra_m3, ra_m4, ra_m16, ra_4m, ra_14m, ra_16m, nI_add, nI_1, lN_1, ra_p2, ra_2p, ra_n0, ra_p0, ra_q0, ra_q1, ra_q2, ra_q3, ra_n3, ra_n4, ra_n10, ra_n14, ra_n16, ra_n30, ra_n140, ra_y3, ra_y4, ra_y10, ra_y14, ra_y16, ra_y30, ra_y140]
    exact hJ
theorem yl_firstSender {r : Nat} {e : Int32} {post : Int32 → Prop} (hr : r < 10) (hrl : st r ≠ 0) (hE : ra_E B st ep bo) (hW : ra_W st ep pt ot rs) (h : post (ra_e (ra_bsY st ep pt mo r e 10))) : wpY_firstSender post (nI n, nI m, st, bo, bs, pr, tk, mk, ot, vl, rs, al, wt, so, sq, go, mo, cl, wd, nt, fr, tw, tx, gr, ge, g1, g2, g3, sv, sb, lf, pa, du, av, bg, oft, se, tt, cp) (nI r) e := by
  refine ra_run (fun q i => wY_firstSender_5 post (nI r) e (nI n) (nI m) st bo bs pr tk mk ot vl rs al wt so sq go mo cl wd nt fr tw tx gr ge g1 g2 g3 sv sb lf pa du av bg oft se tt cp q (ra_e (ra_bsY st ep pt mo r e i)) (nI i)) 10 (fun q => ?_) (fun q i hi ih => ?_)
  · simp (disch := omega) only [wY_firstSender_5, not_true, not_false_iff, true_implies, false_implies, implies_true, true_and, and_true, forall_eq, eq_self, ra_i, ra_c, ra_m3, ra_m4, ra_m16, ra_4m, ra_14m, ra_16m, nI_add, nI_1, lN_1, ra_p2, ra_2p, ra_n0, ra_p0, ra_q0, ra_q1, ra_q2, ra_q3, ra_n3, ra_n4, ra_n10, ra_n14, ra_n16, ra_n30, ra_n140, ra_y3, ra_y4, ra_y10, ra_y14, ra_y16, ra_y30, ra_y140]
    exact h
  · have yr := ra_E_y hE hr hrl
    by_cases a : st i = 2
    · have yi := ra_E_y hE hi (show st i ≠ 0 by rw [a]; decide)
      have w2 : pt i = ot i := ((hW i hi).2 (by rw [a]; decide) (by rw [a]; decide)).1
      by_cases b : pt i = ep r
      · have b' : ot i = ep r := w2.symm.trans b
        by_cases e1 : e = -1
        · have hf : ra_fs st ep pt r e i = true := decide_eq_true ⟨a, b, Or.inl e1⟩
          have w := yl_fs_t (n := n) (m := m) (bo := bo) (bs := bs) (pr := pr) (tk := tk) (mk := mk) (ot := ot) (vl := vl) (rs := rs) (al := al) (wt := wt) (so := so) (sq := sq) (go := go) (cl := cl) (wd := wd) (nt := nt) (fr := fr) (tw := tw) (tx := tx) (gr := gr) (ge := ge) (g1 := g1) (g2 := g2) (g3 := g3) (sv := sv) (sb := sb) (lf := lf) (pa := pa) (du := du) (av := av) (bg := bg) (oft := oft) (se := se) (tt := tt) (cp := cp) (post := post) (J := wY_firstSender_5 post (nI r) e (nI n) (nI m) st bo bs pr tk mk ot vl rs al wt so sq go mo cl wd nt fr tw tx gr ge g1 g2 g3 sv sb lf pa du av bg oft se tt cp q) hi rfl hf ih
          simp (disch := omega) only [wY_firstSender_5, wpY_endpoint, a, b', yr, yi, e1, not_true, not_false_iff, true_implies, false_implies, implies_true, true_and, and_true, forall_eq, eq_self, ra_i, ra_c, ra_m3, ra_m4, ra_m16, ra_4m, ra_14m, ra_16m, nI_add, nI_1, lN_1, ra_p2, ra_2p, ra_n0, ra_p0, ra_q0, ra_q1, ra_q2, ra_q3, ra_n3, ra_n4, ra_n10, ra_n14, ra_n16, ra_n30, ra_n140, ra_y3, ra_y4, ra_y10, ra_y14, ra_y16, ra_y30, ra_y140]
          subst e1
          exact w
        · by_cases e2 : ep i = e
          · have hf : ra_fs st ep pt r e i = true := decide_eq_true ⟨a, b, Or.inr e2⟩
            have w := yl_fs_t (n := n) (m := m) (bo := bo) (bs := bs) (pr := pr) (tk := tk) (mk := mk) (ot := ot) (vl := vl) (rs := rs) (al := al) (wt := wt) (so := so) (sq := sq) (go := go) (cl := cl) (wd := wd) (nt := nt) (fr := fr) (tw := tw) (tx := tx) (gr := gr) (ge := ge) (g1 := g1) (g2 := g2) (g3 := g3) (sv := sv) (sb := sb) (lf := lf) (pa := pa) (du := du) (av := av) (bg := bg) (oft := oft) (se := se) (tt := tt) (cp := cp) (post := post) (J := wY_firstSender_5 post (nI r) e (nI n) (nI m) st bo bs pr tk mk ot vl rs al wt so sq go mo cl wd nt fr tw tx gr ge g1 g2 g3 sv sb lf pa du av bg oft se tt cp q) hi rfl hf ih
            simp (disch := omega) only [wY_firstSender_5, wpY_endpoint, a, b', yr, yi, e1, e2, not_true, not_false_iff, true_implies, false_implies, implies_true, true_and, and_true, forall_eq, eq_self, ra_i, ra_c, ra_m3, ra_m4, ra_m16, ra_4m, ra_14m, ra_16m, nI_add, nI_1, lN_1, ra_p2, ra_2p, ra_n0, ra_p0, ra_q0, ra_q1, ra_q2, ra_q3, ra_n3, ra_n4, ra_n10, ra_n14, ra_n16, ra_n30, ra_n140, ra_y3, ra_y4, ra_y10, ra_y14, ra_y16, ra_y30, ra_y140]
            exact w
          · have hf : ¬ ra_fs st ep pt r e i = true := fun z => (of_decide_eq_true z).2.2.elim e1 e2
            have w := yl_fs_f (n := n) (m := m) (bo := bo) (bs := bs) (pr := pr) (tk := tk) (mk := mk) (ot := ot) (vl := vl) (rs := rs) (al := al) (wt := wt) (so := so) (sq := sq) (go := go) (cl := cl) (wd := wd) (nt := nt) (fr := fr) (tw := tw) (tx := tx) (gr := gr) (ge := ge) (g1 := g1) (g2 := g2) (g3 := g3) (sv := sv) (sb := sb) (lf := lf) (pa := pa) (du := du) (av := av) (bg := bg) (oft := oft) (se := se) (tt := tt) (cp := cp) (post := post) (J := wY_firstSender_5 post (nI r) e (nI n) (nI m) st bo bs pr tk mk ot vl rs al wt so sq go mo cl wd nt fr tw tx gr ge g1 g2 g3 sv sb lf pa du av bg oft se tt cp q) hi rfl hf ih
            simp (disch := omega) only [wY_firstSender_5, wpY_endpoint, a, b', yr, yi, e1, e2, not_true, not_false_iff, true_implies, false_implies, implies_true, true_and, and_true, forall_eq, eq_self, ra_i, ra_c, ra_m3, ra_m4, ra_m16, ra_4m, ra_14m, ra_16m, nI_add, nI_1, lN_1, ra_p2, ra_2p, ra_n0, ra_p0, ra_q0, ra_q1, ra_q2, ra_q3, ra_n3, ra_n4, ra_n10, ra_n14, ra_n16, ra_n30, ra_n140, ra_y3, ra_y4, ra_y10, ra_y14, ra_y16, ra_y30, ra_y140]
            exact w
      · have b' : ¬ ot i = ep r := fun z => b (w2.trans z)
        have hf : ¬ ra_fs st ep pt r e i = true := fun z => b (of_decide_eq_true z).2.1
        have w := yl_fs_f (n := n) (m := m) (bo := bo) (bs := bs) (pr := pr) (tk := tk) (mk := mk) (ot := ot) (vl := vl) (rs := rs) (al := al) (wt := wt) (so := so) (sq := sq) (go := go) (cl := cl) (wd := wd) (nt := nt) (fr := fr) (tw := tw) (tx := tx) (gr := gr) (ge := ge) (g1 := g1) (g2 := g2) (g3 := g3) (sv := sv) (sb := sb) (lf := lf) (pa := pa) (du := du) (av := av) (bg := bg) (oft := oft) (se := se) (tt := tt) (cp := cp) (post := post) (J := wY_firstSender_5 post (nI r) e (nI n) (nI m) st bo bs pr tk mk ot vl rs al wt so sq go mo cl wd nt fr tw tx gr ge g1 g2 g3 sv sb lf pa du av bg oft se tt cp q) hi rfl hf ih
        simp (disch := omega) only [wY_firstSender_5, wpY_endpoint, a, b', yr, not_true, not_false_iff, true_implies, false_implies, implies_true, true_and, and_true, forall_eq, eq_self, ra_i, ra_c, ra_m3, ra_m4, ra_m16, ra_4m, ra_14m, ra_16m, nI_add, nI_1, lN_1, ra_p2, ra_2p, ra_n0, ra_p0, ra_q0, ra_q1, ra_q2, ra_q3, ra_n3, ra_n4, ra_n10, ra_n14, ra_n16, ra_n30, ra_n140, ra_y3, ra_y4, ra_y10, ra_y14, ra_y16, ra_y30, ra_y140]
        exact w
    · have hf : ¬ ra_fs st ep pt r e i = true := fun z => a (of_decide_eq_true z).1
      have w := yl_fs_f (n := n) (m := m) (bo := bo) (bs := bs) (pr := pr) (tk := tk) (mk := mk) (ot := ot) (vl := vl) (rs := rs) (al := al) (wt := wt) (so := so) (sq := sq) (go := go) (cl := cl) (wd := wd) (nt := nt) (fr := fr) (tw := tw) (tx := tx) (gr := gr) (ge := ge) (g1 := g1) (g2 := g2) (g3 := g3) (sv := sv) (sb := sb) (lf := lf) (pa := pa) (du := du) (av := av) (bg := bg) (oft := oft) (se := se) (tt := tt) (cp := cp) (post := post) (J := wY_firstSender_5 post (nI r) e (nI n) (nI m) st bo bs pr tk mk ot vl rs al wt so sq go mo cl wd nt fr tw tx gr ge g1 g2 g3 sv sb lf pa du av bg oft se tt cp q) hi rfl hf ih
      simp (disch := omega) only [wY_firstSender_5, a, not_true, not_false_iff, true_implies, false_implies, implies_true, true_and, and_true, forall_eq, eq_self, ra_i, ra_c, ra_m3, ra_m4, ra_m16, ra_4m, ra_14m, ra_16m, nI_add, nI_1, lN_1, ra_p2, ra_2p, ra_n0, ra_p0, ra_q0, ra_q1, ra_q2, ra_q3, ra_n3, ra_n4, ra_n10, ra_n14, ra_n16, ra_n30, ra_n140, ra_y3, ra_y4, ra_y10, ra_y14, ra_y16, ra_y30, ra_y140]
      exact w
theorem ra_bs_eq {r : Nat} {e : Int32} (hB : B ≤ 2 ^ 26) (h : ra_O B c m sn mo) : ra_bsY st ep pt mo r e 10 = ra_bs st ep pt sn r e 10 :=
  ra_best_eq (fun _ _ => rfl) (fun i j hi hj _ _ => decide_eq_decide.mpr (ra_O_lt hB h hi hj).symm)
end
end
section
/-! what is got first: all together; receive -/
section
variable {B c m n : Nat} {st pr bs tk mk vl cl rs al wt wd tt sb pa du oft bg av ep pt nb lg lt lv gk gt gf gl gs gn sl ss bo ot so sq go mo nt fr tw tx gr ge g1 g2 g3 sv lf se cp : Nat → Int32} {sn lo : Nat → Int64}
theorem ra_R_unnote {s k : Nat} (h : ra_R B c m n st pr tk rs al tt pa bs sb ep pt nb lg sn lo lt lv gk gt gf gl gs gn sl ss bo ot so sq go mo nt fr tw tx gr ge g1 g2 g3 sv lf se) (hs : s < 10) (hk : k < 14) : ra_R B c m n st pr tk rs al tt pa bs sb ep pt (upd nb s (nb s &&& (((1 : Int32) <<< (nI k &&& 31)) ^^^ (-1)))) lg sn lo lt lv gk gt gf gl gs gn sl ss bo ot so sq go mo (upd nt (14 * s + k) 0) fr tw tx gr ge g1 g2 g3 sv lf se := by
  obtain ⟨h1, h2, h3, h4, h5, h6, h7, h8, h9, h10, h11⟩ := h
  exact ⟨h1, h2, h3, h4, ra_N_clr h5 hs hk, h6, h7, h8, h9, h10, h11⟩
theorem ra_R_L {n' : Nat} {lo' : Nat → Int64} {fr' tw' tx' : Nat → Int32} (h : ra_R B c m n st pr tk rs al tt pa bs sb ep pt nb lg sn lo lt lv gk gt gf gl gs gn sl ss bo ot so sq go mo nt fr tw tx gr ge g1 g2 g3 sv lf se) (hL : ra_L c n' st lo' lt lv fr' tw' tx') : ra_R B c m n' st pr tk rs al tt pa bs sb ep pt nb lg sn lo' lt lv gk gt gf gl gs gn sl ss bo ot so sq go mo nt fr' tw' tx' gr ge g1 g2 g3 sv lf se := by
  obtain ⟨h1, h2, h3, h4, h5, h6, h7, h8, h9, h10, h11⟩ := h
  exact ⟨h1, h2, h3, h4, h5, hL, h7, h8, h9, h10, h11⟩
theorem ra_fetch {r : Nat} {e : Int32} (hB : B ≤ 2 ^ 26) (h : ra_R B c m n st pr tk rs al tt pa bs sb ep pt nb lg sn lo lt lv gk gt gf gl gs gn sl ss bo ot so sq go mo nt fr tw tx gr ge g1 g2 g3 sv lf se) (hr : r < 10) (hr1 : st r = 1) :
    (∃ (w : Int32) (u' : SX) (v' : SY), (w = 0 ∨ w = 1 ∨ w = 2) ∧ ra_RR (B + 1) u' v' ∧ (∀ post : Int32 → SX → Prop, post w u' → wpX_getFirst post (lN c, ep, st, pt, bs, pr, tk, mk, rs, vl, cl, nb, al, wt, lg, wd, sn, lo, lt, lv, gk, gt, gf, gl, gs, gn, sl, ss, sb, pa, du, oft, bg, av, tt) (nI r) e) ∧ (∀ post : Int32 → SY → Prop, post w v' → wpY_fetch post (nI n, nI m, st, bo, bs, pr, tk, mk, ot, vl, rs, al, wt, so, sq, go, mo, cl, wd, nt, fr, tw, tx, gr, ge, g1, g2, g3, sv, sb, lf, pa, du, av, bg, oft, se, tt, cp) (nI r) e)) ∨
    ((∀ post : Int32 → SX → Prop, post (-6) (lN c, ep, st, pt, bs, pr, tk, mk, rs, vl, cl, nb, al, wt, lg, wd, sn, lo, lt, lv, gk, gt, gf, gl, gs, gn, sl, ss, sb, pa, du, oft, bg, av, tt) → wpX_getFirst post (lN c, ep, st, pt, bs, pr, tk, mk, rs, vl, cl, nb, al, wt, lg, wd, sn, lo, lt, lv, gk, gt, gf, gl, gs, gn, sl, ss, sb, pa, du, oft, bg, av, tt) (nI r) e) ∧ (∀ post : Int32 → SY → Prop, post (-1) (nI n, nI m, st, bo, bs, pr, tk, mk, ot, vl, rs, al, wt, so, sq, go, mo, cl, wd, nt, fr, tw, tx, gr, ge, g1, g2, g3, sv, sb, lf, pa, du, av, bg, oft, se, tt, cp) → wpY_fetch post (nI n, nI m, st, bo, bs, pr, tk, mk, ot, vl, rs, al, wt, so, sq, go, mo, cl, wd, nt, fr, tw, tx, gr, ge, g1, g2, g3, sv, sb, lf, pa, du, av, bg, oft, se, tt, cp) (nI r) e)) := by
  have hR := h
  obtain ⟨hE, hO, hW, hD, hN, hL, hG, hS, hT, hI, hP⟩ := h
  have hrl : st r ≠ 0 := by rw [hr1]; decide
  have hcB := hO.1
  have hc : c ≤ 2 ^ 27 := by omega
  have yr := ra_E_y hE hr hrl
  rcases ra_first (ra_fn ep nb r e) 14 with nn | ⟨k, hk, hf, hn⟩
  · have n30 := (ra_L_n hc hL).1
    have hfr : ∀ j, j < n → ∃ a, a < 10 ∧ fr j = nI a ∧ st a ≠ 0 := by
      intro j hj
      obtain ⟨w, pl, -, h2, -⟩ := hL
      obtain ⟨a, b, c, d, e, f⟩ := h2 j hj
      exact ⟨pl j / 3, by omega, c, f⟩
    rcases ra_first (ra_yf ep fr tw r e) n with ln | ⟨k, hk, hf, hn⟩
    · -- no letter
      have bn : ra_bl ep lt lo r e 30 = none := by
        cases hb : ra_bl ep lt lo r e 30 with
        | none => rfl
        | some p =>
          obtain ⟨hp, pf⟩ := ra_best_in hb
          obtain ⟨p1, p2, p3⟩ := of_decide_eq_true pf
          obtain ⟨j, hj, e1, e2⟩ := ra_L_has hc hL hp p1
          exact absurd ⟨e2.trans p2, p3.imp id (fun z => ⟨p / 3, by omega, e1, z⟩)⟩ (ln j hj)
      have be := ra_bs_eq (st := st) (ep := ep) (pt := pt) (r := r) (e := e) hB hO
      cases hb : ra_bs st ep pt sn r e 10 with
      | none =>
        refine Or.inr ⟨fun post hp => ?_, fun post hp => ?_⟩
        · simp only [wpX_getFirst]
          refine xl_firstNote_n hr nn (br_t (by decide) (xl_firstLetter ?_))
          rw [bn]
          refine br_t (by decide) (xl_firstSender hr ?_)
          rw [hb]
          exact br_t (by decide) hp
        · refine yl_fetch_n hr hrl hE hN nn (yl_fetch74_n n30 hE hfr ln (fun q => ?_))
          have le : nI n ≤ nI n := Int32.le_refl _
          rw [wY_fetch_74]
          refine br_t le (yl_firstSender hr hrl hE hW ?_)
          rw [be, hb]
          exact br_f (by decide) hp
      | some s =>
        obtain ⟨hs, sf⟩ := ra_best_in hb
        obtain ⟨s2, s3, -⟩ := of_decide_eq_true sf
        have s0 : st s ≠ 0 := by rw [s2]; decide
        have s1 : st s ≠ 1 := by rw [s2]; decide
        have ys := ra_E_y hE hs s0
        have h2 := ra_R_put (s := r) (k := 2 + 0) (x := ep s) (y := nI 0) (w := vl s) (v := tt (2 + 0) + 1) hR (by omega)
        by_cases c0 : cl s = 0
        · have e0 := ra_R_rs0 hR hs s0 s1
          refine Or.inl ⟨0, _, _, Or.inl rfl, ra_in (mk := mk) (vl := vl) (cl := cl) (wt := wt) (wd := wd) (du := du) (oft := oft) (bg := bg) (av := av) (cp := cp) (ra_R_ready0 h2 hs s0), fun post hp => ?_, fun post hp => ?_⟩
          · simp only [wpX_getFirst]
            refine xl_firstNote_n hr nn (br_t (by decide) (xl_firstLetter ?_))
            rw [bn]
            refine br_t (by decide) (xl_firstSender hr ?_)
            rw [hb]
            simp (disch := omega) only [ra_e, not_true, not_false_iff, true_implies, false_implies, implies_true, true_and, and_true, forall_eq, eq_self, ra_i, ra_c, ra_m3, ra_m4, ra_m16, ra_4m, ra_14m, ra_16m, nI_add, nI_1, lN_1, ra_p2, ra_2p, ra_n0, ra_p0, ra_q0, ra_q1, ra_q2, ra_q3, ra_n3, ra_n4, ra_n10, ra_n14, ra_n16, ra_n30, ra_n140, ra_y3, ra_y4, ra_y10, ra_y14, ra_y16, ra_y30, ra_y140]
            refine xl_putInto (k := 0) hr (by omega) ?_
            simp (disch := omega) only [wpX_releaseSender, c0, not_true, not_false_iff, true_implies, false_implies, implies_true, true_and, and_true, forall_eq, eq_self, ra_i, ra_c, ra_m3, ra_m4, ra_m16, ra_4m, ra_14m, ra_16m, nI_add, nI_1, lN_1, ra_p2, ra_2p, ra_n0, ra_p0, ra_q0, ra_q1, ra_q2, ra_q3, ra_n3, ra_n4, ra_n10, ra_n14, ra_n16, ra_n30, ra_n140, ra_y3, ra_y4, ra_y10, ra_y14, ra_y16, ra_y30, ra_y140]
            exact xl_makeReady hs hp
          · refine yl_fetch_n hr hrl hE hN nn (yl_fetch74_n n30 hE hfr ln (fun q => ?_))
            have le : nI n ≤ nI n := Int32.le_refl _
            rw [wY_fetch_74]
            refine br_t le (yl_firstSender hr hrl hE hW ?_)
            rw [be, hb]
            simp (disch := omega) only [ra_e, wpY_endpoint, ys, yr, not_true, not_false_iff, true_implies, false_implies, implies_true, true_and, and_true, forall_eq, eq_self, ra_i, ra_c, ra_m3, ra_m4, ra_m16, ra_4m, ra_14m, ra_16m, nI_add, nI_1, lN_1, ra_p2, ra_2p, ra_n0, ra_p0, ra_q0, ra_q1, ra_q2, ra_q3, ra_n3, ra_n4, ra_n10, ra_n14, ra_n16, ra_n30, ra_n140, ra_y3, ra_y4, ra_y10, ra_y14, ra_y16, ra_y30, ra_y140]
            refine yl_gets (k := 0) hr (by omega) ?_
            simp (disch := omega) only [c0, not_true, not_false_iff, true_implies, false_implies, implies_true, true_and, and_true, forall_eq, eq_self, ra_i, ra_c, ra_m3, ra_m4, ra_m16, ra_4m, ra_14m, ra_16m, nI_add, nI_1, lN_1, ra_p2, ra_2p, ra_n0, ra_p0, ra_q0, ra_q1, ra_q2, ra_q3, ra_n3, ra_n4, ra_n10, ra_n14, ra_n16, ra_n30, ra_n140, ra_y3, ra_y4, ra_y10, ra_y14, ra_y16, ra_y30, ra_y140]
            refine yl_ready hs ?_
            rw [e0]
            exact hp
        · refine Or.inl ⟨0, _, _, Or.inl rfl, ra_in (mk := mk) (vl := vl) (cl := cl) (wt := wt) (wd := wd) (du := du) (oft := oft) (bg := bg) (av := av) (cp := cp) (ra_R_wait (s := s) (how := 4) (whom := ep r) h2 hs s0 (Or.inr (Or.inr rfl)) (Or.inr ⟨r, hr, hrl, rfl⟩)), fun post hp => ?_, fun post hp => ?_⟩
          · simp only [wpX_getFirst]
            refine xl_firstNote_n hr nn (br_t (by decide) (xl_firstLetter ?_))
            rw [bn]
            refine br_t (by decide) (xl_firstSender hr ?_)
            rw [hb]
            simp (disch := omega) only [ra_e, not_true, not_false_iff, true_implies, false_implies, implies_true, true_and, and_true, forall_eq, eq_self, ra_i, ra_c, ra_m3, ra_m4, ra_m16, ra_4m, ra_14m, ra_16m, nI_add, nI_1, lN_1, ra_p2, ra_2p, ra_n0, ra_p0, ra_q0, ra_q1, ra_q2, ra_q3, ra_n3, ra_n4, ra_n10, ra_n14, ra_n16, ra_n30, ra_n140, ra_y3, ra_y4, ra_y10, ra_y14, ra_y16, ra_y30, ra_y140]
            refine xl_putInto (k := 0) hr (by omega) ?_
            simp (disch := omega) only [wpX_releaseSender, c0, not_true, not_false_iff, true_implies, false_implies, implies_true, true_and, and_true, forall_eq, eq_self, ra_i, ra_c, ra_m3, ra_m4, ra_m16, ra_4m, ra_14m, ra_16m, nI_add, nI_1, lN_1, ra_p2, ra_2p, ra_n0, ra_p0, ra_q0, ra_q1, ra_q2, ra_q3, ra_n3, ra_n4, ra_n10, ra_n14, ra_n16, ra_n30, ra_n140, ra_y3, ra_y4, ra_y10, ra_y14, ra_y16, ra_y30, ra_y140]
            exact xl_startWaiting hs hp
          · refine yl_fetch_n hr hrl hE hN nn (yl_fetch74_n n30 hE hfr ln (fun q => ?_))
            have le : nI n ≤ nI n := Int32.le_refl _
            rw [wY_fetch_74]
            refine br_t le (yl_firstSender hr hrl hE hW ?_)
            rw [be, hb]
            simp (disch := omega) only [ra_e, wpY_endpoint, ys, yr, not_true, not_false_iff, true_implies, false_implies, implies_true, true_and, and_true, forall_eq, eq_self, ra_i, ra_c, ra_m3, ra_m4, ra_m16, ra_4m, ra_14m, ra_16m, nI_add, nI_1, lN_1, ra_p2, ra_2p, ra_n0, ra_p0, ra_q0, ra_q1, ra_q2, ra_q3, ra_n3, ra_n4, ra_n10, ra_n14, ra_n16, ra_n30, ra_n140, ra_y3, ra_y4, ra_y10, ra_y14, ra_y16, ra_y30, ra_y140]
            refine yl_gets (k := 0) hr (by omega) ?_
            simp (disch := omega) only [c0, not_true, not_false_iff, true_implies, false_implies, implies_true, true_and, and_true, forall_eq, eq_self, ra_i, ra_c, ra_m3, ra_m4, ra_m16, ra_4m, ra_14m, ra_16m, nI_add, nI_1, lN_1, ra_p2, ra_2p, ra_n0, ra_p0, ra_q0, ra_q1, ra_q2, ra_q3, ra_n3, ra_n4, ra_n10, ra_n14, ra_n16, ra_n30, ra_n140, ra_y3, ra_y4, ra_y10, ra_y14, ra_y16, ra_y30, ra_y140]
            exact yl_waits hs hp
    · -- a letter
      obtain ⟨p, hp, lp, e1, e2, e3, pl, oth, hL'⟩ := ra_L_out' hc hL hk
      obtain ⟨f1, f2⟩ := hf
      have pf : ra_fl ep lt lo r e p = true := by
        refine decide_eq_true ⟨lp, e2.symm.trans f1, f2.imp id ?_⟩
        rintro ⟨a, ha, ea, ee⟩
        have := ea.symm.trans e1
        rw [nI_eq (by omega) (by omega)] at this
        rw [← this]
        exact ee
      have bp : ra_bl ep lt lo r e 30 = some p := by
        cases hb : ra_bl ep lt lo r e 30 with
        | none =>
          have := ra_best_no hb p hp
          rw [pf] at this
          cases this
        | some b =>
          obtain ⟨hb30, bf⟩ := ra_best_in hb
          by_cases bp : b = p
          · rw [bp]
          · obtain ⟨b1, b2, b3⟩ := of_decide_eq_true bf
            obtain ⟨j, hj, jk, j1, j2, -, j3⟩ := oth b hb30 bp b1
            have jf : ra_yf ep fr tw r e j := ⟨j2.trans b2, b3.imp id (fun z => ⟨b / 3, by omega, j1, z⟩)⟩
            have kj : k < j := by
              rcases Nat.lt_trichotomy j k with z | z | z
              · exact absurd jf (hn j z)
              · exact absurd z jk
              · exact z
            have l1 := j3 kj
            have l2 := ra_best_min (k := fun i => (lo i).toInt) hb p hp pf
            rw [Int64.lt_iff_toInt_lt] at l1
            omega
      have yp := ra_E_y hE (show p / 3 < 10 by omega) pl
      have h2 := ra_R_put (s := r) (k := 2 + 2) (x := ep (p / 3)) (y := nI 2) (w := lv p) (v := tt (2 + 2) + 1) (ra_R_L hR hL') (by omega)
      have n30 := (ra_L_n hc hL).1
      refine Or.inl ⟨2, _, _, Or.inr (Or.inr rfl), ra_RR_mono (ra_in (mk := mk) (vl := vl) (cl := cl) (wt := wt) (wd := wd) (du := du) (oft := oft) (bg := bg) (av := av) (cp := cp) h2) (by omega), fun post hq => ?_, fun post hq => ?_⟩
      · simp only [wpX_getFirst]
        refine xl_firstNote_n hr nn (br_t (by decide) (xl_firstLetter ?_))
        rw [bp]
        simp (disch := omega) only [ra_e, ra_d3, not_true, not_false_iff, true_implies, false_implies, implies_true, true_and, and_true, forall_eq, eq_self, ra_i, ra_c, ra_m3, ra_m4, ra_m16, ra_4m, ra_14m, ra_16m, nI_add, nI_1, lN_1, ra_p2, ra_2p, ra_n0, ra_p0, ra_q0, ra_q1, ra_q2, ra_q3, ra_n3, ra_n4, ra_n10, ra_n14, ra_n16, ra_n30, ra_n140, ra_y3, ra_y4, ra_y10, ra_y14, ra_y16, ra_y30, ra_y140]
        exact xl_putInto (k := 2) hr (by omega) hq
      · refine yl_fetch_n hr hrl hE hN nn (yl_fetch74_s hk n30 hE hfr ⟨f1, f2⟩ hn ?_)
        simp (disch := omega) only [wY_fetch_114, e1, e3, wpY_endpoint, yp, not_true, not_false_iff, true_implies, false_implies, implies_true, true_and, and_true, forall_eq, eq_self, ra_i, ra_c, ra_m3, ra_m4, ra_m16, ra_4m, ra_14m, ra_16m, nI_add, nI_1, lN_1, ra_p2, ra_2p, ra_n0, ra_p0, ra_q0, ra_q1, ra_q2, ra_q3, ra_n3, ra_n4, ra_n10, ra_n14, ra_n16, ra_n30, ra_n140, ra_y3, ra_y4, ra_y10, ra_y14, ra_y16, ra_y30, ra_y140]
        refine yl_gets (k := 2) hr (by omega) ?_
        exact yl_takeOut hk n30 hq
  · -- a note
    have h2 := ra_R_put (s := r) (k := 2 + 1) (x := ra_so ep k) (y := nI 1) (w := 0) (v := tt (2 + 1) + 1) (ra_R_unnote (s := r) (k := k) hR hr hk) (by omega)
    refine Or.inl ⟨1, _, _, Or.inr (Or.inl rfl), ra_RR_mono (ra_in (mk := mk) (vl := vl) (cl := cl) (wt := wt) (wd := wd) (du := du) (oft := oft) (bg := bg) (av := av) (cp := cp) h2) (by omega), fun post hq => ?_, fun post hq => ?_⟩
    · simp only [wpX_getFirst]
      refine xl_firstNote_s hr hk hf hn (br_f (nI_pos (by omega)) (xl_noteSource hk ?_))
      simp (disch := omega) only [not_true, not_false_iff, true_implies, false_implies, implies_true, true_and, and_true, forall_eq, eq_self, ra_i, ra_c, ra_m3, ra_m4, ra_m16, ra_4m, ra_14m, ra_16m, nI_add, nI_1, lN_1, ra_p2, ra_2p, ra_n0, ra_p0, ra_q0, ra_q1, ra_q2, ra_q3, ra_n3, ra_n4, ra_n10, ra_n14, ra_n16, ra_n30, ra_n140, ra_y3, ra_y4, ra_y10, ra_y14, ra_y16, ra_y30, ra_y140]
      exact xl_putInto (k := 1) hr (by omega) hq
    · refine yl_fetch_s hr hrl hE hN hk hf hn ?_
      simp (disch := omega) only [wY_fetch_43, ra_nb0, not_true, not_false_iff, true_implies, false_implies, implies_true, true_and, and_true, forall_eq, eq_self, ra_i, ra_c, ra_m3, ra_m4, ra_m16, ra_4m, ra_14m, ra_16m, nI_add, nI_1, lN_1, ra_p2, ra_2p, ra_n0, ra_p0, ra_q0, ra_q1, ra_q2, ra_q3, ra_n3, ra_n4, ra_n10, ra_n14, ra_n16, ra_n30, ra_n140, ra_y3, ra_y4, ra_y10, ra_y14, ra_y16, ra_y30, ra_y140]
      exact yl_gets (k := 1) hr (by omega) hq
theorem xl_roa {r : Nat} {e : Int32} {post : Int32 → Prop} (hr : r < 10) (h1 : e = -1 → post 0) (h2 : ¬ e = -1 → wpX_refusal post (lN c, ep, st, pt, bs, pr, tk, mk, rs, vl, cl, nb, al, wt, lg, wd, sn, lo, lt, lv, gk, gt, gf, gl, gs, gn, sl, ss, sb, pa, du, oft, bg, av, tt) (nI r) e) : wpX_refusalOrAny post (lN c, ep, st, pt, bs, pr, tk, mk, rs, vl, cl, nb, al, wt, lg, wd, sn, lo, lt, lv, gk, gt, gf, gl, gs, gn, sl, ss, sb, pa, du, oft, bg, av, tt) (nI r) e := by
  simp (disch := omega) only [wpX_refusalOrAny, wX_refusalOrAny_11, not_true, not_false_iff, true_implies, false_implies, implies_true, true_and, and_true, forall_eq, eq_self, ra_i, ra_c, ra_m3, ra_m4, ra_m16, ra_4m, ra_14m, ra_16m, nI_add, nI_1, lN_1, ra_p2, ra_2p, ra_n0, ra_p0, ra_q0, ra_q1, ra_q2, ra_q3, ra_n3, ra_n4, ra_n10, ra_n14, ra_n16, ra_n30, ra_n140, ra_y3, ra_y4, ra_y10, ra_y14, ra_y16, ra_y30, ra_y140]
  exact br_c h1 h2
/-- receive, behind the refusals -/
theorem ra_receive2 {r : Nat} {e b : Int32} (hB : B ≤ 2 ^ 26) (h : ra_R B c m n st pr tk rs al tt pa bs sb ep pt nb lg sn lo lt lv gk gt gf gl gs gn sl ss bo ot so sq go mo nt fr tw tx gr ge g1 g2 g3 sv lf se) (hr : r < 10) (hr1 : st r = 1) (he : e = -1 ∨ ∃ s, s < 10 ∧ st s ≠ 0 ∧ ep s = e ∧ e &&& 15 = nI s) :
    ∃ (w : Int32) (u' : SX) (v' : SY), ra_RR (B + 1) u' v' ∧
    (∀ post : Int32 → SX → Prop, post w u' → wpX_getFirst (fun r_74 u => match u with | (cm, ep, st, pt, bs, pr, tk, mk, rs, vl, cl, nb, al, wt, lg, wd, sn, lo, lt, lv, gk, gt, gf, gl, gs, gn, sl, ss, sb, pa, du, oft, bg, av, tt) => (r_74 = (-6) → (b = 0 → post r_74 (cm, ep, st, pt, bs, pr, tk, mk, rs, vl, cl, nb, al, wt, lg, wd, sn, lo, lt, lv, gk, gt, gf, gl, gs, gn, sl, ss, sb, pa, du, oft, bg, av, tt)) ∧ (¬ b = 0 → wpX_slotOf (fun r_112 => (r_112 < 0 → wX_receive_68 post e (nI r) cm ep st pt bs pr tk mk rs vl cl nb al wt lg wd sn lo lt lv gk gt gf gl gs gn sl ss sb pa du oft bg av tt) ∧ (¬ r_112 < 0 → wpX_isStuckBehind (fun r_185 => (r_185 = 0 → wX_receive_68 post e (nI r) cm ep st pt bs pr tk mk rs vl cl nb al wt lg wd sn lo lt lv gk gt gf gl gs gn sl ss sb pa du oft bg av tt) ∧ (¬ r_185 = 0 → post (-5) (cm, ep, st, pt, bs, pr, tk, mk, rs, vl, cl, nb, al, wt, lg, wd, sn, lo, lt, lv, gk, gt, gf, gl, gs, gn, sl, ss, sb, pa, du, oft, bg, av, tt))) (cm, ep, st, pt, bs, pr, tk, mk, rs, vl, cl, nb, al, wt, lg, wd, sn, lo, lt, lv, gk, gt, gf, gl, gs, gn, sl, ss, sb, pa, du, oft, bg, av, tt) r_112 (nI r))) (cm, ep, st, pt, bs, pr, tk, mk, rs, vl, cl, nb, al, wt, lg, wd, sn, lo, lt, lv, gk, gt, gf, gl, gs, gn, sl, ss, sb, pa, du, oft, bg, av, tt) e)) ∧ (¬ r_74 = (-6) → post r_74 (cm, ep, st, pt, bs, pr, tk, mk, rs, vl, cl, nb, al, wt, lg, wd, sn, lo, lt, lv, gk, gt, gf, gl, gs, gn, sl, ss, sb, pa, du, oft, bg, av, tt))) (lN c, ep, st, pt, bs, pr, tk, mk, rs, vl, cl, nb, al, wt, lg, wd, sn, lo, lt, lv, gk, gt, gf, gl, gs, gn, sl, ss, sb, pa, du, oft, bg, av, tt) (nI r) e) ∧
    (∀ post : Int32 → SY → Prop, post w v' → wY_receive_27 post e b (nI r) 0 (nI n) (nI m) st bo bs pr tk mk ot vl rs al wt so sq go mo cl wd nt fr tw tx gr ge g1 g2 g3 sv sb lf pa du av bg oft se tt cp) := by
  have hrl : st r ≠ 0 := by rw [hr1]; decide
  rcases ra_fetch hB h (e := e) hr hr1 with ⟨w, u', v', hw, hR, hX, hY⟩ | ⟨hX, hY⟩
  · refine ⟨w, u', v', hR, fun post hp => hX _ ?_, fun post hp => ?_⟩
    · obtain ⟨c', m', n', st', pr', bs', tk', mk', vl', cl', rs', al', wt', wd', tt', sb', pa', du', oft', bg', av', ep', pt', nb', lg', lt', lv', gk', gt', gf', gl', gs', gn', sl', ss', bo', ot', so', sq', go', mo', nt', fr', tw', tx', gr', ge', g1', g2', g3', sv', lf', se', cp', sn', lo', rfl, rfl, -⟩ := hR
      refine br_f ?_ hp
      rcases hw with rfl | rfl | rfl <;> decide
    · simp (disch := omega) only [wY_receive_27, Int32.le_refl, not_true, not_false_iff, true_implies, false_implies, implies_true, true_and, and_true, forall_eq, eq_self, ra_i, ra_c, ra_m3, ra_m4, ra_m16, ra_4m, ra_14m, ra_16m, nI_add, nI_1, lN_1, ra_p2, ra_2p, ra_n0, ra_p0, ra_q0, ra_q1, ra_q2, ra_q3, ra_n3, ra_n4, ra_n10, ra_n14, ra_n16, ra_n30, ra_n140, ra_y3, ra_y4, ra_y10, ra_y14, ra_y16, ra_y30, ra_y140]
      refine hY _ ?_
      obtain ⟨c', m', n', st', pr', bs', tk', mk', vl', cl', rs', al', wt', wd', tt', sb', pa', du', oft', bg', av', ep', pt', nb', lg', lt', lv', gk', gt', gf', gl', gs', gn', sl', ss', bo', ot', so', sq', go', mo', nt', fr', tw', tx', gr', ge', g1', g2', g3', sv', lf', se', cp', sn', lo', rfl, rfl, -⟩ := hR
      refine br_f ?_ hp
      rcases hw with rfl | rfl | rfl <;> decide
  · by_cases b0 : b = 0
    · refine ⟨-6, _, _, ra_RR_mono (ra_in (mk := mk) (vl := vl) (cl := cl) (wt := wt) (wd := wd) (du := du) (oft := oft) (bg := bg) (av := av) (cp := cp) h) (by omega), fun post hp => hX _ (br_t rfl (br_t b0 hp)), fun post hp => ?_⟩
      simp (disch := omega) only [wY_receive_27, Int32.le_refl, not_true, not_false_iff, true_implies, false_implies, implies_true, true_and, and_true, forall_eq, eq_self, ra_i, ra_c, ra_m3, ra_m4, ra_m16, ra_4m, ra_14m, ra_16m, nI_add, nI_1, lN_1, ra_p2, ra_2p, ra_n0, ra_p0, ra_q0, ra_q1, ra_q2, ra_q3, ra_n3, ra_n4, ra_n10, ra_n14, ra_n16, ra_n30, ra_n140, ra_y3, ra_y4, ra_y10, ra_y14, ra_y16, ra_y30, ra_y140]
      exact hY _ (br_t (by decide) (br_t b0 hp))
    · rcases he with e1 | ⟨s, hs, hl, ee, ea⟩
      · have h3 := ra_R_wait (s := r) (how := 3) (whom := e) h hr hrl (Or.inr (Or.inl rfl)) (Or.inl e1)
        refine ⟨-2, _, _, ra_in (mk := mk) (vl := vl) (cl := cl) (wt := wt) (wd := wd) (du := du) (oft := oft) (bg := bg) (av := av) (cp := cp) h3, fun post hp => hX _ (br_t rfl (br_f b0 (xl_slotOf_n (fun s hs _ => ?_) (br_t (by decide) ?_)))), fun post hp => ?_⟩
        · rw [e1]; exact ra_E_ne hB h.1 hs
        · simp only [wX_receive_68]
          exact xl_startWaiting hr hp
        · simp (disch := omega) only [wY_receive_27, Int32.le_refl, not_true, not_false_iff, true_implies, false_implies, implies_true, true_and, and_true, forall_eq, eq_self, ra_i, ra_c, ra_m3, ra_m4, ra_m16, ra_4m, ra_14m, ra_16m, nI_add, nI_1, lN_1, ra_p2, ra_2p, ra_n0, ra_p0, ra_q0, ra_q1, ra_q2, ra_q3, ra_n3, ra_n4, ra_n10, ra_n14, ra_n16, ra_n30, ra_n140, ra_y3, ra_y4, ra_y10, ra_y14, ra_y16, ra_y30, ra_y140]
          refine hY _ (br_t (by decide) (br_f b0 (br_t e1 ?_)))
          simp only [wY_receive_80]
          exact yl_waits hr hp
      · have ne : ¬ e = -1 := by rw [← ee]; exact ra_E_ne hB h.1 hs
        obtain ⟨g, hg, gX, gY⟩ := ra_stuck_both (mk := mk) (vl := vl) (cl := cl) (wt := wt) (wd := wd) (du := du) (oft := oft) (bg := bg) (av := av) (cp := cp) hB h hr hs
        rcases hg with rfl | rfl
        · have h3 := ra_R_wait (s := r) (how := 3) (whom := e) h hr hrl (Or.inr (Or.inl rfl)) (Or.inr ⟨s, hs, hl, ee.symm⟩)
          refine ⟨-2, _, _, ra_in (mk := mk) (vl := vl) (cl := cl) (wt := wt) (wd := wd) (du := du) (oft := oft) (bg := bg) (av := av) (cp := cp) h3, fun post hp => hX _ (br_t rfl (br_f b0 (xl_slotOf_s hs hl ee ea (br_f (nI_pos (by omega)) (gX _ (br_t rfl ?_)))))), fun post hp => ?_⟩
          · simp only [wX_receive_68]
            exact xl_startWaiting hr hp
          · simp (disch := omega) only [wY_receive_27, Int32.le_refl, not_true, not_false_iff, true_implies, false_implies, implies_true, true_and, and_true, forall_eq, eq_self, ra_i, ra_c, ra_m3, ra_m4, ra_m16, ra_4m, ra_14m, ra_16m, nI_add, nI_1, lN_1, ra_p2, ra_2p, ra_n0, ra_p0, ra_q0, ra_q1, ra_q2, ra_q3, ra_n3, ra_n4, ra_n10, ra_n14, ra_n16, ra_n30, ra_n140, ra_y3, ra_y4, ra_y10, ra_y14, ra_y16, ra_y30, ra_y140]
            refine hY _ (br_t (by decide) (br_f b0 (br_f ne ?_)))
            rw [ea]
            refine gY _ (br_t rfl ?_)
            simp only [wY_receive_80]
            exact yl_waits hr hp
        · refine ⟨-5, _, _, ra_RR_mono (ra_in (mk := mk) (vl := vl) (cl := cl) (wt := wt) (wd := wd) (du := du) (oft := oft) (bg := bg) (av := av) (cp := cp) h) (by omega), fun post hp => hX _ (br_t rfl (br_f b0 (xl_slotOf_s hs hl ee ea (br_f (nI_pos (by omega)) (gX _ (br_f (by decide) hp)))))), fun post hp => ?_⟩
          simp (disch := omega) only [wY_receive_27, Int32.le_refl, not_true, not_false_iff, true_implies, false_implies, implies_true, true_and, and_true, forall_eq, eq_self, ra_i, ra_c, ra_m3, ra_m4, ra_m16, ra_4m, ra_14m, ra_16m, nI_add, nI_1, lN_1, ra_p2, ra_2p, ra_n0, ra_p0, ra_q0, ra_q1, ra_q2, ra_q3, ra_n3, ra_n4, ra_n10, ra_n14, ra_n16, ra_n30, ra_n140, ra_y3, ra_y4, ra_y10, ra_y14, ra_y16, ra_y30, ra_y140]
          refine hY _ (br_t (by decide) (br_f b0 (br_f ne ?_)))
          rw [ea]
          exact gY _ (br_f (by decide) hp)
theorem ra_receive {e b : Int32} (hB : B ≤ 2 ^ 26) (h : ra_R B c m n st pr tk rs al tt pa bs sb ep pt nb lg sn lo lt lv gk gt gf gl gs gn sl ss bo ot so sq go mo nt fr tw tx gr ge g1 g2 g3 sv lf se) : ∃ (w : Int32) (u' : SX) (v' : SY), ra_RR (B + 1) u' v' ∧ (∀ post : Int32 → SX → Prop, post w u' → wpX_receive post (lN c, ep, st, pt, bs, pr, tk, mk, rs, vl, cl, nb, al, wt, lg, wd, sn, lo, lt, lv, gk, gt, gf, gl, gs, gn, sl, ss, sb, pa, du, oft, bg, av, tt) e b) ∧ (∀ post : Int32 → SY → Prop, post w v' → wpY_receive post (nI n, nI m, st, bo, bs, pr, tk, mk, ot, vl, rs, al, wt, so, sq, go, mo, cl, wd, nt, fr, tw, tx, gr, ge, g1, g2, g3, sv, sb, lf, pa, du, av, bg, oft, se, tt, cp) e b) := by
  rcases ra_run_both (mk := mk) (vl := vl) (cl := cl) (wt := wt) (wd := wd) (du := du) (oft := oft) (bg := bg) (av := av) (cp := cp) hB h with ⟨rX, rY⟩ | ⟨r, hr, hr1, rX, rY⟩
  · refine ⟨-1, _, _, ra_RR_mono (ra_in (mk := mk) (vl := vl) (cl := cl) (wt := wt) (wd := wd) (du := du) (oft := oft) (bg := bg) (av := av) (cp := cp) h) (by omega), fun post hp => ?_, fun post hp => ?_⟩
    · simp only [wpX_receive]
      refine rX _ ?_
      simp only [wpX_refusalOrAny, wX_refusalOrAny_11, wpX_refusal, ra_q0, ra_q1, ra_q5, not_true, not_false_iff, true_implies, false_implies, true_and, and_true]
      exact hp
    · simp only [wpY_receive]
      exact rY _ (br_f (by decide) hp)
  · by_cases e1 : e = -1
    · obtain ⟨w, u', v', hR, hX, hY⟩ := ra_receive2 (mk := mk) (vl := vl) (cl := cl) (wt := wt) (wd := wd) (du := du) (oft := oft) (bg := bg) (av := av) (cp := cp) (b := b) hB h hr hr1 (Or.inl e1)
      refine ⟨w, u', v', hR, fun post hp => ?_, fun post hp => ?_⟩
      · simp only [wpX_receive]
        exact rX _ (xl_roa hr (fun _ => br_t rfl (hX post hp)) (fun z => absurd e1 z))
      · simp only [wpY_receive]
        exact rY _ (br_t (nI_pos' (by omega)) (br_t e1 (hY post hp)))
    · rcases ra_ref0 (mk := mk) (vl := vl) (cl := cl) (wt := wt) (wd := wd) (du := du) (oft := oft) (bg := bg) (av := av) (cp := cp) hB h hr hr1 e with ⟨w, hw, hX, -, hY⟩ | ⟨s, hs, z, hl, he, ha, hX, hY⟩
      · have w0 : ¬ w = 0 := by rcases hw with rfl | rfl <;> decide
        have w1 : ¬ 0 ≤ w := by rcases hw with rfl | rfl <;> decide
        refine ⟨w, _, _, ra_RR_mono (ra_in (mk := mk) (vl := vl) (cl := cl) (wt := wt) (wd := wd) (du := du) (oft := oft) (bg := bg) (av := av) (cp := cp) h) (by omega), fun post hp => ?_, fun post hp => ?_⟩
        · simp only [wpX_receive]
          exact rX _ (xl_roa hr (fun y => absurd y e1) (fun _ => hX _ (br_f w0 hp)))
        · simp only [wpY_receive]
          refine rY _ (br_t (nI_pos' (by omega)) (br_f e1 (hY _ 0 ?_)))
          simp only [wY_receive_27]
          exact br_f w1 hp
      · obtain ⟨w, u', v', hR, gX, gY⟩ := ra_receive2 (mk := mk) (vl := vl) (cl := cl) (wt := wt) (wd := wd) (du := du) (oft := oft) (bg := bg) (av := av) (cp := cp) (b := b) hB h hr hr1 (Or.inr ⟨s, hs, hl, he, ha⟩)
        refine ⟨w, u', v', hR, fun post hp => ?_, fun post hp => ?_⟩
        · simp only [wpX_receive]
          exact rX _ (xl_roa hr (fun y => absurd y e1) (fun _ => hX _ (br_t rfl (gX post hp))))
        · simp only [wpY_receive]
          exact rY _ (br_t (nI_pos' (by omega)) (br_f e1 (hY _ (gY post hp))))
end
end
section
/-! letters are counted; post -/
theorem ra_own {c n r : Nat} {st : Nat → Int32} {lo : Nat → Int64} {lt lv fr tw tx : Nat → Int32} (hc : c ≤ 2 ^ 27) (h : ra_L c n st lo lt lv fr tw tx) (hr : r < 10) : ra_cn (fun j => decide (fr j = nI r)) n = ra_cn (fun i => decide (¬ lo (3 * r + i) = 0)) 3 := by
  obtain ⟨pl, h1, h2⟩ := ra_L_cn hc h
  have e1 : ra_cn (fun j => decide (fr j = nI r)) n = ra_cn (fun j => decide (pl j / 3 = r)) n := by
    refine ra_cn_eq (fun j hj => ?_)
    obtain ⟨a, b, -⟩ := h1 j hj
    rw [b]
    exact decide_eq_decide.mpr (nI_eq (by omega) (by omega))
  rw [e1, h2 (fun p => decide (p / 3 = r))]
  have e2 : (30 : Nat) = 3 * r + (3 + (27 - 3 * r)) := by omega
  rw [e2, ra_cn_add, ra_cn_add]
  have z1 : ra_cn (fun p => decide (¬ lo p = 0) && decide (p / 3 = r)) (3 * r) = 0 := by
    refine ra_cn_0 (fun k hk => ?_)
    show (decide (¬ lo k = 0) && decide (k / 3 = r)) = false
    rw [decide_eq_false (p := k / 3 = r) (by omega), Bool.and_false]
  have z2 : ra_cn (fun i => (fun i => (fun p => decide (¬ lo p = 0) && decide (p / 3 = r)) (3 * r + i)) (3 + i)) (27 - 3 * r) = 0 := by
    refine ra_cn_0 (fun k hk => ?_)
    show (decide (¬ lo (3 * r + (3 + k)) = 0) && decide ((3 * r + (3 + k)) / 3 = r)) = false
    rw [decide_eq_false (p := (3 * r + (3 + k)) / 3 = r) (by omega), Bool.and_false]
  have z3 : ra_cn (fun i => (fun p => decide (¬ lo p = 0) && decide (p / 3 = r)) (3 * r + i)) 3 = ra_cn (fun i => decide (¬ lo (3 * r + i) = 0)) 3 := by
    refine ra_cn_eq (fun k hk => ?_)
    show (decide (¬ lo (3 * r + k) = 0) && decide ((3 * r + k) / 3 = r)) = decide (¬ lo (3 * r + k) = 0)
    rw [decide_eq_true (p := (3 * r + k) / 3 = r) (by omega), Bool.and_true]
  rw [z1, z2, z3]
  omega
theorem ra_for {c n r : Nat} {st : Nat → Int32} {lo : Nat → Int64} {lt lv fr tw tx : Nat → Int32} (hc : c ≤ 2 ^ 27) (h : ra_L c n st lo lt lv fr tw tx) : ra_cn (fun j => decide (tw j = nI r)) n = ra_cn (fun p => decide (¬ lo p = 0) && decide (lt p = nI r)) 30 := by
  obtain ⟨pl, h1, h2⟩ := ra_L_cn hc h
  rw [← h2 (fun p => decide (lt p = nI r))]
  refine ra_cn_eq (fun j hj => ?_)
  obtain ⟨-, -, b⟩ := h1 j hj
  rw [b]
theorem ra_cn3 (f : Nat → Bool) : ra_cn f 3 = (if f 0 = true then 1 else 0) + (if f 1 = true then 1 else 0) + (if f 2 = true then 1 else 0) := by
  simp only [ra_cn]
  omega
theorem ra_cn3_all {f : Nat → Bool} (h : ∀ i, i < 3 → f i = true) : ra_cn f 3 = 3 := by
  rw [ra_cn3, if_pos (h 0 (by omega)), if_pos (h 1 (by omega)), if_pos (h 2 (by omega))]
theorem ra_cn3_not {f : Nat → Bool} {i : Nat} (hi : i < 3) (h : ¬ f i = true) : ra_cn f 3 < 3 := by
  rw [ra_cn3]
  have : i = 0 ∨ i = 1 ∨ i = 2 := by omega
  rcases this with rfl | rfl | rfl
  · rw [if_neg h]; split <;> split <;> omega
  · rw [if_neg h]; split <;> split <;> omega
  · rw [if_neg h]; split <;> split <;> omega
section
variable {B c m n : Nat} {st pr bs tk mk vl cl rs al wt wd tt sb pa du oft bg av ep pt nb lg lt lv gk gt gf gl gs gn sl ss bo ot so sq go mo nt fr tw tx gr ge g1 g2 g3 sv lf se cp : Nat → Int32} {sn lo : Nat → Int64}
theorem yl_own {r : Nat} {post : Int32 → Prop} (hn : n ≤ 30) (h : post (nI (ra_cn (fun j => decide (fr j = nI r)) n))) : wpY_own post (nI n, nI m, st, bo, bs, pr, tk, mk, ot, vl, rs, al, wt, so, sq, go, mo, cl, wd, nt, fr, tw, tx, gr, ge, g1, g2, g3, sv, sb, lf, pa, du, av, bg, oft, se, tt, cp) (nI r) := by
  refine ra_run (fun q i => wY_own_4 post (nI r) (nI n) (nI m) st bo bs pr tk mk ot vl rs al wt so sq go mo cl wd nt fr tw tx gr ge g1 g2 g3 sv sb lf pa du av bg oft se tt cp q (nI (ra_cn (fun j => decide (fr j = nI r)) i)) (nI i)) n (fun q => ?_) (fun q i hi ih => ?_)
  · have le : nI n ≤ nI n := Int32.le_refl _
    simp (disch := omega) only [wY_own_4, le, not_true, not_false_iff, true_implies, false_implies, implies_true, true_and, and_true, forall_eq, eq_self, ra_i, ra_c, ra_m3, ra_m4, ra_m16, ra_4m, ra_14m, ra_16m, nI_add, nI_1, lN_1, ra_p2, ra_2p, ra_n0, ra_p0, ra_q0, ra_q1, ra_q2, ra_q3, ra_n3, ra_n4, ra_n10, ra_n14, ra_n16, ra_n30, ra_n140, ra_y3, ra_y4, ra_y10, ra_y14, ra_y16, ra_y30, ra_y140]
    exact h
  · have le : ¬ nI n ≤ nI i := nI_ge (by omega) (by omega)
    have e : ra_cn (fun j => decide (fr j = nI r)) (i + 1) = ra_cn (fun j => decide (fr j = nI r)) i + (if decide (fr i = nI r) = true then 1 else 0) := rfl
    rw [e] at ih
    by_cases a : fr i = nI r
    · rw [if_pos (decide_eq_true a)] at ih
      simp (disch := omega) only [wY_own_4, le, a, not_true, not_false_iff, true_implies, false_implies, implies_true, true_and, and_true, forall_eq, eq_self, ra_i, ra_c, ra_m3, ra_m4, ra_m16, ra_4m, ra_14m, ra_16m, nI_add, nI_1, lN_1, ra_p2, ra_2p, ra_n0, ra_p0, ra_q0, ra_q1, ra_q2, ra_q3, ra_n3, ra_n4, ra_n10, ra_n14, ra_n16, ra_n30, ra_n140, ra_y3, ra_y4, ra_y10, ra_y14, ra_y16, ra_y30, ra_y140]
      exact ih
    · rw [if_neg (fun z => a (of_decide_eq_true z))] at ih
      simp (disch := omega) only [wY_own_4, le, a, not_true, not_false_iff, true_implies, false_implies, implies_true, true_and, and_true, forall_eq, eq_self, ra_i, ra_c, ra_m3, ra_m4, ra_m16, ra_4m, ra_14m, ra_16m, nI_add, nI_1, lN_1, ra_p2, ra_2p, ra_n0, ra_p0, ra_q0, ra_q1, ra_q2, ra_q3, ra_n3, ra_n4, ra_n10, ra_n14, ra_n16, ra_n30, ra_n140, ra_y3, ra_y4, ra_y10, ra_y14, ra_y16, ra_y30, ra_y140]
      exact ih
theorem xl_place_n {r : Nat} {post : Int32 → Prop} (hr : r < 10) (hn : ∀ i, i < 3 → lo (3 * r + i) ≠ 0) (h : post (-1)) : wpX_freeLetterPlace post (lN c, ep, st, pt, bs, pr, tk, mk, rs, vl, cl, nb, al, wt, lg, wd, sn, lo, lt, lv, gk, gt, gf, gl, gs, gn, sl, ss, sb, pa, du, oft, bg, av, tt) (nI r) := by
  refine ra_run (fun n i => wX_freeLetterPlace_2 post (nI r) (lN c) ep st pt bs pr tk mk rs vl cl nb al wt lg wd sn lo lt lv gk gt gf gl gs gn sl ss sb pa du oft bg av tt n (nI i)) 3 (fun n => ?_) (fun n i hi ih => ?_)
  · simp (disch := omega) only [wX_freeLetterPlace_2, not_true, not_false_iff, true_implies, false_implies, implies_true, true_and, and_true, forall_eq, eq_self, ra_i, ra_c, ra_m3, ra_m4, ra_m16, ra_4m, ra_14m, ra_16m, nI_add, nI_1, lN_1, ra_p2, ra_2p, ra_n0, ra_p0, ra_q0, ra_q1, ra_q2, ra_q3, ra_n3, ra_n4, ra_n10, ra_n14, ra_n16, ra_n30, ra_n140, ra_y3, ra_y4, ra_y10, ra_y14, ra_y16, ra_y30, ra_y140]
    exact h
  · have := hn i hi
    simp (disch := omega) only [wX_freeLetterPlace_2, this, not_true, not_false_iff, true_implies, false_implies, implies_true, true_and, and_true, forall_eq, eq_self, ra_i, ra_c, ra_m3, ra_m4, ra_m16, ra_4m, ra_14m, ra_16m, nI_add, nI_1, lN_1, ra_p2, ra_2p, ra_n0, ra_p0, ra_q0, ra_q1, ra_q2, ra_q3, ra_n3, ra_n4, ra_n10, ra_n14, ra_n16, ra_n30, ra_n140, ra_y3, ra_y4, ra_y10, ra_y14, ra_y16, ra_y30, ra_y140]
    exact ih
theorem xl_place_s {r k : Nat} {post : Int32 → Prop} (hr : r < 10) (hk : k < 3) (h0 : lo (3 * r + k) = 0) (hn : ∀ i, i < k → lo (3 * r + i) ≠ 0) (h : post (nI (3 * r + k))) : wpX_freeLetterPlace post (lN c, ep, st, pt, bs, pr, tk, mk, rs, vl, cl, nb, al, wt, lg, wd, sn, lo, lt, lv, gk, gt, gf, gl, gs, gn, sl, ss, sb, pa, du, oft, bg, av, tt) (nI r) := by
  refine ra_run (fun n i => wX_freeLetterPlace_2 post (nI r) (lN c) ep st pt bs pr tk mk rs vl cl nb al wt lg wd sn lo lt lv gk gt gf gl gs gn sl ss sb pa du oft bg av tt n (nI i)) k (fun n => ?_) (fun n i hi ih => ?_)
  · simp (disch := omega) only [wX_freeLetterPlace_2, h0, not_true, not_false_iff, true_implies, false_implies, implies_true, true_and, and_true, forall_eq, eq_self, ra_i, ra_c, ra_m3, ra_m4, ra_m16, ra_4m, ra_14m, ra_16m, nI_add, nI_1, lN_1, ra_p2, ra_2p, ra_n0, ra_p0, ra_q0, ra_q1, ra_q2, ra_q3, ra_n3, ra_n4, ra_n10, ra_n14, ra_n16, ra_n30, ra_n140, ra_y3, ra_y4, ra_y10, ra_y14, ra_y16, ra_y30, ra_y140]
    exact h
  · have := hn i hi
    simp (disch := omega) only [wX_freeLetterPlace_2, this, not_true, not_false_iff, true_implies, false_implies, implies_true, true_and, and_true, forall_eq, eq_self, ra_i, ra_c, ra_m3, ra_m4, ra_m16, ra_4m, ra_14m, ra_16m, nI_add, nI_1, lN_1, ra_p2, ra_2p, ra_n0, ra_p0, ra_q0, ra_q1, ra_q2, ra_q3, ra_n3, ra_n4, ra_n10, ra_n14, ra_n16, ra_n30, ra_n140, ra_y3, ra_y4, ra_y10, ra_y14, ra_y16, ra_y30, ra_y140]
    exact ih
theorem ra_R_post {p : Nat} {a x : Int32} (hB : B ≤ 2 ^ 26) (h : ra_R B c m n st pr tk rs al tt pa bs sb ep pt nb lg sn lo lt lv gk gt gf gl gs gn sl ss bo ot so sq go mo nt fr tw tx gr ge g1 g2 g3 sv lf se) (hp : p < 30) (hz : lo p = 0) (hl : st (p / 3) ≠ 0) : ra_R (B + 1) (c + 1) m (n + 1) st pr tk rs al tt pa bs sb ep pt nb lg sn (vp_updL lo p (lN (c + 1))) (upd lt p a) (upd lv p x) gk gt gf gl gs gn sl ss bo ot so sq go mo nt (upd fr n (nI (p / 3))) (upd tw n a) (upd tx n x) gr ge g1 g2 g3 sv lf se := by
  obtain ⟨h1, h2, h3, h4, h5, h6, h7, h8, h9, h10, h11⟩ := h
  have := h2.1
  exact ⟨ra_E_mono (Nat.le_succ _) h1, ra_O_c h2, h3, h4, h5, ra_L_put (by omega) h6 hp hz hl, h7, h8, h9, ra_I_mono (Nat.le_succ _) h10, h11⟩
theorem ra_post {to x : Int32} (hB : B ≤ 2 ^ 26) (h : ra_R B c m n st pr tk rs al tt pa bs sb ep pt nb lg sn lo lt lv gk gt gf gl gs gn sl ss bo ot so sq go mo nt fr tw tx gr ge g1 g2 g3 sv lf se) : ∃ (w : Int32) (u' : SX) (v' : SY), ra_RR (B + 1) u' v' ∧ (∀ post : Int32 → SX → Prop, post w u' → wpX_post post (lN c, ep, st, pt, bs, pr, tk, mk, rs, vl, cl, nb, al, wt, lg, wd, sn, lo, lt, lv, gk, gt, gf, gl, gs, gn, sl, ss, sb, pa, du, oft, bg, av, tt) to x) ∧ (∀ post : Int32 → SY → Prop, post w v' → wpY_post post (nI n, nI m, st, bo, bs, pr, tk, mk, ot, vl, rs, al, wt, so, sq, go, mo, cl, wd, nt, fr, tw, tx, gr, ge, g1, g2, g3, sv, sb, lf, pa, du, av, bg, oft, se, tt, cp) to x) := by
  have hE := h.1
  have hW := h.2.2.1
  have hL := h.2.2.2.2.2.1
  have hc : c ≤ 2 ^ 27 := by have := h.2.1.1; omega
  obtain ⟨n30, n29⟩ := ra_L_n hc hL
  rcases ra_run_both (mk := mk) (vl := vl) (cl := cl) (wt := wt) (wd := wd) (du := du) (oft := oft) (bg := bg) (av := av) (cp := cp) hB h with ⟨rX, rY⟩ | ⟨r, hr, hr1, rX, rY⟩
  · refine ⟨-1, _, _, ra_RR_mono (ra_in (mk := mk) (vl := vl) (cl := cl) (wt := wt) (wd := wd) (du := du) (oft := oft) (bg := bg) (av := av) (cp := cp) h) (by omega), fun post hp => ?_, fun post hp => ?_⟩
    · simp only [wpX_post]
      refine rX _ ?_
      simp only [wpX_refusalToReach, wpX_refusal, ra_q1, ra_q5, not_false_iff, true_implies, false_implies, true_and]
      exact hp
    · simp only [wpY_post]
      exact rY _ (br_f (by decide) hp)
  · have rl : st r ≠ 0 := by rw [hr1]; decide
    have yr : 16 * (bo r - 1) + nI r = ep r := ra_E_y hE hr rl
    have own := ra_own hc hL hr
    rcases ra_ref1 (mk := mk) (vl := vl) (cl := cl) (wt := wt) (wd := wd) (du := du) (oft := oft) (bg := bg) (av := av) (cp := cp) hB h hr hr1 to with ⟨w, hw, hX, hY⟩ | ⟨s, hs, z, hl, he, ha, hX, hY⟩
    · have w0 : ¬ w = 0 := by rcases hw with rfl | rfl | rfl <;> decide
      have w1 : ¬ 0 ≤ w := by rcases hw with rfl | rfl | rfl <;> decide
      refine ⟨w, _, _, ra_RR_mono (ra_in (mk := mk) (vl := vl) (cl := cl) (wt := wt) (wd := wd) (du := du) (oft := oft) (bg := bg) (av := av) (cp := cp) h) (by omega), fun post hp => ?_, fun post hp => ?_⟩
      · simp only [wpX_post]
        exact rX _ (hX _ (br_f w0 hp))
      · simp only [wpY_post]
        exact rY _ (br_t (nI_pos' (by omega)) (hY _ (nm_e (yl_own n30 (br_f w1 hp)))))
    · rcases ra_first (fun i => lo (3 * r + i) = 0) 3 with full | ⟨k, hk, hk0, hkn⟩
      · have e3 : ra_cn (fun j => decide (fr j = nI r)) n = 3 := own.trans (ra_cn3_all (fun i hi => decide_eq_true (full i hi)))
        refine ⟨-7, _, _, ra_RR_mono (ra_in (mk := mk) (vl := vl) (cl := cl) (wt := wt) (wd := wd) (du := du) (oft := oft) (bg := bg) (av := av) (cp := cp) h) (by omega), fun post hp => ?_, fun post hp => ?_⟩
        · simp only [wpX_post]
          exact rX _ (hX _ (br_t rfl (xl_place_n hr full (br_f (by decide) hp))))
        · simp only [wpY_post]
          refine rY _ (br_t (nI_pos' (by omega)) (hY _ (nm_e (yl_own n30 (br_t (by decide) (br_t ?_ hp))))))
          rw [e3]; rfl
      · have l3 : ra_cn (fun j => decide (fr j = nI r)) n < 3 := by
          rw [own]
          exact ra_cn3_not hk (fun y => of_decide_eq_true y hk0)
        have ne3 : ¬ nI (ra_cn (fun j => decide (fr j = nI r)) n) = 3 := by
          intro y
          have : nI (ra_cn (fun j => decide (fr j = nI r)) n) = nI 3 := y
          rw [nI_eq (by omega) (by omega)] at this
          omega
        by_cases t : ra_tk st pt s (ep r) 2
        · obtain ⟨w0, w1⟩ := ra_tk_w t
          have e := ra_R_rs0 h hs w0 w1
          have h2 := ra_R_ready0 (ra_R_put (s := s) (k := 2 + 2) (x := ep r) (y := nI 2) (w := x) (v := tt (2 + 2) + 1) h (by omega)) hs hl
          refine ⟨0, _, _, ra_in (mk := mk) (vl := vl) (cl := cl) (wt := wt) (wd := wd) (du := du) (oft := oft) (bg := bg) (av := av) (cp := cp) h2, fun post hp => ?_, fun post hp => ?_⟩
          · simp only [wpX_post]
            refine rX _ (hX _ (br_t rfl (xl_place_s hr hk hk0 hkn (br_t (nI_pos' (by omega)) (xl_slotOf_s hs hl he ha ⟨vp_in_nI hr (by decide), ?_⟩)))))
            rw [ra_c (show r < 1000 by omega)]
            refine xl_takes (k := 2) hs (by omega) (fun _ => br_f (by decide) ⟨vp_in_nI hr (by decide), ?_⟩) (fun y => absurd t y)
            exact xl_putInto (k := 2) hs (by omega) (xl_makeReady hs hp)
          · simp only [wpY_post]
            refine rY _ (br_t (nI_pos' (by omega)) (hY _ (nm_r ha (yl_own n30 (br_t (by decide) (br_f ne3 ?_))))))
            simp (disch := omega) only [wpY_endpoint, yr, not_true, not_false_iff, true_implies, false_implies, implies_true, true_and, and_true, forall_eq, eq_self, ra_i, ra_c, ra_m3, ra_m4, ra_m16, ra_4m, ra_14m, ra_16m, nI_add, nI_1, lN_1, ra_p2, ra_2p, ra_n0, ra_p0, ra_q0, ra_q1, ra_q2, ra_q3, ra_n3, ra_n4, ra_n10, ra_n14, ra_n16, ra_n30, ra_n140, ra_y3, ra_y4, ra_y10, ra_y14, ra_y16, ra_y30, ra_y140]
            refine yl_takes (k := 2) hs (by omega) hW (fun _ => br_f (by decide) ?_) (fun y => absurd t y)
            refine yl_gets (k := 2) hs (by omega) (yl_ready hs ?_)
            rw [e]
            exact hp
        · have nlt := n29 (3 * r + k) (by omega) hk0
          have pr3 : (3 * r + k) / 3 = r := by omega
          have h2 := ra_R_post (p := 3 * r + k) (a := nI s) (x := x) hB h (by omega) hk0 (by rw [pr3]; exact rl)
          rw [pr3] at h2
          refine ⟨0, _, _, ra_in (mk := mk) (vl := vl) (cl := cl) (wt := wt) (wd := wd) (du := du) (oft := oft) (bg := bg) (av := av) (cp := cp) h2, fun post hp => ?_, fun post hp => ?_⟩
          · simp only [wpX_post]
            refine rX _ (hX _ (br_t rfl (xl_place_s hr hk hk0 hkn (br_t (nI_pos' (by omega)) (xl_slotOf_s hs hl he ha ⟨vp_in_nI hr (by decide), ?_⟩)))))
            rw [ra_c (show r < 1000 by omega)]
            refine xl_takes (k := 2) hs (by omega) (fun y => absurd y t) (fun _ => br_t rfl ?_)
            simp (disch := omega) only [not_true, not_false_iff, true_implies, false_implies, implies_true, true_and, and_true, forall_eq, eq_self, ra_i, ra_c, ra_m3, ra_m4, ra_m16, ra_4m, ra_14m, ra_16m, nI_add, nI_1, lN_1, ra_p2, ra_2p, ra_n0, ra_p0, ra_q0, ra_q1, ra_q2, ra_q3, ra_n3, ra_n4, ra_n10, ra_n14, ra_n16, ra_n30, ra_n140, ra_y3, ra_y4, ra_y10, ra_y14, ra_y16, ra_y30, ra_y140]
            exact hp
          · simp only [wpY_post]
            refine rY _ (br_t (nI_pos' (by omega)) (hY _ (nm_r ha (yl_own n30 (br_t (by decide) (br_f ne3 ?_))))))
            simp (disch := omega) only [wpY_endpoint, yr, not_true, not_false_iff, true_implies, false_implies, implies_true, true_and, and_true, forall_eq, eq_self, ra_i, ra_c, ra_m3, ra_m4, ra_m16, ra_4m, ra_14m, ra_16m, nI_add, nI_1, lN_1, ra_p2, ra_2p, ra_n0, ra_p0, ra_q0, ra_q1, ra_q2, ra_q3, ra_n3, ra_n4, ra_n10, ra_n14, ra_n16, ra_n30, ra_n140, ra_y3, ra_y4, ra_y10, ra_y14, ra_y16, ra_y30, ra_y140]
            refine yl_takes (k := 2) hs (by omega) hW (fun y => absurd y t) (fun _ => br_t rfl ?_)
            exact hp
end
end
section
/-! at: what is counted -/
section
variable {B c m n : Nat} {st pr bs tk mk vl cl rs al wt wd tt sb pa du oft bg av ep pt nb lg lt lv gk gt gf gl gs gn sl ss bo ot so sq go mo nt fr tw tx gr ge g1 g2 g3 sv lf se cp : Nat → Int32} {sn lo : Nat → Int64}
def ra_iq (st ep pt : Nat → Int32) (s : Nat) (i : Nat) : Bool := decide (st i = 2 ∧ pt i = ep s)
theorem xl_queueLength {s : Nat} {post : Int32 → Prop} (hs : s < 10) (h : post (nI (ra_cn (ra_iq st ep pt s) 10))) : wpX_queueLength post (lN c, ep, st, pt, bs, pr, tk, mk, rs, vl, cl, nb, al, wt, lg, wd, sn, lo, lt, lv, gk, gt, gf, gl, gs, gn, sl, ss, sb, pa, du, oft, bg, av, tt) (nI s) := by
  refine ra_run (fun n i => wX_queueLength_4 post (nI s) (lN c) ep st pt bs pr tk mk rs vl cl nb al wt lg wd sn lo lt lv gk gt gf gl gs gn sl ss sb pa du oft bg av tt n (nI (ra_cn (ra_iq st ep pt s) i)) (nI i)) 10 (fun n => ?_) (fun n i hi ih => ?_)
  · simp (disch := omega) only [wX_queueLength_4, not_true, not_false_iff, true_implies, false_implies, implies_true, true_and, and_true, forall_eq, eq_self, ra_i, ra_c, ra_m3, ra_m4, ra_m16, ra_4m, ra_14m, ra_16m, nI_add, nI_1, lN_1, ra_p2, ra_2p, ra_n0, ra_p0, ra_q0, ra_q1, ra_q2, ra_q3, ra_n3, ra_n4, ra_n10, ra_n14, ra_n16, ra_n30, ra_n140, ra_y3, ra_y4, ra_y10, ra_y14, ra_y16, ra_y30, ra_y140]
    exact h
  · have e : ra_cn (ra_iq st ep pt s) (i + 1) = ra_cn (ra_iq st ep pt s) i + (if ra_iq st ep pt s i = true then 1 else 0) := rfl
    rw [e] at ih
    by_cases a : st i = 2
    · by_cases b : pt i = ep s
      · rw [if_pos (show ra_iq st ep pt s i = true from decide_eq_true ⟨a, b⟩)] at ih
        simp (disch := omega) only [wX_queueLength_4, wpX_isInQueue, a, b, not_true, not_false_iff, true_implies, false_implies, implies_true, true_and, and_true, forall_eq, eq_self, ra_i, ra_c, ra_m3, ra_m4, ra_m16, ra_4m, ra_14m, ra_16m, nI_add, nI_1, lN_1, ra_p2, ra_2p, ra_n0, ra_p0, ra_q0, ra_q1, ra_q2, ra_q3, ra_n3, ra_n4, ra_n10, ra_n14, ra_n16, ra_n30, ra_n140, ra_y3, ra_y4, ra_y10, ra_y14, ra_y16, ra_y30, ra_y140]
        exact ih
      · rw [if_neg (fun z => b (of_decide_eq_true z).2)] at ih
        simp (disch := omega) only [wX_queueLength_4, wpX_isInQueue, a, b, not_true, not_false_iff, true_implies, false_implies, implies_true, true_and, and_true, forall_eq, eq_self, ra_i, ra_c, ra_m3, ra_m4, ra_m16, ra_4m, ra_14m, ra_16m, nI_add, nI_1, lN_1, ra_p2, ra_2p, ra_n0, ra_p0, ra_q0, ra_q1, ra_q2, ra_q3, ra_n3, ra_n4, ra_n10, ra_n14, ra_n16, ra_n30, ra_n140, ra_y3, ra_y4, ra_y10, ra_y14, ra_y16, ra_y30, ra_y140]
        exact ih
    · rw [if_neg (fun z => a (of_decide_eq_true z).1)] at ih
      simp (disch := omega) only [wX_queueLength_4, wpX_isInQueue, a, not_true, not_false_iff, true_implies, false_implies, implies_true, true_and, and_true, forall_eq, eq_self, ra_i, ra_c, ra_m3, ra_m4, ra_m16, ra_4m, ra_14m, ra_16m, nI_add, nI_1, lN_1, ra_p2, ra_2p, ra_n0, ra_p0, ra_q0, ra_q1, ra_q2, ra_q3, ra_n3, ra_n4, ra_n10, ra_n14, ra_n16, ra_n30, ra_n140, ra_y3, ra_y4, ra_y10, ra_y14, ra_y16, ra_y30, ra_y140]
      exact ih
theorem ra_cl3 {i : Nat} (h : i < 3) : ¬ ((3 : Int32) ≤ nI i) := nI_ge (b := 3) h (by decide)
theorem xl_noteCount {s : Nat} {post : Int32 → Prop} (hs : s < 10) (h : post (nI (ra_cn (fun k => bt (nb s) k) 14))) : wpX_noteCount post (lN c, ep, st, pt, bs, pr, tk, mk, rs, vl, cl, nb, al, wt, lg, wd, sn, lo, lt, lv, gk, gt, gf, gl, gs, gn, sl, ss, sb, pa, du, oft, bg, av, tt) (nI s) := by
  refine ra_run (fun n i => wX_noteCount_4 post (nI s) (lN c) ep st pt bs pr tk mk rs vl cl nb al wt lg wd sn lo lt lv gk gt gf gl gs gn sl ss sb pa du oft bg av tt n (nI (ra_cn (fun k => bt (nb s) k) i)) (nI i)) 14 (fun n => ?_) (fun n i hi ih => ?_)
  · simp (disch := omega) only [wX_noteCount_4, not_true, not_false_iff, true_implies, false_implies, implies_true, true_and, and_true, forall_eq, eq_self, ra_i, ra_c, ra_m3, ra_m4, ra_m16, ra_4m, ra_14m, ra_16m, nI_add, nI_1, lN_1, ra_p2, ra_2p, ra_n0, ra_p0, ra_q0, ra_q1, ra_q2, ra_q3, ra_n3, ra_n4, ra_n10, ra_n14, ra_n16, ra_n30, ra_n140, ra_y3, ra_y4, ra_y10, ra_y14, ra_y16, ra_y30, ra_y140]
    exact h
  · have e : ra_cn (fun k => bt (nb s) k) (i + 1) = ra_cn (fun k => bt (nb s) k) i + (if bt (nb s) i = true then 1 else 0) := rfl
    have bb := ra_bit (nb s) (k := i) (by omega)
    rw [e] at ih
    by_cases a : bt (nb s) i = true
    · rw [if_pos a] at ih bb
      simp (disch := omega) only [wX_noteCount_4, bb, not_true, not_false_iff, true_implies, false_implies, implies_true, true_and, and_true, forall_eq, eq_self, ra_i, ra_c, ra_m3, ra_m4, ra_m16, ra_4m, ra_14m, ra_16m, nI_add, nI_1, lN_1, ra_p2, ra_2p, ra_n0, ra_p0, ra_q0, ra_q1, ra_q2, ra_q3, ra_n3, ra_n4, ra_n10, ra_n14, ra_n16, ra_n30, ra_n140, ra_y3, ra_y4, ra_y10, ra_y14, ra_y16, ra_y30, ra_y140]
      exact ih
    · rw [if_neg a] at ih bb
      simp (disch := omega) only [wX_noteCount_4, bb, Int32.add_zero, not_true, not_false_iff, true_implies, false_implies, implies_true, true_and, and_true, forall_eq, eq_self, ra_i, ra_c, ra_m3, ra_m4, ra_m16, ra_4m, ra_14m, ra_16m, nI_add, nI_1, lN_1, ra_p2, ra_2p, ra_n0, ra_p0, ra_q0, ra_q1, ra_q2, ra_q3, ra_n3, ra_n4, ra_n10, ra_n14, ra_n16, ra_n30, ra_n140, ra_y3, ra_y4, ra_y10, ra_y14, ra_y16, ra_y30, ra_y140]
      exact ih
theorem xl_lettersFor {s : Nat} {post : Int32 → Prop} (h : post (nI (ra_cn (fun p => decide (¬ lo p = 0) && decide (lt p = nI s)) 30))) : wpX_lettersFor post (lN c, ep, st, pt, bs, pr, tk, mk, rs, vl, cl, nb, al, wt, lg, wd, sn, lo, lt, lv, gk, gt, gf, gl, gs, gn, sl, ss, sb, pa, du, oft, bg, av, tt) (nI s) := by
  refine ra_run (fun n i => wX_lettersFor_4 post (nI s) (lN c) ep st pt bs pr tk mk rs vl cl nb al wt lg wd sn lo lt lv gk gt gf gl gs gn sl ss sb pa du oft bg av tt n (nI (ra_cn (fun p => decide (¬ lo p = 0) && decide (lt p = nI s)) i)) (nI i)) 30 (fun n => ?_) (fun n i hi ih => ?_)
  · simp (disch := omega) only [wX_lettersFor_4, not_true, not_false_iff, true_implies, false_implies, implies_true, true_and, and_true, forall_eq, eq_self, ra_i, ra_c, ra_m3, ra_m4, ra_m16, ra_4m, ra_14m, ra_16m, nI_add, nI_1, lN_1, ra_p2, ra_2p, ra_n0, ra_p0, ra_q0, ra_q1, ra_q2, ra_q3, ra_n3, ra_n4, ra_n10, ra_n14, ra_n16, ra_n30, ra_n140, ra_y3, ra_y4, ra_y10, ra_y14, ra_y16, ra_y30, ra_y140]
    exact h
  · have e : ra_cn (fun p => decide (¬ lo p = 0) && decide (lt p = nI s)) (i + 1) = ra_cn (fun p => decide (¬ lo p = 0) && decide (lt p = nI s)) i + (if (decide (¬ lo i = 0) && decide (lt i = nI s)) = true then 1 else 0) := rfl
    rw [e] at ih
    by_cases a : lo i = 0
    · rw [if_neg (by rw [decide_eq_false (p := ¬ lo i = 0) (fun z => z a)]; simp)] at ih
      simp (disch := omega) only [wX_lettersFor_4, wpX_isLetterFor, a, not_true, not_false_iff, true_implies, false_implies, implies_true, true_and, and_true, forall_eq, eq_self, ra_i, ra_c, ra_m3, ra_m4, ra_m16, ra_4m, ra_14m, ra_16m, nI_add, nI_1, lN_1, ra_p2, ra_2p, ra_n0, ra_p0, ra_q0, ra_q1, ra_q2, ra_q3, ra_n3, ra_n4, ra_n10, ra_n14, ra_n16, ra_n30, ra_n140, ra_y3, ra_y4, ra_y10, ra_y14, ra_y16, ra_y30, ra_y140]
      exact ih
    · by_cases b : lt i = nI s
      · rw [if_pos (by rw [decide_eq_true (p := ¬ lo i = 0) a, decide_eq_true b]; rfl)] at ih
        simp (disch := omega) only [wX_lettersFor_4, wpX_isLetterFor, a, b, not_true, not_false_iff, true_implies, false_implies, implies_true, true_and, and_true, forall_eq, eq_self, ra_i, ra_c, ra_m3, ra_m4, ra_m16, ra_4m, ra_14m, ra_16m, nI_add, nI_1, lN_1, ra_p2, ra_2p, ra_n0, ra_p0, ra_q0, ra_q1, ra_q2, ra_q3, ra_n3, ra_n4, ra_n10, ra_n14, ra_n16, ra_n30, ra_n140, ra_y3, ra_y4, ra_y10, ra_y14, ra_y16, ra_y30, ra_y140]
        exact ih
      · rw [if_neg (by rw [decide_eq_false b, Bool.and_false]; simp)] at ih
        simp (disch := omega) only [wX_lettersFor_4, wpX_isLetterFor, a, b, not_true, not_false_iff, true_implies, false_implies, implies_true, true_and, and_true, forall_eq, eq_self, ra_i, ra_c, ra_m3, ra_m4, ra_m16, ra_4m, ra_14m, ra_16m, nI_add, nI_1, lN_1, ra_p2, ra_2p, ra_n0, ra_p0, ra_q0, ra_q1, ra_q2, ra_q3, ra_n3, ra_n4, ra_n10, ra_n14, ra_n16, ra_n30, ra_n140, ra_y3, ra_y4, ra_y10, ra_y14, ra_y16, ra_y30, ra_y140]
        exact ih
theorem xl_lettersFrom {s : Nat} {post : Int32 → Prop} (hs : s < 10) (h : post (nI (ra_cn (fun i => decide (¬ lo (3 * s + i) = 0)) 3))) : wpX_lettersFrom post (lN c, ep, st, pt, bs, pr, tk, mk, rs, vl, cl, nb, al, wt, lg, wd, sn, lo, lt, lv, gk, gt, gf, gl, gs, gn, sl, ss, sb, pa, du, oft, bg, av, tt) (nI s) := by
  refine ra_run (fun n i => wX_lettersFrom_4 post (nI s) (lN c) ep st pt bs pr tk mk rs vl cl nb al wt lg wd sn lo lt lv gk gt gf gl gs gn sl ss sb pa du oft bg av tt n (nI (ra_cn (fun i => decide (¬ lo (3 * s + i) = 0)) i)) (nI i)) 3 (fun n => ?_) (fun n i hi ih => ?_)
  · simp (disch := omega) only [wX_lettersFrom_4, not_true, not_false_iff, true_implies, false_implies, implies_true, true_and, and_true, forall_eq, eq_self, ra_i, ra_c, ra_m3, ra_m4, ra_m16, ra_4m, ra_14m, ra_16m, nI_add, nI_1, lN_1, ra_p2, ra_2p, ra_n0, ra_p0, ra_q0, ra_q1, ra_q2, ra_q3, ra_n3, ra_n4, ra_n10, ra_n14, ra_n16, ra_n30, ra_n140, ra_y3, ra_y4, ra_y10, ra_y14, ra_y16, ra_y30, ra_y140]
    exact h
  · have e : ra_cn (fun i => decide (¬ lo (3 * s + i) = 0)) (i + 1) = ra_cn (fun i => decide (¬ lo (3 * s + i) = 0)) i + (if decide (¬ lo (3 * s + i) = 0) = true then 1 else 0) := rfl
    rw [e] at ih
    by_cases a : lo (3 * s + i) = 0
    · rw [if_neg (show ¬ decide (¬ lo (3 * s + i) = 0) = true from fun z => of_decide_eq_true z a)] at ih
      simp (disch := omega) only [wX_lettersFrom_4, a, not_true, not_false_iff, true_implies, false_implies, implies_true, true_and, and_true, forall_eq, eq_self, ra_i, ra_c, ra_m3, ra_m4, ra_m16, ra_4m, ra_14m, ra_16m, nI_add, nI_1, lN_1, ra_p2, ra_2p, ra_n0, ra_p0, ra_q0, ra_q1, ra_q2, ra_q3, ra_n3, ra_n4, ra_n10, ra_n14, ra_n16, ra_n30, ra_n140, ra_y3, ra_y4, ra_y10, ra_y14, ra_y16, ra_y30, ra_y140]
      exact ih
    · rw [if_pos (decide_eq_true a)] at ih
      simp (disch := omega) only [wX_lettersFrom_4, a, not_true, not_false_iff, true_implies, false_implies, implies_true, true_and, and_true, forall_eq, eq_self, ra_i, ra_c, ra_m3, ra_m4, ra_m16, ra_4m, ra_14m, ra_16m, nI_add, nI_1, lN_1, ra_p2, ra_2p, ra_n0, ra_p0, ra_q0, ra_q1, ra_q2, ra_q3, ra_n3, ra_n4, ra_n10, ra_n14, ra_n16, ra_n30, ra_n140, ra_y3, ra_y4, ra_y10, ra_y14, ra_y16, ra_y30, ra_y140]
      exact ih
def ra_pl (st pr : Nat → Int32) (sn : Nat → Int64) (s i : Nat) : Bool := decide (st i = 1 ∧ pr i = pr s ∧ sn i < sn s)
theorem xl_placeInRow {s : Nat} {post : Int32 → Prop} (hs : s < 10) (h1 : st s = 1) (h : post (nI (ra_cn (ra_pl st pr sn s) 10))) : wpX_placeInRow post (lN c, ep, st, pt, bs, pr, tk, mk, rs, vl, cl, nb, al, wt, lg, wd, sn, lo, lt, lv, gk, gt, gf, gl, gs, gn, sl, ss, sb, pa, du, oft, bg, av, tt) (nI s) := by
  simp (disch := omega) only [wpX_placeInRow, h1, not_true, not_false_iff, true_implies, false_implies, implies_true, true_and, and_true, forall_eq, eq_self, ra_i, ra_c, ra_m3, ra_m4, ra_m16, ra_4m, ra_14m, ra_16m, nI_add, nI_1, lN_1, ra_p2, ra_2p, ra_n0, ra_p0, ra_q0, ra_q1, ra_q2, ra_q3, ra_n3, ra_n4, ra_n10, ra_n14, ra_n16, ra_n30, ra_n140, ra_y3, ra_y4, ra_y10, ra_y14, ra_y16, ra_y30, ra_y140]
  refine ra_run (fun n i => wX_placeInRow_16 post (nI s) (lN c) ep st pt bs pr tk mk rs vl cl nb al wt lg wd sn lo lt lv gk gt gf gl gs gn sl ss sb pa du oft bg av tt n (nI (ra_cn (ra_pl st pr sn s) i)) (nI i)) 10 (fun n => ?_) (fun n i hi ih => ?_)
  · simp (disch := omega) only [wX_placeInRow_16, not_true, not_false_iff, true_implies, false_implies, implies_true, true_and, and_true, forall_eq, eq_self, ra_i, ra_c, ra_m3, ra_m4, ra_m16, ra_4m, ra_14m, ra_16m, nI_add, nI_1, lN_1, ra_p2, ra_2p, ra_n0, ra_p0, ra_q0, ra_q1, ra_q2, ra_q3, ra_n3, ra_n4, ra_n10, ra_n14, ra_n16, ra_n30, ra_n140, ra_y3, ra_y4, ra_y10, ra_y14, ra_y16, ra_y30, ra_y140]
    exact h
  · have e : ra_cn (ra_pl st pr sn s) (i + 1) = ra_cn (ra_pl st pr sn s) i + (if ra_pl st pr sn s i = true then 1 else 0) := rfl
    rw [e] at ih
    by_cases a : st i = 1
    · by_cases b : pr i = pr s
      · by_cases d : sn i < sn s
        · have d' : ¬ sn s ≤ sn i := Int64.not_le.mpr d
          rw [if_pos (show ra_pl st pr sn s i = true from decide_eq_true ⟨a, b, d⟩)] at ih
          simp (disch := omega) only [wX_placeInRow_16, a, b, d', not_true, not_false_iff, true_implies, false_implies, implies_true, true_and, and_true, forall_eq, eq_self, ra_i, ra_c, ra_m3, ra_m4, ra_m16, ra_4m, ra_14m, ra_16m, nI_add, nI_1, lN_1, ra_p2, ra_2p, ra_n0, ra_p0, ra_q0, ra_q1, ra_q2, ra_q3, ra_n3, ra_n4, ra_n10, ra_n14, ra_n16, ra_n30, ra_n140, ra_y3, ra_y4, ra_y10, ra_y14, ra_y16, ra_y30, ra_y140]
          exact ih
        · have d' : sn s ≤ sn i := Int64.not_lt.mp d
          rw [if_neg (fun z => d (of_decide_eq_true z).2.2)] at ih
          simp (disch := omega) only [wX_placeInRow_16, a, b, d', not_true, not_false_iff, true_implies, false_implies, implies_true, true_and, and_true, forall_eq, eq_self, ra_i, ra_c, ra_m3, ra_m4, ra_m16, ra_4m, ra_14m, ra_16m, nI_add, nI_1, lN_1, ra_p2, ra_2p, ra_n0, ra_p0, ra_q0, ra_q1, ra_q2, ra_q3, ra_n3, ra_n4, ra_n10, ra_n14, ra_n16, ra_n30, ra_n140, ra_y3, ra_y4, ra_y10, ra_y14, ra_y16, ra_y30, ra_y140]
          exact ih
      · rw [if_neg (fun z => b (of_decide_eq_true z).2.1)] at ih
        simp (disch := omega) only [wX_placeInRow_16, a, b, not_true, not_false_iff, true_implies, false_implies, implies_true, true_and, and_true, forall_eq, eq_self, ra_i, ra_c, ra_m3, ra_m4, ra_m16, ra_4m, ra_14m, ra_16m, nI_add, nI_1, lN_1, ra_p2, ra_2p, ra_n0, ra_p0, ra_q0, ra_q1, ra_q2, ra_q3, ra_n3, ra_n4, ra_n10, ra_n14, ra_n16, ra_n30, ra_n140, ra_y3, ra_y4, ra_y10, ra_y14, ra_y16, ra_y30, ra_y140]
        exact ih
    · rw [if_neg (fun z => a (of_decide_eq_true z).1)] at ih
      simp (disch := omega) only [wX_placeInRow_16, a, not_true, not_false_iff, true_implies, false_implies, implies_true, true_and, and_true, forall_eq, eq_self, ra_i, ra_c, ra_m3, ra_m4, ra_m16, ra_4m, ra_14m, ra_16m, nI_add, nI_1, lN_1, ra_p2, ra_2p, ra_n0, ra_p0, ra_q0, ra_q1, ra_q2, ra_q3, ra_n3, ra_n4, ra_n10, ra_n14, ra_n16, ra_n30, ra_n140, ra_y3, ra_y4, ra_y10, ra_y14, ra_y16, ra_y30, ra_y140]
      exact ih
def ra_plY (st pr mo : Nat → Int32) (s i : Nat) : Bool := decide (st i = 1 ∧ pr i = pr s ∧ mo i < mo s)
theorem yl_placeOf {s : Nat} {post : Int32 → Prop} (hs : s < 10) (h1 : st s = 1) (h : post (nI (ra_cn (ra_plY st pr mo s) 10))) : wpY_placeOf post (nI n, nI m, st, bo, bs, pr, tk, mk, ot, vl, rs, al, wt, so, sq, go, mo, cl, wd, nt, fr, tw, tx, gr, ge, g1, g2, g3, sv, sb, lf, pa, du, av, bg, oft, se, tt, cp) (nI s) := by
  simp (disch := omega) only [wpY_placeOf, h1, not_true, not_false_iff, true_implies, false_implies, implies_true, true_and, and_true, forall_eq, eq_self, ra_i, ra_c, ra_m3, ra_m4, ra_m16, ra_4m, ra_14m, ra_16m, nI_add, nI_1, lN_1, ra_p2, ra_2p, ra_n0, ra_p0, ra_q0, ra_q1, ra_q2, ra_q3, ra_n3, ra_n4, ra_n10, ra_n14, ra_n16, ra_n30, ra_n140, ra_y3, ra_y4, ra_y10, ra_y14, ra_y16, ra_y30, ra_y140]
  refine ra_run (fun q i => wY_placeOf_16 post (nI s) (nI n) (nI m) st bo bs pr tk mk ot vl rs al wt so sq go mo cl wd nt fr tw tx gr ge g1 g2 g3 sv sb lf pa du av bg oft se tt cp q (nI (ra_cn (ra_plY st pr mo s) i)) (nI i)) 10 (fun q => ?_) (fun q i hi ih => ?_)
  · simp (disch := omega) only [wY_placeOf_16, not_true, not_false_iff, true_implies, false_implies, implies_true, true_and, and_true, forall_eq, eq_self, ra_i, ra_c, ra_m3, ra_m4, ra_m16, ra_4m, ra_14m, ra_16m, nI_add, nI_1, lN_1, ra_p2, ra_2p, ra_n0, ra_p0, ra_q0, ra_q1, ra_q2, ra_q3, ra_n3, ra_n4, ra_n10, ra_n14, ra_n16, ra_n30, ra_n140, ra_y3, ra_y4, ra_y10, ra_y14, ra_y16, ra_y30, ra_y140]
    exact h
  · have e : ra_cn (ra_plY st pr mo s) (i + 1) = ra_cn (ra_plY st pr mo s) i + (if ra_plY st pr mo s i = true then 1 else 0) := rfl
    rw [e] at ih
    by_cases a : st i = 1
    · by_cases b : pr i = pr s
      · by_cases d : mo i < mo s
        · have d' : ¬ mo s ≤ mo i := Int32.not_le.mpr d
          rw [if_pos (show ra_plY st pr mo s i = true from decide_eq_true ⟨a, b, d⟩)] at ih
          simp (disch := omega) only [wY_placeOf_16, a, b, d', not_true, not_false_iff, true_implies, false_implies, implies_true, true_and, and_true, forall_eq, eq_self, ra_i, ra_c, ra_m3, ra_m4, ra_m16, ra_4m, ra_14m, ra_16m, nI_add, nI_1, lN_1, ra_p2, ra_2p, ra_n0, ra_p0, ra_q0, ra_q1, ra_q2, ra_q3, ra_n3, ra_n4, ra_n10, ra_n14, ra_n16, ra_n30, ra_n140, ra_y3, ra_y4, ra_y10, ra_y14, ra_y16, ra_y30, ra_y140]
          exact ih
        · have d' : mo s ≤ mo i := Int32.not_lt.mp d
          rw [if_neg (fun z => d (of_decide_eq_true z).2.2)] at ih
          simp (disch := omega) only [wY_placeOf_16, a, b, d', not_true, not_false_iff, true_implies, false_implies, implies_true, true_and, and_true, forall_eq, eq_self, ra_i, ra_c, ra_m3, ra_m4, ra_m16, ra_4m, ra_14m, ra_16m, nI_add, nI_1, lN_1, ra_p2, ra_2p, ra_n0, ra_p0, ra_q0, ra_q1, ra_q2, ra_q3, ra_n3, ra_n4, ra_n10, ra_n14, ra_n16, ra_n30, ra_n140, ra_y3, ra_y4, ra_y10, ra_y14, ra_y16, ra_y30, ra_y140]
          exact ih
      · rw [if_neg (fun z => b (of_decide_eq_true z).2.1)] at ih
        simp (disch := omega) only [wY_placeOf_16, a, b, not_true, not_false_iff, true_implies, false_implies, implies_true, true_and, and_true, forall_eq, eq_self, ra_i, ra_c, ra_m3, ra_m4, ra_m16, ra_4m, ra_14m, ra_16m, nI_add, nI_1, lN_1, ra_p2, ra_2p, ra_n0, ra_p0, ra_q0, ra_q1, ra_q2, ra_q3, ra_n3, ra_n4, ra_n10, ra_n14, ra_n16, ra_n30, ra_n140, ra_y3, ra_y4, ra_y10, ra_y14, ra_y16, ra_y30, ra_y140]
        exact ih
    · rw [if_neg (fun z => a (of_decide_eq_true z).1)] at ih
      simp (disch := omega) only [wY_placeOf_16, a, not_true, not_false_iff, true_implies, false_implies, implies_true, true_and, and_true, forall_eq, eq_self, ra_i, ra_c, ra_m3, ra_m4, ra_m16, ra_4m, ra_14m, ra_16m, nI_add, nI_1, lN_1, ra_p2, ra_2p, ra_n0, ra_p0, ra_q0, ra_q1, ra_q2, ra_q3, ra_n3, ra_n4, ra_n10, ra_n14, ra_n16, ra_n30, ra_n140, ra_y3, ra_y4, ra_y10, ra_y14, ra_y16, ra_y30, ra_y140]
      exact ih
/-! Y's counted: three loops, of which one counts -/
theorem yl_c95_0 {s : Nat} {w z : Int32} {post : Int32 → Prop} (hn : n ≤ 30) (hw : w ≤ 6) (h : post z) : ∃ q, wY_counted_95 post (nI s) w (nI n) (nI m) st bo bs pr tk mk ot vl rs al wt so sq go mo cl wd nt fr tw tx gr ge g1 g2 g3 sv sb lf pa du av bg oft se tt cp q z 0 := by
  refine ⟨1, ?_⟩
  rw [wY_counted_95]
  exact br_c (fun _ => h) (fun _ => br_t hw h)
theorem yl_c95_7 {s : Nat} {post : Int32 → Prop} (hn : n ≤ 30) (h : post (nI (ra_cn (fun j => decide (tw j = nI s)) n))) : ∃ q, wY_counted_95 post (nI s) 7 (nI n) (nI m) st bo bs pr tk mk ot vl rs al wt so sq go mo cl wd nt fr tw tx gr ge g1 g2 g3 sv sb lf pa du av bg oft se tt cp q 0 0 := by
  have w6 : ¬ (7 : Int32) ≤ 6 := by decide
  refine ra_run (fun q i => wY_counted_95 post (nI s) 7 (nI n) (nI m) st bo bs pr tk mk ot vl rs al wt so sq go mo cl wd nt fr tw tx gr ge g1 g2 g3 sv sb lf pa du av bg oft se tt cp q (nI (ra_cn (fun j => decide (tw j = nI s)) i)) (nI i)) n (fun q => ?_) (fun q i hi ih => ?_)
  · have le : nI n ≤ nI n := Int32.le_refl _
    simp (disch := omega) only [wY_counted_95, le, not_true, not_false_iff, true_implies, false_implies, implies_true, true_and, and_true, forall_eq, eq_self, ra_i, ra_c, ra_m3, ra_m4, ra_m16, ra_4m, ra_14m, ra_16m, nI_add, nI_1, lN_1, ra_p2, ra_2p, ra_n0, ra_p0, ra_q0, ra_q1, ra_q2, ra_q3, ra_n3, ra_n4, ra_n10, ra_n14, ra_n16, ra_n30, ra_n140, ra_y3, ra_y4, ra_y10, ra_y14, ra_y16, ra_y30, ra_y140]
    exact h
  · have le : ¬ nI n ≤ nI i := nI_ge (by omega) (by omega)
    have e : ra_cn (fun j => decide (tw j = nI s)) (i + 1) = ra_cn (fun j => decide (tw j = nI s)) i + (if decide (tw i = nI s) = true then 1 else 0) := rfl
    rw [e] at ih
    by_cases a : tw i = nI s
    · rw [if_pos (decide_eq_true a)] at ih
      simp (disch := omega) only [wY_counted_95, wY_counted_133, le, w6, a, not_true, not_false_iff, true_implies, false_implies, implies_true, true_and, and_true, forall_eq, eq_self, ra_i, ra_c, ra_m3, ra_m4, ra_m16, ra_4m, ra_14m, ra_16m, nI_add, nI_1, lN_1, ra_p2, ra_2p, ra_n0, ra_p0, ra_q0, ra_q1, ra_q2, ra_q3, ra_n3, ra_n4, ra_n10, ra_n14, ra_n16, ra_n30, ra_n140, ra_y3, ra_y4, ra_y10, ra_y14, ra_y16, ra_y30, ra_y140]
      exact ih
    · rw [if_neg (fun z => a (of_decide_eq_true z))] at ih
      simp (disch := omega) only [wY_counted_95, wY_counted_133, le, w6, a, not_true, not_false_iff, true_implies, false_implies, implies_true, true_and, and_true, forall_eq, eq_self, ra_i, ra_c, ra_m3, ra_m4, ra_m16, ra_4m, ra_14m, ra_16m, nI_add, nI_1, lN_1, ra_p2, ra_2p, ra_n0, ra_p0, ra_q0, ra_q1, ra_q2, ra_q3, ra_n3, ra_n4, ra_n10, ra_n14, ra_n16, ra_n30, ra_n140, ra_y3, ra_y4, ra_y10, ra_y14, ra_y16, ra_y30, ra_y140]
      exact ih
theorem yl_c95_8 {s : Nat} {post : Int32 → Prop} (hn : n ≤ 30) (h : post (nI (ra_cn (fun j => decide (fr j = nI s)) n))) : ∃ q, wY_counted_95 post (nI s) 8 (nI n) (nI m) st bo bs pr tk mk ot vl rs al wt so sq go mo cl wd nt fr tw tx gr ge g1 g2 g3 sv sb lf pa du av bg oft se tt cp q 0 0 := by
  have w6 : ¬ (8 : Int32) ≤ 6 := by decide
  have w7 : ¬ (8 : Int32) = 7 := by decide
  refine ra_run (fun q i => wY_counted_95 post (nI s) 8 (nI n) (nI m) st bo bs pr tk mk ot vl rs al wt so sq go mo cl wd nt fr tw tx gr ge g1 g2 g3 sv sb lf pa du av bg oft se tt cp q (nI (ra_cn (fun j => decide (fr j = nI s)) i)) (nI i)) n (fun q => ?_) (fun q i hi ih => ?_)
  · have le : nI n ≤ nI n := Int32.le_refl _
    simp (disch := omega) only [wY_counted_95, le, not_true, not_false_iff, true_implies, false_implies, implies_true, true_and, and_true, forall_eq, eq_self, ra_i, ra_c, ra_m3, ra_m4, ra_m16, ra_4m, ra_14m, ra_16m, nI_add, nI_1, lN_1, ra_p2, ra_2p, ra_n0, ra_p0, ra_q0, ra_q1, ra_q2, ra_q3, ra_n3, ra_n4, ra_n10, ra_n14, ra_n16, ra_n30, ra_n140, ra_y3, ra_y4, ra_y10, ra_y14, ra_y16, ra_y30, ra_y140]
    exact h
  · have le : ¬ nI n ≤ nI i := nI_ge (by omega) (by omega)
    have e : ra_cn (fun j => decide (fr j = nI s)) (i + 1) = ra_cn (fun j => decide (fr j = nI s)) i + (if decide (fr i = nI s) = true then 1 else 0) := rfl
    rw [e] at ih
    by_cases a : fr i = nI s
    · rw [if_pos (decide_eq_true a)] at ih
      simp (disch := omega) only [wY_counted_95, wY_counted_133, le, w6, w7, a, not_true, not_false_iff, true_implies, false_implies, implies_true, true_and, and_true, forall_eq, eq_self, ra_i, ra_c, ra_m3, ra_m4, ra_m16, ra_4m, ra_14m, ra_16m, nI_add, nI_1, lN_1, ra_p2, ra_2p, ra_n0, ra_p0, ra_q0, ra_q1, ra_q2, ra_q3, ra_n3, ra_n4, ra_n10, ra_n14, ra_n16, ra_n30, ra_n140, ra_y3, ra_y4, ra_y10, ra_y14, ra_y16, ra_y30, ra_y140]
      exact ih
    · rw [if_neg (fun z => a (of_decide_eq_true z))] at ih
      simp (disch := omega) only [wY_counted_95, wY_counted_133, le, w6, w7, a, not_true, not_false_iff, true_implies, false_implies, implies_true, true_and, and_true, forall_eq, eq_self, ra_i, ra_c, ra_m3, ra_m4, ra_m16, ra_4m, ra_14m, ra_16m, nI_add, nI_1, lN_1, ra_p2, ra_2p, ra_n0, ra_p0, ra_q0, ra_q1, ra_q2, ra_q3, ra_n3, ra_n4, ra_n10, ra_n14, ra_n16, ra_n30, ra_n140, ra_y3, ra_y4, ra_y10, ra_y14, ra_y16, ra_y30, ra_y140]
      exact ih
theorem yl_c55_0 {s : Nat} {w z : Int32} {post : Int32 → Prop} (hw : ¬ w = 6) (h : ∃ q, wY_counted_95 post (nI s) w (nI n) (nI m) st bo bs pr tk mk ot vl rs al wt so sq go mo cl wd nt fr tw tx gr ge g1 g2 g3 sv sb lf pa du av bg oft se tt cp q z 0) : ∃ q, wY_counted_55 post (nI s) w (nI n) (nI m) st bo bs pr tk mk ot vl rs al wt so sq go mo cl wd nt fr tw tx gr ge g1 g2 g3 sv sb lf pa du av bg oft se tt cp q z 0 := by
  refine ⟨1, ?_⟩
  rw [wY_counted_55]
  exact br_f (by decide) (br_f hw h)
theorem yl_c55_6 {s : Nat} {post : Int32 → Prop} (hs : s < 10) (h : ∃ q, wY_counted_95 post (nI s) 6 (nI n) (nI m) st bo bs pr tk mk ot vl rs al wt so sq go mo cl wd nt fr tw tx gr ge g1 g2 g3 sv sb lf pa du av bg oft se tt cp q (nI (ra_cn (fun k => decide (¬ nt (14 * s + k) = 0)) 14)) 0) : ∃ q, wY_counted_55 post (nI s) 6 (nI n) (nI m) st bo bs pr tk mk ot vl rs al wt so sq go mo cl wd nt fr tw tx gr ge g1 g2 g3 sv sb lf pa du av bg oft se tt cp q 0 0 := by
  refine ra_run (fun q i => wY_counted_55 post (nI s) 6 (nI n) (nI m) st bo bs pr tk mk ot vl rs al wt so sq go mo cl wd nt fr tw tx gr ge g1 g2 g3 sv sb lf pa du av bg oft se tt cp q (nI (ra_cn (fun k => decide (¬ nt (14 * s + k) = 0)) i)) (nI i)) 14 (fun q => ?_) (fun q i hi ih => ?_)
  · simp (disch := omega) only [wY_counted_55, not_true, not_false_iff, true_implies, false_implies, implies_true, true_and, and_true, forall_eq, eq_self, ra_i, ra_c, ra_m3, ra_m4, ra_m16, ra_4m, ra_14m, ra_16m, nI_add, nI_1, lN_1, ra_p2, ra_2p, ra_n0, ra_p0, ra_q0, ra_q1, ra_q2, ra_q3, ra_n3, ra_n4, ra_n10, ra_n14, ra_n16, ra_n30, ra_n140, ra_y3, ra_y4, ra_y10, ra_y14, ra_y16, ra_y30, ra_y140]
    exact h
  · have e : ra_cn (fun k => decide (¬ nt (14 * s + k) = 0)) (i + 1) = ra_cn (fun k => decide (¬ nt (14 * s + k) = 0)) i + (if decide (¬ nt (14 * s + i) = 0) = true then 1 else 0) := rfl
    rw [e] at ih
    by_cases a : nt (14 * s + i) = 0
    · rw [if_neg (show ¬ decide (¬ nt (14 * s + i) = 0) = true from fun z => of_decide_eq_true z a)] at ih
      simp (disch := omega) only [wY_counted_55, a, not_true, not_false_iff, true_implies, false_implies, implies_true, true_and, and_true, forall_eq, eq_self, ra_i, ra_c, ra_m3, ra_m4, ra_m16, ra_4m, ra_14m, ra_16m, nI_add, nI_1, lN_1, ra_p2, ra_2p, ra_n0, ra_p0, ra_q0, ra_q1, ra_q2, ra_q3, ra_n3, ra_n4, ra_n10, ra_n14, ra_n16, ra_n30, ra_n140, ra_y3, ra_y4, ra_y10, ra_y14, ra_y16, ra_y30, ra_y140]
      exact ih
    · rw [if_pos (decide_eq_true a)] at ih
      simp (disch := omega) only [wY_counted_55, a, not_true, not_false_iff, true_implies, false_implies, implies_true, true_and, and_true, forall_eq, eq_self, ra_i, ra_c, ra_m3, ra_m4, ra_m16, ra_4m, ra_14m, ra_16m, nI_add, nI_1, lN_1, ra_p2, ra_2p, ra_n0, ra_p0, ra_q0, ra_q1, ra_q2, ra_q3, ra_n3, ra_n4, ra_n10, ra_n14, ra_n16, ra_n30, ra_n140, ra_y3, ra_y4, ra_y10, ra_y14, ra_y16, ra_y30, ra_y140]
      exact ih
theorem yl_c5_0 {s : Nat} {w : Int32} {post : Int32 → Prop} (hw : ¬ w = 5) (h : ∃ q, wY_counted_55 post (nI s) w (nI n) (nI m) st bo bs pr tk mk ot vl rs al wt so sq go mo cl wd nt fr tw tx gr ge g1 g2 g3 sv sb lf pa du av bg oft se tt cp q 0 0) : wpY_counted post (nI n, nI m, st, bo, bs, pr, tk, mk, ot, vl, rs, al, wt, so, sq, go, mo, cl, wd, nt, fr, tw, tx, gr, ge, g1, g2, g3, sv, sb, lf, pa, du, av, bg, oft, se, tt, cp) (nI s) w := by
  simp only [wpY_counted]
  refine ⟨1, ?_⟩
  rw [wY_counted_5]
  exact br_f (by decide) (br_f hw h)
theorem yl_c5_5 {s : Nat} {post : Int32 → Prop} (hs : s < 10) (hsl : st s ≠ 0) (hn : n ≤ 30) (hE : ra_E B st ep bo) (hW : ra_W st ep pt ot rs) (h : post (nI (ra_cn (ra_iq st ep pt s) 10))) : wpY_counted post (nI n, nI m, st, bo, bs, pr, tk, mk, ot, vl, rs, al, wt, so, sq, go, mo, cl, wd, nt, fr, tw, tx, gr, ge, g1, g2, g3, sv, sb, lf, pa, du, av, bg, oft, se, tt, cp) (nI s) 5 := by
  have ys := ra_E_y hE hs hsl
  simp only [wpY_counted]
  refine ra_run (fun q i => wY_counted_5 post (nI s) 5 (nI n) (nI m) st bo bs pr tk mk ot vl rs al wt so sq go mo cl wd nt fr tw tx gr ge g1 g2 g3 sv sb lf pa du av bg oft se tt cp q (nI (ra_cn (ra_iq st ep pt s) i)) (nI i)) 10 (fun q => ?_) (fun q i hi ih => ?_)
  · simp (disch := omega) only [wY_counted_5, not_true, not_false_iff, true_implies, false_implies, implies_true, true_and, and_true, forall_eq, eq_self, ra_i, ra_c, ra_m3, ra_m4, ra_m16, ra_4m, ra_14m, ra_16m, nI_add, nI_1, lN_1, ra_p2, ra_2p, ra_n0, ra_p0, ra_q0, ra_q1, ra_q2, ra_q3, ra_n3, ra_n4, ra_n10, ra_n14, ra_n16, ra_n30, ra_n140, ra_y3, ra_y4, ra_y10, ra_y14, ra_y16, ra_y30, ra_y140]
    exact yl_c55_0 (by decide) (yl_c95_0 hn (by decide) h)
  · have e : ra_cn (ra_iq st ep pt s) (i + 1) = ra_cn (ra_iq st ep pt s) i + (if ra_iq st ep pt s i = true then 1 else 0) := rfl
    rw [e] at ih
    by_cases a : st i = 2
    · have w2 : pt i = ot i := ((hW i hi).2 (by rw [a]; decide) (by rw [a]; decide)).1
      by_cases b : pt i = ep s
      · have b' : ot i = ep s := w2.symm.trans b
        rw [if_pos (show ra_iq st ep pt s i = true from decide_eq_true ⟨a, b⟩)] at ih
        simp (disch := omega) only [wY_counted_5, wpY_endpoint, a, ys, b', not_true, not_false_iff, true_implies, false_implies, implies_true, true_and, and_true, forall_eq, eq_self, ra_i, ra_c, ra_m3, ra_m4, ra_m16, ra_4m, ra_14m, ra_16m, nI_add, nI_1, lN_1, ra_p2, ra_2p, ra_n0, ra_p0, ra_q0, ra_q1, ra_q2, ra_q3, ra_n3, ra_n4, ra_n10, ra_n14, ra_n16, ra_n30, ra_n140, ra_y3, ra_y4, ra_y10, ra_y14, ra_y16, ra_y30, ra_y140]
        exact ih
      · have b' : ¬ ot i = ep s := fun z => b (w2.trans z)
        rw [if_neg (fun z => b (of_decide_eq_true z).2)] at ih
        simp (disch := omega) only [wY_counted_5, wpY_endpoint, a, ys, b', not_true, not_false_iff, true_implies, false_implies, implies_true, true_and, and_true, forall_eq, eq_self, ra_i, ra_c, ra_m3, ra_m4, ra_m16, ra_4m, ra_14m, ra_16m, nI_add, nI_1, lN_1, ra_p2, ra_2p, ra_n0, ra_p0, ra_q0, ra_q1, ra_q2, ra_q3, ra_n3, ra_n4, ra_n10, ra_n14, ra_n16, ra_n30, ra_n140, ra_y3, ra_y4, ra_y10, ra_y14, ra_y16, ra_y30, ra_y140]
        exact ih
    · rw [if_neg (fun z => a (of_decide_eq_true z).1)] at ih
      simp (disch := omega) only [wY_counted_5, a, not_true, not_false_iff, true_implies, false_implies, implies_true, true_and, and_true, forall_eq, eq_self, ra_i, ra_c, ra_m3, ra_m4, ra_m16, ra_4m, ra_14m, ra_16m, nI_add, nI_1, lN_1, ra_p2, ra_2p, ra_n0, ra_p0, ra_q0, ra_q1, ra_q2, ra_q3, ra_n3, ra_n4, ra_n10, ra_n14, ra_n16, ra_n30, ra_n140, ra_y3, ra_y4, ra_y10, ra_y14, ra_y16, ra_y30, ra_y140]
      exact ih
end
end
section
/-! grants -/
theorem ra_ll {a b : Int32} (x : Int32) (h : b.toInt = a.toInt + 1) : (a < x) = (b ≤ x) := propext (by rw [Int32.lt_iff_toInt_lt, Int32.le_iff_toInt_le, h]; omega)
theorem yl_within {a b x : Int32} {post : Int32 → Prop} (h0 : (x < a ∨ b < x) → post 0) (h1 : ¬ x < a → ¬ b < x → post 1) : wpY_within post x a b :=
  br_c (fun y => h0 (Or.inl y)) (fun y => br_c (fun z => h0 (Or.inr z)) (fun z => h1 y z))
theorem ra_how {x : Int32} (h1 : ¬ x < 1) (h3 : x ≤ 3) : x = 1 ∨ x = 2 ∨ x = 3 := by
  have a : (1 : Int32).toInt = 1 := by decide
  have b : (3 : Int32).toInt = 3 := by decide
  rw [Int32.lt_iff_toInt_lt, a] at h1
  rw [Int32.le_iff_toInt_le, b] at h3
  have : x.toInt = 1 ∨ x.toInt = 2 ∨ x.toInt = 3 := by omega
  rcases this with z | z | z
  · exact Or.inl (Int32.toInt_inj.mp (z.trans a.symm))
  · exact Or.inr (Or.inl (Int32.toInt_inj.mp (z.trans (by decide : (2 : Int32).toInt = 2).symm)))
  · exact Or.inr (Or.inr (Int32.toInt_inj.mp (z.trans b.symm)))
theorem ra_16s {f : Nat} (h : f ≤ 16) : 16 - nI f = nI (16 - f) := pk_sub (a := 16) (b := f) h
theorem ra_nat {x : Int32} {n : Nat} (hn : n < 2 ^ 31) (h0 : ¬ x < 0) (h1 : ¬ nI n ≤ x) : ∃ j, j < n ∧ x = nI j := by
  rcases pk_ix x hn with a | a | a
  · exact absurd a h0
  · exact absurd a h1
  · exact a
theorem ra_lt1 {x : Int32} (h : ¬ x < 1) : ¬ x < 0 := by
  have a : (1 : Int32).toInt = 1 := by decide
  have b : (0 : Int32).toInt = 0 := by decide
  rw [Int32.lt_iff_toInt_lt, a] at h
  rw [Int32.lt_iff_toInt_lt, b]
  omega
/-- first and length within the 16 words -/
theorem ra_fl16 {x y : Int32} (h1 : ¬ x < 0) (h2 : ¬ y < 1) (h3 : y ≤ 16 - x) : ∃ f l : Nat, f ≤ 15 ∧ 1 ≤ l ∧ f + l ≤ 16 ∧ x = nI f ∧ y = nI l := by
  have a0 : (0 : Int32).toInt = 0 := by decide
  have a1 : (1 : Int32).toInt = 1 := by decide
  have a16 : (16 : Int32).toInt = 16 := by decide
  obtain ⟨f, hf, rfl⟩ := nI_of h1
  obtain ⟨l, hl, rfl⟩ := nI_of (ra_lt1 h2)
  rw [Int32.lt_iff_toInt_lt, a1, nI_toInt hl] at h2
  by_cases f16 : f ≤ 16
  · rw [ra_16s f16, nI_leI hl (by omega)] at h3
    exact ⟨f, l, by omega, by omega, by omega, rfl, rfl⟩
  · exfalso
    rw [Int32.le_iff_toInt_le, Int32.toInt_sub, a16, nI_toInt hf, nI_toInt hl] at h3
    have : ((16 : Int) - (f : Int)).bmod (2 ^ 32) = 16 - f := Int.bmod_eq_of_le (by omega) (by omega)
    rw [this] at h3
    omega
section
variable {B c m n : Nat} {st pr bs tk mk vl cl rs al wt wd tt sb pa du oft bg av ep pt nb lg lt lv gk gt gf gl gs gn sl ss bo ot so sq go mo nt fr tw tx gr ge g1 g2 g3 sv lf se cp : Nat → Int32} {sn lo : Nat → Int64}
theorem xl_isG {x : Int32} {post : Int32 → Prop} (h0 : (x < 0 ∨ 4 ≤ x) → post 0) (h1 : ¬ x < 0 → ¬ 4 ≤ x → post 1) : wpX_isGrantNumber post (lN c, ep, st, pt, bs, pr, tk, mk, rs, vl, cl, nb, al, wt, lg, wd, sn, lo, lt, lv, gk, gt, gf, gl, gs, gn, sl, ss, sb, pa, du, oft, bg, av, tt) x :=
  br_c (fun y => h0 (Or.inl y)) (fun y => br_c (fun z => h0 (Or.inr z)) (fun z => h1 y z))
theorem xl_isS {x : Int32} {post : Int32 → Prop} (h0 : (x < 0 ∨ 3 ≤ x) → post 0) (h1 : ¬ x < 0 → ¬ 3 ≤ x → post 1) : wpX_isServiceNumber post (lN c, ep, st, pt, bs, pr, tk, mk, rs, vl, cl, nb, al, wt, lg, wd, sn, lo, lt, lv, gk, gt, gf, gl, gs, gn, sl, ss, sb, pa, du, oft, bg, av, tt) x :=
  br_c (fun y => h0 (Or.inl y)) (fun y => br_c (fun z => h0 (Or.inr z)) (fun z => h1 y z))
theorem xl_isW {x : Int32} {post : Int32 → Prop} (h0 : (x < 0 ∨ 16 ≤ x) → post 0) (h1 : ¬ x < 0 → ¬ 16 ≤ x → post 1) : wpX_isWord post (lN c, ep, st, pt, bs, pr, tk, mk, rs, vl, cl, nb, al, wt, lg, wd, sn, lo, lt, lv, gk, gt, gf, gl, gs, gn, sl, ss, sb, pa, du, oft, bg, av, tt) x :=
  br_c (fun y => h0 (Or.inl y)) (fun y => br_c (fun z => h0 (Or.inr z)) (fun z => h1 y z))
theorem yl_grant {r i : Nat} {x2 x3 x4 x5 x6 : Int32} {post : Int32 → SY → Prop} (hr : r < 10) (hi : i < 4) (h : post 0 (nI n, nI m, st, bo, bs, pr, tk, mk, ot, vl, rs, al, wt, so, sq, go, mo, cl, wd, nt, fr, tw, tx, upd gr (4 * r + i) x2, upd ge (4 * r + i) x3, upd g1 (4 * r + i) x4, upd g2 (4 * r + i) x5, upd g3 (4 * r + i) x6, sv, sb, lf, pa, du, av, bg, oft, se, tt, cp)) : wpY_grant post (nI n, nI m, st, bo, bs, pr, tk, mk, ot, vl, rs, al, wt, so, sq, go, mo, cl, wd, nt, fr, tw, tx, gr, ge, g1, g2, g3, sv, sb, lf, pa, du, av, bg, oft, se, tt, cp) (nI r) (nI i) x2 x3 x4 x5 x6 := by
  simp (disch := omega) only [wpY_grant, not_true, not_false_iff, true_implies, false_implies, implies_true, true_and, and_true, forall_eq, eq_self, ra_i, ra_c, ra_m3, ra_m4, ra_m16, ra_4m, ra_14m, ra_16m, nI_add, nI_1, lN_1, ra_p2, ra_2p, ra_n0, ra_p0, ra_q0, ra_q1, ra_q2, ra_q3, ra_n3, ra_n4, ra_n10, ra_n14, ra_n16, ra_n30, ra_n140, ra_y3, ra_y4, ra_y10, ra_y14, ra_y16, ra_y30, ra_y140]
  exact h
theorem ra_R_G {gk' gt' gf' gl' gs' gn' gr' ge' g1' g2' g3' : Nat → Int32} (h : ra_R B c m n st pr tk rs al tt pa bs sb ep pt nb lg sn lo lt lv gk gt gf gl gs gn sl ss bo ot so sq go mo nt fr tw tx gr ge g1 g2 g3 sv lf se) (hG : ra_G st gk' gt' gf' gl' gs' gn' gr' ge' g1' g2' g3') : ra_R B c m n st pr tk rs al tt pa bs sb ep pt nb lg sn lo lt lv gk' gt' gf' gl' gs' gn' sl ss bo ot so sq go mo nt fr tw tx gr' ge' g1' g2' g3' sv lf se := by
  obtain ⟨h1, h2, h3, h4, h5, h6, h7, h8, h9, h10, h11⟩ := h
  exact ⟨h1, h2, h3, h4, h5, h6, hG, h8, h9, h10, h11⟩
/-- to is ANY, or refused, or another living one's -/
theorem ra_any {r : Nat} (hB : B ≤ 2 ^ 26) (h : ra_R B c m n st pr tk rs al tt pa bs sb ep pt nb lg sn lo lt lv gk gt gf gl gs gn sl ss bo ot so sq go mo nt fr tw tx gr ge g1 g2 g3 sv lf se) (hr : r < 10) (hr1 : st r = 1) (e : Int32) : (e = -1 ∧ ∀ post : Int32 → Prop, post 0 → wpX_refusalOrAny post (lN c, ep, st, pt, bs, pr, tk, mk, rs, vl, cl, nb, al, wt, lg, wd, sn, lo, lt, lv, gk, gt, gf, gl, gs, gn, sl, ss, sb, pa, du, oft, bg, av, tt) (nI r) e) ∨
    (e ≠ -1 ∧ ∃ w : Int32, (w = 0 ∨ w = -1 ∨ w = -3) ∧ (∀ post : Int32 → Prop, post w → wpX_refusalOrAny post (lN c, ep, st, pt, bs, pr, tk, mk, rs, vl, cl, nb, al, wt, lg, wd, sn, lo, lt, lv, gk, gt, gf, gl, gs, gn, sl, ss, sb, pa, du, oft, bg, av, tt) (nI r) e) ∧ (∀ post : Int32 → Prop, post w → wpY_wrong post (nI n, nI m, st, bo, bs, pr, tk, mk, ot, vl, rs, al, wt, so, sq, go, mo, cl, wd, nt, fr, tw, tx, gr, ge, g1, g2, g3, sv, sb, lf, pa, du, av, bg, oft, se, tt, cp) (nI r) e 0)) := by
  by_cases e1 : e = -1
  · exact Or.inl ⟨e1, fun post hp => xl_roa hr (fun _ => hp) (fun z => absurd e1 z)⟩
  · refine Or.inr ⟨e1, ?_⟩
    rcases ra_ref0 (mk := mk) (vl := vl) (cl := cl) (wt := wt) (wd := wd) (du := du) (oft := oft) (bg := bg) (av := av) (cp := cp) hB h hr hr1 e with ⟨w, hw, hX, -, hY⟩ | ⟨s, hs, z, hl, he, ha, hX, hY⟩
    · exact ⟨w, Or.inr hw, fun post hp => xl_roa hr (fun y => absurd y e1) (fun _ => hX _ hp), fun post hp => hY _ 0 hp⟩
    · exact ⟨0, Or.inl rfl, fun post hp => xl_roa hr (fun y => absurd y e1) (fun _ => hX _ hp), fun post hp => hY _ hp⟩
theorem ra_lend {v1 v2 v3 v4 v5 : Int32} (hB : B ≤ 2 ^ 26) (h : ra_R B c m n st pr tk rs al tt pa bs sb ep pt nb lg sn lo lt lv gk gt gf gl gs gn sl ss bo ot so sq go mo nt fr tw tx gr ge g1 g2 g3 sv lf se) : ∃ (w : Int32) (u' : SX) (v' : SY), ra_RR (B + 1) u' v' ∧ (∀ post : Int32 → SX → Prop, post w u' → wpX_lend post (lN c, ep, st, pt, bs, pr, tk, mk, rs, vl, cl, nb, al, wt, lg, wd, sn, lo, lt, lv, gk, gt, gf, gl, gs, gn, sl, ss, sb, pa, du, oft, bg, av, tt) v1 v2 v3 v4 v5) ∧ (∀ post : Int32 → SY → Prop, post w v' → wpY_lend post (nI n, nI m, st, bo, bs, pr, tk, mk, ot, vl, rs, al, wt, so, sq, go, mo, cl, wd, nt, fr, tw, tx, gr, ge, g1, g2, g3, sv, sb, lf, pa, du, av, bg, oft, se, tt, cp) v1 v2 v3 v4 v5) := by
  rcases ra_run_both (mk := mk) (vl := vl) (cl := cl) (wt := wt) (wd := wd) (du := du) (oft := oft) (bg := bg) (av := av) (cp := cp) hB h with ⟨rX, rY⟩ | ⟨r, hr, hr1, rX, rY⟩
  · refine ⟨-1, _, _, ra_RR_mono (ra_in (mk := mk) (vl := vl) (cl := cl) (wt := wt) (wd := wd) (du := du) (oft := oft) (bg := bg) (av := av) (cp := cp) h) (by omega), fun post hp => ?_, fun post hp => ?_⟩
    · simp only [wpX_lend]
      exact rX _ (br_t (by decide) hp)
    · simp only [wpY_lend]
      exact rY _ (br_t (by decide) hp)
  · have rl : st r ≠ 0 := by rw [hr1]; decide
    by_cases good : ¬ v1 < 0 ∧ ¬ 4 ≤ v1 ∧ ¬ v5 < 1 ∧ v5 ≤ 3 ∧ ¬ v3 < 0 ∧ ¬ v4 < 1 ∧ v4 ≤ 16 - v3
    · obtain ⟨a1, a2, a3, a4, a5, a6, a7⟩ := good
      obtain ⟨i, hi, rfl⟩ := ra_nat (n := 4) (by omega) a1 a2
      obtain ⟨f, l, hf, hl, hfl, rfl, rfl⟩ := ra_fl16 a5 a6 a7
      have how := ra_how a3 a4
      have b1 : ¬ (3 : Int32) < nI i := by rw [ra_ll _ (by decide : (4 : Int32).toInt = (3 : Int32).toInt + 1)]; exact a2
      have b2 : ¬ (15 : Int32) < nI f := nI_nlt (a := 15) (b := f) (by omega) (by omega)
      have b3 : ¬ (16 - nI f) < nI l := Int32.not_lt.mpr a7
      have b4 : ¬ (3 : Int32) < v5 := Int32.not_lt.mpr a4
      have X0 : ∀ (w : Int32) (post : Int32 → SX → Prop), (∀ q : Int32 → Prop, q w → wpX_refusalOrAny q (lN c, ep, st, pt, bs, pr, tk, mk, rs, vl, cl, nb, al, wt, lg, wd, sn, lo, lt, lv, gk, gt, gf, gl, gs, gn, sl, ss, sb, pa, du, oft, bg, av, tt) (nI r) v2) → ((w = 0 → post 0 (lN c, ep, st, pt, bs, pr, tk, mk, rs, vl, cl, nb, al, wt, lg, wd, sn, lo, lt, lv, upd gk (4 * r + i) v5, upd gt (4 * r + i) v2, upd gf (4 * r + i) (nI f), upd gl (4 * r + i) (nI l), gs, gn, sl, ss, sb, pa, du, oft, bg, av, tt)) ∧ (¬ w = 0 → post w (lN c, ep, st, pt, bs, pr, tk, mk, rs, vl, cl, nb, al, wt, lg, wd, sn, lo, lt, lv, gk, gt, gf, gl, gs, gn, sl, ss, sb, pa, du, oft, bg, av, tt))) → wpX_lend post (lN c, ep, st, pt, bs, pr, tk, mk, rs, vl, cl, nb, al, wt, lg, wd, sn, lo, lt, lv, gk, gt, gf, gl, gs, gn, sl, ss, sb, pa, du, oft, bg, av, tt) (nI i) v2 (nI f) (nI l) v5 := by
        intro w post hX hp
        simp only [wpX_lend]
        refine rX _ (br_f (nI_pos (by omega)) (xl_isG (fun y => absurd y (fun z => z.elim a1 a2)) (fun _ _ => br_f (by decide) (br_f a3 (br_t a4 (br_f a5 (br_f a6 (br_t a7 (hX _ ?_)))))))))
        simp (disch := omega) only [not_true, not_false_iff, true_implies, false_implies, implies_true, true_and, and_true, forall_eq, eq_self, ra_i, ra_c, ra_m3, ra_m4, ra_m16, ra_4m, ra_14m, ra_16m, nI_add, nI_1, lN_1, ra_p2, ra_2p, ra_n0, ra_p0, ra_q0, ra_q1, ra_q2, ra_q3, ra_n3, ra_n4, ra_n10, ra_n14, ra_n16, ra_n30, ra_n140, ra_y3, ra_y4, ra_y10, ra_y14, ra_y16, ra_y30, ra_y140]
        exact hp
      have Y0 : ∀ (post : Int32 → SY → Prop), ((v2 = -1 → wY_lend_72 post (nI i) v2 (nI f) (nI l) v5 (nI r) 0 (nI n) (nI m) st bo bs pr tk mk ot vl rs al wt so sq go mo cl wd nt fr tw tx gr ge g1 g2 g3 sv sb lf pa du av bg oft se tt cp) ∧ (¬ v2 = -1 → wpY_wrong (fun r_51 => wY_lend_72 post (nI i) v2 (nI f) (nI l) v5 (nI r) r_51 (nI n) (nI m) st bo bs pr tk mk ot vl rs al wt so sq go mo cl wd nt fr tw tx gr ge g1 g2 g3 sv sb lf pa du av bg oft se tt cp) (nI n, nI m, st, bo, bs, pr, tk, mk, ot, vl, rs, al, wt, so, sq, go, mo, cl, wd, nt, fr, tw, tx, gr, ge, g1, g2, g3, sv, sb, lf, pa, du, av, bg, oft, se, tt, cp) (nI r) v2 0)) → wpY_lend post (nI n, nI m, st, bo, bs, pr, tk, mk, ot, vl, rs, al, wt, so, sq, go, mo, cl, wd, nt, fr, tw, tx, gr, ge, g1, g2, g3, sv, sb, lf, pa, du, av, bg, oft, se, tt, cp) (nI i) v2 (nI f) (nI l) v5 := by
        intro post hp
        simp only [wpY_lend]
        exact rY _ (br_f (nI_pos (by omega)) (yl_within (fun y => absurd y (fun z => z.elim a1 b1)) (fun _ _ => br_f (by decide) (yl_within (fun y => absurd y (fun z => z.elim a5 b2)) (fun _ _ => br_f (by decide) (yl_within (fun y => absurd y (fun z => z.elim a6 b3)) (fun _ _ => br_f (by decide) (yl_within (fun y => absurd y (fun z => z.elim a3 b4)) (fun _ _ => br_f (by decide) hp)))))))))
      have hG := ra_R_G h (ra_G_lend (to := v2) h.2.2.2.2.2.2.1 hr rl hi how hfl)
      rcases ra_any (mk := mk) (vl := vl) (cl := cl) (wt := wt) (wd := wd) (du := du) (oft := oft) (bg := bg) (av := av) (cp := cp) hB h hr hr1 v2 with ⟨e1, hX⟩ | ⟨e1, w, hw, hX, hY⟩
      · refine ⟨0, _, _, ra_RR_mono (ra_in (mk := mk) (vl := vl) (cl := cl) (wt := wt) (wd := wd) (du := du) (oft := oft) (bg := bg) (av := av) (cp := cp) hG) (by omega), fun post hp => X0 0 post hX (br_t rfl hp), fun post hp => Y0 post (br_t e1 ?_)⟩
        simp only [wY_lend_72]
        exact br_t (by decide) (yl_grant hr hi hp)
      · rcases hw with rfl | hw
        · refine ⟨0, _, _, ra_RR_mono (ra_in (mk := mk) (vl := vl) (cl := cl) (wt := wt) (wd := wd) (du := du) (oft := oft) (bg := bg) (av := av) (cp := cp) hG) (by omega), fun post hp => X0 0 post hX (br_t rfl hp), fun post hp => Y0 post (br_f e1 (hY _ ?_))⟩
          simp only [wY_lend_72]
          exact br_t (by decide) (yl_grant hr hi hp)
        · have w0 : ¬ w = 0 := by rcases hw with rfl | rfl <;> decide
          have w1 : ¬ 0 ≤ w := by rcases hw with rfl | rfl <;> decide
          refine ⟨w, _, _, ra_RR_mono (ra_in (mk := mk) (vl := vl) (cl := cl) (wt := wt) (wd := wd) (du := du) (oft := oft) (bg := bg) (av := av) (cp := cp) h) (by omega), fun post hp => X0 w post hX (br_f w0 hp), fun post hp => Y0 post (br_f e1 (hY _ ?_))⟩
          simp only [wY_lend_72]
          exact br_f w1 hp
    · refine ⟨-1, _, _, ra_RR_mono (ra_in (mk := mk) (vl := vl) (cl := cl) (wt := wt) (wd := wd) (du := du) (oft := oft) (bg := bg) (av := av) (cp := cp) h) (by omega), fun post hp => ?_, fun post hp => ?_⟩
      · simp only [wpX_lend]
        exact rX _ (br_f (nI_pos (by omega)) (xl_isG (fun _ => br_t rfl hp) (fun a1 a2 => br_f (by decide) (br_c (fun _ => hp) (fun a3 => br_c (fun a4 => br_c (fun _ => hp) (fun a5 => br_c (fun _ => hp) (fun a6 => br_c (fun a7 => absurd ⟨a1, a2, a3, a4, a5, a6, a7⟩ good) (fun _ => hp)))) (fun _ => hp))))))
      · simp only [wpY_lend]
        refine rY _ (br_f (nI_pos (by omega)) (yl_within (fun _ => br_t rfl hp) (fun a1 a2 => br_f (by decide) (yl_within (fun _ => br_t rfl hp) (fun a5 _ => br_f (by decide) (yl_within (fun _ => br_t rfl hp) (fun a6 a7 => br_f (by decide) (yl_within (fun _ => br_t rfl hp) (fun a3 a4 => absurd ⟨a1, ?_, a3, Int32.not_lt.mp a4, a5, a6, Int32.not_lt.mp a7⟩ good)))))))))
        rw [← ra_ll _ (by decide : (4 : Int32).toInt = (3 : Int32).toInt + 1)]; exact a2
end
end
section
/-! pass, revoke -/
section
variable {B c m n : Nat} {st pr bs tk mk vl cl rs al wt wd tt sb pa du oft bg av ep pt nb lg lt lv gk gt gf gl gs gn sl ss bo ot so sq go mo nt fr tw tx gr ge g1 g2 g3 sv lf se cp : Nat → Int32} {sn lo : Nat → Int64}
theorem ra_pass {v1 v2 v3 v4 : Int32} (hB : B ≤ 2 ^ 26) (h : ra_R B c m n st pr tk rs al tt pa bs sb ep pt nb lg sn lo lt lv gk gt gf gl gs gn sl ss bo ot so sq go mo nt fr tw tx gr ge g1 g2 g3 sv lf se) : ∃ (w : Int32) (u' : SX) (v' : SY), ra_RR (B + 1) u' v' ∧ (∀ post : Int32 → SX → Prop, post w u' → wpX_pass post (lN c, ep, st, pt, bs, pr, tk, mk, rs, vl, cl, nb, al, wt, lg, wd, sn, lo, lt, lv, gk, gt, gf, gl, gs, gn, sl, ss, sb, pa, du, oft, bg, av, tt) v1 v2 v3 v4) ∧ (∀ post : Int32 → SY → Prop, post w v' → wpY_pass post (nI n, nI m, st, bo, bs, pr, tk, mk, ot, vl, rs, al, wt, so, sq, go, mo, cl, wd, nt, fr, tw, tx, gr, ge, g1, g2, g3, sv, sb, lf, pa, du, av, bg, oft, se, tt, cp) v1 v2 v3 v4) := by
  rcases ra_run_both (mk := mk) (vl := vl) (cl := cl) (wt := wt) (wd := wd) (du := du) (oft := oft) (bg := bg) (av := av) (cp := cp) hB h with ⟨rX, rY⟩ | ⟨r, hr, hr1, rX, rY⟩
  · refine ⟨-1, _, _, ra_RR_mono (ra_in (mk := mk) (vl := vl) (cl := cl) (wt := wt) (wd := wd) (du := du) (oft := oft) (bg := bg) (av := av) (cp := cp) h) (by omega), fun post hp => ?_, fun post hp => ?_⟩
    · simp only [wpX_pass]
      exact rX _ (br_t (by decide) hp)
    · simp only [wpY_pass]
      exact rY _ (br_t (by decide) hp)
  · have rl : st r ≠ 0 := by rw [hr1]; decide
    by_cases good : ¬ v1 < 0 ∧ ¬ 4 ≤ v1 ∧ ¬ v4 < 0 ∧ ¬ 4 ≤ v4
    · obtain ⟨a1, a2, a3, a4⟩ := good
      obtain ⟨i, hi, rfl⟩ := ra_nat (n := 4) (by omega) a1 a2
      obtain ⟨k, hk, rfl⟩ := ra_nat (n := 4) (by omega) a3 a4
      have b1 : ¬ (3 : Int32) < nI i := by rw [ra_ll _ (by decide : (4 : Int32).toInt = (3 : Int32).toInt + 1)]; exact a2
      have b2 : ¬ (3 : Int32) < nI k := by rw [ra_ll _ (by decide : (4 : Int32).toInt = (3 : Int32).toInt + 1)]; exact a4
      have X0 : ∀ (w : Int32) (post : Int32 → SX → Prop), (∀ q : Int32 → Prop, q w → wpX_refusalOrAny q (lN c, ep, st, pt, bs, pr, tk, mk, rs, vl, cl, nb, al, wt, lg, wd, sn, lo, lt, lv, gk, gt, gf, gl, gs, gn, sl, ss, sb, pa, du, oft, bg, av, tt) (nI r) v2) → ((w = 0 → wpX_refusal (fun r_159 => wX_pass_53 post (nI i) v2 v3 (nI k) (nI r) r_159 (lN c) ep st pt bs pr tk mk rs vl cl nb al wt lg wd sn lo lt lv gk gt gf gl gs gn sl ss sb pa du oft bg av tt) (lN c, ep, st, pt, bs, pr, tk, mk, rs, vl, cl, nb, al, wt, lg, wd, sn, lo, lt, lv, gk, gt, gf, gl, gs, gn, sl, ss, sb, pa, du, oft, bg, av, tt) (nI r) v3) ∧ (¬ w = 0 → wX_pass_53 post (nI i) v2 v3 (nI k) (nI r) w (lN c) ep st pt bs pr tk mk rs vl cl nb al wt lg wd sn lo lt lv gk gt gf gl gs gn sl ss sb pa du oft bg av tt)) → wpX_pass post (lN c, ep, st, pt, bs, pr, tk, mk, rs, vl, cl, nb, al, wt, lg, wd, sn, lo, lt, lv, gk, gt, gf, gl, gs, gn, sl, ss, sb, pa, du, oft, bg, av, tt) (nI i) v2 v3 (nI k) := by
        intro w post hX hp
        simp only [wpX_pass]
        exact rX _ (br_f (nI_pos (by omega)) (xl_isG (fun y => absurd y (fun z => z.elim a1 a2)) (fun _ _ => br_f (by decide) (xl_isG (fun y => absurd y (fun z => z.elim a3 a4)) (fun _ _ => br_f (by decide) (hX _ hp))))))
      have X1 : ∀ (post : Int32 → SX → Prop), post 0 (lN c, ep, st, pt, bs, pr, tk, mk, rs, vl, cl, nb, al, wt, lg, wd, sn, lo, lt, lv, upd gk (4 * r + i) 4, upd gt (4 * r + i) v2, gf, gl, upd gs (4 * r + i) v3, upd gn (4 * r + i) (nI k), sl, ss, sb, pa, du, oft, bg, av, tt) → wX_pass_53 post (nI i) v2 v3 (nI k) (nI r) 0 (lN c) ep st pt bs pr tk mk rs vl cl nb al wt lg wd sn lo lt lv gk gt gf gl gs gn sl ss sb pa du oft bg av tt := by
        intro post hp
        simp (disch := omega) only [wX_pass_53, not_true, not_false_iff, true_implies, false_implies, implies_true, true_and, and_true, forall_eq, eq_self, ra_i, ra_c, ra_m3, ra_m4, ra_m16, ra_4m, ra_14m, ra_16m, nI_add, nI_1, lN_1, ra_p2, ra_2p, ra_n0, ra_p0, ra_q0, ra_q1, ra_q2, ra_q3, ra_n3, ra_n4, ra_n10, ra_n14, ra_n16, ra_n30, ra_n140, ra_y3, ra_y4, ra_y10, ra_y14, ra_y16, ra_y30, ra_y140]
        exact hp
      have X2 : ∀ (w : Int32) (post : Int32 → SX → Prop), ¬ w = 0 → post w (lN c, ep, st, pt, bs, pr, tk, mk, rs, vl, cl, nb, al, wt, lg, wd, sn, lo, lt, lv, gk, gt, gf, gl, gs, gn, sl, ss, sb, pa, du, oft, bg, av, tt) → wX_pass_53 post (nI i) v2 v3 (nI k) (nI r) w (lN c) ep st pt bs pr tk mk rs vl cl nb al wt lg wd sn lo lt lv gk gt gf gl gs gn sl ss sb pa du oft bg av tt := by
        intro w post hw hp
        simp only [wX_pass_53]
        exact br_f hw hp
      have Y0 : ∀ (post : Int32 → SY → Prop), ((v2 = -1 → wY_pass_49 post (nI i) v2 v3 (nI k) (nI r) 0 (nI n) (nI m) st bo bs pr tk mk ot vl rs al wt so sq go mo cl wd nt fr tw tx gr ge g1 g2 g3 sv sb lf pa du av bg oft se tt cp) ∧ (¬ v2 = -1 → wpY_wrong (fun r_47 => wY_pass_49 post (nI i) v2 v3 (nI k) (nI r) r_47 (nI n) (nI m) st bo bs pr tk mk ot vl rs al wt so sq go mo cl wd nt fr tw tx gr ge g1 g2 g3 sv sb lf pa du av bg oft se tt cp) (nI n, nI m, st, bo, bs, pr, tk, mk, ot, vl, rs, al, wt, so, sq, go, mo, cl, wd, nt, fr, tw, tx, gr, ge, g1, g2, g3, sv, sb, lf, pa, du, av, bg, oft, se, tt, cp) (nI r) v2 0)) → wpY_pass post (nI n, nI m, st, bo, bs, pr, tk, mk, ot, vl, rs, al, wt, so, sq, go, mo, cl, wd, nt, fr, tw, tx, gr, ge, g1, g2, g3, sv, sb, lf, pa, du, av, bg, oft, se, tt, cp) (nI i) v2 v3 (nI k) := by
        intro post hp
        simp only [wpY_pass]
        exact rY _ (br_f (nI_pos (by omega)) (yl_within (fun y => absurd y (fun z => z.elim a1 b1)) (fun _ _ => br_f (by decide) (yl_within (fun y => absurd y (fun z => z.elim a3 b2)) (fun _ _ => br_f (by decide) hp)))))
      have Y1 : ∀ (w : Int32) (post : Int32 → SY → Prop), ¬ w = 0 → ¬ 0 ≤ w → post w (nI n, nI m, st, bo, bs, pr, tk, mk, ot, vl, rs, al, wt, so, sq, go, mo, cl, wd, nt, fr, tw, tx, gr, ge, g1, g2, g3, sv, sb, lf, pa, du, av, bg, oft, se, tt, cp) → wY_pass_49 post (nI i) v2 v3 (nI k) (nI r) w (nI n) (nI m) st bo bs pr tk mk ot vl rs al wt so sq go mo cl wd nt fr tw tx gr ge g1 g2 g3 sv sb lf pa du av bg oft se tt cp := by
        intro w post hw hw' hp
        simp only [wY_pass_49, wY_pass_66]
        exact br_f hw (br_f hw' hp)
      have hG := ra_R_G h (ra_G_pass (to := v2) (wh := v3) (x := 0) h.2.2.2.2.2.2.1 hr rl hi hk)
      -- what the granter gives
      have fin : ∃ (w : Int32) (u' : SX) (v' : SY), ra_RR (B + 1) u' v' ∧ (∀ post : Int32 → SX → Prop, post w u' → wpX_refusal (fun r_159 => wX_pass_53 post (nI i) v2 v3 (nI k) (nI r) r_159 (lN c) ep st pt bs pr tk mk rs vl cl nb al wt lg wd sn lo lt lv gk gt gf gl gs gn sl ss sb pa du oft bg av tt) (lN c, ep, st, pt, bs, pr, tk, mk, rs, vl, cl, nb, al, wt, lg, wd, sn, lo, lt, lv, gk, gt, gf, gl, gs, gn, sl, ss, sb, pa, du, oft, bg, av, tt) (nI r) v3) ∧ (∀ post : Int32 → SY → Prop, post w v' → wY_pass_49 post (nI i) v2 v3 (nI k) (nI r) 0 (nI n) (nI m) st bo bs pr tk mk ot vl rs al wt so sq go mo cl wd nt fr tw tx gr ge g1 g2 g3 sv sb lf pa du av bg oft se tt cp) := by
        rcases ra_ref0 (mk := mk) (vl := vl) (cl := cl) (wt := wt) (wd := wd) (du := du) (oft := oft) (bg := bg) (av := av) (cp := cp) hB h hr hr1 v3 with ⟨w, hw, hX, -, hY⟩ | ⟨s, hs, z, hl, he, ha, hX, hY⟩
        · have w0 : ¬ w = 0 := by rcases hw with rfl | rfl <;> decide
          have w1 : ¬ 0 ≤ w := by rcases hw with rfl | rfl <;> decide
          refine ⟨w, _, _, ra_RR_mono (ra_in (mk := mk) (vl := vl) (cl := cl) (wt := wt) (wd := wd) (du := du) (oft := oft) (bg := bg) (av := av) (cp := cp) h) (by omega), fun post hp => hX _ (X2 w post w0 hp), fun post hp => ?_⟩
          simp only [wY_pass_49, wY_pass_66]
          exact br_t trivial (hY _ 0 (br_f w1 hp))
        · refine ⟨0, _, _, ra_RR_mono (ra_in (mk := mk) (vl := vl) (cl := cl) (wt := wt) (wd := wd) (du := du) (oft := oft) (bg := bg) (av := av) (cp := cp) hG) (by omega), fun post hp => hX _ (X1 post hp), fun post hp => ?_⟩
          simp only [wY_pass_49, wY_pass_66]
          exact br_t trivial (hY _ (br_t (by decide) (yl_grant hr hi hp)))
      obtain ⟨w', u', v', hR, fX, fY⟩ := fin
      rcases ra_any (mk := mk) (vl := vl) (cl := cl) (wt := wt) (wd := wd) (du := du) (oft := oft) (bg := bg) (av := av) (cp := cp) hB h hr hr1 v2 with ⟨e1, hX⟩ | ⟨e1, w, hw, hX, hY⟩
      · exact ⟨w', u', v', hR, fun post hp => X0 0 post hX (br_t rfl (fX post hp)), fun post hp => Y0 post (br_t e1 (fY post hp))⟩
      · rcases hw with rfl | hw
        · exact ⟨w', u', v', hR, fun post hp => X0 0 post hX (br_t rfl (fX post hp)), fun post hp => Y0 post (br_f e1 (hY _ (fY post hp)))⟩
        · have w0 : ¬ w = 0 := by rcases hw with rfl | rfl <;> decide
          have w1 : ¬ 0 ≤ w := by rcases hw with rfl | rfl <;> decide
          exact ⟨w, _, _, ra_RR_mono (ra_in (mk := mk) (vl := vl) (cl := cl) (wt := wt) (wd := wd) (du := du) (oft := oft) (bg := bg) (av := av) (cp := cp) h) (by omega), fun post hp => X0 w post hX (br_f w0 (X2 w post w0 hp)), fun post hp => Y0 post (br_f e1 (hY _ (Y1 w post w0 w1 hp)))⟩
    · refine ⟨-1, _, _, ra_RR_mono (ra_in (mk := mk) (vl := vl) (cl := cl) (wt := wt) (wd := wd) (du := du) (oft := oft) (bg := bg) (av := av) (cp := cp) h) (by omega), fun post hp => ?_, fun post hp => ?_⟩
      · simp only [wpX_pass]
        exact rX _ (br_f (nI_pos (by omega)) (xl_isG (fun _ => br_t rfl hp) (fun a1 a2 => br_f (by decide) (xl_isG (fun _ => br_t rfl hp) (fun a3 a4 => absurd ⟨a1, a2, a3, a4⟩ good)))))
      · simp only [wpY_pass]
        refine rY _ (br_f (nI_pos (by omega)) (yl_within (fun _ => br_t rfl hp) (fun a1 a2 => br_f (by decide) (yl_within (fun _ => br_t rfl hp) (fun a3 a4 => absurd ⟨a1, ?_, a3, ?_⟩ good)))))
        · rw [← ra_ll _ (by decide : (4 : Int32).toInt = (3 : Int32).toInt + 1)]; exact a2
        · rw [← ra_ll _ (by decide : (4 : Int32).toInt = (3 : Int32).toInt + 1)]; exact a4
theorem ra_revoke {v1 : Int32} (hB : B ≤ 2 ^ 26) (h : ra_R B c m n st pr tk rs al tt pa bs sb ep pt nb lg sn lo lt lv gk gt gf gl gs gn sl ss bo ot so sq go mo nt fr tw tx gr ge g1 g2 g3 sv lf se) : ∃ (w : Int32) (u' : SX) (v' : SY), ra_RR (B + 1) u' v' ∧ (∀ post : Int32 → SX → Prop, post w u' → wpX_revoke post (lN c, ep, st, pt, bs, pr, tk, mk, rs, vl, cl, nb, al, wt, lg, wd, sn, lo, lt, lv, gk, gt, gf, gl, gs, gn, sl, ss, sb, pa, du, oft, bg, av, tt) v1) ∧ (∀ post : Int32 → SY → Prop, post w v' → wpY_revoke post (nI n, nI m, st, bo, bs, pr, tk, mk, ot, vl, rs, al, wt, so, sq, go, mo, cl, wd, nt, fr, tw, tx, gr, ge, g1, g2, g3, sv, sb, lf, pa, du, av, bg, oft, se, tt, cp) v1) := by
  rcases ra_run_both (mk := mk) (vl := vl) (cl := cl) (wt := wt) (wd := wd) (du := du) (oft := oft) (bg := bg) (av := av) (cp := cp) hB h with ⟨rX, rY⟩ | ⟨r, hr, hr1, rX, rY⟩
  · refine ⟨-1, _, _, ra_RR_mono (ra_in (mk := mk) (vl := vl) (cl := cl) (wt := wt) (wd := wd) (du := du) (oft := oft) (bg := bg) (av := av) (cp := cp) h) (by omega), fun post hp => ?_, fun post hp => ?_⟩
    · simp only [wpX_revoke]
      exact rX _ (br_t (by decide) hp)
    · simp only [wpY_revoke]
      exact rY _ (br_t (by decide) hp)
  · have rl : st r ≠ 0 := by rw [hr1]; decide
    by_cases good : ¬ v1 < 0 ∧ ¬ 4 ≤ v1
    · obtain ⟨a1, a2⟩ := good
      obtain ⟨i, hi, rfl⟩ := ra_nat (n := 4) (by omega) a1 a2
      have b1 : ¬ (3 : Int32) < nI i := by rw [ra_ll _ (by decide : (4 : Int32).toInt = (3 : Int32).toInt + 1)]; exact a2
      have hK := (h.2.2.2.2.2.2.1 r hr i hi).2 rl
      by_cases z : gk (4 * r + i) = 0
      · have z' : gr (4 * r + i) = 0 := by
          rcases hK with ⟨-, y⟩ | ⟨-, -, y, -⟩ | ⟨-, y, -⟩
          · exact y
          · rw [z] at y; rcases y with y | y | y <;> exact absurd y (by decide)
          · rw [z] at y; exact absurd y (by decide)
        refine ⟨-6, _, _, ra_RR_mono (ra_in (mk := mk) (vl := vl) (cl := cl) (wt := wt) (wd := wd) (du := du) (oft := oft) (bg := bg) (av := av) (cp := cp) h) (by omega), fun post hp => ?_, fun post hp => ?_⟩
        · simp only [wpX_revoke]
          refine rX _ (br_f (nI_pos (by omega)) (xl_isG (fun y => absurd y (fun z => z.elim a1 a2)) (fun _ _ => br_f (by decide) ?_)))
          simp (disch := omega) only [z, not_true, not_false_iff, true_implies, false_implies, implies_true, true_and, and_true, forall_eq, eq_self, ra_i, ra_c, ra_m3, ra_m4, ra_m16, ra_4m, ra_14m, ra_16m, nI_add, nI_1, lN_1, ra_p2, ra_2p, ra_n0, ra_p0, ra_q0, ra_q1, ra_q2, ra_q3, ra_n3, ra_n4, ra_n10, ra_n14, ra_n16, ra_n30, ra_n140, ra_y3, ra_y4, ra_y10, ra_y14, ra_y16, ra_y30, ra_y140]
          exact hp
        · simp only [wpY_revoke]
          refine rY _ (br_f (nI_pos (by omega)) (yl_within (fun y => absurd y (fun z => z.elim a1 b1)) (fun _ _ => br_f (by decide) ?_)))
          have e : upd gr (4 * r + i) 0 = gr := ra_us z'
          simp (disch := omega) only [z', e, not_true, not_false_iff, true_implies, false_implies, implies_true, true_and, and_true, forall_eq, eq_self, ra_i, ra_c, ra_m3, ra_m4, ra_m16, ra_4m, ra_14m, ra_16m, nI_add, nI_1, lN_1, ra_p2, ra_2p, ra_n0, ra_p0, ra_q0, ra_q1, ra_q2, ra_q3, ra_n3, ra_n4, ra_n10, ra_n14, ra_n16, ra_n30, ra_n140, ra_y3, ra_y4, ra_y10, ra_y14, ra_y16, ra_y30, ra_y140]
          exact hp
      · have z' : ¬ gr (4 * r + i) = 0 := by
          rcases hK with ⟨y, -⟩ | ⟨y, -⟩ | ⟨y, -⟩
          · exact absurd y z
          · rw [y]; decide
          · rw [y]; decide
        refine ⟨0, _, _, ra_RR_mono (ra_in (mk := mk) (vl := vl) (cl := cl) (wt := wt) (wd := wd) (du := du) (oft := oft) (bg := bg) (av := av) (cp := cp) (ra_R_G h (ra_G_rev h.2.2.2.2.2.2.1 hr hi))) (by omega), fun post hp => ?_, fun post hp => ?_⟩
        · simp only [wpX_revoke]
          refine rX _ (br_f (nI_pos (by omega)) (xl_isG (fun y => absurd y (fun z => z.elim a1 a2)) (fun _ _ => br_f (by decide) ?_)))
          simp (disch := omega) only [z, not_true, not_false_iff, true_implies, false_implies, implies_true, true_and, and_true, forall_eq, eq_self, ra_i, ra_c, ra_m3, ra_m4, ra_m16, ra_4m, ra_14m, ra_16m, nI_add, nI_1, lN_1, ra_p2, ra_2p, ra_n0, ra_p0, ra_q0, ra_q1, ra_q2, ra_q3, ra_n3, ra_n4, ra_n10, ra_n14, ra_n16, ra_n30, ra_n140, ra_y3, ra_y4, ra_y10, ra_y14, ra_y16, ra_y30, ra_y140]
          exact hp
        · simp only [wpY_revoke]
          refine rY _ (br_f (nI_pos (by omega)) (yl_within (fun y => absurd y (fun z => z.elim a1 b1)) (fun _ _ => br_f (by decide) ?_)))
          simp (disch := omega) only [z', not_true, not_false_iff, true_implies, false_implies, implies_true, true_and, and_true, forall_eq, eq_self, ra_i, ra_c, ra_m3, ra_m4, ra_m16, ra_4m, ra_14m, ra_16m, nI_add, nI_1, lN_1, ra_p2, ra_2p, ra_n0, ra_p0, ra_q0, ra_q1, ra_q2, ra_q3, ra_n3, ra_n4, ra_n10, ra_n14, ra_n16, ra_n30, ra_n140, ra_y3, ra_y4, ra_y10, ra_y14, ra_y16, ra_y30, ra_y140]
          exact hp
    · refine ⟨-1, _, _, ra_RR_mono (ra_in (mk := mk) (vl := vl) (cl := cl) (wt := wt) (wd := wd) (du := du) (oft := oft) (bg := bg) (av := av) (cp := cp) h) (by omega), fun post hp => ?_, fun post hp => ?_⟩
      · simp only [wpX_revoke]
        exact rX _ (br_f (nI_pos (by omega)) (xl_isG (fun _ => br_t rfl hp) (fun a1 a2 => absurd ⟨a1, a2⟩ good)))
      · simp only [wpY_revoke]
        refine rY _ (br_f (nI_pos (by omega)) (yl_within (fun _ => br_t rfl hp) (fun a1 a2 => absurd ⟨a1, ?_⟩ good)))
        rw [← ra_ll _ (by decide : (4 : Int32).toInt = (3 : Int32).toInt + 1)]; exact a2
end
end
section
/-! copy -/
section
variable {B c m n : Nat} {st pr bs tk mk vl cl rs al wt wd tt sb pa du oft bg av ep pt nb lg lt lv gk gt gf gl gs gn sl ss bo ot so sq go mo nt fr tw tx gr ge g1 g2 g3 sv lf se cp : Nat → Int32} {sn lo : Nat → Int64}
theorem xl_moveWords {a b N : Nat} {post : SX → Prop} (ha : a + N ≤ 160) (hb : b + N ≤ 160) (hN : 1 ≤ N) (h : post (lN c, ep, st, pt, bs, pr, tk, mk, rs, vl, cl, nb, al, wt, lg, ra_mv wd a b N, sn, lo, lt, lv, gk, gt, gf, gl, gs, gn, sl, ss, sb, pa, du, oft, bg, av, tt)) : wpX_moveWords post (lN c, ep, st, pt, bs, pr, tk, mk, rs, vl, cl, nb, al, wt, lg, wd, sn, lo, lt, lv, gk, gt, gf, gl, gs, gn, sl, ss, sb, pa, du, oft, bg, av, tt) (nI a) (nI b) (nI N) := by
  simp only [wpX_moveWords]
  by_cases ab : a ≤ b
  · refine br_t (nI_le ab (by omega)) ?_
    have key : ∀ i, i ≤ N → wX_moveWords_46 post (nI a) (nI b) (lN c) (i + 1) (nI i - 1) ep st pt bs pr tk mk rs vl cl nb al wt lg (ra_md wd a b i N) sn lo lt lv gk gt gf gl gs gn sl ss sb pa du oft bg av tt := by
      intro i
      induction i with
      | zero =>
        intro _
        rw [wX_moveWords_46]
        refine br_t (by decide) ?_
        rw [ra_md_e]
        exact h
      | succ i ih =>
        intro hi
        have w := ih (by omega)
        rw [wX_moveWords_46, nI_pred]
        simp (disch := omega) only [ra_m1', ra_md_s, not_true, not_false_iff, true_implies, false_implies, implies_true, true_and, and_true, forall_eq, eq_self, ra_i, ra_c, ra_m3, ra_m4, ra_m16, ra_4m, ra_14m, ra_16m, nI_add, nI_1, lN_1, ra_p2, ra_2p, ra_n0, ra_p0, ra_q0, ra_q1, ra_q2, ra_q3, ra_n3, ra_n4, ra_n10, ra_n14, ra_n16, ra_n30, ra_n140, ra_y3, ra_y4, ra_y10, ra_y14, ra_y16, ra_y30, ra_y140]
        exact w
    have w := key N (Nat.le_refl _)
    rw [ra_md_0] at w
    exact nm_e ⟨_, w⟩
  · refine br_f (nI_ge (by omega) (by omega)) ?_
    obtain ⟨k, hk⟩ := ra_run (fun n i => wX_moveWords_8 post (nI a) (nI b) (nI N) (lN c) n (nI i) ep st pt bs pr tk mk rs vl cl nb al wt lg (ra_mv wd a b i) sn lo lt lv gk gt gf gl gs gn sl ss sb pa du oft bg av tt) N (fun n => by
      have le : nI N ≤ nI N := Int32.le_refl _
      simp (disch := omega) only [wX_moveWords_8, le, not_true, not_false_iff, true_implies, false_implies, implies_true, true_and, and_true, forall_eq, eq_self, ra_i, ra_c, ra_m3, ra_m4, ra_m16, ra_4m, ra_14m, ra_16m, nI_add, nI_1, lN_1, ra_p2, ra_2p, ra_n0, ra_p0, ra_q0, ra_q1, ra_q2, ra_q3, ra_n3, ra_n4, ra_n10, ra_n14, ra_n16, ra_n30, ra_n140, ra_y3, ra_y4, ra_y10, ra_y14, ra_y16, ra_y30, ra_y140]
      exact h) (fun n i hi ih => by
      have le : ¬ nI N ≤ nI i := nI_ge (by omega) (by omega)
      simp (disch := omega) only [wX_moveWords_8, le, ra_mv_s, not_true, not_false_iff, true_implies, false_implies, implies_true, true_and, and_true, forall_eq, eq_self, ra_i, ra_c, ra_m3, ra_m4, ra_m16, ra_4m, ra_14m, ra_16m, nI_add, nI_1, lN_1, ra_p2, ra_2p, ra_n0, ra_p0, ra_q0, ra_q1, ra_q2, ra_q3, ra_n3, ra_n4, ra_n10, ra_n14, ra_n16, ra_n30, ra_n140, ra_y3, ra_y4, ra_y10, ra_y14, ra_y16, ra_y30, ra_y140]
      exact ih)
    try dsimp only at hk
    rw [ra_mv_0] at hk
    exact ⟨k, hk⟩
theorem yl_copy278 {a b N : Nat} {x6 x13 x14 : Int32} {post : Int32 → SY → Prop} (ha : a + N ≤ 160) (hb : b + N ≤ 160) (hN : N ≤ 16) (h6 : (x6 = 0 ∧ x14 = nI a ∧ x13 = nI b) ∨ (¬ x6 = 0 ∧ x13 = nI a ∧ x14 = nI b)) (h : post 0 (nI n, nI m, st, bo, bs, pr, tk, mk, ot, vl, rs, al, wt, so, sq, go, mo, cl, ra_mv wd a b N, nt, fr, tw, tx, gr, ge, g1, g2, g3, sv, sb, lf, pa, du, av, bg, oft, se, upd tt 6 (tt 6 + nI N), ra_cp cp wd a N)) : ∃ q, wY_copy_278 post (nI N) x6 x13 x14 (nI n) (nI m) q 0 st bo bs pr tk mk ot vl rs al wt so sq go mo cl wd nt fr tw tx gr ge g1 g2 g3 sv sb lf pa du av bg oft se tt cp := by
  have s2 : ∃ q, wY_copy_321 post (nI N) x6 x13 x14 (nI n) (nI m) q 0 st bo bs pr tk mk ot vl rs al wt so sq go mo cl wd nt fr tw tx gr ge g1 g2 g3 sv sb lf pa du av bg oft se tt (ra_cp cp wd a N) := by
    obtain ⟨k, hk⟩ := ra_run (fun q i => wY_copy_321 post (nI N) x6 x13 x14 (nI n) (nI m) q (nI i) st bo bs pr tk mk ot vl rs al wt so sq go mo cl (ra_mv wd a b i) nt fr tw tx gr ge g1 g2 g3 sv sb lf pa du av bg oft se tt (ra_cp cp wd a N)) N (fun q => by
      have le : nI N ≤ nI N := Int32.le_refl _
      simp (disch := omega) only [wY_copy_321, le, not_true, not_false_iff, true_implies, false_implies, implies_true, true_and, and_true, forall_eq, eq_self, ra_i, ra_c, ra_m3, ra_m4, ra_m16, ra_4m, ra_14m, ra_16m, nI_add, nI_1, lN_1, ra_p2, ra_2p, ra_n0, ra_p0, ra_q0, ra_q1, ra_q2, ra_q3, ra_n3, ra_n4, ra_n10, ra_n14, ra_n16, ra_n30, ra_n140, ra_y3, ra_y4, ra_y10, ra_y14, ra_y16, ra_y30, ra_y140]
      exact h) (fun q i hi ih => by
      have le : ¬ nI N ≤ nI i := nI_ge (by omega) (by omega)
      rcases h6 with ⟨z, e1, e2⟩ | ⟨z, e1, e2⟩
      · subst e1 e2
        simp (disch := omega) only [wY_copy_321, wY_copy_344, le, z, ra_mv_y wd cp hi, not_true, not_false_iff, true_implies, false_implies, implies_true, true_and, and_true, forall_eq, eq_self, ra_i, ra_c, ra_m3, ra_m4, ra_m16, ra_4m, ra_14m, ra_16m, nI_add, nI_1, lN_1, ra_p2, ra_2p, ra_n0, ra_p0, ra_q0, ra_q1, ra_q2, ra_q3, ra_n3, ra_n4, ra_n10, ra_n14, ra_n16, ra_n30, ra_n140, ra_y3, ra_y4, ra_y10, ra_y14, ra_y16, ra_y30, ra_y140]
        subst z
        exact ih
      · subst e1 e2
        simp (disch := omega) only [wY_copy_321, wY_copy_344, le, z, ra_mv_y wd cp hi, not_true, not_false_iff, true_implies, false_implies, implies_true, true_and, and_true, forall_eq, eq_self, ra_i, ra_c, ra_m3, ra_m4, ra_m16, ra_4m, ra_14m, ra_16m, nI_add, nI_1, lN_1, ra_p2, ra_2p, ra_n0, ra_p0, ra_q0, ra_q1, ra_q2, ra_q3, ra_n3, ra_n4, ra_n10, ra_n14, ra_n16, ra_n30, ra_n140, ra_y3, ra_y4, ra_y10, ra_y14, ra_y16, ra_y30, ra_y140]
        exact ih)
    try dsimp only at hk
    rw [ra_mv_0] at hk
    exact ⟨k, hk⟩
  obtain ⟨k, hk⟩ := ra_run (fun q i => wY_copy_278 post (nI N) x6 x13 x14 (nI n) (nI m) q (nI i) st bo bs pr tk mk ot vl rs al wt so sq go mo cl wd nt fr tw tx gr ge g1 g2 g3 sv sb lf pa du av bg oft se tt (ra_cp cp wd a i)) N (fun q => by
    have le : nI N ≤ nI N := Int32.le_refl _
    simp (disch := omega) only [wY_copy_278, le, not_true, not_false_iff, true_implies, false_implies, implies_true, true_and, and_true, forall_eq, eq_self, ra_i, ra_c, ra_m3, ra_m4, ra_m16, ra_4m, ra_14m, ra_16m, nI_add, nI_1, lN_1, ra_p2, ra_2p, ra_n0, ra_p0, ra_q0, ra_q1, ra_q2, ra_q3, ra_n3, ra_n4, ra_n10, ra_n14, ra_n16, ra_n30, ra_n140, ra_y3, ra_y4, ra_y10, ra_y14, ra_y16, ra_y30, ra_y140]
    exact s2) (fun q i hi ih => by
    have le : ¬ nI N ≤ nI i := nI_ge (by omega) (by omega)
    rcases h6 with ⟨z, e1, e2⟩ | ⟨z, e1, e2⟩
    · subst e1 e2
      simp (disch := omega) only [wY_copy_278, le, z, ra_cp_s, not_true, not_false_iff, true_implies, false_implies, implies_true, true_and, and_true, forall_eq, eq_self, ra_i, ra_c, ra_m3, ra_m4, ra_m16, ra_4m, ra_14m, ra_16m, nI_add, nI_1, lN_1, ra_p2, ra_2p, ra_n0, ra_p0, ra_q0, ra_q1, ra_q2, ra_q3, ra_n3, ra_n4, ra_n10, ra_n14, ra_n16, ra_n30, ra_n140, ra_y3, ra_y4, ra_y10, ra_y14, ra_y16, ra_y30, ra_y140]
      subst z
      exact ih
    · subst e1 e2
      simp (disch := omega) only [wY_copy_278, le, z, ra_cp_s, not_true, not_false_iff, true_implies, false_implies, implies_true, true_and, and_true, forall_eq, eq_self, ra_i, ra_c, ra_m3, ra_m4, ra_m16, ra_4m, ra_14m, ra_16m, nI_add, nI_1, lN_1, ra_p2, ra_2p, ra_n0, ra_p0, ra_q0, ra_q1, ra_q2, ra_q3, ra_n3, ra_n4, ra_n10, ra_n14, ra_n16, ra_n30, ra_n140, ra_y3, ra_y4, ra_y10, ra_y14, ra_y16, ra_y30, ra_y140]
      exact ih)
  try dsimp only at hk
  rw [ra_cp_0] at hk
  exact ⟨k, hk⟩
/-- the chain of grants -/
theorem ra_chain (hB : B ≤ 2 ^ 26) (h : ra_R B c m n st pr tk rs al tt pa bs sb ep pt nb lg sn lo lt lv gk gt gf gl gs gn sl ss bo ot so sq go mo nt fr tw tx gr ge g1 g2 g3 sv lf se) : ∀ (d i id : Nat) (taker giver : Int32), i + d = 4 → id < 4 →
    (∃ w : Int32, (w = -3 ∨ w = -4) ∧ (∀ post : Int32 → Prop, post w → wX_followGrants_12 post (lN c) ep st pt bs pr tk mk rs vl cl nb al wt lg wd sn lo lt lv gk gt gf gl gs gn sl ss sb pa du oft bg av tt (d + 1) taker giver (nI id) (nI i)) ∧ (∀ (post : Int32 → SY → Prop) (x3 x4 x5 x6 x7 k : Int32), post w (nI n, nI m, st, bo, bs, pr, tk, mk, ot, vl, rs, al, wt, so, sq, go, mo, cl, wd, nt, fr, tw, tx, gr, ge, g1, g2, g3, sv, sb, lf, pa, du, av, bg, oft, se, tt, cp) → wY_copy_85 post x3 x4 x5 x6 x7 (nI n) (nI m) st bo bs pr tk mk ot vl rs al wt so sq go mo cl wd nt fr tw tx gr ge g1 g2 g3 sv sb lf pa du av bg oft se tt cp (d + 1) taker giver (nI id) k (nI (i + 1)))) ∨
    ∃ s j, s < 10 ∧ j < 4 ∧ gr (4 * s + j) = 1 ∧ ra_K gk gt gf gl gs gn gr ge g1 g2 g3 (4 * s + j) ∧ (∀ post : Int32 → Prop, post (nI (4 * s + j)) → wX_followGrants_12 post (lN c) ep st pt bs pr tk mk rs vl cl nb al wt lg wd sn lo lt lv gk gt gf gl gs gn sl ss sb pa du oft bg av tt (d + 1) taker giver (nI id) (nI i)) ∧ (∀ (post : Int32 → SY → Prop) (x3 x4 x5 x6 x7 k : Int32), wY_copy_204 post x3 x4 x5 x6 x7 (nI (4 * s + j)) (nI n) (nI m) st bo bs pr tk mk ot vl rs al wt so sq go mo cl wd nt fr tw tx gr ge g1 g2 g3 sv sb lf pa du av bg oft se tt cp → wY_copy_85 post x3 x4 x5 x6 x7 (nI n) (nI m) st bo bs pr tk mk ot vl rs al wt so sq go mo cl wd nt fr tw tx gr ge g1 g2 g3 sv sb lf pa du av bg oft se tt cp (d + 1) taker giver (nI id) k (nI (i + 1))) := by
  intro d
  induction d with
  | zero =>
    intro i id taker giver hi hid
    have : i = 4 := by omega
    subst this
    refine Or.inl ⟨-4, Or.inr rfl, fun post hp => ?_, fun post x3 x4 x5 x6 x7 k hp => ?_⟩
    · simp (disch := omega) only [wX_followGrants_12, not_true, not_false_iff, true_implies, false_implies, implies_true, true_and, and_true, forall_eq, eq_self, ra_i, ra_c, ra_m3, ra_m4, ra_m16, ra_4m, ra_14m, ra_16m, nI_add, nI_1, lN_1, ra_p2, ra_2p, ra_n0, ra_p0, ra_q0, ra_q1, ra_q2, ra_q3, ra_n3, ra_n4, ra_n10, ra_n14, ra_n16, ra_n30, ra_n140, ra_y3, ra_y4, ra_y10, ra_y14, ra_y16, ra_y30, ra_y140]
      exact hp
    · rw [wY_copy_85]
      exact br_f (by decide) (br_t rfl hp)
  | succ d ih =>
    intro i id taker giver hi hid
    have n6 : ¬ (6 : Int32) ≤ nI (i + 1) := nI_ge (b := 6) (by omega) (by decide)
    have n5 : ¬ nI (i + 1) = 5 := by
      intro z
      have : nI (i + 1) = nI 5 := z
      rw [nI_eq (by omega) (by omega)] at this
      omega
    rcases ra_slot_both (mk := mk) (vl := vl) (cl := cl) (wt := wt) (wd := wd) (du := du) (oft := oft) (bg := bg) (av := av) (cp := cp) hB h giver with ⟨-, sX, sY⟩ | ⟨s, hs, hl, he, ha, hp0, sX, sY⟩
    · refine Or.inl ⟨-3, Or.inl rfl, fun post hp => ?_, fun post x3 x4 x5 x6 x7 k hp => ?_⟩
      · rw [wX_followGrants_12]
        exact br_f (nI_ge (b := 4) (by omega) (by decide)) (sX _ (br_f (by decide) hp))
      · rw [wY_copy_85]
        exact br_f n6 (br_f n5 (sY _ (br_f (by decide) hp)))
    · have hK := (h.2.2.2.2.2.2.1 s hs id hid).2 hl
      have lt4 : ¬ (4 : Int32) ≤ nI i := nI_ge (b := 4) (by omega) (by decide)
      -- the walks up to the grant
      have X0 : ∀ post : Int32 → Prop, ((gk (4 * s + id) = 0 → post (-4)) ∧ (¬ gk (4 * s + id) = 0 → (gt (4 * s + id) = -1 → wX_followGrants_79 post (wX_followGrants_12 post (lN c) ep st pt bs pr tk mk rs vl cl nb al wt lg wd sn lo lt lv gk gt gf gl gs gn sl ss sb pa du oft bg av tt (d + 1)) giver (nI i) (nI (4 * s + id)) (lN c) ep st pt bs pr tk mk rs vl cl nb al wt lg wd sn lo lt lv gk gt gf gl gs gn sl ss sb pa du oft bg av tt) ∧ (¬ gt (4 * s + id) = -1 → (gt (4 * s + id) = taker → wX_followGrants_79 post (wX_followGrants_12 post (lN c) ep st pt bs pr tk mk rs vl cl nb al wt lg wd sn lo lt lv gk gt gf gl gs gn sl ss sb pa du oft bg av tt (d + 1)) giver (nI i) (nI (4 * s + id)) (lN c) ep st pt bs pr tk mk rs vl cl nb al wt lg wd sn lo lt lv gk gt gf gl gs gn sl ss sb pa du oft bg av tt) ∧ (¬ gt (4 * s + id) = taker → post (-4))))) → wX_followGrants_12 post (lN c) ep st pt bs pr tk mk rs vl cl nb al wt lg wd sn lo lt lv gk gt gf gl gs gn sl ss sb pa du oft bg av tt (d + 1 + 1) taker giver (nI id) (nI i) := by
        intro post hp
        rw [wX_followGrants_12]
        refine br_f lt4 (sX _ (br_t (nI_pos' (by omega)) ?_))
        simp (disch := omega) only [not_true, not_false_iff, true_implies, false_implies, implies_true, true_and, and_true, forall_eq, eq_self, ra_i, ra_c, ra_m3, ra_m4, ra_m16, ra_4m, ra_14m, ra_16m, nI_add, nI_1, lN_1, ra_p2, ra_2p, ra_n0, ra_p0, ra_q0, ra_q1, ra_q2, ra_q3, ra_n3, ra_n4, ra_n10, ra_n14, ra_n16, ra_n30, ra_n140, ra_y3, ra_y4, ra_y10, ra_y14, ra_y16, ra_y30, ra_y140]
        exact hp
      have Y0 : ∀ (post : Int32 → SY → Prop) (x3 x4 x5 x6 x7 k : Int32), ((gr (4 * s + id) = 0 → post (-4) (nI n, nI m, st, bo, bs, pr, tk, mk, ot, vl, rs, al, wt, so, sq, go, mo, cl, wd, nt, fr, tw, tx, gr, ge, g1, g2, g3, sv, sb, lf, pa, du, av, bg, oft, se, tt, cp)) ∧ (¬ gr (4 * s + id) = 0 → (ge (4 * s + id) = -1 → wY_copy_162 post (wY_copy_85 post x3 x4 x5 x6 x7 (nI n) (nI m) st bo bs pr tk mk ot vl rs al wt so sq go mo cl wd nt fr tw tx gr ge g1 g2 g3 sv sb lf pa du av bg oft se tt cp (d + 1)) x3 x4 x5 x6 x7 giver (nI (4 * s + id)) (nI (i + 1)) (nI n) (nI m) st bo bs pr tk mk ot vl rs al wt so sq go mo cl wd nt fr tw tx gr ge g1 g2 g3 sv sb lf pa du av bg oft se tt cp) ∧ (¬ ge (4 * s + id) = -1 → (ge (4 * s + id) = taker → wY_copy_162 post (wY_copy_85 post x3 x4 x5 x6 x7 (nI n) (nI m) st bo bs pr tk mk ot vl rs al wt so sq go mo cl wd nt fr tw tx gr ge g1 g2 g3 sv sb lf pa du av bg oft se tt cp (d + 1)) x3 x4 x5 x6 x7 giver (nI (4 * s + id)) (nI (i + 1)) (nI n) (nI m) st bo bs pr tk mk ot vl rs al wt so sq go mo cl wd nt fr tw tx gr ge g1 g2 g3 sv sb lf pa du av bg oft se tt cp) ∧ (¬ ge (4 * s + id) = taker → post (-4) (nI n, nI m, st, bo, bs, pr, tk, mk, ot, vl, rs, al, wt, so, sq, go, mo, cl, wd, nt, fr, tw, tx, gr, ge, g1, g2, g3, sv, sb, lf, pa, du, av, bg, oft, se, tt, cp))))) → wY_copy_85 post x3 x4 x5 x6 x7 (nI n) (nI m) st bo bs pr tk mk ot vl rs al wt so sq go mo cl wd nt fr tw tx gr ge g1 g2 g3 sv sb lf pa du av bg oft se tt cp (d + 1 + 1) taker giver (nI id) k (nI (i + 1)) := by
        intro post x3 x4 x5 x6 x7 k hp
        rw [wY_copy_85]
        refine br_f n6 (br_f n5 (sY _ (br_t (nI_pos' (by omega)) ?_)))
        simp (disch := omega) only [not_true, not_false_iff, true_implies, false_implies, implies_true, true_and, and_true, forall_eq, eq_self, ra_i, ra_c, ra_m3, ra_m4, ra_m16, ra_4m, ra_14m, ra_16m, nI_add, nI_1, lN_1, ra_p2, ra_2p, ra_n0, ra_p0, ra_q0, ra_q1, ra_q2, ra_q3, ra_n3, ra_n4, ra_n10, ra_n14, ra_n16, ra_n30, ra_n140, ra_y3, ra_y4, ra_y10, ra_y14, ra_y16, ra_y30, ra_y140]
        exact hp
      have hK' := hK
      rcases hK with ⟨k0, r0⟩ | ⟨r1, k1, k2, k3, k4, k5, f, l, k6, k7, k8⟩ | ⟨r1, k1, k2, k3, k4, j, hj, k5⟩
      · exact Or.inl ⟨-4, Or.inr rfl, fun post hp => X0 post (br_t k0 hp), fun post x3 x4 x5 x6 x7 k hp => Y0 post x3 x4 x5 x6 x7 k (br_t r0 hp)⟩
      · have kn : ¬ gk (4 * s + id) = 0 := by rcases k2 with y | y | y <;> rw [y] <;> decide
        have k4' : ¬ gk (4 * s + id) = 4 := by rcases k2 with y | y | y <;> rw [y] <;> decide
        have rn : ¬ gr (4 * s + id) = 0 := by rw [r1]; decide
        by_cases g : gt (4 * s + id) = -1 ∨ gt (4 * s + id) = taker
        · refine Or.inr ⟨s, id, hs, hid, r1, hK', fun post hp => ?_, fun post x3 x4 x5 x6 x7 k hp => ?_⟩
          · have w : wX_followGrants_79 post (wX_followGrants_12 post (lN c) ep st pt bs pr tk mk rs vl cl nb al wt lg wd sn lo lt lv gk gt gf gl gs gn sl ss sb pa du oft bg av tt (d + 1)) giver (nI i) (nI (4 * s + id)) (lN c) ep st pt bs pr tk mk rs vl cl nb al wt lg wd sn lo lt lv gk gt gf gl gs gn sl ss sb pa du oft bg av tt := by
              simp (disch := omega) only [wX_followGrants_79, k4', not_true, not_false_iff, true_implies, false_implies, implies_true, true_and, and_true, forall_eq, eq_self, ra_i, ra_c, ra_m3, ra_m4, ra_m16, ra_4m, ra_14m, ra_16m, nI_add, nI_1, lN_1, ra_p2, ra_2p, ra_n0, ra_p0, ra_q0, ra_q1, ra_q2, ra_q3, ra_n3, ra_n4, ra_n10, ra_n14, ra_n16, ra_n30, ra_n140, ra_y3, ra_y4, ra_y10, ra_y14, ra_y16, ra_y30, ra_y140]
              exact hp
            exact X0 post (br_f kn (br_c (fun _ => w) (fun y => br_t (g.resolve_left y) w)))
          · have w : wY_copy_162 post (wY_copy_85 post x3 x4 x5 x6 x7 (nI n) (nI m) st bo bs pr tk mk ot vl rs al wt so sq go mo cl wd nt fr tw tx gr ge g1 g2 g3 sv sb lf pa du av bg oft se tt cp (d + 1)) x3 x4 x5 x6 x7 giver (nI (4 * s + id)) (nI (i + 1)) (nI n) (nI m) st bo bs pr tk mk ot vl rs al wt so sq go mo cl wd nt fr tw tx gr ge g1 g2 g3 sv sb lf pa du av bg oft se tt cp := by
              simp (disch := omega) only [wY_copy_162, r1, not_true, not_false_iff, true_implies, false_implies, implies_true, true_and, and_true, forall_eq, eq_self, ra_i, ra_c, ra_m3, ra_m4, ra_m16, ra_4m, ra_14m, ra_16m, nI_add, nI_1, lN_1, ra_p2, ra_2p, ra_n0, ra_p0, ra_q0, ra_q1, ra_q2, ra_q3, ra_n3, ra_n4, ra_n10, ra_n14, ra_n16, ra_n30, ra_n140, ra_y3, ra_y4, ra_y10, ra_y14, ra_y16, ra_y30, ra_y140]
              exact hp
            rw [k3] at g
            exact Y0 post x3 x4 x5 x6 x7 k (br_f rn (br_c (fun _ => w) (fun y => br_t (g.resolve_left y) w)))
        · have g1' : ¬ gt (4 * s + id) = -1 := fun y => g (Or.inl y)
          have g2' : ¬ gt (4 * s + id) = taker := fun y => g (Or.inr y)
          refine Or.inl ⟨-4, Or.inr rfl, fun post hp => X0 post (br_f kn (br_f g1' (br_f g2' hp))), fun post x3 x4 x5 x6 x7 k hp => ?_⟩
          rw [k3] at g1' g2'
          exact Y0 post x3 x4 x5 x6 x7 k (br_f rn (br_f g1' (br_f g2' hp)))
      · have kn : ¬ gk (4 * s + id) = 0 := by rw [k1]; decide
        have rn : ¬ gr (4 * s + id) = 0 := by rw [r1]; decide
        have rn1 : ¬ gr (4 * s + id) = 1 := by rw [r1]; decide
        by_cases g : gt (4 * s + id) = -1 ∨ gt (4 * s + id) = taker
        · have X1 : ∀ post : Int32 → Prop, wX_followGrants_12 post (lN c) ep st pt bs pr tk mk rs vl cl nb al wt lg wd sn lo lt lv gk gt gf gl gs gn sl ss sb pa du oft bg av tt (d + 1) giver (gs (4 * s + id)) (nI j) (nI (i + 1)) → wX_followGrants_12 post (lN c) ep st pt bs pr tk mk rs vl cl nb al wt lg wd sn lo lt lv gk gt gf gl gs gn sl ss sb pa du oft bg av tt (d + 1 + 1) taker giver (nI id) (nI i) := by
            intro post hp
            have w : wX_followGrants_79 post (wX_followGrants_12 post (lN c) ep st pt bs pr tk mk rs vl cl nb al wt lg wd sn lo lt lv gk gt gf gl gs gn sl ss sb pa du oft bg av tt (d + 1)) giver (nI i) (nI (4 * s + id)) (lN c) ep st pt bs pr tk mk rs vl cl nb al wt lg wd sn lo lt lv gk gt gf gl gs gn sl ss sb pa du oft bg av tt := by
              simp (disch := omega) only [wX_followGrants_79, k1, k5, not_true, not_false_iff, true_implies, false_implies, implies_true, true_and, and_true, forall_eq, eq_self, ra_i, ra_c, ra_m3, ra_m4, ra_m16, ra_4m, ra_14m, ra_16m, nI_add, nI_1, lN_1, ra_p2, ra_2p, ra_n0, ra_p0, ra_q0, ra_q1, ra_q2, ra_q3, ra_n3, ra_n4, ra_n10, ra_n14, ra_n16, ra_n30, ra_n140, ra_y3, ra_y4, ra_y10, ra_y14, ra_y16, ra_y30, ra_y140]
              exact hp
            exact X0 post (br_f kn (br_c (fun _ => w) (fun y => br_t (g.resolve_left y) w)))
          have Y1 : ∀ (post : Int32 → SY → Prop) (x3 x4 x5 x6 x7 k : Int32), wY_copy_85 post x3 x4 x5 x6 x7 (nI n) (nI m) st bo bs pr tk mk ot vl rs al wt so sq go mo cl wd nt fr tw tx gr ge g1 g2 g3 sv sb lf pa du av bg oft se tt cp (d + 1) giver (gs (4 * s + id)) (nI j) (nI (4 * s + id)) (nI (i + 1 + 1)) → wY_copy_85 post x3 x4 x5 x6 x7 (nI n) (nI m) st bo bs pr tk mk ot vl rs al wt so sq go mo cl wd nt fr tw tx gr ge g1 g2 g3 sv sb lf pa du av bg oft se tt cp (d + 1 + 1) taker giver (nI id) k (nI (i + 1)) := by
            intro post x3 x4 x5 x6 x7 k hp
            have w : wY_copy_162 post (wY_copy_85 post x3 x4 x5 x6 x7 (nI n) (nI m) st bo bs pr tk mk ot vl rs al wt so sq go mo cl wd nt fr tw tx gr ge g1 g2 g3 sv sb lf pa du av bg oft se tt cp (d + 1)) x3 x4 x5 x6 x7 giver (nI (4 * s + id)) (nI (i + 1)) (nI n) (nI m) st bo bs pr tk mk ot vl rs al wt so sq go mo cl wd nt fr tw tx gr ge g1 g2 g3 sv sb lf pa du av bg oft se tt cp := by
              simp (disch := omega) only [wY_copy_162, rn1, ← k3, ← k4, k5, not_true, not_false_iff, true_implies, false_implies, implies_true, true_and, and_true, forall_eq, eq_self, ra_i, ra_c, ra_m3, ra_m4, ra_m16, ra_4m, ra_14m, ra_16m, nI_add, nI_1, lN_1, ra_p2, ra_2p, ra_n0, ra_p0, ra_q0, ra_q1, ra_q2, ra_q3, ra_n3, ra_n4, ra_n10, ra_n14, ra_n16, ra_n30, ra_n140, ra_y3, ra_y4, ra_y10, ra_y14, ra_y16, ra_y30, ra_y140]
              exact hp
            rw [k2] at g
            exact Y0 post x3 x4 x5 x6 x7 k (br_f rn (br_c (fun _ => w) (fun y => br_t (g.resolve_left y) w)))
          rcases ih (i + 1) j giver (gs (4 * s + id)) (by omega) hj with ⟨w, hw, hX, hY⟩ | ⟨s', j', hs', hj', q1, q2, hX, hY⟩
          · exact Or.inl ⟨w, hw, fun post hp => X1 post (hX post hp), fun post x3 x4 x5 x6 x7 k hp => Y1 post x3 x4 x5 x6 x7 k (hY post x3 x4 x5 x6 x7 _ hp)⟩
          · exact Or.inr ⟨s', j', hs', hj', q1, q2, fun post hp => X1 post (hX post hp), fun post x3 x4 x5 x6 x7 k hp => Y1 post x3 x4 x5 x6 x7 k (hY post x3 x4 x5 x6 x7 _ hp)⟩
        · have g1' : ¬ gt (4 * s + id) = -1 := fun y => g (Or.inl y)
          have g2' : ¬ gt (4 * s + id) = taker := fun y => g (Or.inr y)
          refine Or.inl ⟨-4, Or.inr rfl, fun post hp => X0 post (br_f kn (br_f g1' (br_f g2' hp))), fun post x3 x4 x5 x6 x7 k hp => ?_⟩
          rw [k2] at g1' g2'
          exact Y0 post x3 x4 x5 x6 x7 k (br_f rn (br_f g1' (br_f g2' hp)))
end
end
section
/-! copy, all together -/
theorem ra_d4 {i : Nat} (h : i < 1000) : nI i / 4 = nI (i / 4) := pk_div (a := i) (d := 4) (by omega) (by omega) (by omega)
section
variable {B c m n : Nat} {st pr bs tk mk vl cl rs al wt wd tt sb pa du oft bg av ep pt nb lg lt lv gk gt gf gl gs gn sl ss bo ot so sq go mo nt fr tw tx gr ge g1 g2 g3 sv lf se cp : Nat → Int32} {sn lo : Nat → Int64}
theorem ra_R_tt {k : Nat} {v : Int32} (h : ra_R B c m n st pr tk rs al tt pa bs sb ep pt nb lg sn lo lt lv gk gt gf gl gs gn sl ss bo ot so sq go mo nt fr tw tx gr ge g1 g2 g3 sv lf se) (hk : k ≠ 0) : ra_R B c m n st pr tk rs al (upd tt k v) pa bs sb ep pt nb lg sn lo lt lv gk gt gf gl gs gn sl ss bo ot so sq go mo nt fr tw tx gr ge g1 g2 g3 sv lf se := by
  obtain ⟨h1, h2, h3, h4, h5, h6, h7, h8, h9, h10, h11⟩ := h
  exact ⟨h1, h2, h3, h4, h5, h6, h7, h8, h9, ra_I_u h10 hk, h11⟩
theorem ra_copy9 {r s j A N : Nat} {off b z : Int32} (h : ra_R B c m n st pr tk rs al tt pa bs sb ep pt nb lg sn lo lt lv gk gt gf gl gs gn sl ss bo ot so sq go mo nt fr tw tx gr ge g1 g2 g3 sv lf se) (hr : r < 10) (hs : s < 10) (hj : j < 4) (hN1 : 1 ≤ N) (hA : A + N ≤ 16) (hz : (b = 0 ∧ z = 1) ∨ (¬ b = 0 ∧ z = 2)) (hg : gr (4 * s + j) = 1) (hK : ra_K gk gt gf gl gs gn gr ge g1 g2 g3 (4 * s + j)) :
    ∃ (w : Int32) (u' : SX) (v' : SY), ra_RR (B + 1) u' v' ∧ (∀ post : Int32 → SX → Prop, post w u' → wX_copy_99 post off (nI A) (nI N) b (nI r) (nI (4 * s + j)) z (lN c) ep st pt bs pr tk mk rs vl cl nb al wt lg wd sn lo lt lv gk gt gf gl gs gn sl ss sb pa du oft bg av tt) ∧ (∀ post : Int32 → SY → Prop, post w v' → wY_copy_204 post off (nI A) (nI N) b (nI r) (nI (4 * s + j)) (nI n) (nI m) st bo bs pr tk mk ot vl rs al wt so sq go mo cl wd nt fr tw tx gr ge g1 g2 g3 sv sb lf pa du av bg oft se tt cp) := by
  have q4 : ¬ ((4 : Int32) = 0) := by decide
  have g4 : (4 * s + j) / 4 = s := by omega
  rcases hK with ⟨-, y⟩ | ⟨-, k1, -, -, k4, k5, F, L, hFL, k7, k8⟩ | ⟨y, -⟩
  · rw [hg] at y; exact absurd y (by decide)
  · by_cases ok : ¬ off < 0 ∧ ¬ gl (4 * s + j) - nI N < off ∧ ¬ (gk (4 * s + j) &&& z) = 0
    · obtain ⟨o1, o2, o3⟩ := ok
      obtain ⟨O, hO, rfl⟩ := nI_of o1
      have o2g : ¬ g2 (4 * s + j) - nI N < nI O := by rw [← k5]; exact o2
      have o3g : ¬ (g3 (4 * s + j) &&& z) = 0 := by rw [← k1]; exact o3
      have hLN : O + N ≤ L := by
        have o2' := o2
        rw [k8] at o2'
        by_cases y : N ≤ L
        · rw [pk_sub y] at o2'
          have := Int32.not_lt.mp o2'
          rw [nI_leI (by omega) (by omega)] at this
          omega
        · exfalso
          have a := pk_sneg (a := L) (b := N) (by omega) (by omega)
          have b : (0 : Int32) ≤ nI O := nI_pos' hO
          exact o2' (Int32.lt_of_lt_of_le a b)
      have hR := ra_R_tt (k := 6) (v := tt 6 + nI N) h (by omega)
      rcases hz with ⟨b0, rfl⟩ | ⟨b0, rfl⟩
      · refine ⟨0, _, _, ra_RR_mono (ra_in (mk := mk) (vl := vl) (cl := cl) (wt := wt) (wd := ra_mv wd (16 * s + F + O) (16 * r + A) N) (du := du) (oft := oft) (bg := bg) (av := av) (cp := ra_cp cp wd (16 * s + F + O) N) hR) (by omega), fun post hp => ?_, fun post hp => ?_⟩
        · simp (disch := omega) only [wX_copy_99, o2, o3, q4, b0, k7, ra_d4, g4, not_true, not_false_iff, true_implies, false_implies, implies_true, true_and, and_true, forall_eq, eq_self, ra_i, ra_c, ra_m3, ra_m4, ra_m16, ra_4m, ra_14m, ra_16m, nI_add, nI_1, lN_1, ra_p2, ra_2p, ra_n0, ra_p0, ra_q0, ra_q1, ra_q2, ra_q3, ra_n3, ra_n4, ra_n10, ra_n14, ra_n16, ra_n30, ra_n140, ra_y3, ra_y4, ra_y10, ra_y14, ra_y16, ra_y30, ra_y140]
          refine xl_moveWords (by omega) (by omega) hN1 ?_
          simp only [wX_copy_192, forall_eq]
          exact hp
        · simp (disch := omega) only [wY_copy_204, wY_copy_239, o2g, o3g, q4, b0, ← k4, k7, ra_d4, g4, not_true, not_false_iff, true_implies, false_implies, implies_true, true_and, and_true, forall_eq, eq_self, ra_i, ra_c, ra_m3, ra_m4, ra_m16, ra_4m, ra_14m, ra_16m, nI_add, nI_1, lN_1, ra_p2, ra_2p, ra_n0, ra_p0, ra_q0, ra_q1, ra_q2, ra_q3, ra_n3, ra_n4, ra_n10, ra_n14, ra_n16, ra_n30, ra_n140, ra_y3, ra_y4, ra_y10, ra_y14, ra_y16, ra_y30, ra_y140]
          exact yl_copy278 (a := 16 * s + F + O) (b := 16 * r + A) (by omega) (by omega) (by omega) (Or.inl ⟨rfl, rfl, rfl⟩) hp
      · refine ⟨0, _, _, ra_RR_mono (ra_in (mk := mk) (vl := vl) (cl := cl) (wt := wt) (wd := ra_mv wd (16 * r + A) (16 * s + F + O) N) (du := du) (oft := oft) (bg := bg) (av := av) (cp := ra_cp cp wd (16 * r + A) N) hR) (by omega), fun post hp => ?_, fun post hp => ?_⟩
        · simp (disch := omega) only [wX_copy_99, o2, o3, q4, b0, k7, ra_d4, g4, not_true, not_false_iff, true_implies, false_implies, implies_true, true_and, and_true, forall_eq, eq_self, ra_i, ra_c, ra_m3, ra_m4, ra_m16, ra_4m, ra_14m, ra_16m, nI_add, nI_1, lN_1, ra_p2, ra_2p, ra_n0, ra_p0, ra_q0, ra_q1, ra_q2, ra_q3, ra_n3, ra_n4, ra_n10, ra_n14, ra_n16, ra_n30, ra_n140, ra_y3, ra_y4, ra_y10, ra_y14, ra_y16, ra_y30, ra_y140]
          refine xl_moveWords (by omega) (by omega) hN1 ?_
          simp only [wX_copy_192, forall_eq]
          exact hp
        · simp (disch := omega) only [wY_copy_204, wY_copy_239, o2g, o3g, q4, b0, ← k4, k7, ra_d4, g4, not_true, not_false_iff, true_implies, false_implies, implies_true, true_and, and_true, forall_eq, eq_self, ra_i, ra_c, ra_m3, ra_m4, ra_m16, ra_4m, ra_14m, ra_16m, nI_add, nI_1, lN_1, ra_p2, ra_2p, ra_n0, ra_p0, ra_q0, ra_q1, ra_q2, ra_q3, ra_n3, ra_n4, ra_n10, ra_n14, ra_n16, ra_n30, ra_n140, ra_y3, ra_y4, ra_y10, ra_y14, ra_y16, ra_y30, ra_y140]
          exact yl_copy278 (a := 16 * r + A) (b := 16 * s + F + O) (by omega) (by omega) (by omega) (Or.inr ⟨b0, rfl, rfl⟩) hp
    · have hv : vp_in (nI (4 * s + j)) 40 := vp_in_nI (by omega) (by decide)
      refine ⟨-4, _, _, ra_RR_mono (ra_in (mk := mk) (vl := vl) (cl := cl) (wt := wt) (wd := wd) (du := du) (oft := oft) (bg := bg) (av := av) (cp := cp) h) (by omega), fun post hp => ?_, fun post hp => ?_⟩
      · simp only [wX_copy_99]
        rw [ra_c (show 4 * s + j < 1000 by omega)]
        exact br_c (fun _ => hp) (fun o1 => ⟨hv, br_c (fun _ => hp) (fun o2 => ⟨hv, br_c (fun _ => hp) (fun o3 => absurd ⟨o1, o2, o3⟩ ok)⟩)⟩)
      · simp only [wY_copy_204, wY_copy_239]
        rw [ra_c (show 4 * s + j < 1000 by omega)]
        refine br_c (fun _ => hp) (fun o1 => ⟨hv, br_c (fun _ => hp) (fun o2 => ⟨hv, ?_⟩)⟩)
        rw [← k5] at o2
        rcases hz with ⟨b0, rfl⟩ | ⟨b0, rfl⟩
        · refine br_t b0 (br_c (fun _ => hp) (fun o3 => absurd ⟨o1, o2, ?_⟩ ok))
          rw [k1]; exact o3
        · refine br_f b0 (br_c (fun _ => hp) (fun o3 => absurd ⟨o1, o2, ?_⟩ ok))
          rw [k1]; exact o3
  · rw [hg] at y; exact absurd y (by decide)
theorem ra_copy {v1 v2 v3 v4 v5 b : Int32} (hB : B ≤ 2 ^ 26) (h : ra_R B c m n st pr tk rs al tt pa bs sb ep pt nb lg sn lo lt lv gk gt gf gl gs gn sl ss bo ot so sq go mo nt fr tw tx gr ge g1 g2 g3 sv lf se) : ∃ (w : Int32) (u' : SX) (v' : SY), ra_RR (B + 1) u' v' ∧ (∀ post : Int32 → SX → Prop, post w u' → wpX_copy post (lN c, ep, st, pt, bs, pr, tk, mk, rs, vl, cl, nb, al, wt, lg, wd, sn, lo, lt, lv, gk, gt, gf, gl, gs, gn, sl, ss, sb, pa, du, oft, bg, av, tt) v1 v2 v3 v4 v5 b) ∧ (∀ post : Int32 → SY → Prop, post w v' → wpY_copy post (nI n, nI m, st, bo, bs, pr, tk, mk, ot, vl, rs, al, wt, so, sq, go, mo, cl, wd, nt, fr, tw, tx, gr, ge, g1, g2, g3, sv, sb, lf, pa, du, av, bg, oft, se, tt, cp) v1 v2 v3 v4 v5 b) := by
  rcases ra_run_both (mk := mk) (vl := vl) (cl := cl) (wt := wt) (wd := wd) (du := du) (oft := oft) (bg := bg) (av := av) (cp := cp) hB h with ⟨rX, rY⟩ | ⟨r, hr, hr1, rX, rY⟩
  · refine ⟨-1, _, _, ra_RR_mono (ra_in (mk := mk) (vl := vl) (cl := cl) (wt := wt) (wd := wd) (du := du) (oft := oft) (bg := bg) (av := av) (cp := cp) h) (by omega), fun post hp => ?_, fun post hp => ?_⟩
    · simp only [wpX_copy]
      exact rX _ (br_t (by decide) hp)
    · simp only [wpY_copy]
      exact rY _ (br_t (by decide) hp)
  · have rl : st r ≠ 0 := by rw [hr1]; decide
    have yr : 16 * (bo r - 1) + nI r = ep r := ra_E_y h.1 hr rl
    by_cases good : ¬ v2 < 0 ∧ ¬ 4 ≤ v2 ∧ ¬ v5 < 1 ∧ ¬ 16 < v5 ∧ ¬ v4 < 0 ∧ v4 ≤ 16 - v5
    · obtain ⟨a1, a2, a3, a4, a5, a6⟩ := good
      obtain ⟨id, hid, rfl⟩ := ra_nat (n := 4) (by omega) a1 a2
      have a4' : ¬ (17 : Int32) ≤ v5 := by rw [← ra_ll _ (by decide : (17 : Int32).toInt = (16 : Int32).toInt + 1)]; exact a4
      obtain ⟨N, hN, rfl⟩ := ra_nat (n := 17) (by omega) (ra_lt1 a3) a4'
      have hN1 : 1 ≤ N := by
        rcases Nat.eq_zero_or_pos N with z | z
        · subst z; exact absurd (by decide) a3
        · exact z
      have a6' := a6
      rw [ra_16s (show N ≤ 16 by omega)] at a6'
      obtain ⟨A, hA0, rfl⟩ := nI_of a5
      rw [nI_leI hA0 (by omega)] at a6'
      have b1 : ¬ (3 : Int32) < nI id := by rw [ra_ll _ (by decide : (4 : Int32).toInt = (3 : Int32).toInt + 1)]; exact a2
      have b2 : ¬ (16 - nI N) < nI A := Int32.not_lt.mpr a6
      have X0 : ∀ (w : Int32) (post : Int32 → SX → Prop), (∀ q : Int32 → Prop, q w → wpX_refusal q (lN c, ep, st, pt, bs, pr, tk, mk, rs, vl, cl, nb, al, wt, lg, wd, sn, lo, lt, lv, gk, gt, gf, gl, gs, gn, sl, ss, sb, pa, du, oft, bg, av, tt) (nI r) v1) → ((w = 0 → wpX_followGrants (fun r_117 => (0 ≤ r_117 → (b = 0 → wX_copy_99 post v3 (nI A) (nI N) b (nI r) r_117 1 (lN c) ep st pt bs pr tk mk rs vl cl nb al wt lg wd sn lo lt lv gk gt gf gl gs gn sl ss sb pa du oft bg av tt) ∧ (¬ b = 0 → wX_copy_99 post v3 (nI A) (nI N) b (nI r) r_117 2 (lN c) ep st pt bs pr tk mk rs vl cl nb al wt lg wd sn lo lt lv gk gt gf gl gs gn sl ss sb pa du oft bg av tt)) ∧ (¬ 0 ≤ r_117 → post r_117 (lN c, ep, st, pt, bs, pr, tk, mk, rs, vl, cl, nb, al, wt, lg, wd, sn, lo, lt, lv, gk, gt, gf, gl, gs, gn, sl, ss, sb, pa, du, oft, bg, av, tt))) (lN c, ep, st, pt, bs, pr, tk, mk, rs, vl, cl, nb, al, wt, lg, wd, sn, lo, lt, lv, gk, gt, gf, gl, gs, gn, sl, ss, sb, pa, du, oft, bg, av, tt) (ep r) v1 (nI id)) ∧ (¬ w = 0 → post w (lN c, ep, st, pt, bs, pr, tk, mk, rs, vl, cl, nb, al, wt, lg, wd, sn, lo, lt, lv, gk, gt, gf, gl, gs, gn, sl, ss, sb, pa, du, oft, bg, av, tt))) → wpX_copy post (lN c, ep, st, pt, bs, pr, tk, mk, rs, vl, cl, nb, al, wt, lg, wd, sn, lo, lt, lv, gk, gt, gf, gl, gs, gn, sl, ss, sb, pa, du, oft, bg, av, tt) v1 (nI id) v3 (nI A) (nI N) b := by
        intro w post hX hp
        simp only [wpX_copy]
        refine rX _ (br_f (nI_pos (by omega)) (xl_isG (fun y => absurd y (fun z => z.elim a1 a2)) (fun _ _ => br_f (by decide) (br_f a3 (br_f a4 (br_f a5 (br_t a6 (hX _ ?_))))))))
        refine br_c (fun y => ⟨vp_in_nI hr (by decide), ?_⟩) (fun y => hp.2 y)
        rw [ra_c (show r < 1000 by omega)]
        exact hp.1 y
      have Y0 : ∀ (w : Int32) (post : Int32 → SY → Prop), (∀ q : Int32 → Prop, q w → wpY_wrong q (nI n, nI m, st, bo, bs, pr, tk, mk, ot, vl, rs, al, wt, so, sq, go, mo, cl, wd, nt, fr, tw, tx, gr, ge, g1, g2, g3, sv, sb, lf, pa, du, av, bg, oft, se, tt, cp) (nI r) v1 0) → ((0 ≤ w → ∃ q, wY_copy_85 post v3 (nI A) (nI N) b (nI r) (nI n) (nI m) st bo bs pr tk mk ot vl rs al wt so sq go mo cl wd nt fr tw tx gr ge g1 g2 g3 sv sb lf pa du av bg oft se tt cp q (ep r) v1 (nI id) 0 1) ∧ (¬ 0 ≤ w → post w (nI n, nI m, st, bo, bs, pr, tk, mk, ot, vl, rs, al, wt, so, sq, go, mo, cl, wd, nt, fr, tw, tx, gr, ge, g1, g2, g3, sv, sb, lf, pa, du, av, bg, oft, se, tt, cp))) → wpY_copy post (nI n, nI m, st, bo, bs, pr, tk, mk, ot, vl, rs, al, wt, so, sq, go, mo, cl, wd, nt, fr, tw, tx, gr, ge, g1, g2, g3, sv, sb, lf, pa, du, av, bg, oft, se, tt, cp) v1 (nI id) v3 (nI A) (nI N) b := by
        intro w post hY hp
        simp only [wpY_copy]
        refine rY _ (br_f (nI_pos (by omega)) (yl_within (fun y => absurd y (fun z => z.elim a1 b1)) (fun _ _ => br_f (by decide) (yl_within (fun y => absurd y (fun z => z.elim a3 a4)) (fun _ _ => br_f (by decide) (yl_within (fun y => absurd y (fun z => z.elim a5 b2)) (fun _ _ => br_f (by decide) (hY _ ?_))))))))
        refine br_c (fun y => ?_) (fun y => hp.2 y)
        simp (disch := omega) only [wpY_endpoint, yr, not_true, not_false_iff, true_implies, false_implies, implies_true, true_and, and_true, forall_eq, eq_self, ra_i, ra_c, ra_m3, ra_m4, ra_m16, ra_4m, ra_14m, ra_16m, nI_add, nI_1, lN_1, ra_p2, ra_2p, ra_n0, ra_p0, ra_q0, ra_q1, ra_q2, ra_q3, ra_n3, ra_n4, ra_n10, ra_n14, ra_n16, ra_n30, ra_n140, ra_y3, ra_y4, ra_y10, ra_y14, ra_y16, ra_y30, ra_y140]
        exact hp.1 y
      rcases ra_ref0 (mk := mk) (vl := vl) (cl := cl) (wt := wt) (wd := wd) (du := du) (oft := oft) (bg := bg) (av := av) (cp := cp) hB h hr hr1 v1 with ⟨w, hw, hX, -, hY⟩ | ⟨s, hs, z, hl, he, ha, hX, hY⟩
      · have w0 : ¬ w = 0 := by rcases hw with rfl | rfl <;> decide
        have w1 : ¬ 0 ≤ w := by rcases hw with rfl | rfl <;> decide
        exact ⟨w, _, _, ra_RR_mono (ra_in (mk := mk) (vl := vl) (cl := cl) (wt := wt) (wd := wd) (du := du) (oft := oft) (bg := bg) (av := av) (cp := cp) h) (by omega), fun post hp => X0 w post hX (br_f w0 hp), fun post hp => Y0 w post (fun q hq => hY q 0 hq) (br_f w1 hp)⟩
      · rcases ra_chain (mk := mk) (vl := vl) (cl := cl) (wt := wt) (wd := wd) (du := du) (oft := oft) (bg := bg) (av := av) (cp := cp) hB h 4 0 id (ep r) v1 rfl hid with ⟨w, hw, cX, cY⟩ | ⟨s', j, hs', hj, q1, q2, cX, cY⟩
        · have w1 : ¬ 0 ≤ w := by rcases hw with rfl | rfl <;> decide
          refine ⟨w, _, _, ra_RR_mono (ra_in (mk := mk) (vl := vl) (cl := cl) (wt := wt) (wd := wd) (du := du) (oft := oft) (bg := bg) (av := av) (cp := cp) h) (by omega), fun post hp => X0 0 post hX (br_t rfl ?_), fun post hp => Y0 0 post hY (br_t (by decide) ⟨5, cY post _ _ _ _ _ _ hp⟩)⟩
          exact ⟨5, cX _ (br_f w1 hp)⟩
        · by_cases b0 : b = 0
          · obtain ⟨w, u', v', hR, fX, fY⟩ := ra_copy9 (mk := mk) (vl := vl) (cl := cl) (wt := wt) (wd := wd) (du := du) (oft := oft) (bg := bg) (av := av) (cp := cp) (off := v3) h hr hs' hj hN1 (show A + N ≤ 16 by omega) (Or.inl ⟨b0, rfl⟩) q1 q2
            refine ⟨w, u', v', hR, fun post hp => X0 0 post hX (br_t rfl ⟨5, cX _ (br_t (nI_pos' (by omega)) (br_t b0 (fX post hp)))⟩), fun post hp => Y0 0 post hY (br_t (by decide) ⟨5, cY post _ _ _ _ _ _ (fY post hp)⟩)⟩
          · obtain ⟨w, u', v', hR, fX, fY⟩ := ra_copy9 (mk := mk) (vl := vl) (cl := cl) (wt := wt) (wd := wd) (du := du) (oft := oft) (bg := bg) (av := av) (cp := cp) (off := v3) h hr hs' hj hN1 (show A + N ≤ 16 by omega) (Or.inr ⟨b0, rfl⟩) q1 q2
            refine ⟨w, u', v', hR, fun post hp => X0 0 post hX (br_t rfl ⟨5, cX _ (br_t (nI_pos' (by omega)) (br_f b0 (fX post hp)))⟩), fun post hp => Y0 0 post hY (br_t (by decide) ⟨5, cY post _ _ _ _ _ _ (fY post hp)⟩)⟩
    · refine ⟨-1, _, _, ra_RR_mono (ra_in (mk := mk) (vl := vl) (cl := cl) (wt := wt) (wd := wd) (du := du) (oft := oft) (bg := bg) (av := av) (cp := cp) h) (by omega), fun post hp => ?_, fun post hp => ?_⟩
      · simp only [wpX_copy]
        exact rX _ (br_f (nI_pos (by omega)) (xl_isG (fun _ => br_t rfl hp) (fun a1 a2 => br_f (by decide) (br_c (fun _ => hp) (fun a3 => br_c (fun _ => hp) (fun a4 => br_c (fun _ => hp) (fun a5 => br_c (fun a6 => absurd ⟨a1, a2, a3, a4, a5, a6⟩ good) (fun _ => hp))))))))
      · simp only [wpY_copy]
        refine rY _ (br_f (nI_pos (by omega)) (yl_within (fun _ => br_t rfl hp) (fun a1 a2 => br_f (by decide) (yl_within (fun _ => br_t rfl hp) (fun a3 a4 => br_f (by decide) (yl_within (fun _ => br_t rfl hp) (fun a5 a6 => absurd ⟨a1, ?_, a3, a4, a5, Int32.not_lt.mp a6⟩ good)))))))
        rw [← ra_ll _ (by decide : (4 : Int32).toInt = (3 : Int32).toInt + 1)]; exact a2
end
end
section
/-! at, service, memory, running, total, poke, end, leave, birth -/
theorem ra_s10 {a : Nat} (h : 10 ≤ a) : nI a - 10 = nI (a - 10) := pk_sub (a := a) (b := 10) h
section
variable {B c m n : Nat} {st pr bs tk mk vl cl rs al wt wd tt sb pa du oft bg av ep pt nb lg lt lv gk gt gf gl gs gn sl ss bo ot so sq go mo nt fr tw tx gr ge g1 g2 g3 sv lf se cp : Nat → Int32} {sn lo : Nat → Int64}
theorem ra_has {x : Int32} (h : ra_R B c m n st pr tk rs al tt pa bs sb ep pt nb lg sn lo lt lv gk gt gf gl gs gn sl ss bo ot so sq go mo nt fr tw tx gr ge g1 g2 g3 sv lf se) : (∃ s, s < 10 ∧ x = nI s ∧ st s ≠ 0 ∧ (∀ post : Int32 → Prop, post 1 → wpX_hasProcess post (lN c, ep, st, pt, bs, pr, tk, mk, rs, vl, cl, nb, al, wt, lg, wd, sn, lo, lt, lv, gk, gt, gf, gl, gs, gn, sl, ss, sb, pa, du, oft, bg, av, tt) x) ∧ (∀ post : Int32 → Prop, post 1 → wpY_isThere post (nI n, nI m, st, bo, bs, pr, tk, mk, ot, vl, rs, al, wt, so, sq, go, mo, cl, wd, nt, fr, tw, tx, gr, ge, g1, g2, g3, sv, sb, lf, pa, du, av, bg, oft, se, tt, cp) x)) ∨
    ((∀ post : Int32 → Prop, post 0 → wpX_hasProcess post (lN c, ep, st, pt, bs, pr, tk, mk, rs, vl, cl, nb, al, wt, lg, wd, sn, lo, lt, lv, gk, gt, gf, gl, gs, gn, sl, ss, sb, pa, du, oft, bg, av, tt) x) ∧ (∀ post : Int32 → Prop, post 0 → wpY_isThere post (nI n, nI m, st, bo, bs, pr, tk, mk, ot, vl, rs, al, wt, so, sq, go, mo, cl, wd, nt, fr, tw, tx, gr, ge, g1, g2, g3, sv, sb, lf, pa, du, av, bg, oft, se, tt, cp) x)) := by
  have hT := h.2.2.2.2.2.2.2.2.1
  by_cases x0 : x < 0
  · refine Or.inr ⟨fun post hp => ?_, fun post hp => ?_⟩
    · simp only [wpX_hasProcess]
      exact br_t x0 hp
    · simp only [wpY_isThere]
      exact yl_within (fun _ => br_t rfl hp) (fun y => absurd x0 y)
  · by_cases x1 : (10 : Int32) ≤ x
    · refine Or.inr ⟨fun post hp => ?_, fun post hp => ?_⟩
      · simp only [wpX_hasProcess]
        exact br_f x0 (br_t x1 hp)
      · simp only [wpY_isThere]
        refine yl_within (fun _ => br_t rfl hp) (fun _ y => absurd ?_ y)
        rw [ra_ll _ (by decide : (10 : Int32).toInt = (9 : Int32).toInt + 1)]
        exact x1
    · obtain ⟨s, hs, rfl⟩ := ra_nat (n := 10) (by omega) x0 x1
      have e0 := ra_le0 hT hs
      by_cases l : st s = 0
      · have l' : st s ≤ 0 := by rw [e0]; exact l
        refine Or.inr ⟨fun post hp => ?_, fun post hp => ?_⟩
        · simp (disch := omega) only [wpX_hasProcess, l, not_true, not_false_iff, true_implies, false_implies, implies_true, true_and, and_true, forall_eq, eq_self, ra_i, ra_c, ra_m3, ra_m4, ra_m16, ra_4m, ra_14m, ra_16m, nI_add, nI_1, lN_1, ra_p2, ra_2p, ra_n0, ra_p0, ra_q0, ra_q1, ra_q2, ra_q3, ra_n3, ra_n4, ra_n10, ra_n14, ra_n16, ra_n30, ra_n140, ra_y3, ra_y4, ra_y10, ra_y14, ra_y16, ra_y30, ra_y140]
          exact hp
        · simp (disch := omega) only [wpY_isThere, wpY_within, ra_w9, l', not_true, not_false_iff, true_implies, false_implies, implies_true, true_and, and_true, forall_eq, eq_self, ra_i, ra_c, ra_m3, ra_m4, ra_m16, ra_4m, ra_14m, ra_16m, nI_add, nI_1, lN_1, ra_p2, ra_2p, ra_n0, ra_p0, ra_q0, ra_q1, ra_q2, ra_q3, ra_n3, ra_n4, ra_n10, ra_n14, ra_n16, ra_n30, ra_n140, ra_y3, ra_y4, ra_y10, ra_y14, ra_y16, ra_y30, ra_y140]
          exact hp
      · have l' : ¬ st s ≤ 0 := by rw [e0]; exact l
        refine Or.inl ⟨s, hs, rfl, l, fun post hp => ?_, fun post hp => ?_⟩
        · simp (disch := omega) only [wpX_hasProcess, l, not_true, not_false_iff, true_implies, false_implies, implies_true, true_and, and_true, forall_eq, eq_self, ra_i, ra_c, ra_m3, ra_m4, ra_m16, ra_4m, ra_14m, ra_16m, nI_add, nI_1, lN_1, ra_p2, ra_2p, ra_n0, ra_p0, ra_q0, ra_q1, ra_q2, ra_q3, ra_n3, ra_n4, ra_n10, ra_n14, ra_n16, ra_n30, ra_n140, ra_y3, ra_y4, ra_y10, ra_y14, ra_y16, ra_y30, ra_y140]
          exact hp
        · simp (disch := omega) only [wpY_isThere, wpY_within, ra_w9, l', not_true, not_false_iff, true_implies, false_implies, implies_true, true_and, and_true, forall_eq, eq_self, ra_i, ra_c, ra_m3, ra_m4, ra_m16, ra_4m, ra_14m, ra_16m, nI_add, nI_1, lN_1, ra_p2, ra_2p, ra_n0, ra_p0, ra_q0, ra_q1, ra_q2, ra_q3, ra_n3, ra_n4, ra_n10, ra_n14, ra_n16, ra_n30, ra_n140, ra_y3, ra_y4, ra_y10, ra_y14, ra_y16, ra_y30, ra_y140]
          exact hp
set_option maxHeartbeats 4000000 in
theorem ra_at {v1 v2 : Int32} (hB : B ≤ 2 ^ 26) (h : ra_R B c m n st pr tk rs al tt pa bs sb ep pt nb lg sn lo lt lv gk gt gf gl gs gn sl ss bo ot so sq go mo nt fr tw tx gr ge g1 g2 g3 sv lf se) : ∃ w : Int32, (∀ post : Int32 → Prop, post w → wpX_at post (lN c, ep, st, pt, bs, pr, tk, mk, rs, vl, cl, nb, al, wt, lg, wd, sn, lo, lt, lv, gk, gt, gf, gl, gs, gn, sl, ss, sb, pa, du, oft, bg, av, tt) v1 v2) ∧ (∀ post : Int32 → Prop, post w → wpY_at post (nI n, nI m, st, bo, bs, pr, tk, mk, ot, vl, rs, al, wt, so, sq, go, mo, cl, wd, nt, fr, tw, tx, gr, ge, g1, g2, g3, sv, sb, lf, pa, du, av, bg, oft, se, tt, cp) v1 v2) := by
  rcases ra_has (mk := mk) (vl := vl) (cl := cl) (wt := wt) (wd := wd) (du := du) (oft := oft) (bg := bg) (av := av) (cp := cp) (x := v1) h with ⟨s, hs, rfl, hl, pX, pY⟩ | ⟨pX, pY⟩
  · obtain ⟨hE, hO, hW, hD, hN, hL, hG, hS, hT, hI, hP⟩ := h
    have hc : c ≤ 2 ^ 27 := by have := hO.1; omega
    have n30 := (ra_L_n hc hL).1
    have ys := ra_E_y hE hs hl
    have hv : vp_in (nI s) 10 := vp_in_nI hs (by decide)
    by_cases good : ¬ v2 < 0 ∧ ¬ 14 < v2
    · obtain ⟨a1, a2⟩ := good
      have a2' : ¬ (15 : Int32) ≤ v2 := by rw [← ra_ll _ (by decide : (15 : Int32).toInt = (14 : Int32).toInt + 1)]; exact a2
      obtain ⟨w, hw, rfl⟩ := ra_nat (n := 15) (by omega) a1 a2'
      have HX : ∀ post : Int32 → Prop, _ → wpX_at post (lN c, ep, st, pt, bs, pr, tk, mk, rs, vl, cl, nb, al, wt, lg, wd, sn, lo, lt, lv, gk, gt, gf, gl, gs, gn, sl, ss, sb, pa, du, oft, bg, av, tt) (nI s) (nI w) := fun post hp => by
        simp only [wpX_at]
        exact pX _ (br_f (by decide) (br_f a1 (br_f a2 hp)))
      have HY : ∀ post : Int32 → Prop, _ → wpY_at post (nI n, nI m, st, bo, bs, pr, tk, mk, ot, vl, rs, al, wt, so, sq, go, mo, cl, wd, nt, fr, tw, tx, gr, ge, g1, g2, g3, sv, sb, lf, pa, du, av, bg, oft, se, tt, cp) (nI s) (nI w) := fun post hp => by
        simp only [wpY_at]
        exact pY _ (br_f (by decide) (br_f a1 (br_f a2 hp)))
      have hw' : w = 0 ∨ w = 1 ∨ w = 2 ∨ w = 3 ∨ w = 4 ∨ w = 5 ∨ w = 6 ∨ w = 7 ∨ w = 8 ∨ w = 9 ∨ w = 10 ∨ w = 11 ∨ w = 12 ∨ w = 13 ∨ w = 14 := by omega
      clear a1 a2 a2'
      rcases hw' with rfl | rfl | rfl | rfl | rfl | rfl | rfl | rfl | rfl | rfl | rfl | rfl | rfl | rfl | rfl
      · -- 0
        refine ⟨ep s, fun post hp => HX post (br_t (by decide) (⟨hv, by rw [ra_c (show s < 1000 by omega)]; exact hp⟩)), fun post hp => HY post (br_t (by decide) (?_))⟩
        simp (disch := omega) only [wpY_endpoint, ys, not_true, not_false_iff, true_implies, false_implies, implies_true, true_and, and_true, forall_eq, eq_self, ra_i, ra_c, ra_m3, ra_m4, ra_m16, ra_4m, ra_14m, ra_16m, nI_add, nI_1, lN_1, ra_p2, ra_2p, ra_n0, ra_p0, ra_q0, ra_q1, ra_q2, ra_q3, ra_n3, ra_n4, ra_n10, ra_n14, ra_n16, ra_n30, ra_n140, ra_y3, ra_y4, ra_y10, ra_y14, ra_y16, ra_y30, ra_y140]
        exact hp
      · -- 1
        refine ⟨st s, fun post hp => HX post (br_f (by decide) (br_t (by decide) (⟨hv, by rw [ra_c (show s < 1000 by omega)]; exact hp⟩))), fun post hp => HY post (br_f (by decide) (br_t (by decide) (⟨hv, by rw [ra_c (show s < 1000 by omega)]; exact hp⟩)))⟩
      · -- 2
        refine ⟨pt s, fun post hp => HX post (br_f (by decide) (br_f (by decide) (br_t (by decide) (⟨hv, by rw [ra_c (show s < 1000 by omega)]; exact hp⟩)))), fun post hp => HY post (br_f (by decide) (br_f (by decide) (br_t (by decide) (?_))))⟩
        simp (disch := omega) only [wpY_endpoint, ys, not_true, not_false_iff, true_implies, false_implies, implies_true, true_and, and_true, forall_eq, eq_self, ra_i, ra_c, ra_m3, ra_m4, ra_m16, ra_4m, ra_14m, ra_16m, nI_add, nI_1, lN_1, ra_p2, ra_2p, ra_n0, ra_p0, ra_q0, ra_q1, ra_q2, ra_q3, ra_n3, ra_n4, ra_n10, ra_n14, ra_n16, ra_n30, ra_n140, ra_y3, ra_y4, ra_y10, ra_y14, ra_y16, ra_y30, ra_y140]
        refine br_c (fun s1 => ?_) (fun s1 => ?_)
        · rw [← (hW s hs).1 s1]; exact hp
        · rw [← ((hW s hs).2 hl s1).1]; exact hp
      · -- 3
        refine ⟨pr s, fun post hp => HX post (br_f (by decide) (br_f (by decide) (br_f (by decide) (br_t (by decide) (⟨hv, by rw [ra_c (show s < 1000 by omega)]; exact hp⟩))))), fun post hp => HY post (br_f (by decide) (br_f (by decide) (br_f (by decide) (br_t (by decide) (⟨hv, by rw [ra_c (show s < 1000 by omega)]; exact hp⟩)))))⟩
      · -- 4
        refine ⟨tk s, fun post hp => HX post (br_f (by decide) (br_f (by decide) (br_f (by decide) (br_f (by decide) (br_t (by decide) (⟨hv, by rw [ra_c (show s < 1000 by omega)]; exact hp⟩)))))), fun post hp => HY post (br_f (by decide) (br_f (by decide) (br_f (by decide) (br_f (by decide) (br_t (by decide) (⟨hv, by rw [ra_c (show s < 1000 by omega)]; exact hp⟩))))))⟩
      · -- 5
        refine ⟨nI (ra_cn (ra_iq st ep pt s) 10), fun post hp => HX post (br_f (by decide) (br_f (by decide) (br_f (by decide) (br_f (by decide) (br_f (by decide) (br_t (by decide) (xl_queueLength hs hp))))))), fun post hp => HY post (br_f (by decide) (br_f (by decide) (br_f (by decide) (br_f (by decide) (br_f (by decide) (br_t (by decide) (?_)))))))⟩
        simp only [wY_at_136]
        exact yl_c5_5 hs hl n30 hE hW hp
      · -- 6
        refine ⟨nI (ra_cn (fun k => bt (nb s) k) 14), fun post hp => HX post (br_f (by decide) (br_f (by decide) (br_f (by decide) (br_f (by decide) (br_f (by decide) (br_f (by decide) (br_t (by decide) (xl_noteCount hs hp)))))))), fun post hp => HY post (br_f (by decide) (br_f (by decide) (br_f (by decide) (br_f (by decide) (br_f (by decide) (br_f (by decide) (br_t (by decide) (?_))))))))⟩
        simp only [wY_at_136]
        refine yl_c5_0 (by decide) (yl_c55_6 hs (yl_c95_0 n30 (by decide) ?_))
        have e : ra_cn (fun k => decide (¬ nt (14 * s + k) = 0)) 14 = ra_cn (fun k => bt (nb s) k) 14 := by
          refine ra_cn_eq (fun k hk => ?_)
          obtain ⟨-, n2, -⟩ := (hN s hs).2 hl k hk
          by_cases y : bt (nb s) k = true
          · rw [y]; exact decide_eq_true (n2.mp y)
          · rw [ra_nt y]; exact decide_eq_false (fun z => y (n2.mpr z))
        rw [e]
        exact hp
      · -- 7
        refine ⟨nI (ra_cn (fun p => decide (¬ lo p = 0) && decide (lt p = nI s)) 30), fun post hp => HX post (br_f (by decide) (br_f (by decide) (br_f (by decide) (br_f (by decide) (br_f (by decide) (br_f (by decide) (br_f (by decide) (br_t (by decide) (xl_lettersFor hp))))))))), fun post hp => HY post (br_f (by decide) (br_f (by decide) (br_f (by decide) (br_f (by decide) (br_f (by decide) (br_f (by decide) (br_f (by decide) (br_t (by decide) (?_)))))))))⟩
        simp only [wY_at_136]
        refine yl_c5_0 (by decide) (yl_c55_0 (by decide) (yl_c95_7 n30 ?_))
        rw [ra_for hc hL]
        exact hp
      · -- 8
        refine ⟨nI (ra_cn (fun i => decide (¬ lo (3 * s + i) = 0)) 3), fun post hp => HX post (br_f (by decide) (br_f (by decide) (br_f (by decide) (br_f (by decide) (br_f (by decide) (br_f (by decide) (br_f (by decide) (br_f (by decide) (br_t (by decide) (xl_lettersFrom hs hp)))))))))), fun post hp => HY post (br_f (by decide) (br_f (by decide) (br_f (by decide) (br_f (by decide) (br_f (by decide) (br_f (by decide) (br_f (by decide) (br_f (by decide) (br_t (by decide) (?_))))))))))⟩
        simp only [wY_at_136]
        refine yl_c5_0 (by decide) (yl_c55_0 (by decide) (yl_c95_8 n30 ?_))
        rw [ra_own hc hL hs]
        exact hp
      · -- 9
        by_cases s1 : st s = 1
        · refine ⟨nI (ra_cn (ra_pl st pr sn s) 10), fun post hp => HX post (br_f (by decide) (br_f (by decide) (br_f (by decide) (br_f (by decide) (br_f (by decide) (br_f (by decide) (br_f (by decide) (br_f (by decide) (br_f (by decide) (br_t (by decide) (xl_placeInRow hs s1 hp))))))))))), fun post hp => HY post (br_f (by decide) (br_f (by decide) (br_f (by decide) (br_f (by decide) (br_f (by decide) (br_f (by decide) (br_f (by decide) (br_f (by decide) (br_f (by decide) (br_t (by decide) (yl_placeOf hs s1 ?_)))))))))))⟩
          have e : ra_cn (ra_plY st pr mo s) 10 = ra_cn (ra_pl st pr sn s) 10 := ra_cn_eq (fun i hi => decide_eq_decide.mpr (and_congr Iff.rfl (and_congr Iff.rfl (ra_O_lt hB hO hi hs).symm)))
          rw [e]
          exact hp
        · refine ⟨-1, fun post hp => HX post (br_f (by decide) (br_f (by decide) (br_f (by decide) (br_f (by decide) (br_f (by decide) (br_f (by decide) (br_f (by decide) (br_f (by decide) (br_f (by decide) (br_t (by decide) (?_))))))))))), fun post hp => HY post (br_f (by decide) (br_f (by decide) (br_f (by decide) (br_f (by decide) (br_f (by decide) (br_f (by decide) (br_f (by decide) (br_f (by decide) (br_f (by decide) (br_t (by decide) (?_)))))))))))⟩
          · simp (disch := omega) only [wpX_placeInRow, s1, not_true, not_false_iff, true_implies, false_implies, implies_true, true_and, and_true, forall_eq, eq_self, ra_i, ra_c, ra_m3, ra_m4, ra_m16, ra_4m, ra_14m, ra_16m, nI_add, nI_1, lN_1, ra_p2, ra_2p, ra_n0, ra_p0, ra_q0, ra_q1, ra_q2, ra_q3, ra_n3, ra_n4, ra_n10, ra_n14, ra_n16, ra_n30, ra_n140, ra_y3, ra_y4, ra_y10, ra_y14, ra_y16, ra_y30, ra_y140]
            exact hp
          · simp (disch := omega) only [wpY_placeOf, s1, not_true, not_false_iff, true_implies, false_implies, implies_true, true_and, and_true, forall_eq, eq_self, ra_i, ra_c, ra_m3, ra_m4, ra_m16, ra_4m, ra_14m, ra_16m, nI_add, nI_1, lN_1, ra_p2, ra_2p, ra_n0, ra_p0, ra_q0, ra_q1, ra_q2, ra_q3, ra_n3, ra_n4, ra_n10, ra_n14, ra_n16, ra_n30, ra_n140, ra_y3, ra_y4, ra_y10, ra_y14, ra_y16, ra_y30, ra_y140]
            exact hp
      · -- 10
        refine ⟨so s, fun post hp => HX post (br_f (by decide) (br_f (by decide) (br_f (by decide) (br_f (by decide) (br_f (by decide) (br_f (by decide) (br_f (by decide) (br_f (by decide) (br_f (by decide) (br_f (by decide) (br_t (by decide) (?_)))))))))))), fun post hp => HY post (br_f (by decide) (br_f (by decide) (br_f (by decide) (br_f (by decide) (br_f (by decide) (br_f (by decide) (br_f (by decide) (br_f (by decide) (br_f (by decide) (br_f (by decide) (br_t (by decide) (⟨hv, by rw [ra_c (show s < 1000 by omega)]; exact hp⟩))))))))))))⟩
        simp (disch := omega) only [wX_at_149, ra_s10, not_true, not_false_iff, true_implies, false_implies, implies_true, true_and, and_true, forall_eq, eq_self, ra_i, ra_c, ra_m3, ra_m4, ra_m16, ra_4m, ra_14m, ra_16m, nI_add, nI_1, lN_1, ra_p2, ra_2p, ra_n0, ra_p0, ra_q0, ra_q1, ra_q2, ra_q3, ra_n3, ra_n4, ra_n10, ra_n14, ra_n16, ra_n30, ra_n140, ra_y3, ra_y4, ra_y10, ra_y14, ra_y16, ra_y30, ra_y140]
        rw [show 3 * s + 10 - 10 = 3 * s by omega, (hD s hs).1]
        exact hp
      · -- 11
        refine ⟨sq s, fun post hp => HX post (br_f (by decide) (br_f (by decide) (br_f (by decide) (br_f (by decide) (br_f (by decide) (br_f (by decide) (br_f (by decide) (br_f (by decide) (br_f (by decide) (br_f (by decide) (br_f (by decide) (br_t (by decide) (?_))))))))))))), fun post hp => HY post (br_f (by decide) (br_f (by decide) (br_f (by decide) (br_f (by decide) (br_f (by decide) (br_f (by decide) (br_f (by decide) (br_f (by decide) (br_f (by decide) (br_f (by decide) (br_f (by decide) (br_t (by decide) (⟨hv, by rw [ra_c (show s < 1000 by omega)]; exact hp⟩)))))))))))))⟩
        simp (disch := omega) only [wX_at_149, ra_s10, not_true, not_false_iff, true_implies, false_implies, implies_true, true_and, and_true, forall_eq, eq_self, ra_i, ra_c, ra_m3, ra_m4, ra_m16, ra_4m, ra_14m, ra_16m, nI_add, nI_1, lN_1, ra_p2, ra_2p, ra_n0, ra_p0, ra_q0, ra_q1, ra_q2, ra_q3, ra_n3, ra_n4, ra_n10, ra_n14, ra_n16, ra_n30, ra_n140, ra_y3, ra_y4, ra_y10, ra_y14, ra_y16, ra_y30, ra_y140]
        rw [show 3 * s + 11 - 10 = 3 * s + 1 by omega, (hD s hs).2.1]
        exact hp
      · -- 12
        refine ⟨go s, fun post hp => HX post (br_f (by decide) (br_f (by decide) (br_f (by decide) (br_f (by decide) (br_f (by decide) (br_f (by decide) (br_f (by decide) (br_f (by decide) (br_f (by decide) (br_f (by decide) (br_f (by decide) (br_f (by decide) (br_t (by decide) (?_)))))))))))))), fun post hp => HY post (br_f (by decide) (br_f (by decide) (br_f (by decide) (br_f (by decide) (br_f (by decide) (br_f (by decide) (br_f (by decide) (br_f (by decide) (br_f (by decide) (br_f (by decide) (br_f (by decide) (br_f (by decide) (br_t (by decide) (⟨hv, by rw [ra_c (show s < 1000 by omega)]; exact hp⟩))))))))))))))⟩
        simp (disch := omega) only [wX_at_149, ra_s10, not_true, not_false_iff, true_implies, false_implies, implies_true, true_and, and_true, forall_eq, eq_self, ra_i, ra_c, ra_m3, ra_m4, ra_m16, ra_4m, ra_14m, ra_16m, nI_add, nI_1, lN_1, ra_p2, ra_2p, ra_n0, ra_p0, ra_q0, ra_q1, ra_q2, ra_q3, ra_n3, ra_n4, ra_n10, ra_n14, ra_n16, ra_n30, ra_n140, ra_y3, ra_y4, ra_y10, ra_y14, ra_y16, ra_y30, ra_y140]
        rw [show 3 * s + 12 - 10 = 3 * s + 2 by omega, (hD s hs).2.2]
        exact hp
      · -- 13
        refine ⟨rs s, fun post hp => HX post (br_f (by decide) (br_f (by decide) (br_f (by decide) (br_f (by decide) (br_f (by decide) (br_f (by decide) (br_f (by decide) (br_f (by decide) (br_f (by decide) (br_f (by decide) (br_f (by decide) (br_f (by decide) (br_f (by decide) (br_t (by decide) (⟨hv, by rw [ra_c (show s < 1000 by omega)]; exact hp⟩))))))))))))))), fun post hp => HY post (br_f (by decide) (br_f (by decide) (br_f (by decide) (br_f (by decide) (br_f (by decide) (br_f (by decide) (br_f (by decide) (br_f (by decide) (br_f (by decide) (br_f (by decide) (br_f (by decide) (br_f (by decide) (br_f (by decide) (br_t (by decide) (⟨hv, by rw [ra_c (show s < 1000 by omega)]; exact hp⟩)))))))))))))))⟩
      · -- 14
        refine ⟨al s, fun post hp => HX post (br_f (by decide) (br_f (by decide) (br_f (by decide) (br_f (by decide) (br_f (by decide) (br_f (by decide) (br_f (by decide) (br_f (by decide) (br_f (by decide) (br_f (by decide) (br_f (by decide) (br_f (by decide) (br_f (by decide) (br_f (by decide) (br_t (by decide) (⟨hv, by rw [ra_c (show s < 1000 by omega)]; exact hp⟩)))))))))))))))), fun post hp => HY post (br_f (by decide) (br_f (by decide) (br_f (by decide) (br_f (by decide) (br_f (by decide) (br_f (by decide) (br_f (by decide) (br_f (by decide) (br_f (by decide) (br_f (by decide) (br_f (by decide) (br_f (by decide) (br_f (by decide) (br_f (by decide) (br_t (by decide) (⟨hv, by rw [ra_c (show s < 1000 by omega)]; exact hp⟩))))))))))))))))⟩
    · refine ⟨-1, fun post hp => ?_, fun post hp => ?_⟩
      · simp only [wpX_at]
        exact pX _ (br_f (by decide) (br_c (fun _ => hp) (fun a1 => br_c (fun _ => hp) (fun a2 => absurd ⟨a1, a2⟩ good))))
      · simp only [wpY_at]
        exact pY _ (br_f (by decide) (br_c (fun _ => hp) (fun a1 => br_c (fun _ => hp) (fun a2 => absurd ⟨a1, a2⟩ good))))
  · refine ⟨-1, fun post hp => ?_, fun post hp => ?_⟩
    · simp only [wpX_at]
      exact pX _ (br_t rfl hp)
    · simp only [wpY_at]
      exact pY _ (br_t rfl hp)
end
end
section
/-! the other calls -/
section
variable {B c m n : Nat} {st pr bs tk mk vl cl rs al wt wd tt sb pa du oft bg av ep pt nb lg lt lv gk gt gf gl gs gn sl ss bo ot so sq go mo nt fr tw tx gr ge g1 g2 g3 sv lf se cp : Nat → Int32} {sn lo : Nat → Int64}
theorem ra_key {s k : Nat} (hB : B ≤ 2 ^ 26) (hE : ra_E B st ep bo) (hS : ra_S st ep pa sl ss sv lf se sb) (hs : s < 10) (hk : k < 3) : (sv k = 1 ∧ se k = ep s) ↔ (sl k ≠ 0 ∧ ss k = nI s) := by
  rcases hS.1 k hk with ⟨a, b⟩ | ⟨a, -, -, ⟨b, t, ht, e1, -, e2⟩ | ⟨b, e1, -⟩⟩
  · rw [a, b]
    exact ⟨fun z => absurd z.1 (by decide), fun z => absurd rfl z.1⟩
  · refine ⟨fun z => ⟨a, ?_⟩, fun z => ⟨b, ?_⟩⟩
    · have := ra_E_inj hB hE ht hs (e2.symm.trans z.2)
      rw [e1, this]
    · have z2 := z.2
      rw [e1, nI_eq (by omega) (by omega)] at z2
      rw [e2, z2]
  · have ne : ¬ ss k = nI s := by
      rw [e1]
      intro z
      have : ¬ nI s < 0 := nI_pos (by omega)
      rw [← z] at this
      exact this (by decide)
    exact ⟨fun z => by rw [b] at z; exact absurd z.1 (by decide), fun z => absurd z.2 ne⟩
theorem ra_birth {v1 v2 : Int32} (hB : B ≤ 2 ^ 26) (h : ra_R B c m n st pr tk rs al tt pa bs sb ep pt nb lg sn lo lt lv gk gt gf gl gs gn sl ss bo ot so sq go mo nt fr tw tx gr ge g1 g2 g3 sv lf se) : ∃ (w : Int32) (u' : SX) (v' : SY), ra_RR (B + 1) u' v' ∧ (∀ post : Int32 → SX → Prop, post w u' → wpX_birth post (lN c, ep, st, pt, bs, pr, tk, mk, rs, vl, cl, nb, al, wt, lg, wd, sn, lo, lt, lv, gk, gt, gf, gl, gs, gn, sl, ss, sb, pa, du, oft, bg, av, tt) v1 v2) ∧ (∀ post : Int32 → SY → Prop, post w v' → wpY_birth post (nI n, nI m, st, bo, bs, pr, tk, mk, ot, vl, rs, al, wt, so, sq, go, mo, cl, wd, nt, fr, tw, tx, gr, ge, g1, g2, g3, sv, sb, lf, pa, du, av, bg, oft, se, tt, cp) v1 v2) := by
  by_cases good : ¬ v1 < 0 ∧ ¬ 3 < v1 ∧ ¬ v2 < 0 ∧ v2 ≤ 1023
  · obtain ⟨a1, a2, a3, a4⟩ := good
    have a2' : ¬ (4 : Int32) ≤ v1 := by rw [← ra_ll _ (by decide : (4 : Int32).toInt = (3 : Int32).toInt + 1)]; exact a2
    obtain ⟨p, hp4, rfl⟩ := ra_nat (n := 4) (by omega) a1 a2'
    rcases ra_free_both (c := c) (m := m) (n := n) (st := st) (pr := pr) (bs := bs) (tk := tk) (mk := mk) (vl := vl) (cl := cl) (rs := rs) (al := al) (wt := wt) (wd := wd) (tt := tt) (sb := sb) (pa := pa) (du := du) (oft := oft) (bg := bg) (av := av) (ep := ep) (pt := pt) (nb := nb) (lg := lg) (lt := lt) (lv := lv) (gk := gk) (gt := gt) (gf := gf) (gl := gl) (gs := gs) (gn := gn) (sl := sl) (ss := ss) (bo := bo) (ot := ot) (so := so) (sq := sq) (go := go) (mo := mo) (nt := nt) (fr := fr) (tw := tw) (tx := tx) (gr := gr) (ge := ge) (g1 := g1) (g2 := g2) (g3 := g3) (sv := sv) (lf := lf) (se := se) (cp := cp) (sn := sn) (lo := lo) h.2.2.2.2.2.2.2.2.1 with ⟨fX, fY⟩ | ⟨s, hs, h0, fX, fY⟩
    · refine ⟨-7, _, _, ra_RR_mono (ra_in (mk := mk) (vl := vl) (cl := cl) (wt := wt) (wd := wd) (du := du) (oft := oft) (bg := bg) (av := av) (cp := cp) h) (by omega), fun post hp => ?_, fun post hp => ?_⟩
      · simp only [wpX_birth]
        exact br_f a1 (br_f a2 (br_f a3 (br_t a4 (fX _ (br_f (by decide) hp)))))
      · simp only [wpY_birth]
        exact yl_within (fun y => absurd y (fun z => z.elim a1 a2)) (fun _ _ => br_f (by decide) (yl_within (fun y => absurd y (fun z => z.elim a3 (Int32.not_lt.mpr a4))) (fun _ _ => br_f (by decide) (fY _ (br_f (by decide) hp)))))
    · have hb := ra_R_beg (s := s) (p := p) (v := tt 1 + 1) (lg' := ra_z lg (3 * s) 3) (gk' := ra_z gk (4 * s) 4) h hs h0 (by omega) (fun _ _ => rfl) (fun _ _ => rfl)
      have ye : 16 * (upd bo s (bo s + 1) s - 1) + nI s = ep s := ra_E_y hb.1 hs (by rw [pk_us]; decide)
      refine ⟨ep s, _, _, ra_in (mk := upd mk s v2) (vl := vl) (cl := cl) (wt := upd wt s 0) (wd := ra_z wd (16 * s) 16) (du := du) (oft := oft) (bg := bg) (av := av) (cp := cp) hb, fun post hp => ?_, fun post hp => ?_⟩
      · simp only [wpX_birth]
        refine br_f a1 (br_f a2 (br_f a3 (br_t a4 (fX _ (br_t (nI_pos' (by omega)) (xl_beginProcess hs ⟨vp_in_nI hs (by decide), ?_⟩))))))
        rw [ra_c (show s < 1000 by omega)]
        exact hp
      · simp only [wpY_birth]
        refine yl_within (fun y => absurd y (fun z => z.elim a1 a2)) (fun _ _ => br_f (by decide) (yl_within (fun y => absurd y (fun z => z.elim a3 (Int32.not_lt.mpr a4))) (fun _ _ => br_f (by decide) (fY _ (br_t (nI_pos' (by omega)) (yl_begin hs ?_))))))
        rw [ye]
        exact hp
  · refine ⟨-1, _, _, ra_RR_mono (ra_in (mk := mk) (vl := vl) (cl := cl) (wt := wt) (wd := wd) (du := du) (oft := oft) (bg := bg) (av := av) (cp := cp) h) (by omega), fun post hp => ?_, fun post hp => ?_⟩
    · simp only [wpX_birth]
      exact br_c (fun _ => hp) (fun a1 => br_c (fun _ => hp) (fun a2 => br_c (fun _ => hp) (fun a3 => br_c (fun a4 => absurd ⟨a1, a2, a3, a4⟩ good) (fun _ => hp))))
    · simp only [wpY_birth]
      exact yl_within (fun _ => br_t rfl hp) (fun a1 a2 => br_f (by decide) (yl_within (fun _ => br_t rfl hp) (fun a3 a4 => absurd ⟨a1, a2, a3, Int32.not_lt.mp a4⟩ good)))
theorem ra_end {v1 : Int32} (hB : B + 20 ≤ 2 ^ 26) (h : ra_R B c m n st pr tk rs al tt pa bs sb ep pt nb lg sn lo lt lv gk gt gf gl gs gn sl ss bo ot so sq go mo nt fr tw tx gr ge g1 g2 g3 sv lf se) : ∃ (w : Int32) (u' : SX) (v' : SY), ra_RR (B + 11) u' v' ∧ (∀ post : Int32 → SX → Prop, post w u' → wpX_end post (lN c, ep, st, pt, bs, pr, tk, mk, rs, vl, cl, nb, al, wt, lg, wd, sn, lo, lt, lv, gk, gt, gf, gl, gs, gn, sl, ss, sb, pa, du, oft, bg, av, tt) v1) ∧ (∀ post : Int32 → SY → Prop, post w v' → wpY_end post (nI n, nI m, st, bo, bs, pr, tk, mk, ot, vl, rs, al, wt, so, sq, go, mo, cl, wd, nt, fr, tw, tx, gr, ge, g1, g2, g3, sv, sb, lf, pa, du, av, bg, oft, se, tt, cp) v1) := by
  rcases ra_has (mk := mk) (vl := vl) (cl := cl) (wt := wt) (wd := wd) (du := du) (oft := oft) (bg := bg) (av := av) (cp := cp) (x := v1) h with ⟨s, hs, rfl, hl, pX, pY⟩ | ⟨pX, pY⟩
  · obtain ⟨c', m', n', st', pt', rs', nb', mo', nt', fr', tw', tx', gr', pa', ss', sv', se', du', tt', sn', lo', hR', -, hX, hY⟩ := ra_ends (mk := mk) (vl := vl) (cl := cl) (wt := wt) (wd := wd) (du := du) (oft := oft) (bg := bg) (av := av) (cp := cp) hB h hs hl
    refine ⟨1, _, _, ra_in (mk := mk) (vl := vl) (cl := cl) (wt := wt) (wd := wd) (du := du') (oft := oft) (bg := bg) (av := av) (cp := cp) hR', fun post hp => ?_, fun post hp => ?_⟩
    · simp only [wpX_end]
      exact pX _ (br_f (by decide) (hX _ hp))
    · simp only [wpY_end]
      exact pY _ (br_f (by decide) (hY _ hp))
  · refine ⟨0, _, _, ra_RR_mono (ra_in (mk := mk) (vl := vl) (cl := cl) (wt := wt) (wd := wd) (du := du) (oft := oft) (bg := bg) (av := av) (cp := cp) h) (by omega), fun post hp => ?_, fun post hp => ?_⟩
    · simp only [wpX_end]
      exact pX _ (br_t rfl hp)
    · simp only [wpY_end]
      exact pY _ (br_t rfl hp)
theorem ra_leave (hB : B + 20 ≤ 2 ^ 26) (h : ra_R B c m n st pr tk rs al tt pa bs sb ep pt nb lg sn lo lt lv gk gt gf gl gs gn sl ss bo ot so sq go mo nt fr tw tx gr ge g1 g2 g3 sv lf se) : ∃ (w : Int32) (u' : SX) (v' : SY), ra_RR (B + 11) u' v' ∧ (∀ post : Int32 → SX → Prop, post w u' → wpX_leave post (lN c, ep, st, pt, bs, pr, tk, mk, rs, vl, cl, nb, al, wt, lg, wd, sn, lo, lt, lv, gk, gt, gf, gl, gs, gn, sl, ss, sb, pa, du, oft, bg, av, tt)) ∧ (∀ post : Int32 → SY → Prop, post w v' → wpY_leave post (nI n, nI m, st, bo, bs, pr, tk, mk, ot, vl, rs, al, wt, so, sq, go, mo, cl, wd, nt, fr, tw, tx, gr, ge, g1, g2, g3, sv, sb, lf, pa, du, av, bg, oft, se, tt, cp)) := by
  rcases ra_run_both (mk := mk) (vl := vl) (cl := cl) (wt := wt) (wd := wd) (du := du) (oft := oft) (bg := bg) (av := av) (cp := cp) (by omega) h with ⟨rX, rY⟩ | ⟨r, hr, hr1, rX, rY⟩
  · refine ⟨-1, _, _, ra_RR_mono (ra_in (mk := mk) (vl := vl) (cl := cl) (wt := wt) (wd := wd) (du := du) (oft := oft) (bg := bg) (av := av) (cp := cp) h) (by omega), fun post hp => ?_, fun post hp => ?_⟩
    · simp only [wpX_leave]
      exact rX _ (br_f (by decide) hp)
    · simp only [wpY_leave]
      exact rY _ (br_f (by decide) hp)
  · have rl : st r ≠ 0 := by rw [hr1]; decide
    have yr : 16 * (bo r - 1) + nI r = ep r := ra_E_y h.1 hr rl
    obtain ⟨c', m', n', st', pt', rs', nb', mo', nt', fr', tw', tx', gr', pa', ss', sv', se', du', tt', sn', lo', hR', -, hX, hY⟩ := ra_ends (mk := mk) (vl := vl) (cl := cl) (wt := wt) (wd := wd) (du := du) (oft := oft) (bg := bg) (av := av) (cp := cp) hB h hr rl
    refine ⟨ep r, _, _, ra_in (mk := mk) (vl := vl) (cl := cl) (wt := wt) (wd := wd) (du := du') (oft := oft) (bg := bg) (av := av) (cp := cp) hR', fun post hp => ?_, fun post hp => ?_⟩
    · simp only [wpX_leave]
      refine rX _ (br_t (nI_pos' (by omega)) ⟨vp_in_nI hr (by decide), ?_⟩)
      rw [ra_c (show r < 1000 by omega)]
      exact nm_e (hX _ hp)
    · simp only [wpY_leave]
      refine rY _ (br_t (nI_pos' (by omega)) ?_)
      simp (disch := omega) only [wpY_endpoint, yr, not_true, not_false_iff, true_implies, false_implies, implies_true, true_and, and_true, forall_eq, eq_self, ra_i, ra_c, ra_m3, ra_m4, ra_m16, ra_4m, ra_14m, ra_16m, nI_add, nI_1, lN_1, ra_p2, ra_2p, ra_n0, ra_p0, ra_q0, ra_q1, ra_q2, ra_q3, ra_n3, ra_n4, ra_n10, ra_n14, ra_n16, ra_n30, ra_n140, ra_y3, ra_y4, ra_y10, ra_y14, ra_y16, ra_y30, ra_y140]
      exact hY _ hp
theorem ra_note {v1 : Int32} (hB : B ≤ 2 ^ 26) (h : ra_R B c m n st pr tk rs al tt pa bs sb ep pt nb lg sn lo lt lv gk gt gf gl gs gn sl ss bo ot so sq go mo nt fr tw tx gr ge g1 g2 g3 sv lf se) : ∃ (w : Int32) (u' : SX) (v' : SY), ra_RR (B + 1) u' v' ∧ (∀ post : Int32 → SX → Prop, post w u' → wpX_note post (lN c, ep, st, pt, bs, pr, tk, mk, rs, vl, cl, nb, al, wt, lg, wd, sn, lo, lt, lv, gk, gt, gf, gl, gs, gn, sl, ss, sb, pa, du, oft, bg, av, tt) v1) ∧ (∀ post : Int32 → SY → Prop, post w v' → wpY_note post (nI n, nI m, st, bo, bs, pr, tk, mk, ot, vl, rs, al, wt, so, sq, go, mo, cl, wd, nt, fr, tw, tx, gr, ge, g1, g2, g3, sv, sb, lf, pa, du, av, bg, oft, se, tt, cp) v1) := by
  rcases ra_run_both (mk := mk) (vl := vl) (cl := cl) (wt := wt) (wd := wd) (du := du) (oft := oft) (bg := bg) (av := av) (cp := cp) hB h with ⟨rX, rY⟩ | ⟨r, hr, hr1, rX, rY⟩
  · refine ⟨-1, _, _, ra_RR_mono (ra_in (mk := mk) (vl := vl) (cl := cl) (wt := wt) (wd := wd) (du := du) (oft := oft) (bg := bg) (av := av) (cp := cp) h) (by omega), fun post hp => ?_, fun post hp => ?_⟩
    · simp only [wpX_note]
      refine rX _ ?_
      simp only [wpX_refusalToReach, wpX_refusal, ra_q1, ra_q5, not_false_iff, true_implies, false_implies, true_and]
      exact hp
    · simp only [wpY_note]
      exact rY _ (br_f (by decide) hp)
  · have rl : st r ≠ 0 := by rw [hr1]; decide
    rcases ra_ref1 (mk := mk) (vl := vl) (cl := cl) (wt := wt) (wd := wd) (du := du) (oft := oft) (bg := bg) (av := av) (cp := cp) hB h hr hr1 v1 with ⟨w, hw, hX, hY⟩ | ⟨s, hs, z, hl, he, ha, hX, hY⟩
    · have w0 : ¬ w = 0 := by rcases hw with rfl | rfl | rfl <;> decide
      refine ⟨w, _, _, ra_RR_mono (ra_in (mk := mk) (vl := vl) (cl := cl) (wt := wt) (wd := wd) (du := du) (oft := oft) (bg := bg) (av := av) (cp := cp) h) (by omega), fun post hp => ?_, fun post hp => ?_⟩
      · simp only [wpX_note]
        exact rX _ (hX _ (br_f w0 hp))
      · simp only [wpY_note]
        exact rY _ (br_t (nI_pos' (by omega)) (hY _ (br_f w0 hp)))
    · obtain ⟨u', v', hR, nX, nY⟩ := ra_notify (mk := mk) (vl := vl) (cl := cl) (wt := wt) (wd := wd) (du := du) (oft := oft) (bg := bg) (av := av) (cp := cp) (k := r) h hs hl (by omega) (fun _ => rl)
      refine ⟨0, u', v', hR, fun post hp => ?_, fun post hp => ?_⟩
      · obtain ⟨c', m', n', st', pr', bs', tk', mk', vl', cl', rs', al', wt', wd', tt', sb', pa', du', oft', bg', av', ep', pt', nb', lg', lt', lv', gk', gt', gf', gl', gs', gn', sl', ss', bo', ot', so', sq', go', mo', nt', fr', tw', tx', gr', ge', g1', g2', g3', sv', lf', se', cp', sn', lo', rfl, rfl, -⟩ := hR
        simp only [wpX_note]
        exact rX _ (hX _ (br_t rfl (xl_slotOf_s hs hl he ha (nX _ hp))))
      · obtain ⟨c', m', n', st', pr', bs', tk', mk', vl', cl', rs', al', wt', wd', tt', sb', pa', du', oft', bg', av', ep', pt', nb', lg', lt', lv', gk', gt', gf', gl', gs', gn', sl', ss', bo', ot', so', sq', go', mo', nt', fr', tw', tx', gr', ge', g1', g2', g3', sv', lf', se', cp', sn', lo', rfl, rfl, -⟩ := hR
        simp only [wpY_note]
        refine rY _ (br_t (nI_pos' (by omega)) (hY _ (br_t rfl ?_)))
        rw [ha]
        exact nY _ hp
theorem ra_alarm {v1 : Int32} (hB : B ≤ 2 ^ 26) (h : ra_R B c m n st pr tk rs al tt pa bs sb ep pt nb lg sn lo lt lv gk gt gf gl gs gn sl ss bo ot so sq go mo nt fr tw tx gr ge g1 g2 g3 sv lf se) : ∃ (w : Int32) (u' : SX) (v' : SY), ra_RR (B + 1) u' v' ∧ (∀ post : Int32 → SX → Prop, post w u' → wpX_alarm post (lN c, ep, st, pt, bs, pr, tk, mk, rs, vl, cl, nb, al, wt, lg, wd, sn, lo, lt, lv, gk, gt, gf, gl, gs, gn, sl, ss, sb, pa, du, oft, bg, av, tt) v1) ∧ (∀ post : Int32 → SY → Prop, post w v' → wpY_alarm post (nI n, nI m, st, bo, bs, pr, tk, mk, ot, vl, rs, al, wt, so, sq, go, mo, cl, wd, nt, fr, tw, tx, gr, ge, g1, g2, g3, sv, sb, lf, pa, du, av, bg, oft, se, tt, cp) v1) := by
  rcases ra_run_both (mk := mk) (vl := vl) (cl := cl) (wt := wt) (wd := wd) (du := du) (oft := oft) (bg := bg) (av := av) (cp := cp) hB h with ⟨rX, rY⟩ | ⟨r, hr, hr1, rX, rY⟩
  · refine ⟨-1, _, _, ra_RR_mono (ra_in (mk := mk) (vl := vl) (cl := cl) (wt := wt) (wd := wd) (du := du) (oft := oft) (bg := bg) (av := av) (cp := cp) h) (by omega), fun post hp => ?_, fun post hp => ?_⟩
    · simp only [wpX_alarm]
      exact rX _ (br_t (by decide) hp)
    · simp only [wpY_alarm]
      exact rY _ (br_t (by decide) hp)
  · by_cases good : ¬ v1 < 0 ∧ v1 ≤ 100
    · obtain ⟨a1, a2⟩ := good
      obtain ⟨a, ha, rfl⟩ := nI_of a1
      have a100 : a ≤ 100 := (nI_leI (a := a) (b := 100) ha (by omega)).mp a2
      refine ⟨al r, _, _, ra_RR_mono (ra_in (mk := mk) (vl := vl) (cl := cl) (wt := wt) (wd := wd) (du := du) (oft := oft) (bg := bg) (av := av) (cp := cp) (ra_R_al (s := r) (p := a) h a100)) (by omega), fun post hp => ?_, fun post hp => ?_⟩
      · simp only [wpX_alarm]
        refine rX _ (br_f (nI_pos (by omega)) (br_f a1 (br_t a2 ?_)))
        simp (disch := omega) only [not_true, not_false_iff, true_implies, false_implies, implies_true, true_and, and_true, forall_eq, eq_self, ra_i, ra_c, ra_m3, ra_m4, ra_m16, ra_4m, ra_14m, ra_16m, nI_add, nI_1, lN_1, ra_p2, ra_2p, ra_n0, ra_p0, ra_q0, ra_q1, ra_q2, ra_q3, ra_n3, ra_n4, ra_n10, ra_n14, ra_n16, ra_n30, ra_n140, ra_y3, ra_y4, ra_y10, ra_y14, ra_y16, ra_y30, ra_y140]
        exact hp
      · simp only [wpY_alarm]
        refine rY _ (br_f (nI_pos (by omega)) (yl_within (fun y => absurd y (fun z => z.elim a1 (Int32.not_lt.mpr a2))) (fun _ _ => br_f (by decide) ?_)))
        simp (disch := omega) only [not_true, not_false_iff, true_implies, false_implies, implies_true, true_and, and_true, forall_eq, eq_self, ra_i, ra_c, ra_m3, ra_m4, ra_m16, ra_4m, ra_14m, ra_16m, nI_add, nI_1, lN_1, ra_p2, ra_2p, ra_n0, ra_p0, ra_q0, ra_q1, ra_q2, ra_q3, ra_n3, ra_n4, ra_n10, ra_n14, ra_n16, ra_n30, ra_n140, ra_y3, ra_y4, ra_y10, ra_y14, ra_y16, ra_y30, ra_y140]
        exact hp
    · refine ⟨-1, _, _, ra_RR_mono (ra_in (mk := mk) (vl := vl) (cl := cl) (wt := wt) (wd := wd) (du := du) (oft := oft) (bg := bg) (av := av) (cp := cp) h) (by omega), fun post hp => ?_, fun post hp => ?_⟩
      · simp only [wpX_alarm]
        exact rX _ (br_f (nI_pos (by omega)) (br_c (fun _ => hp) (fun a1 => br_c (fun a2 => absurd ⟨a1, a2⟩ good) (fun _ => hp))))
      · simp only [wpY_alarm]
        exact rY _ (br_f (nI_pos (by omega)) (yl_within (fun _ => br_t rfl hp) (fun a1 a2 => absurd ⟨a1, Int32.not_lt.mp a2⟩ good)))
theorem yl_beat_skip {r k q : Nat} {post : Int32 → SY → Prop} (hr : r < 10) (hrl : st r ≠ 0) (hE : ra_E B st ep bo) (hk : k < 3) (hn : ¬ (sv k = 1 ∧ se k = ep r)) (h : wY_beat_13 post (nI r) (nI n) (nI m) st bo bs pr tk mk ot vl rs al wt so sq go mo cl wd nt fr tw tx gr ge g1 g2 g3 sv sb lf pa du av bg oft se tt cp q (nI (k + 1))) : wY_beat_13 post (nI r) (nI n) (nI m) st bo bs pr tk mk ot vl rs al wt so sq go mo cl wd nt fr tw tx gr ge g1 g2 g3 sv sb lf pa du av bg oft se tt cp (q + 1) (nI k) := by
  have yr := ra_E_y hE hr hrl
  rw [wY_beat_13]
  by_cases a : sv k = 1
  · have b : ¬ se k = ep r := fun z => hn ⟨a, z⟩
    simp (disch := omega) only [a, wpY_endpoint, yr, b, not_true, not_false_iff, true_implies, false_implies, implies_true, true_and, and_true, forall_eq, eq_self, ra_i, ra_c, ra_m3, ra_m4, ra_m16, ra_4m, ra_14m, ra_16m, nI_add, nI_1, lN_1, ra_p2, ra_2p, ra_n0, ra_p0, ra_q0, ra_q1, ra_q2, ra_q3, ra_n3, ra_n4, ra_n10, ra_n14, ra_n16, ra_n30, ra_n140, ra_y3, ra_y4, ra_y10, ra_y14, ra_y16, ra_y30, ra_y140]
    exact h
  · simp (disch := omega) only [a, not_true, not_false_iff, true_implies, false_implies, implies_true, true_and, and_true, forall_eq, eq_self, ra_i, ra_c, ra_m3, ra_m4, ra_m16, ra_4m, ra_14m, ra_16m, nI_add, nI_1, lN_1, ra_p2, ra_2p, ra_n0, ra_p0, ra_q0, ra_q1, ra_q2, ra_q3, ra_n3, ra_n4, ra_n10, ra_n14, ra_n16, ra_n30, ra_n140, ra_y3, ra_y4, ra_y10, ra_y14, ra_y16, ra_y30, ra_y140]
    exact h
theorem ra_beat (hB : B ≤ 2 ^ 26) (h : ra_R B c m n st pr tk rs al tt pa bs sb ep pt nb lg sn lo lt lv gk gt gf gl gs gn sl ss bo ot so sq go mo nt fr tw tx gr ge g1 g2 g3 sv lf se) : ∃ (w : Int32) (u' : SX) (v' : SY), ra_RR (B + 1) u' v' ∧ (∀ post : Int32 → SX → Prop, post w u' → wpX_beat post (lN c, ep, st, pt, bs, pr, tk, mk, rs, vl, cl, nb, al, wt, lg, wd, sn, lo, lt, lv, gk, gt, gf, gl, gs, gn, sl, ss, sb, pa, du, oft, bg, av, tt)) ∧ (∀ post : Int32 → SY → Prop, post w v' → wpY_beat post (nI n, nI m, st, bo, bs, pr, tk, mk, ot, vl, rs, al, wt, so, sq, go, mo, cl, wd, nt, fr, tw, tx, gr, ge, g1, g2, g3, sv, sb, lf, pa, du, av, bg, oft, se, tt, cp)) := by
  rcases ra_run_both (mk := mk) (vl := vl) (cl := cl) (wt := wt) (wd := wd) (du := du) (oft := oft) (bg := bg) (av := av) (cp := cp) hB h with ⟨rX, rY⟩ | ⟨r, hr, hr1, rX, rY⟩
  · refine ⟨-1, _, _, ra_RR_mono (ra_in (mk := mk) (vl := vl) (cl := cl) (wt := wt) (wd := wd) (du := du) (oft := oft) (bg := bg) (av := av) (cp := cp) h) (by omega), fun post hp => ?_, fun post hp => ?_⟩
    · simp only [wpX_beat]
      exact rX _ (br_f (by decide) hp)
    · simp only [wpY_beat]
      exact rY _ (br_f (by decide) hp)
  · have rl : st r ≠ 0 := by rw [hr1]; decide
    have hE := h.1
    have yr : 16 * (bo r - 1) + nI r = ep r := ra_E_y hE hr rl
    have key := fun k hk => ra_key (k := k) hB hE h.2.2.2.2.2.2.2.1 hr hk
    rcases ra_first (fun k => sv k = 1 ∧ se k = ep r) 3 with none | ⟨k, hk, hf, hn⟩
    · refine ⟨-6, _, _, ra_RR_mono (ra_in (mk := mk) (vl := vl) (cl := cl) (wt := wt) (wd := wd) (du := du) (oft := oft) (bg := bg) (av := av) (cp := cp) h) (by omega), fun post hp => ?_, fun post hp => ?_⟩
      · simp only [wpX_beat]
        exact rX _ (br_t (nI_pos' (by omega)) (xl_serviceOf_n (fun k hk z => none k hk ((key k hk).mpr z)) (br_f (by decide) hp)))
      · simp only [wpY_beat]
        refine rY _ (br_t (nI_pos' (by omega)) (ra_run (fun q i => wY_beat_13 post (nI r) (nI n) (nI m) st bo bs pr tk mk ot vl rs al wt so sq go mo cl wd nt fr tw tx gr ge g1 g2 g3 sv sb lf pa du av bg oft se tt cp q (nI i)) 3 (fun q => ?_) (fun q i hi ih => yl_beat_skip hr rl hE hi (none i hi) ih)))
        simp (disch := omega) only [wY_beat_13, not_true, not_false_iff, true_implies, false_implies, implies_true, true_and, and_true, forall_eq, eq_self, ra_i, ra_c, ra_m3, ra_m4, ra_m16, ra_4m, ra_14m, ra_16m, nI_add, nI_1, lN_1, ra_p2, ra_2p, ra_n0, ra_p0, ra_q0, ra_q1, ra_q2, ra_q3, ra_n3, ra_n4, ra_n10, ra_n14, ra_n16, ra_n30, ra_n140, ra_y3, ra_y4, ra_y10, ra_y14, ra_y16, ra_y30, ra_y140]
        exact hp
    · obtain ⟨f1, f2⟩ := (key k hk).mp hf
      refine ⟨nI k, _, _, ra_RR_mono (ra_in (mk := mk) (vl := vl) (cl := cl) (wt := wt) (wd := wd) (du := du) (oft := oft) (bg := bg) (av := upd av k (tt 0)) (cp := cp) h) (by omega), fun post hp => ?_, fun post hp => ?_⟩
      · simp only [wpX_beat]
        refine rX _ (br_t (nI_pos' (by omega)) (xl_serviceOf_s hk f1 f2 (fun j hj z => hn j hj ((key j (by omega)).mpr z)) (br_t (nI_pos' (by omega)) ?_)))
        simp (disch := omega) only [not_true, not_false_iff, true_implies, false_implies, implies_true, true_and, and_true, forall_eq, eq_self, ra_i, ra_c, ra_m3, ra_m4, ra_m16, ra_4m, ra_14m, ra_16m, nI_add, nI_1, lN_1, ra_p2, ra_2p, ra_n0, ra_p0, ra_q0, ra_q1, ra_q2, ra_q3, ra_n3, ra_n4, ra_n10, ra_n14, ra_n16, ra_n30, ra_n140, ra_y3, ra_y4, ra_y10, ra_y14, ra_y16, ra_y30, ra_y140]
        exact hp
      · simp only [wpY_beat]
        refine rY _ (br_t (nI_pos' (by omega)) (ra_run (fun q i => wY_beat_13 post (nI r) (nI n) (nI m) st bo bs pr tk mk ot vl rs al wt so sq go mo cl wd nt fr tw tx gr ge g1 g2 g3 sv sb lf pa du av bg oft se tt cp q (nI i)) k (fun q => ?_) (fun q i hi ih => yl_beat_skip hr rl hE (by omega) (hn i hi) ih)))
        simp (disch := omega) only [wY_beat_13, hf.1, hf.2, wpY_endpoint, yr, not_true, not_false_iff, true_implies, false_implies, implies_true, true_and, and_true, forall_eq, eq_self, ra_i, ra_c, ra_m3, ra_m4, ra_m16, ra_4m, ra_14m, ra_16m, nI_add, nI_1, lN_1, ra_p2, ra_2p, ra_n0, ra_p0, ra_q0, ra_q1, ra_q2, ra_q3, ra_n3, ra_n4, ra_n10, ra_n14, ra_n16, ra_n30, ra_n140, ra_y3, ra_y4, ra_y10, ra_y14, ra_y16, ra_y30, ra_y140]
        exact hp
theorem ra_watch {v1 : Int32} (hB : B ≤ 2 ^ 26) (h : ra_R B c m n st pr tk rs al tt pa bs sb ep pt nb lg sn lo lt lv gk gt gf gl gs gn sl ss bo ot so sq go mo nt fr tw tx gr ge g1 g2 g3 sv lf se) : ∃ (w : Int32) (u' : SX) (v' : SY), ra_RR (B + 1) u' v' ∧ (∀ post : Int32 → SX → Prop, post w u' → wpX_watch post (lN c, ep, st, pt, bs, pr, tk, mk, rs, vl, cl, nb, al, wt, lg, wd, sn, lo, lt, lv, gk, gt, gf, gl, gs, gn, sl, ss, sb, pa, du, oft, bg, av, tt) v1) ∧ (∀ post : Int32 → SY → Prop, post w v' → wpY_watch post (nI n, nI m, st, bo, bs, pr, tk, mk, ot, vl, rs, al, wt, so, sq, go, mo, cl, wd, nt, fr, tw, tx, gr, ge, g1, g2, g3, sv, sb, lf, pa, du, av, bg, oft, se, tt, cp) v1) := by
  rcases ra_run_both (mk := mk) (vl := vl) (cl := cl) (wt := wt) (wd := wd) (du := du) (oft := oft) (bg := bg) (av := av) (cp := cp) hB h with ⟨rX, rY⟩ | ⟨r, hr, hr1, rX, rY⟩
  · refine ⟨-1, _, _, ra_RR_mono (ra_in (mk := mk) (vl := vl) (cl := cl) (wt := wt) (wd := wd) (du := du) (oft := oft) (bg := bg) (av := av) (cp := cp) h) (by omega), fun post hp => ?_, fun post hp => ?_⟩
    · simp only [wpX_watch]
      exact rX _ (br_t (by decide) hp)
    · simp only [wpY_watch]
      exact rY _ (br_t (by decide) hp)
  · have e23 : ((2 : Int32) < v1) = ((3 : Int32) ≤ v1) := ra_ll _ (by decide)
    by_cases good : ¬ v1 < 0 ∧ ¬ 3 ≤ v1
    · obtain ⟨a1, a2⟩ := good
      refine ⟨0, _, _, ra_RR_mono (ra_in (mk := mk) (vl := vl) (cl := cl) (wt := upd wt r (wt r ||| ((1 : Int32) <<< (v1 &&& 31)))) (wd := wd) (du := du) (oft := oft) (bg := bg) (av := av) (cp := cp) h) (by omega), fun post hp => ?_, fun post hp => ?_⟩
      · simp only [wpX_watch]
        refine rX _ (br_f (nI_pos (by omega)) (xl_isS (fun y => absurd y (fun z => z.elim a1 a2)) (fun _ _ => br_f (by decide) ?_)))
        simp (disch := omega) only [not_true, not_false_iff, true_implies, false_implies, implies_true, true_and, and_true, forall_eq, eq_self, ra_i, ra_c, ra_m3, ra_m4, ra_m16, ra_4m, ra_14m, ra_16m, nI_add, nI_1, lN_1, ra_p2, ra_2p, ra_n0, ra_p0, ra_q0, ra_q1, ra_q2, ra_q3, ra_n3, ra_n4, ra_n10, ra_n14, ra_n16, ra_n30, ra_n140, ra_y3, ra_y4, ra_y10, ra_y14, ra_y16, ra_y30, ra_y140]
        exact hp
      · simp only [wpY_watch]
        refine rY _ (br_f (nI_pos (by omega)) (yl_within (fun y => absurd y (fun z => z.elim a1 (by rw [e23]; exact a2))) (fun _ _ => br_f (by decide) ?_)))
        simp (disch := omega) only [not_true, not_false_iff, true_implies, false_implies, implies_true, true_and, and_true, forall_eq, eq_self, ra_i, ra_c, ra_m3, ra_m4, ra_m16, ra_4m, ra_14m, ra_16m, nI_add, nI_1, lN_1, ra_p2, ra_2p, ra_n0, ra_p0, ra_q0, ra_q1, ra_q2, ra_q3, ra_n3, ra_n4, ra_n10, ra_n14, ra_n16, ra_n30, ra_n140, ra_y3, ra_y4, ra_y10, ra_y14, ra_y16, ra_y30, ra_y140]
        exact hp
    · refine ⟨-1, _, _, ra_RR_mono (ra_in (mk := mk) (vl := vl) (cl := cl) (wt := wt) (wd := wd) (du := du) (oft := oft) (bg := bg) (av := av) (cp := cp) h) (by omega), fun post hp => ?_, fun post hp => ?_⟩
      · simp only [wpX_watch]
        exact rX _ (br_f (nI_pos (by omega)) (xl_isS (fun _ => br_t rfl hp) (fun a1 a2 => absurd ⟨a1, a2⟩ good)))
      · simp only [wpY_watch]
        exact rY _ (br_f (nI_pos (by omega)) (yl_within (fun _ => br_t rfl hp) (fun a1 a2 => absurd ⟨a1, by rw [← e23]; exact a2⟩ good)))
end
end
section
/-! the last calls -/
section
variable {B c m n : Nat} {st pr bs tk mk vl cl rs al wt wd tt sb pa du oft bg av ep pt nb lg lt lv gk gt gf gl gs gn sl ss bo ot so sq go mo nt fr tw tx gr ge g1 g2 g3 sv lf se cp : Nat → Int32} {sn lo : Nat → Int64}
theorem ra_R_S {pa' sl' ss' sv' lf' se' sb' : Nat → Int32} (h : ra_R B c m n st pr tk rs al tt pa bs sb ep pt nb lg sn lo lt lv gk gt gf gl gs gn sl ss bo ot so sq go mo nt fr tw tx gr ge g1 g2 g3 sv lf se) (hS : ra_S st ep pa' sl' ss' sv' lf' se' sb') : ra_R B c m n st pr tk rs al tt pa' bs sb' ep pt nb lg sn lo lt lv gk gt gf gl gs gn sl' ss' bo ot so sq go mo nt fr tw tx gr ge g1 g2 g3 sv' lf' se' := by
  obtain ⟨h1, h2, h3, h4, h5, h6, h7, h8, h9, h10, h11⟩ := h
  exact ⟨h1, h2, h3, h4, h5, h6, h7, hS, h9, h10, h11⟩
theorem ra_serve {v1 v2 v3 : Int32} (h : ra_R B c m n st pr tk rs al tt pa bs sb ep pt nb lg sn lo lt lv gk gt gf gl gs gn sl ss bo ot so sq go mo nt fr tw tx gr ge g1 g2 g3 sv lf se) : ∃ (w : Int32) (u' : SX) (v' : SY), ra_RR (B + 1) u' v' ∧ (∀ post : Int32 → SX → Prop, post w u' → wpX_serve post (lN c, ep, st, pt, bs, pr, tk, mk, rs, vl, cl, nb, al, wt, lg, wd, sn, lo, lt, lv, gk, gt, gf, gl, gs, gn, sl, ss, sb, pa, du, oft, bg, av, tt) v1 v2 v3) ∧ (∀ post : Int32 → SY → Prop, post w v' → wpY_serve post (nI n, nI m, st, bo, bs, pr, tk, mk, ot, vl, rs, al, wt, so, sq, go, mo, cl, wd, nt, fr, tw, tx, gr, ge, g1, g2, g3, sv, sb, lf, pa, du, av, bg, oft, se, tt, cp) v1 v2 v3) := by
  have hS := h.2.2.2.2.2.2.2.1
  have e23 : ((2 : Int32) < v1) = ((3 : Int32) ≤ v1) := ra_ll _ (by decide)
  by_cases good : ¬ v1 < 0 ∧ ¬ 3 ≤ v1 ∧ ¬ v2 < 0 ∧ ¬ 3 < v2 ∧ ¬ v3 < 2 ∧ v3 ≤ 50
  · obtain ⟨a1, a2, a3, a4, a5, a6⟩ := good
    obtain ⟨k, hk, rfl⟩ := ra_nat (n := 3) (by omega) a1 a2
    have b1 : ¬ (2 : Int32) < nI k := by rw [e23]; exact a2
    have a4' : ¬ (4 : Int32) ≤ v2 := by rw [← ra_ll _ (by decide : (4 : Int32).toInt = (3 : Int32).toInt + 1)]; exact a4
    obtain ⟨p, hp4, rfl⟩ := ra_nat (n := 4) (by omega) a3 a4'
    have b6 : ¬ (50 : Int32) < v3 := Int32.not_lt.mpr a6
    have v30 : v3 ≠ 0 := fun z => a5 (by rw [z]; decide)
    by_cases l : sl k = 0
    · have l' : sv k ≤ 0 := by
        rcases hS.1 k hk with ⟨y, -⟩ | ⟨y, -⟩
        · rw [y]; decide
        · exact absurd l y
      refine ⟨0, _, _, ra_RR_mono (ra_in (mk := mk) (vl := vl) (cl := cl) (wt := wt) (wd := wd) (du := upd du k (tt 0 + 1)) (oft := upd oft k 0) (bg := bg) (av := av) (cp := cp) (ra_R_S h (ra_S_serve (k := k) (b := p) (x := v3) hS v30 (by omega)))) (by omega), fun post hp => ?_, fun post hp => ?_⟩
      · simp only [wpX_serve]
        refine xl_isS (fun y => absurd y (fun z => z.elim a1 a2)) (fun _ _ => br_f (by decide) (br_f a3 (br_f a4 (br_f a5 (br_t a6 ?_)))))
        simp (disch := omega) only [l, not_true, not_false_iff, true_implies, false_implies, implies_true, true_and, and_true, forall_eq, eq_self, ra_i, ra_c, ra_m3, ra_m4, ra_m16, ra_4m, ra_14m, ra_16m, nI_add, nI_1, lN_1, ra_p2, ra_2p, ra_n0, ra_p0, ra_q0, ra_q1, ra_q2, ra_q3, ra_n3, ra_n4, ra_n10, ra_n14, ra_n16, ra_n30, ra_n140, ra_y3, ra_y4, ra_y10, ra_y14, ra_y16, ra_y30, ra_y140]
        exact hp
      · simp only [wpY_serve]
        refine yl_within (fun y => absurd y (fun z => z.elim a1 b1)) (fun _ _ => br_f (by decide) (yl_within (fun y => absurd y (fun z => z.elim a3 a4)) (fun _ _ => br_f (by decide) (yl_within (fun y => absurd y (fun z => z.elim a5 b6)) (fun _ _ => br_f (by decide) ?_)))))
        simp (disch := omega) only [l', not_true, not_false_iff, true_implies, false_implies, implies_true, true_and, and_true, forall_eq, eq_self, ra_i, ra_c, ra_m3, ra_m4, ra_m16, ra_4m, ra_14m, ra_16m, nI_add, nI_1, lN_1, ra_p2, ra_2p, ra_n0, ra_p0, ra_q0, ra_q1, ra_q2, ra_q3, ra_n3, ra_n4, ra_n10, ra_n14, ra_n16, ra_n30, ra_n140, ra_y3, ra_y4, ra_y10, ra_y14, ra_y16, ra_y30, ra_y140]
        exact hp
    · have l' : ¬ sv k ≤ 0 := by
        rcases hS.1 k hk with ⟨-, y⟩ | ⟨-, -, -, ⟨y, -⟩ | ⟨y, -⟩⟩
        · exact absurd y l
        · rw [y]; decide
        · rw [y]; decide
      refine ⟨-7, _, _, ra_RR_mono (ra_in (mk := mk) (vl := vl) (cl := cl) (wt := wt) (wd := wd) (du := du) (oft := oft) (bg := bg) (av := av) (cp := cp) h) (by omega), fun post hp => ?_, fun post hp => ?_⟩
      · simp only [wpX_serve]
        refine xl_isS (fun y => absurd y (fun z => z.elim a1 a2)) (fun _ _ => br_f (by decide) (br_f a3 (br_f a4 (br_f a5 (br_t a6 ?_)))))
        simp (disch := omega) only [l, not_true, not_false_iff, true_implies, false_implies, implies_true, true_and, and_true, forall_eq, eq_self, ra_i, ra_c, ra_m3, ra_m4, ra_m16, ra_4m, ra_14m, ra_16m, nI_add, nI_1, lN_1, ra_p2, ra_2p, ra_n0, ra_p0, ra_q0, ra_q1, ra_q2, ra_q3, ra_n3, ra_n4, ra_n10, ra_n14, ra_n16, ra_n30, ra_n140, ra_y3, ra_y4, ra_y10, ra_y14, ra_y16, ra_y30, ra_y140]
        exact hp
      · simp only [wpY_serve]
        refine yl_within (fun y => absurd y (fun z => z.elim a1 b1)) (fun _ _ => br_f (by decide) (yl_within (fun y => absurd y (fun z => z.elim a3 a4)) (fun _ _ => br_f (by decide) (yl_within (fun y => absurd y (fun z => z.elim a5 b6)) (fun _ _ => br_f (by decide) ?_)))))
        simp (disch := omega) only [l', not_true, not_false_iff, true_implies, false_implies, implies_true, true_and, and_true, forall_eq, eq_self, ra_i, ra_c, ra_m3, ra_m4, ra_m16, ra_4m, ra_14m, ra_16m, nI_add, nI_1, lN_1, ra_p2, ra_2p, ra_n0, ra_p0, ra_q0, ra_q1, ra_q2, ra_q3, ra_n3, ra_n4, ra_n10, ra_n14, ra_n16, ra_n30, ra_n140, ra_y3, ra_y4, ra_y10, ra_y14, ra_y16, ra_y30, ra_y140]
        exact hp
  · refine ⟨-1, _, _, ra_RR_mono (ra_in (mk := mk) (vl := vl) (cl := cl) (wt := wt) (wd := wd) (du := du) (oft := oft) (bg := bg) (av := av) (cp := cp) h) (by omega), fun post hp => ?_, fun post hp => ?_⟩
    · simp only [wpX_serve]
      exact xl_isS (fun _ => br_t rfl hp) (fun a1 a2 => br_f (by decide) (br_c (fun _ => hp) (fun a3 => br_c (fun _ => hp) (fun a4 => br_c (fun _ => hp) (fun a5 => br_c (fun a6 => absurd ⟨a1, a2, a3, a4, a5, a6⟩ good) (fun _ => hp))))))
    · simp only [wpY_serve]
      exact yl_within (fun _ => br_t rfl hp) (fun a1 a2 => br_f (by decide) (yl_within (fun _ => br_t rfl hp) (fun a3 a4 => br_f (by decide) (yl_within (fun _ => br_t rfl hp) (fun a5 a6 => absurd ⟨a1, by rw [← e23]; exact a2, a3, a4, a5, Int32.not_lt.mp a6⟩ good)))))
theorem ra_close {v1 : Int32} (h : ra_R B c m n st pr tk rs al tt pa bs sb ep pt nb lg sn lo lt lv gk gt gf gl gs gn sl ss bo ot so sq go mo nt fr tw tx gr ge g1 g2 g3 sv lf se) : ∃ (w : Int32) (u' : SX) (v' : SY), ra_RR (B + 1) u' v' ∧ (∀ post : Int32 → SX → Prop, post w u' → wpX_close post (lN c, ep, st, pt, bs, pr, tk, mk, rs, vl, cl, nb, al, wt, lg, wd, sn, lo, lt, lv, gk, gt, gf, gl, gs, gn, sl, ss, sb, pa, du, oft, bg, av, tt) v1) ∧ (∀ post : Int32 → SY → Prop, post w v' → wpY_close post (nI n, nI m, st, bo, bs, pr, tk, mk, ot, vl, rs, al, wt, so, sq, go, mo, cl, wd, nt, fr, tw, tx, gr, ge, g1, g2, g3, sv, sb, lf, pa, du, av, bg, oft, se, tt, cp) v1) := by
  have hS := h.2.2.2.2.2.2.2.1
  have e23 : ((2 : Int32) < v1) = ((3 : Int32) ≤ v1) := ra_ll _ (by decide)
  by_cases good : ¬ v1 < 0 ∧ ¬ 3 ≤ v1
  · obtain ⟨a1, a2⟩ := good
    obtain ⟨k, hk, rfl⟩ := ra_nat (n := 3) (by omega) a1 a2
    have b1 : ¬ (2 : Int32) < nI k := by rw [e23]; exact a2
    by_cases l : sl k = 0
    · have l' : sv k = 0 := by
        rcases hS.1 k hk with ⟨y, -⟩ | ⟨y, -⟩
        · exact y
        · exact absurd l y
      refine ⟨0, _, _, ra_RR_mono (ra_in (mk := mk) (vl := vl) (cl := cl) (wt := wt) (wd := wd) (du := du) (oft := oft) (bg := bg) (av := av) (cp := cp) h) (by omega), fun post hp => ?_, fun post hp => ?_⟩
      · simp only [wpX_close]
        refine xl_isS (fun y => absurd y (fun z => z.elim a1 a2)) (fun _ _ => br_f (by decide) ?_)
        simp (disch := omega) only [l, not_true, not_false_iff, true_implies, false_implies, implies_true, true_and, and_true, forall_eq, eq_self, ra_i, ra_c, ra_m3, ra_m4, ra_m16, ra_4m, ra_14m, ra_16m, nI_add, nI_1, lN_1, ra_p2, ra_2p, ra_n0, ra_p0, ra_q0, ra_q1, ra_q2, ra_q3, ra_n3, ra_n4, ra_n10, ra_n14, ra_n16, ra_n30, ra_n140, ra_y3, ra_y4, ra_y10, ra_y14, ra_y16, ra_y30, ra_y140]
        exact hp
      · simp only [wpY_close]
        refine yl_within (fun y => absurd y (fun z => z.elim a1 b1)) (fun _ _ => br_f (by decide) ?_)
        simp (disch := omega) only [l', not_true, not_false_iff, true_implies, false_implies, implies_true, true_and, and_true, forall_eq, eq_self, ra_i, ra_c, ra_m3, ra_m4, ra_m16, ra_4m, ra_14m, ra_16m, nI_add, nI_1, lN_1, ra_p2, ra_2p, ra_n0, ra_p0, ra_q0, ra_q1, ra_q2, ra_q3, ra_n3, ra_n4, ra_n10, ra_n14, ra_n16, ra_n30, ra_n140, ra_y3, ra_y4, ra_y10, ra_y14, ra_y16, ra_y30, ra_y140]
        exact hp
    · have l' : ¬ sv k = 0 := by
        rcases hS.1 k hk with ⟨-, y⟩ | ⟨-, -, -, ⟨y, -⟩ | ⟨y, -⟩⟩
        · exact absurd y l
        · rw [y]; decide
        · rw [y]; decide
      refine ⟨1, _, _, ra_RR_mono (ra_in (mk := mk) (vl := vl) (cl := cl) (wt := wt) (wd := wd) (du := du) (oft := oft) (bg := bg) (av := av) (cp := cp) (ra_R_S h (ra_S_close (k := k) hS))) (by omega), fun post hp => ?_, fun post hp => ?_⟩
      · simp only [wpX_close]
        refine xl_isS (fun y => absurd y (fun z => z.elim a1 a2)) (fun _ _ => br_f (by decide) ?_)
        simp (disch := omega) only [l, not_true, not_false_iff, true_implies, false_implies, implies_true, true_and, and_true, forall_eq, eq_self, ra_i, ra_c, ra_m3, ra_m4, ra_m16, ra_4m, ra_14m, ra_16m, nI_add, nI_1, lN_1, ra_p2, ra_2p, ra_n0, ra_p0, ra_q0, ra_q1, ra_q2, ra_q3, ra_n3, ra_n4, ra_n10, ra_n14, ra_n16, ra_n30, ra_n140, ra_y3, ra_y4, ra_y10, ra_y14, ra_y16, ra_y30, ra_y140]
        exact hp
      · simp only [wpY_close]
        refine yl_within (fun y => absurd y (fun z => z.elim a1 b1)) (fun _ _ => br_f (by decide) ?_)
        simp (disch := omega) only [l', not_true, not_false_iff, true_implies, false_implies, implies_true, true_and, and_true, forall_eq, eq_self, ra_i, ra_c, ra_m3, ra_m4, ra_m16, ra_4m, ra_14m, ra_16m, nI_add, nI_1, lN_1, ra_p2, ra_2p, ra_n0, ra_p0, ra_q0, ra_q1, ra_q2, ra_q3, ra_n3, ra_n4, ra_n10, ra_n14, ra_n16, ra_n30, ra_n140, ra_y3, ra_y4, ra_y10, ra_y14, ra_y16, ra_y30, ra_y140]
        exact hp
  · refine ⟨0, _, _, ra_RR_mono (ra_in (mk := mk) (vl := vl) (cl := cl) (wt := wt) (wd := wd) (du := du) (oft := oft) (bg := bg) (av := av) (cp := cp) h) (by omega), fun post hp => ?_, fun post hp => ?_⟩
    · simp only [wpX_close]
      exact xl_isS (fun _ => br_t rfl hp) (fun a1 a2 => absurd ⟨a1, a2⟩ good)
    · simp only [wpY_close]
      exact yl_within (fun _ => br_t rfl hp) (fun a1 a2 => absurd ⟨a1, by rw [← e23]; exact a2⟩ good)
theorem ra_tick {v1 : Int32} (hB : B + 7000 ≤ 2 ^ 26) (h : ra_R B c m n st pr tk rs al tt pa bs sb ep pt nb lg sn lo lt lv gk gt gf gl gs gn sl ss bo ot so sq go mo nt fr tw tx gr ge g1 g2 g3 sv lf se) : ∃ (w : Int32) (u' : SX) (v' : SY), ra_RR (B + 6000) u' v' ∧ (∀ post : Int32 → SX → Prop, post w u' → wpX_tick post (lN c, ep, st, pt, bs, pr, tk, mk, rs, vl, cl, nb, al, wt, lg, wd, sn, lo, lt, lv, gk, gt, gf, gl, gs, gn, sl, ss, sb, pa, du, oft, bg, av, tt) v1) ∧ (∀ post : Int32 → SY → Prop, post w v' → wpY_tick post (nI n, nI m, st, bo, bs, pr, tk, mk, ot, vl, rs, al, wt, so, sq, go, mo, cl, wd, nt, fr, tw, tx, gr, ge, g1, g2, g3, sv, sb, lf, pa, du, av, bg, oft, se, tt, cp) v1) := by
  by_cases good : ¬ v1 < 1 ∧ v1 ≤ 100
  · obtain ⟨a1, a2⟩ := good
    obtain ⟨N, hN, rfl⟩ := nI_of (ra_lt1 a1)
    have n100 : N ≤ 100 := (nI_leI (a := N) (b := 100) hN (by omega)).mp a2
    obtain ⟨t, u', v', hR, hX, hY⟩ := ra_ticks n100 N 0 B _ _ _ _ _ _ _ mk vl cl _ _ wt wd _ _ _ du oft bg av _ _ _ _ _ _ _ _ _ _ _ _ _ _ _ _ _ _ _ _ _ _ _ _ _ _ _ _ _ _ _ _ cp _ _ (by omega) (by omega) h
    refine ⟨0 + t, u', v', ra_RR_mono hR (by omega), fun post hp => ?_, fun post hp => ?_⟩
    · simp only [wpX_tick]
      exact br_f a1 (br_t a2 ⟨N + 1, hX post 0 hp⟩)
    · simp only [wpY_tick]
      exact yl_within (fun y => absurd y (fun z => z.elim a1 (Int32.not_lt.mpr a2))) (fun _ _ => br_f (by decide) ⟨N + 1, hY post 0 hp⟩)
  · refine ⟨-1, _, _, ra_RR_mono (ra_in (mk := mk) (vl := vl) (cl := cl) (wt := wt) (wd := wd) (du := du) (oft := oft) (bg := bg) (av := av) (cp := cp) h) (by omega), fun post hp => ?_, fun post hp => ?_⟩
    · simp only [wpX_tick]
      exact br_c (fun _ => hp) (fun a1 => br_c (fun a2 => absurd ⟨a1, a2⟩ good) (fun _ => hp))
    · simp only [wpY_tick]
      exact yl_within (fun _ => br_t rfl hp) (fun a1 a2 => absurd ⟨a1, Int32.not_lt.mp a2⟩ good)
theorem ra_poke {v1 v2 v3 : Int32} (h : ra_R B c m n st pr tk rs al tt pa bs sb ep pt nb lg sn lo lt lv gk gt gf gl gs gn sl ss bo ot so sq go mo nt fr tw tx gr ge g1 g2 g3 sv lf se) : ∃ (w : Int32) (u' : SX) (v' : SY), ra_RR (B + 1) u' v' ∧ (∀ post : Int32 → SX → Prop, post w u' → wpX_poke post (lN c, ep, st, pt, bs, pr, tk, mk, rs, vl, cl, nb, al, wt, lg, wd, sn, lo, lt, lv, gk, gt, gf, gl, gs, gn, sl, ss, sb, pa, du, oft, bg, av, tt) v1 v2 v3) ∧ (∀ post : Int32 → SY → Prop, post w v' → wpY_poke post (nI n, nI m, st, bo, bs, pr, tk, mk, ot, vl, rs, al, wt, so, sq, go, mo, cl, wd, nt, fr, tw, tx, gr, ge, g1, g2, g3, sv, sb, lf, pa, du, av, bg, oft, se, tt, cp) v1 v2 v3) := by
  have e15 : ((15 : Int32) < v2) = ((16 : Int32) ≤ v2) := ra_ll _ (by decide)
  rcases ra_has (mk := mk) (vl := vl) (cl := cl) (wt := wt) (wd := wd) (du := du) (oft := oft) (bg := bg) (av := av) (cp := cp) (x := v1) h with ⟨s, hs, rfl, hl, pX, pY⟩ | ⟨pX, pY⟩
  · by_cases good : ¬ v2 < 0 ∧ ¬ 16 ≤ v2
    · obtain ⟨a1, a2⟩ := good
      obtain ⟨a, ha, rfl⟩ := ra_nat (n := 16) (by omega) a1 a2
      refine ⟨1, _, _, ra_RR_mono (ra_in (mk := mk) (vl := vl) (cl := cl) (wt := wt) (wd := upd wd (16 * s + a) v3) (du := du) (oft := oft) (bg := bg) (av := av) (cp := cp) h) (by omega), fun post hp => ?_, fun post hp => ?_⟩
      · simp only [wpX_poke]
        refine pX _ (br_f (by decide) (xl_isW (fun y => absurd y (fun z => z.elim a1 a2)) (fun _ _ => br_f (by decide) ?_)))
        simp (disch := omega) only [not_true, not_false_iff, true_implies, false_implies, implies_true, true_and, and_true, forall_eq, eq_self, ra_i, ra_c, ra_m3, ra_m4, ra_m16, ra_4m, ra_14m, ra_16m, nI_add, nI_1, lN_1, ra_p2, ra_2p, ra_n0, ra_p0, ra_q0, ra_q1, ra_q2, ra_q3, ra_n3, ra_n4, ra_n10, ra_n14, ra_n16, ra_n30, ra_n140, ra_y3, ra_y4, ra_y10, ra_y14, ra_y16, ra_y30, ra_y140]
        exact hp
      · simp only [wpY_poke]
        refine pY _ (br_f (by decide) (yl_within (fun y => absurd y (fun z => z.elim a1 (by rw [e15]; exact a2))) (fun _ _ => br_f (by decide) ?_)))
        simp (disch := omega) only [not_true, not_false_iff, true_implies, false_implies, implies_true, true_and, and_true, forall_eq, eq_self, ra_i, ra_c, ra_m3, ra_m4, ra_m16, ra_4m, ra_14m, ra_16m, nI_add, nI_1, lN_1, ra_p2, ra_2p, ra_n0, ra_p0, ra_q0, ra_q1, ra_q2, ra_q3, ra_n3, ra_n4, ra_n10, ra_n14, ra_n16, ra_n30, ra_n140, ra_y3, ra_y4, ra_y10, ra_y14, ra_y16, ra_y30, ra_y140]
        exact hp
    · refine ⟨0, _, _, ra_RR_mono (ra_in (mk := mk) (vl := vl) (cl := cl) (wt := wt) (wd := wd) (du := du) (oft := oft) (bg := bg) (av := av) (cp := cp) h) (by omega), fun post hp => ?_, fun post hp => ?_⟩
      · simp only [wpX_poke]
        exact pX _ (br_f (by decide) (xl_isW (fun _ => br_t rfl hp) (fun a1 a2 => absurd ⟨a1, a2⟩ good)))
      · simp only [wpY_poke]
        exact pY _ (br_f (by decide) (yl_within (fun _ => br_t rfl hp) (fun a1 a2 => absurd ⟨a1, by rw [← e15]; exact a2⟩ good)))
  · refine ⟨0, _, _, ra_RR_mono (ra_in (mk := mk) (vl := vl) (cl := cl) (wt := wt) (wd := wd) (du := du) (oft := oft) (bg := bg) (av := av) (cp := cp) h) (by omega), fun post hp => ?_, fun post hp => ?_⟩
    · simp only [wpX_poke]
      exact pX _ (br_t rfl hp)
    · simp only [wpY_poke]
      exact pY _ (br_t rfl hp)
theorem ra_memory {v1 v2 : Int32} (h : ra_R B c m n st pr tk rs al tt pa bs sb ep pt nb lg sn lo lt lv gk gt gf gl gs gn sl ss bo ot so sq go mo nt fr tw tx gr ge g1 g2 g3 sv lf se) : ∃ w : Int32, (∀ post : Int32 → Prop, post w → wpX_memory post (lN c, ep, st, pt, bs, pr, tk, mk, rs, vl, cl, nb, al, wt, lg, wd, sn, lo, lt, lv, gk, gt, gf, gl, gs, gn, sl, ss, sb, pa, du, oft, bg, av, tt) v1 v2) ∧ (∀ post : Int32 → Prop, post w → wpY_memory post (nI n, nI m, st, bo, bs, pr, tk, mk, ot, vl, rs, al, wt, so, sq, go, mo, cl, wd, nt, fr, tw, tx, gr, ge, g1, g2, g3, sv, sb, lf, pa, du, av, bg, oft, se, tt, cp) v1 v2) := by
  have e15 : ((15 : Int32) < v2) = ((16 : Int32) ≤ v2) := ra_ll _ (by decide)
  rcases ra_has (mk := mk) (vl := vl) (cl := cl) (wt := wt) (wd := wd) (du := du) (oft := oft) (bg := bg) (av := av) (cp := cp) (x := v1) h with ⟨s, hs, rfl, hl, pX, pY⟩ | ⟨pX, pY⟩
  · by_cases good : ¬ v2 < 0 ∧ ¬ 16 ≤ v2
    · obtain ⟨a1, a2⟩ := good
      obtain ⟨a, ha, rfl⟩ := ra_nat (n := 16) (by omega) a1 a2
      refine ⟨wd (16 * s + a), fun post hp => ?_, fun post hp => ?_⟩
      · simp only [wpX_memory]
        refine pX _ (br_f (by decide) (xl_isW (fun y => absurd y (fun z => z.elim a1 a2)) (fun _ _ => br_f (by decide) ?_)))
        simp (disch := omega) only [not_true, not_false_iff, true_implies, false_implies, implies_true, true_and, and_true, forall_eq, eq_self, ra_i, ra_c, ra_m3, ra_m4, ra_m16, ra_4m, ra_14m, ra_16m, nI_add, nI_1, lN_1, ra_p2, ra_2p, ra_n0, ra_p0, ra_q0, ra_q1, ra_q2, ra_q3, ra_n3, ra_n4, ra_n10, ra_n14, ra_n16, ra_n30, ra_n140, ra_y3, ra_y4, ra_y10, ra_y14, ra_y16, ra_y30, ra_y140]
        exact hp
      · simp only [wpY_memory]
        refine pY _ (br_f (by decide) (yl_within (fun y => absurd y (fun z => z.elim a1 (by rw [e15]; exact a2))) (fun _ _ => br_f (by decide) ?_)))
        simp (disch := omega) only [not_true, not_false_iff, true_implies, false_implies, implies_true, true_and, and_true, forall_eq, eq_self, ra_i, ra_c, ra_m3, ra_m4, ra_m16, ra_4m, ra_14m, ra_16m, nI_add, nI_1, lN_1, ra_p2, ra_2p, ra_n0, ra_p0, ra_q0, ra_q1, ra_q2, ra_q3, ra_n3, ra_n4, ra_n10, ra_n14, ra_n16, ra_n30, ra_n140, ra_y3, ra_y4, ra_y10, ra_y14, ra_y16, ra_y30, ra_y140]
        exact hp
    · refine ⟨0, fun post hp => ?_, fun post hp => ?_⟩
      · simp only [wpX_memory]
        exact pX _ (br_f (by decide) (xl_isW (fun _ => br_t rfl hp) (fun a1 a2 => absurd ⟨a1, a2⟩ good)))
      · simp only [wpY_memory]
        exact pY _ (br_f (by decide) (yl_within (fun _ => br_t rfl hp) (fun a1 a2 => absurd ⟨a1, by rw [← e15]; exact a2⟩ good)))
  · refine ⟨0, fun post hp => ?_, fun post hp => ?_⟩
    · simp only [wpX_memory]
      exact pX _ (br_t rfl hp)
    · simp only [wpY_memory]
      exact pY _ (br_t rfl hp)
theorem ra_running (hB : B ≤ 2 ^ 26) (h : ra_R B c m n st pr tk rs al tt pa bs sb ep pt nb lg sn lo lt lv gk gt gf gl gs gn sl ss bo ot so sq go mo nt fr tw tx gr ge g1 g2 g3 sv lf se) : ∃ w : Int32, (∀ post : Int32 → Prop, post w → wpX_running post (lN c, ep, st, pt, bs, pr, tk, mk, rs, vl, cl, nb, al, wt, lg, wd, sn, lo, lt, lv, gk, gt, gf, gl, gs, gn, sl, ss, sb, pa, du, oft, bg, av, tt)) ∧ (∀ post : Int32 → Prop, post w → wpY_running post (nI n, nI m, st, bo, bs, pr, tk, mk, ot, vl, rs, al, wt, so, sq, go, mo, cl, wd, nt, fr, tw, tx, gr, ge, g1, g2, g3, sv, sb, lf, pa, du, av, bg, oft, se, tt, cp)) := by
  rcases ra_run_both (mk := mk) (vl := vl) (cl := cl) (wt := wt) (wd := wd) (du := du) (oft := oft) (bg := bg) (av := av) (cp := cp) hB h with ⟨rX, rY⟩ | ⟨r, hr, hr1, rX, rY⟩
  · refine ⟨-6, fun post hp => ?_, fun post hp => ?_⟩
    · simp only [wpX_running]
      exact rX _ (br_f (by decide) hp)
    · simp only [wpY_running]
      exact rY _ (br_f (by decide) hp)
  · have yr : 16 * (bo r - 1) + nI r = ep r := ra_E_y h.1 hr (by rw [hr1]; decide)
    refine ⟨ep r, fun post hp => ?_, fun post hp => ?_⟩
    · simp only [wpX_running]
      refine rX _ (br_t (nI_pos' (by omega)) ⟨vp_in_nI hr (by decide), ?_⟩)
      rw [ra_c (show r < 1000 by omega)]
      exact hp
    · simp only [wpY_running]
      refine rY _ (br_t (nI_pos' (by omega)) ?_)
      simp (disch := omega) only [wpY_endpoint, yr, not_true, not_false_iff, true_implies, false_implies, implies_true, true_and, and_true, forall_eq, eq_self, ra_i, ra_c, ra_m3, ra_m4, ra_m16, ra_4m, ra_14m, ra_16m, nI_add, nI_1, lN_1, ra_p2, ra_2p, ra_n0, ra_p0, ra_q0, ra_q1, ra_q2, ra_q3, ra_n3, ra_n4, ra_n10, ra_n14, ra_n16, ra_n30, ra_n140, ra_y3, ra_y4, ra_y10, ra_y14, ra_y16, ra_y30, ra_y140]
      exact hp
theorem ra_total {v1 : Int32} (h : ra_R B c m n st pr tk rs al tt pa bs sb ep pt nb lg sn lo lt lv gk gt gf gl gs gn sl ss bo ot so sq go mo nt fr tw tx gr ge g1 g2 g3 sv lf se) : ∃ w : Int32, (∀ post : Int32 → Prop, post w → wpX_total post (lN c, ep, st, pt, bs, pr, tk, mk, rs, vl, cl, nb, al, wt, lg, wd, sn, lo, lt, lv, gk, gt, gf, gl, gs, gn, sl, ss, sb, pa, du, oft, bg, av, tt) v1) ∧ (∀ post : Int32 → Prop, post w → wpY_total post (nI n, nI m, st, bo, bs, pr, tk, mk, ot, vl, rs, al, wt, so, sq, go, mo, cl, wd, nt, fr, tw, tx, gr, ge, g1, g2, g3, sv, sb, lf, pa, du, av, bg, oft, se, tt, cp) v1) := by
  have e67 : ((6 : Int32) < v1) = ((7 : Int32) ≤ v1) := ra_ll _ (by decide)
  by_cases good : ¬ v1 < 0 ∧ v1 < 7
  · obtain ⟨a1, a2⟩ := good
    obtain ⟨k, hk, rfl⟩ := ra_nat (n := 7) (by omega) a1 (Int32.not_le.mpr a2)
    refine ⟨tt k, fun post hp => ?_, fun post hp => ?_⟩
    · simp only [wpX_total]
      refine br_f a1 (br_t a2 ?_)
      simp (disch := omega) only [not_true, not_false_iff, true_implies, false_implies, implies_true, true_and, and_true, forall_eq, eq_self, ra_i, ra_c, ra_m3, ra_m4, ra_m16, ra_4m, ra_14m, ra_16m, nI_add, nI_1, lN_1, ra_p2, ra_2p, ra_n0, ra_p0, ra_q0, ra_q1, ra_q2, ra_q3, ra_n3, ra_n4, ra_n10, ra_n14, ra_n16, ra_n30, ra_n140, ra_y3, ra_y4, ra_y10, ra_y14, ra_y16, ra_y30, ra_y140]
      exact hp
    · simp only [wpY_total]
      refine yl_within (fun y => absurd y (fun z => z.elim a1 (by rw [e67]; exact Int32.not_le.mpr a2))) (fun _ _ => br_f (by decide) ?_)
      simp (disch := omega) only [not_true, not_false_iff, true_implies, false_implies, implies_true, true_and, and_true, forall_eq, eq_self, ra_i, ra_c, ra_m3, ra_m4, ra_m16, ra_4m, ra_14m, ra_16m, nI_add, nI_1, lN_1, ra_p2, ra_2p, ra_n0, ra_p0, ra_q0, ra_q1, ra_q2, ra_q3, ra_n3, ra_n4, ra_n10, ra_n14, ra_n16, ra_n30, ra_n140, ra_y3, ra_y4, ra_y10, ra_y14, ra_y16, ra_y30, ra_y140]
      exact hp
  · refine ⟨-1, fun post hp => ?_, fun post hp => ?_⟩
    · simp only [wpX_total]
      exact br_c (fun _ => hp) (fun a1 => br_c (fun a2 => absurd ⟨a1, a2⟩ good) (fun _ => hp))
    · simp only [wpY_total]
      exact yl_within (fun _ => br_t rfl hp) (fun a1 a2 => absurd ⟨a1, by rw [e67] at a2; exact Int32.not_le.mp a2⟩ good)
theorem ra_service {v1 v2 : Int32} (h : ra_R B c m n st pr tk rs al tt pa bs sb ep pt nb lg sn lo lt lv gk gt gf gl gs gn sl ss bo ot so sq go mo nt fr tw tx gr ge g1 g2 g3 sv lf se) : ∃ w : Int32, (∀ post : Int32 → Prop, post w → wpX_service post (lN c, ep, st, pt, bs, pr, tk, mk, rs, vl, cl, nb, al, wt, lg, wd, sn, lo, lt, lv, gk, gt, gf, gl, gs, gn, sl, ss, sb, pa, du, oft, bg, av, tt) v1 v2) ∧ (∀ post : Int32 → Prop, post w → wpY_service post (nI n, nI m, st, bo, bs, pr, tk, mk, ot, vl, rs, al, wt, so, sq, go, mo, cl, wd, nt, fr, tw, tx, gr, ge, g1, g2, g3, sv, sb, lf, pa, du, av, bg, oft, se, tt, cp) v1 v2) := by
  have hS := h.2.2.2.2.2.2.2.1
  have e23 : ((2 : Int32) < v1) = ((3 : Int32) ≤ v1) := ra_ll _ (by decide)
  by_cases good : ¬ v1 < 0 ∧ ¬ 3 ≤ v1
  · obtain ⟨a1, a2⟩ := good
    obtain ⟨k, hk, rfl⟩ := ra_nat (n := 3) (by omega) a1 a2
    have b1 : ¬ (2 : Int32) < nI k := by rw [e23]; exact a2
    have hv : vp_in (nI k) 3 := vp_in_nI hk (by decide)
    have ck : (nI k).toNatClampNeg = k := ra_c (by omega)
    by_cases w4 : ¬ v2 < 0 ∧ ¬ 4 ≤ v2
    · obtain ⟨w1, w2⟩ := w4
      have w2' : ¬ (3 : Int32) < v2 := by rw [ra_ll _ (by decide : (4 : Int32).toInt = (3 : Int32).toInt + 1)]; exact w2
      obtain ⟨w, hw, rfl⟩ := ra_nat (n := 4) (by omega) w1 w2
      have hw' : w = 0 ∨ w = 1 ∨ w = 2 ∨ w = 3 := by omega
      rcases hS.1 k hk with ⟨v0, l0⟩ | ⟨l0, -, -, ⟨v1', s, hs, e1, hl, e2⟩ | ⟨v2', e1, e2⟩⟩
      · have HX : ∀ post : Int32 → Prop, ((nI w = 0 → post 0) ∧ (¬ nI w = 0 → post (-1))) → wpX_service post (lN c, ep, st, pt, bs, pr, tk, mk, rs, vl, cl, nb, al, wt, lg, wd, sn, lo, lt, lv, gk, gt, gf, gl, gs, gn, sl, ss, sb, pa, du, oft, bg, av, tt) (nI k) (nI w) := by
          intro post hp
          simp only [wpX_service]
          refine xl_isS (fun y => absurd y (fun z => z.elim a1 a2)) (fun _ _ => br_f (by decide) ⟨hv, ?_⟩)
          rw [ck]
          refine br_t l0 ?_
          simp only [wX_service_24, wX_service_42, wX_service_43, not_true, true_implies, false_implies, and_true]
          exact hp
        have HY : ∀ post : Int32 → Prop, ((nI w ≤ 0 → wY_service_33 post (nI k) (nI w) (nI n) (nI m) st bo bs pr tk mk ot vl rs al wt so sq go mo cl wd nt fr tw tx gr ge g1 g2 g3 sv sb lf pa du av bg oft se tt cp) ∧ (¬ nI w ≤ 0 → post (-1))) → wpY_service post (nI n, nI m, st, bo, bs, pr, tk, mk, ot, vl, rs, al, wt, so, sq, go, mo, cl, wd, nt, fr, tw, tx, gr, ge, g1, g2, g3, sv, sb, lf, pa, du, av, bg, oft, se, tt, cp) (nI k) (nI w) := by
          intro post hp
          simp only [wpY_service]
          refine yl_within (fun y => absurd y (fun z => z.elim a1 b1)) (fun _ _ => br_f (by decide) (yl_within (fun y => absurd y (fun z => z.elim w1 w2')) (fun _ _ => br_f (by decide) ⟨hv, ?_⟩)))
          rw [ck]
          exact br_t v0 hp
        clear w1 w2 w2'
        rcases hw' with rfl | rfl | rfl | rfl
        · refine ⟨0, fun post hp => HX post (br_t rfl hp), fun post hp => HY post (br_t (by decide) ?_)⟩
          simp only [wY_service_33]
          refine br_t rfl ⟨hv, ?_⟩
          rw [ck, v0]
          exact hp
        · exact ⟨-1, fun post hp => HX post (br_f (by decide) hp), fun post hp => HY post (br_f (by decide) hp)⟩
        · exact ⟨-1, fun post hp => HX post (br_f (by decide) hp), fun post hp => HY post (br_f (by decide) hp)⟩
        · exact ⟨-1, fun post hp => HX post (br_f (by decide) hp), fun post hp => HY post (br_f (by decide) hp)⟩
      · have sv0 : ¬ sv k = 0 := by rw [v1']; decide
        have HX : ∀ post : Int32 → Prop, wX_service_43 post (nI k) (nI w) 1 0 (lN c) ep st pt bs pr tk mk rs vl cl nb al wt lg wd sn lo lt lv gk gt gf gl gs gn sl ss sb pa du oft bg av tt → wpX_service post (lN c, ep, st, pt, bs, pr, tk, mk, rs, vl, cl, nb, al, wt, lg, wd, sn, lo, lt, lv, gk, gt, gf, gl, gs, gn, sl, ss, sb, pa, du, oft, bg, av, tt) (nI k) (nI w) := by
          intro post hp
          simp only [wpX_service]
          refine xl_isS (fun y => absurd y (fun z => z.elim a1 a2)) (fun _ _ => br_f (by decide) ⟨hv, ?_⟩)
          rw [ck]
          refine br_f l0 ?_
          simp only [wX_service_24, wX_service_42]
          refine br_f (by decide) ⟨hv, ?_⟩
          rw [ck, e1]
          exact br_t (nI_pos' (by omega)) hp
        have HY : ∀ post : Int32 → Prop, wY_service_33 post (nI k) (nI w) (nI n) (nI m) st bo bs pr tk mk ot vl rs al wt so sq go mo cl wd nt fr tw tx gr ge g1 g2 g3 sv sb lf pa du av bg oft se tt cp → wpY_service post (nI n, nI m, st, bo, bs, pr, tk, mk, ot, vl, rs, al, wt, so, sq, go, mo, cl, wd, nt, fr, tw, tx, gr, ge, g1, g2, g3, sv, sb, lf, pa, du, av, bg, oft, se, tt, cp) (nI k) (nI w) := by
          intro post hp
          simp only [wpY_service]
          refine yl_within (fun y => absurd y (fun z => z.elim a1 b1)) (fun _ _ => br_f (by decide) (yl_within (fun y => absurd y (fun z => z.elim w1 w2')) (fun _ _ => br_f (by decide) ⟨hv, ?_⟩)))
          rw [ck]
          exact br_f sv0 hp
        clear w1 w2 w2'
        simp only [wX_service_43, wY_service_33] at HX HY
        rcases hw' with rfl | rfl | rfl | rfl
        · exact ⟨1, fun post hp => HX post (br_t rfl (br_f (by decide) (br_t trivial hp))), fun post hp => HY post (br_t rfl ⟨hv, by rw [ck, v1']; exact hp⟩)⟩
        · refine ⟨ep s, fun post hp => HX post (br_f (by decide) (br_f (by decide) (br_f (by decide) (br_f (by decide) (br_t rfl (br_t trivial ⟨hv, ?_⟩)))))), fun post hp => HY post (br_f (by decide) (br_t rfl ⟨hv, by rw [ck, e2]; exact hp⟩))⟩
          rw [ck, e1, ra_c (show s < 1000 by omega)]
          exact ⟨vp_in_nI hs (by decide), hp⟩
        · exact ⟨pa k, fun post hp => HX post (br_f (by decide) (br_f (by decide) (br_f (by decide) (br_f (by decide) (br_f (by decide) (br_t rfl ⟨hv, by rw [ck]; exact hp⟩)))))), fun post hp => HY post (br_f (by decide) (br_f (by decide) (br_t rfl ⟨hv, by rw [ck]; exact hp⟩)))⟩
        · exact ⟨oft k, fun post hp => HX post (br_f (by decide) (br_f (by decide) (br_f (by decide) (br_f (by decide) (br_f (by decide) (br_f (by decide) (br_t rfl ⟨hv, by rw [ck]; exact hp⟩))))))), fun post hp => HY post (br_f (by decide) (br_f (by decide) (br_f (by decide) ⟨hv, by rw [ck]; exact hp⟩)))⟩
      · have sv0 : ¬ sv k = 0 := by rw [v2']; decide
        have HX : ∀ post : Int32 → Prop, wX_service_43 post (nI k) (nI w) 1 1 (lN c) ep st pt bs pr tk mk rs vl cl nb al wt lg wd sn lo lt lv gk gt gf gl gs gn sl ss sb pa du oft bg av tt → wpX_service post (lN c, ep, st, pt, bs, pr, tk, mk, rs, vl, cl, nb, al, wt, lg, wd, sn, lo, lt, lv, gk, gt, gf, gl, gs, gn, sl, ss, sb, pa, du, oft, bg, av, tt) (nI k) (nI w) := by
          intro post hp
          simp only [wpX_service]
          refine xl_isS (fun y => absurd y (fun z => z.elim a1 a2)) (fun _ _ => br_f (by decide) ⟨hv, ?_⟩)
          rw [ck]
          refine br_f l0 ?_
          simp only [wX_service_24, wX_service_42]
          refine br_f (by decide) ⟨hv, ?_⟩
          rw [ck, e1]
          exact br_f (by decide) hp
        have HY : ∀ post : Int32 → Prop, wY_service_33 post (nI k) (nI w) (nI n) (nI m) st bo bs pr tk mk ot vl rs al wt so sq go mo cl wd nt fr tw tx gr ge g1 g2 g3 sv sb lf pa du av bg oft se tt cp → wpY_service post (nI n, nI m, st, bo, bs, pr, tk, mk, ot, vl, rs, al, wt, so, sq, go, mo, cl, wd, nt, fr, tw, tx, gr, ge, g1, g2, g3, sv, sb, lf, pa, du, av, bg, oft, se, tt, cp) (nI k) (nI w) := by
          intro post hp
          simp only [wpY_service]
          refine yl_within (fun y => absurd y (fun z => z.elim a1 b1)) (fun _ _ => br_f (by decide) (yl_within (fun y => absurd y (fun z => z.elim w1 w2')) (fun _ _ => br_f (by decide) ⟨hv, ?_⟩)))
          rw [ck]
          exact br_f sv0 hp
        clear w1 w2 w2'
        simp only [wX_service_43, wY_service_33] at HX HY
        rcases hw' with rfl | rfl | rfl | rfl
        · exact ⟨2, fun post hp => HX post (br_t rfl (br_f (by decide) (br_f (by decide) hp))), fun post hp => HY post (br_t rfl ⟨hv, by rw [ck, v2']; exact hp⟩)⟩
        · exact ⟨-1, fun post hp => HX post (br_f (by decide) (br_f (by decide) (br_f (by decide) (br_f (by decide) (br_t rfl (br_f (by decide) hp)))))), fun post hp => HY post (br_f (by decide) (br_t rfl ⟨hv, by rw [ck, e2]; exact hp⟩))⟩
        · exact ⟨pa k, fun post hp => HX post (br_f (by decide) (br_f (by decide) (br_f (by decide) (br_f (by decide) (br_f (by decide) (br_t rfl ⟨hv, by rw [ck]; exact hp⟩)))))), fun post hp => HY post (br_f (by decide) (br_f (by decide) (br_t rfl ⟨hv, by rw [ck]; exact hp⟩)))⟩
        · exact ⟨oft k, fun post hp => HX post (br_f (by decide) (br_f (by decide) (br_f (by decide) (br_f (by decide) (br_f (by decide) (br_f (by decide) (br_t rfl ⟨hv, by rw [ck]; exact hp⟩))))))), fun post hp => HY post (br_f (by decide) (br_f (by decide) (br_f (by decide) ⟨hv, by rw [ck]; exact hp⟩)))⟩
    · -- what is out of range
      have z0 : ¬ v2 = 0 := fun y => w4 (by rw [y]; exact ⟨by decide, by decide⟩)
      have z1 : v2 < 1 ∨ 3 < v2 := by
        have q1 : (1 : Int32).toInt = 1 := by decide
        have q0 : (0 : Int32).toInt = 0 := by decide
        have q3 : (3 : Int32).toInt = 3 := by decide
        have q4 : (4 : Int32).toInt = 4 := by decide
        rw [Int32.lt_iff_toInt_lt, Int32.le_iff_toInt_le, q0, q4] at w4
        rw [Int32.lt_iff_toInt_lt, Int32.lt_iff_toInt_lt, q1, q3]
        omega
      have z2 : v2 < 0 ∨ 3 < v2 := by
        have q0 : (0 : Int32).toInt = 0 := by decide
        have q3 : (3 : Int32).toInt = 3 := by decide
        have q4 : (4 : Int32).toInt = 4 := by decide
        rw [Int32.lt_iff_toInt_lt, Int32.le_iff_toInt_le, q0, q4] at w4
        rw [Int32.lt_iff_toInt_lt, Int32.lt_iff_toInt_lt, q0, q3]
        omega
      have F : ∀ (post : Int32 → Prop) (x3 y : Int32), post (-1) → wX_service_43 post (nI k) v2 x3 y (lN c) ep st pt bs pr tk mk rs vl cl nb al wt lg wd sn lo lt lv gk gt gf gl gs gn sl ss sb pa du oft bg av tt := by
        intro post x3 y hp
        simp only [wX_service_43]
        exact br_f z0 (br_c (fun _ => hp) (fun _ => br_c (fun _ => hp) (fun n1 => br_t (z1.resolve_left n1) hp)))
      refine ⟨-1, fun post hp => ?_, fun post hp => ?_⟩
      · simp only [wpX_service, wX_service_24, wX_service_42]
        exact xl_isS (fun y => absurd y (fun z => z.elim a1 a2)) (fun _ _ => br_f (by decide) ⟨hv, br_c (fun _ => br_c (fun _ => F post _ _ hp) (fun _ => ⟨hv, br_c (fun _ => F post _ _ hp) (fun _ => F post _ _ hp)⟩)) (fun _ => br_c (fun _ => F post _ _ hp) (fun _ => ⟨hv, br_c (fun _ => F post _ _ hp) (fun _ => F post _ _ hp)⟩))⟩)
      · simp only [wpY_service]
        exact yl_within (fun y => absurd y (fun z => z.elim a1 b1)) (fun _ _ => br_f (by decide) (yl_within (fun _ => br_t rfl hp) (fun y y' => absurd z2 (fun z => z.elim y y'))))
  · refine ⟨-1, fun post hp => ?_, fun post hp => ?_⟩
    · simp only [wpX_service]
      exact xl_isS (fun _ => br_t rfl hp) (fun a1 a2 => absurd ⟨a1, a2⟩ good)
    · simp only [wpY_service]
      exact yl_within (fun _ => br_t rfl hp) (fun a1 a2 => absurd ⟨a1, by rw [← e23]; exact a2⟩ good)
end
end
section
/-! what is owed -/
def i_Rel (k : Nat) (u : SX) (v : SY) : Prop := ra_RR (1300 * k) u v
theorem ra_use {B : Nat} {P : SX → SY → Prop} {u : SX} {v : SY} (H : ∀ (c m n : Nat) (st pr bs tk mk vl cl rs al wt wd tt sb pa du oft bg av ep pt nb lg lt lv gk gt gf gl gs gn sl ss bo ot so sq go mo nt fr tw tx gr ge g1 g2 g3 sv lf se cp : Nat → Int32) (sn lo : Nat → Int64), ra_R B c m n st pr tk rs al tt pa bs sb ep pt nb lg sn lo lt lv gk gt gf gl gs gn sl ss bo ot so sq go mo nt fr tw tx gr ge g1 g2 g3 sv lf se → P (lN c, ep, st, pt, bs, pr, tk, mk, rs, vl, cl, nb, al, wt, lg, wd, sn, lo, lt, lv, gk, gt, gf, gl, gs, gn, sl, ss, sb, pa, du, oft, bg, av, tt) (nI n, nI m, st, bo, bs, pr, tk, mk, ot, vl, rs, al, wt, so, sq, go, mo, cl, wd, nt, fr, tw, tx, gr, ge, g1, g2, g3, sv, sb, lf, pa, du, av, bg, oft, se, tt, cp)) (h : ra_RR B u v) : P u v := by
  obtain ⟨c, m, n, st, pr, bs, tk, mk, vl, cl, rs, al, wt, wd, tt, sb, pa, du, oft, bg, av, ep, pt, nb, lg, lt, lv, gk, gt, gf, gl, gs, gn, sl, ss, bo, ot, so, sq, go, mo, nt, fr, tw, tx, gr, ge, g1, g2, g3, sv, lf, se, cp, sn, lo, rfl, rfl, h⟩ := h
  exact H c m n st pr bs tk mk vl cl rs al wt wd tt sb pa du oft bg av ep pt nb lg lt lv gk gt gf gl gs gn sl ss bo ot so sq go mo nt fr tw tx gr ge g1 g2 g3 sv lf se cp sn lo h
theorem i_up {k : Nat} {u : SX} {v : SY} (h : i_Rel k u v) : i_Rel (k + 7) u v := ra_RR_mono h (by omega)
theorem ra_R0 : ra_RR 0 (0, (fun j => if j < 10 then nI j else 0), fun _ => 0, fun _ => 0, fun _ => 0, fun _ => 0, fun _ => 0, fun _ => 0, fun _ => 0, fun _ => 0, fun _ => 0, fun _ => 0, fun _ => 0, fun _ => 0, fun _ => 0, fun _ => 0, fun _ => 0, fun _ => 0, fun _ => 0, fun _ => 0, fun _ => 0, fun _ => 0, fun _ => 0, fun _ => 0, fun _ => 0, fun _ => 0, fun _ => 0, fun _ => 0, fun _ => 0, fun _ => 0, fun _ => 0, fun _ => 0, fun _ => 0, fun _ => 0, fun _ => 0) (0, 0, fun _ => 0, fun _ => 0, fun _ => 0, fun _ => 0, fun _ => 0, fun _ => 0, fun _ => 0, fun _ => 0, fun _ => 0, fun _ => 0, fun _ => 0, fun _ => 0, fun _ => 0, fun _ => 0, fun _ => 0, fun _ => 0, fun _ => 0, fun _ => 0, fun _ => 0, fun _ => 0, fun _ => 0, fun _ => 0, fun _ => 0, fun _ => 0, fun _ => 0, fun _ => 0, fun _ => 0, fun _ => 0, fun _ => 0, fun _ => 0, fun _ => 0, fun _ => 0, fun _ => 0, fun _ => 0, fun _ => 0, fun _ => 0, fun _ => 0) := by
  refine ⟨0, 0, 0, fun _ => 0, fun _ => 0, fun _ => 0, fun _ => 0, fun _ => 0, fun _ => 0, fun _ => 0, fun _ => 0, fun _ => 0, fun _ => 0, fun _ => 0, fun _ => 0, fun _ => 0, fun _ => 0, fun _ => 0, fun _ => 0, fun _ => 0, fun _ => 0, (fun j => if j < 10 then nI j else 0), fun _ => 0, fun _ => 0, fun _ => 0, fun _ => 0, fun _ => 0, fun _ => 0, fun _ => 0, fun _ => 0, fun _ => 0, fun _ => 0, fun _ => 0, fun _ => 0, fun _ => 0, fun _ => 0, fun _ => 0, fun _ => 0, fun _ => 0, fun _ => 0, fun _ => 0, fun _ => 0, fun _ => 0, fun _ => 0, fun _ => 0, fun _ => 0, fun _ => 0, fun _ => 0, fun _ => 0, fun _ => 0, fun _ => 0, fun _ => 0, fun _ => 0, fun _ => 0, fun _ => 0, fun _ => 0, rfl, rfl, ?_⟩
  refine ⟨fun s hs => ⟨0, Nat.le_refl _, ?_, fun _ => rfl, fun z => absurd rfl z⟩, ⟨Nat.le_refl _, Nat.le_refl _, fun _ => 0, fun _ => 0, fun s hs => ⟨rfl, rfl, Nat.le_refl _, Nat.le_refl _⟩, fun s t _ _ => Iff.rfl⟩, fun s hs => ⟨fun z => absurd z (show ¬ (0 : Int32) = 1 by decide), fun z => absurd rfl z⟩, fun s hs => ⟨rfl, rfl, rfl⟩, fun s hs => ⟨fun _ k hk => rfl, fun z => absurd rfl z⟩, ⟨fun _ => 0, fun _ => 0, fun p hp => ⟨rfl, Nat.le_refl _⟩, fun j hj => absurd hj (Nat.not_lt_zero _), fun i j _ hj => absurd hj (Nat.not_lt_zero _), fun p hp z => absurd z (Nat.lt_irrefl _)⟩, fun s hs i hi => ⟨fun _ => rfl, fun z => absurd rfl z⟩, ⟨fun k hk => Or.inl ⟨rfl, rfl⟩, fun k k' _ _ z => absurd z (show ¬ (0 : Int32) = 1 by decide)⟩, fun s hs => Or.inl rfl, ⟨0, Nat.le_refl _, rfl⟩, fun s hs => ⟨⟨0, by omega, rfl⟩, ⟨0, by omega, rfl⟩, ⟨0, by omega, rfl⟩, fun z => absurd rfl z⟩⟩
  show (if s < 10 then nI s else 0) = nI (16 * 0 + s)
  rw [if_pos hs, Nat.mul_zero, Nat.zero_add]
theorem ra_ep_s (i : Nat) (hi : i < 10) : upd (fun j => if j < i then nI j else 0) i (nI i) = fun j => if j < i + 1 then nI j else 0 := by
  funext j
  unfold upd
  by_cases h : j = i
  · rw [if_pos h, if_pos (by omega), h]
  · rw [if_neg h]
    dsimp only
    by_cases h2 : j < i
    · rw [if_pos h2, if_pos (by omega)]
    · rw [if_neg h2, if_neg (by omega)]
theorem i_vc0 : wpX_init (fun u => wpY_init (fun v => i_Rel 0 u v)) := by
  obtain ⟨k, hk⟩ := ra_run (fun n i => wX_init_271 (fun u => wpY_init (fun v => i_Rel 0 u v)) 0 n (nI i) (fun j => if j < i then nI j else 0) (fun _ => 0) (fun _ => 0) (fun _ => 0) (fun _ => 0) (fun _ => 0) (fun _ => 0) (fun _ => 0) (fun _ => 0) (fun _ => 0) (fun _ => 0) (fun _ => 0) (fun _ => 0) (fun _ => 0) (fun _ => 0) (fun _ => 0) (fun _ => 0) (fun _ => 0) (fun _ => 0) (fun _ => 0) (fun _ => 0) (fun _ => 0) (fun _ => 0) (fun _ => 0) (fun _ => 0) (fun _ => 0) (fun _ => 0) (fun _ => 0) (fun _ => 0) (fun _ => 0) (fun _ => 0) (fun _ => 0) (fun _ => 0) (fun _ => 0)) 10 (fun n => by
    simp (disch := omega) only [wX_init_271, not_true, not_false_iff, true_implies, false_implies, implies_true, true_and, and_true, forall_eq, eq_self, ra_i, ra_c, ra_m3, ra_m4, ra_m16, ra_4m, ra_14m, ra_16m, nI_add, nI_1, lN_1, ra_p2, ra_2p, ra_n0, ra_p0, ra_q0, ra_q1, ra_q2, ra_q3, ra_n3, ra_n4, ra_n10, ra_n14, ra_n16, ra_n30, ra_n140, ra_y3, ra_y4, ra_y10, ra_y14, ra_y16, ra_y30, ra_y140]
    exact ra_R0) (fun n i hi ih => by
    try dsimp only at ih
    simp (disch := omega) only [wX_init_271, ra_ep_s i hi, not_true, not_false_iff, true_implies, false_implies, implies_true, true_and, and_true, forall_eq, eq_self, ra_i, ra_c, ra_m3, ra_m4, ra_m16, ra_4m, ra_14m, ra_16m, nI_add, nI_1, lN_1, ra_p2, ra_2p, ra_n0, ra_p0, ra_q0, ra_q1, ra_q2, ra_q3, ra_n3, ra_n4, ra_n10, ra_n14, ra_n16, ra_n30, ra_n140, ra_y3, ra_y4, ra_y10, ra_y14, ra_y16, ra_y30, ra_y140]
    exact ih)
  refine ⟨k, ?_⟩
  have e : (fun j => if j < 0 then nI j else 0) = fun _ : Nat => (0 : Int32) := by
    funext j
    exact if_neg (Nat.not_lt_zero _)
  try dsimp only at hk
  rw [e] at hk
  exact hk
theorem i_vc_birth {k : Nat} {u : SX} {v : SY} (I : i_Rel k u v) (hk : k + 7 ≤ 3584) (v1 : Int32) (v2 : Int32) : wpX_birth (fun r u' => wpY_birth (fun r' v' => r' = r ∧ i_Rel (k + 7) u' v') v v1 v2) u v1 v2 := by
  refine ra_use (P := fun u v => wpX_birth (fun r u' => wpY_birth (fun r' v' => r' = r ∧ i_Rel (k + 7) u' v') v v1 v2) u v1 v2) (fun c m n st pr bs tk mk vl cl rs al wt wd tt sb pa du oft bg av ep pt nb lg lt lv gk gt gf gl gs gn sl ss bo ot so sq go mo nt fr tw tx gr ge g1 g2 g3 sv lf se cp sn lo h => ?_) I
  obtain ⟨w, u', v', hR, hX, hY⟩ := ra_birth (mk := mk) (vl := vl) (cl := cl) (wt := wt) (wd := wd) (du := du) (oft := oft) (bg := bg) (av := av) (cp := cp) (v1 := v1) (v2 := v2) (by omega) h
  exact hX _ (hY _ ⟨rfl, ra_RR_mono hR (by omega)⟩)
theorem i_vc_end {k : Nat} {u : SX} {v : SY} (I : i_Rel k u v) (hk : k + 7 ≤ 3584) (v1 : Int32) : wpX_end (fun r u' => wpY_end (fun r' v' => r' = r ∧ i_Rel (k + 7) u' v') v v1) u v1 := by
  refine ra_use (P := fun u v => wpX_end (fun r u' => wpY_end (fun r' v' => r' = r ∧ i_Rel (k + 7) u' v') v v1) u v1) (fun c m n st pr bs tk mk vl cl rs al wt wd tt sb pa du oft bg av ep pt nb lg lt lv gk gt gf gl gs gn sl ss bo ot so sq go mo nt fr tw tx gr ge g1 g2 g3 sv lf se cp sn lo h => ?_) I
  obtain ⟨w, u', v', hR, hX, hY⟩ := ra_end (mk := mk) (vl := vl) (cl := cl) (wt := wt) (wd := wd) (du := du) (oft := oft) (bg := bg) (av := av) (cp := cp) (v1 := v1) (by omega) h
  exact hX _ (hY _ ⟨rfl, ra_RR_mono hR (by omega)⟩)
theorem i_vc_leave {k : Nat} {u : SX} {v : SY} (I : i_Rel k u v) (hk : k + 7 ≤ 3584) : wpX_leave (fun r u' => wpY_leave (fun r' v' => r' = r ∧ i_Rel (k + 7) u' v') v) u := by
  refine ra_use (P := fun u v => wpX_leave (fun r u' => wpY_leave (fun r' v' => r' = r ∧ i_Rel (k + 7) u' v') v) u) (fun c m n st pr bs tk mk vl cl rs al wt wd tt sb pa du oft bg av ep pt nb lg lt lv gk gt gf gl gs gn sl ss bo ot so sq go mo nt fr tw tx gr ge g1 g2 g3 sv lf se cp sn lo h => ?_) I
  obtain ⟨w, u', v', hR, hX, hY⟩ := ra_leave (mk := mk) (vl := vl) (cl := cl) (wt := wt) (wd := wd) (du := du) (oft := oft) (bg := bg) (av := av) (cp := cp) (by omega) h
  exact hX _ (hY _ ⟨rfl, ra_RR_mono hR (by omega)⟩)
theorem i_vc_send {k : Nat} {u : SX} {v : SY} (I : i_Rel k u v) (hk : k + 7 ≤ 3584) (v1 : Int32) (v2 : Int32) : wpX_send (fun r u' => wpY_send (fun r' v' => r' = r ∧ i_Rel (k + 7) u' v') v v1 v2) u v1 v2 := by
  refine ra_use (P := fun u v => wpX_send (fun r u' => wpY_send (fun r' v' => r' = r ∧ i_Rel (k + 7) u' v') v v1 v2) u v1 v2) (fun c m n st pr bs tk mk vl cl rs al wt wd tt sb pa du oft bg av ep pt nb lg lt lv gk gt gf gl gs gn sl ss bo ot so sq go mo nt fr tw tx gr ge g1 g2 g3 sv lf se cp sn lo h => ?_) I
  obtain ⟨w, u', v', hR, hX, hY⟩ := ra_hand (mk := mk) (vl := vl) (cl := cl) (wt := wt) (wd := wd) (du := du) (oft := oft) (bg := bg) (av := av) (cp := cp) (to := v1) (x := v2) (b := 0) (by omega) h
  revert hX hY
  refine ra_use (P := fun u' v' => (∀ post : Int32 → SX → Prop, post w u' → wpX_handMessage post (lN c, ep, st, pt, bs, pr, tk, mk, rs, vl, cl, nb, al, wt, lg, wd, sn, lo, lt, lv, gk, gt, gf, gl, gs, gn, sl, ss, sb, pa, du, oft, bg, av, tt) v1 v2 0) → (∀ post : Int32 → SY → Prop, post w v' → wpY_hand post (nI n, nI m, st, bo, bs, pr, tk, mk, ot, vl, rs, al, wt, so, sq, go, mo, cl, wd, nt, fr, tw, tx, gr, ge, g1, g2, g3, sv, sb, lf, pa, du, av, bg, oft, se, tt, cp) v1 v2 0) → wpX_send (fun r u' => wpY_send (fun r' v' => r' = r ∧ i_Rel (k + 7) u' v') (nI n, nI m, st, bo, bs, pr, tk, mk, ot, vl, rs, al, wt, so, sq, go, mo, cl, wd, nt, fr, tw, tx, gr, ge, g1, g2, g3, sv, sb, lf, pa, du, av, bg, oft, se, tt, cp) v1 v2) (lN c, ep, st, pt, bs, pr, tk, mk, rs, vl, cl, nb, al, wt, lg, wd, sn, lo, lt, lv, gk, gt, gf, gl, gs, gn, sl, ss, sb, pa, du, oft, bg, av, tt) v1 v2) (fun c' m' n' st' pr' bs' tk' mk' vl' cl' rs' al' wt' wd' tt' sb' pa' du' oft' bg' av' ep' pt' nb' lg' lt' lv' gk' gt' gf' gl' gs' gn' sl' ss' bo' ot' so' sq' go' mo' nt' fr' tw' tx' gr' ge' g1' g2' g3' sv' lf' se' cp' sn' lo' h' hX hY => ?_) hR
  simp only [wpX_send, wpY_send]
  exact hX _ (hY _ ⟨rfl, ra_RR_mono (ra_in (mk := mk') (vl := vl') (cl := cl') (wt := wt') (wd := wd') (du := du') (oft := oft') (bg := bg') (av := av') (cp := cp') h') (by omega)⟩)
theorem i_vc_call {k : Nat} {u : SX} {v : SY} (I : i_Rel k u v) (hk : k + 7 ≤ 3584) (v1 : Int32) (v2 : Int32) : wpX_call (fun r u' => wpY_call (fun r' v' => r' = r ∧ i_Rel (k + 7) u' v') v v1 v2) u v1 v2 := by
  refine ra_use (P := fun u v => wpX_call (fun r u' => wpY_call (fun r' v' => r' = r ∧ i_Rel (k + 7) u' v') v v1 v2) u v1 v2) (fun c m n st pr bs tk mk vl cl rs al wt wd tt sb pa du oft bg av ep pt nb lg lt lv gk gt gf gl gs gn sl ss bo ot so sq go mo nt fr tw tx gr ge g1 g2 g3 sv lf se cp sn lo h => ?_) I
  obtain ⟨w, u', v', hR, hX, hY⟩ := ra_hand (mk := mk) (vl := vl) (cl := cl) (wt := wt) (wd := wd) (du := du) (oft := oft) (bg := bg) (av := av) (cp := cp) (to := v1) (x := v2) (b := 1) (by omega) h
  revert hX hY
  refine ra_use (P := fun u' v' => (∀ post : Int32 → SX → Prop, post w u' → wpX_handMessage post (lN c, ep, st, pt, bs, pr, tk, mk, rs, vl, cl, nb, al, wt, lg, wd, sn, lo, lt, lv, gk, gt, gf, gl, gs, gn, sl, ss, sb, pa, du, oft, bg, av, tt) v1 v2 1) → (∀ post : Int32 → SY → Prop, post w v' → wpY_hand post (nI n, nI m, st, bo, bs, pr, tk, mk, ot, vl, rs, al, wt, so, sq, go, mo, cl, wd, nt, fr, tw, tx, gr, ge, g1, g2, g3, sv, sb, lf, pa, du, av, bg, oft, se, tt, cp) v1 v2 1) → wpX_call (fun r u' => wpY_call (fun r' v' => r' = r ∧ i_Rel (k + 7) u' v') (nI n, nI m, st, bo, bs, pr, tk, mk, ot, vl, rs, al, wt, so, sq, go, mo, cl, wd, nt, fr, tw, tx, gr, ge, g1, g2, g3, sv, sb, lf, pa, du, av, bg, oft, se, tt, cp) v1 v2) (lN c, ep, st, pt, bs, pr, tk, mk, rs, vl, cl, nb, al, wt, lg, wd, sn, lo, lt, lv, gk, gt, gf, gl, gs, gn, sl, ss, sb, pa, du, oft, bg, av, tt) v1 v2) (fun c' m' n' st' pr' bs' tk' mk' vl' cl' rs' al' wt' wd' tt' sb' pa' du' oft' bg' av' ep' pt' nb' lg' lt' lv' gk' gt' gf' gl' gs' gn' sl' ss' bo' ot' so' sq' go' mo' nt' fr' tw' tx' gr' ge' g1' g2' g3' sv' lf' se' cp' sn' lo' h' hX hY => ?_) hR
  simp only [wpX_call, wpY_call]
  exact hX _ (hY _ ⟨rfl, ra_RR_mono (ra_in (mk := mk') (vl := vl') (cl := cl') (wt := wt') (wd := wd') (du := du') (oft := oft') (bg := bg') (av := av') (cp := cp') h') (by omega)⟩)
theorem i_vc_receive {k : Nat} {u : SX} {v : SY} (I : i_Rel k u v) (hk : k + 7 ≤ 3584) (v1 : Int32) (v2 : Int32) : wpX_receive (fun r u' => wpY_receive (fun r' v' => r' = r ∧ i_Rel (k + 7) u' v') v v1 (lw_bz v2)) u v1 (lw_bz v2) := by
  refine ra_use (P := fun u v => wpX_receive (fun r u' => wpY_receive (fun r' v' => r' = r ∧ i_Rel (k + 7) u' v') v v1 (lw_bz v2)) u v1 (lw_bz v2)) (fun c m n st pr bs tk mk vl cl rs al wt wd tt sb pa du oft bg av ep pt nb lg lt lv gk gt gf gl gs gn sl ss bo ot so sq go mo nt fr tw tx gr ge g1 g2 g3 sv lf se cp sn lo h => ?_) I
  obtain ⟨w, u', v', hR, hX, hY⟩ := ra_receive (mk := mk) (vl := vl) (cl := cl) (wt := wt) (wd := wd) (du := du) (oft := oft) (bg := bg) (av := av) (cp := cp) (e := v1) (b := lw_bz v2) (by omega) h
  exact hX _ (hY _ ⟨rfl, ra_RR_mono hR (by omega)⟩)
theorem i_vc_note {k : Nat} {u : SX} {v : SY} (I : i_Rel k u v) (hk : k + 7 ≤ 3584) (v1 : Int32) : wpX_note (fun r u' => wpY_note (fun r' v' => r' = r ∧ i_Rel (k + 7) u' v') v v1) u v1 := by
  refine ra_use (P := fun u v => wpX_note (fun r u' => wpY_note (fun r' v' => r' = r ∧ i_Rel (k + 7) u' v') v v1) u v1) (fun c m n st pr bs tk mk vl cl rs al wt wd tt sb pa du oft bg av ep pt nb lg lt lv gk gt gf gl gs gn sl ss bo ot so sq go mo nt fr tw tx gr ge g1 g2 g3 sv lf se cp sn lo h => ?_) I
  obtain ⟨w, u', v', hR, hX, hY⟩ := ra_note (mk := mk) (vl := vl) (cl := cl) (wt := wt) (wd := wd) (du := du) (oft := oft) (bg := bg) (av := av) (cp := cp) (v1 := v1) (by omega) h
  exact hX _ (hY _ ⟨rfl, ra_RR_mono hR (by omega)⟩)
theorem i_vc_post {k : Nat} {u : SX} {v : SY} (I : i_Rel k u v) (hk : k + 7 ≤ 3584) (v1 : Int32) (v2 : Int32) : wpX_post (fun r u' => wpY_post (fun r' v' => r' = r ∧ i_Rel (k + 7) u' v') v v1 v2) u v1 v2 := by
  refine ra_use (P := fun u v => wpX_post (fun r u' => wpY_post (fun r' v' => r' = r ∧ i_Rel (k + 7) u' v') v v1 v2) u v1 v2) (fun c m n st pr bs tk mk vl cl rs al wt wd tt sb pa du oft bg av ep pt nb lg lt lv gk gt gf gl gs gn sl ss bo ot so sq go mo nt fr tw tx gr ge g1 g2 g3 sv lf se cp sn lo h => ?_) I
  obtain ⟨w, u', v', hR, hX, hY⟩ := ra_post (mk := mk) (vl := vl) (cl := cl) (wt := wt) (wd := wd) (du := du) (oft := oft) (bg := bg) (av := av) (cp := cp) (to := v1) (x := v2) (by omega) h
  exact hX _ (hY _ ⟨rfl, ra_RR_mono hR (by omega)⟩)
theorem i_vc_lend {k : Nat} {u : SX} {v : SY} (I : i_Rel k u v) (hk : k + 7 ≤ 3584) (v1 : Int32) (v2 : Int32) (v3 : Int32) (v4 : Int32) (v5 : Int32) : wpX_lend (fun r u' => wpY_lend (fun r' v' => r' = r ∧ i_Rel (k + 7) u' v') v v1 v2 v3 v4 v5) u v1 v2 v3 v4 v5 := by
  refine ra_use (P := fun u v => wpX_lend (fun r u' => wpY_lend (fun r' v' => r' = r ∧ i_Rel (k + 7) u' v') v v1 v2 v3 v4 v5) u v1 v2 v3 v4 v5) (fun c m n st pr bs tk mk vl cl rs al wt wd tt sb pa du oft bg av ep pt nb lg lt lv gk gt gf gl gs gn sl ss bo ot so sq go mo nt fr tw tx gr ge g1 g2 g3 sv lf se cp sn lo h => ?_) I
  obtain ⟨w, u', v', hR, hX, hY⟩ := ra_lend (mk := mk) (vl := vl) (cl := cl) (wt := wt) (wd := wd) (du := du) (oft := oft) (bg := bg) (av := av) (cp := cp) (v1 := v1) (v2 := v2) (v3 := v3) (v4 := v4) (v5 := v5) (by omega) h
  exact hX _ (hY _ ⟨rfl, ra_RR_mono hR (by omega)⟩)
theorem i_vc_pass {k : Nat} {u : SX} {v : SY} (I : i_Rel k u v) (hk : k + 7 ≤ 3584) (v1 : Int32) (v2 : Int32) (v3 : Int32) (v4 : Int32) : wpX_pass (fun r u' => wpY_pass (fun r' v' => r' = r ∧ i_Rel (k + 7) u' v') v v1 v2 v3 v4) u v1 v2 v3 v4 := by
  refine ra_use (P := fun u v => wpX_pass (fun r u' => wpY_pass (fun r' v' => r' = r ∧ i_Rel (k + 7) u' v') v v1 v2 v3 v4) u v1 v2 v3 v4) (fun c m n st pr bs tk mk vl cl rs al wt wd tt sb pa du oft bg av ep pt nb lg lt lv gk gt gf gl gs gn sl ss bo ot so sq go mo nt fr tw tx gr ge g1 g2 g3 sv lf se cp sn lo h => ?_) I
  obtain ⟨w, u', v', hR, hX, hY⟩ := ra_pass (mk := mk) (vl := vl) (cl := cl) (wt := wt) (wd := wd) (du := du) (oft := oft) (bg := bg) (av := av) (cp := cp) (v1 := v1) (v2 := v2) (v3 := v3) (v4 := v4) (by omega) h
  exact hX _ (hY _ ⟨rfl, ra_RR_mono hR (by omega)⟩)
theorem i_vc_revoke {k : Nat} {u : SX} {v : SY} (I : i_Rel k u v) (hk : k + 7 ≤ 3584) (v1 : Int32) : wpX_revoke (fun r u' => wpY_revoke (fun r' v' => r' = r ∧ i_Rel (k + 7) u' v') v v1) u v1 := by
  refine ra_use (P := fun u v => wpX_revoke (fun r u' => wpY_revoke (fun r' v' => r' = r ∧ i_Rel (k + 7) u' v') v v1) u v1) (fun c m n st pr bs tk mk vl cl rs al wt wd tt sb pa du oft bg av ep pt nb lg lt lv gk gt gf gl gs gn sl ss bo ot so sq go mo nt fr tw tx gr ge g1 g2 g3 sv lf se cp sn lo h => ?_) I
  obtain ⟨w, u', v', hR, hX, hY⟩ := ra_revoke (mk := mk) (vl := vl) (cl := cl) (wt := wt) (wd := wd) (du := du) (oft := oft) (bg := bg) (av := av) (cp := cp) (v1 := v1) (by omega) h
  exact hX _ (hY _ ⟨rfl, ra_RR_mono hR (by omega)⟩)
theorem i_vc_copy {k : Nat} {u : SX} {v : SY} (I : i_Rel k u v) (hk : k + 7 ≤ 3584) (v1 : Int32) (v2 : Int32) (v3 : Int32) (v4 : Int32) (v5 : Int32) (v6 : Int32) : wpX_copy (fun r u' => wpY_copy (fun r' v' => r' = r ∧ i_Rel (k + 7) u' v') v v1 v2 v3 v4 v5 (lw_bz v6)) u v1 v2 v3 v4 v5 (lw_bz v6) := by
  refine ra_use (P := fun u v => wpX_copy (fun r u' => wpY_copy (fun r' v' => r' = r ∧ i_Rel (k + 7) u' v') v v1 v2 v3 v4 v5 (lw_bz v6)) u v1 v2 v3 v4 v5 (lw_bz v6)) (fun c m n st pr bs tk mk vl cl rs al wt wd tt sb pa du oft bg av ep pt nb lg lt lv gk gt gf gl gs gn sl ss bo ot so sq go mo nt fr tw tx gr ge g1 g2 g3 sv lf se cp sn lo h => ?_) I
  obtain ⟨w, u', v', hR, hX, hY⟩ := ra_copy (mk := mk) (vl := vl) (cl := cl) (wt := wt) (wd := wd) (du := du) (oft := oft) (bg := bg) (av := av) (cp := cp) (v1 := v1) (v2 := v2) (v3 := v3) (v4 := v4) (v5 := v5) (b := lw_bz v6) (by omega) h
  exact hX _ (hY _ ⟨rfl, ra_RR_mono hR (by omega)⟩)
theorem i_vc_alarm {k : Nat} {u : SX} {v : SY} (I : i_Rel k u v) (hk : k + 7 ≤ 3584) (v1 : Int32) : wpX_alarm (fun r u' => wpY_alarm (fun r' v' => r' = r ∧ i_Rel (k + 7) u' v') v v1) u v1 := by
  refine ra_use (P := fun u v => wpX_alarm (fun r u' => wpY_alarm (fun r' v' => r' = r ∧ i_Rel (k + 7) u' v') v v1) u v1) (fun c m n st pr bs tk mk vl cl rs al wt wd tt sb pa du oft bg av ep pt nb lg lt lv gk gt gf gl gs gn sl ss bo ot so sq go mo nt fr tw tx gr ge g1 g2 g3 sv lf se cp sn lo h => ?_) I
  obtain ⟨w, u', v', hR, hX, hY⟩ := ra_alarm (mk := mk) (vl := vl) (cl := cl) (wt := wt) (wd := wd) (du := du) (oft := oft) (bg := bg) (av := av) (cp := cp) (v1 := v1) (by omega) h
  exact hX _ (hY _ ⟨rfl, ra_RR_mono hR (by omega)⟩)
theorem i_vc_beat {k : Nat} {u : SX} {v : SY} (I : i_Rel k u v) (hk : k + 7 ≤ 3584) : wpX_beat (fun r u' => wpY_beat (fun r' v' => r' = r ∧ i_Rel (k + 7) u' v') v) u := by
  refine ra_use (P := fun u v => wpX_beat (fun r u' => wpY_beat (fun r' v' => r' = r ∧ i_Rel (k + 7) u' v') v) u) (fun c m n st pr bs tk mk vl cl rs al wt wd tt sb pa du oft bg av ep pt nb lg lt lv gk gt gf gl gs gn sl ss bo ot so sq go mo nt fr tw tx gr ge g1 g2 g3 sv lf se cp sn lo h => ?_) I
  obtain ⟨w, u', v', hR, hX, hY⟩ := ra_beat (mk := mk) (vl := vl) (cl := cl) (wt := wt) (wd := wd) (du := du) (oft := oft) (bg := bg) (av := av) (cp := cp) (by omega) h
  exact hX _ (hY _ ⟨rfl, ra_RR_mono hR (by omega)⟩)
theorem i_vc_watch {k : Nat} {u : SX} {v : SY} (I : i_Rel k u v) (hk : k + 7 ≤ 3584) (v1 : Int32) : wpX_watch (fun r u' => wpY_watch (fun r' v' => r' = r ∧ i_Rel (k + 7) u' v') v v1) u v1 := by
  refine ra_use (P := fun u v => wpX_watch (fun r u' => wpY_watch (fun r' v' => r' = r ∧ i_Rel (k + 7) u' v') v v1) u v1) (fun c m n st pr bs tk mk vl cl rs al wt wd tt sb pa du oft bg av ep pt nb lg lt lv gk gt gf gl gs gn sl ss bo ot so sq go mo nt fr tw tx gr ge g1 g2 g3 sv lf se cp sn lo h => ?_) I
  obtain ⟨w, u', v', hR, hX, hY⟩ := ra_watch (mk := mk) (vl := vl) (cl := cl) (wt := wt) (wd := wd) (du := du) (oft := oft) (bg := bg) (av := av) (cp := cp) (v1 := v1) (by omega) h
  exact hX _ (hY _ ⟨rfl, ra_RR_mono hR (by omega)⟩)
theorem i_vc_serve {k : Nat} {u : SX} {v : SY} (I : i_Rel k u v) (hk : k + 7 ≤ 3584) (v1 : Int32) (v2 : Int32) (v3 : Int32) : wpX_serve (fun r u' => wpY_serve (fun r' v' => r' = r ∧ i_Rel (k + 7) u' v') v v1 v2 v3) u v1 v2 v3 := by
  refine ra_use (P := fun u v => wpX_serve (fun r u' => wpY_serve (fun r' v' => r' = r ∧ i_Rel (k + 7) u' v') v v1 v2 v3) u v1 v2 v3) (fun c m n st pr bs tk mk vl cl rs al wt wd tt sb pa du oft bg av ep pt nb lg lt lv gk gt gf gl gs gn sl ss bo ot so sq go mo nt fr tw tx gr ge g1 g2 g3 sv lf se cp sn lo h => ?_) I
  obtain ⟨w, u', v', hR, hX, hY⟩ := ra_serve (mk := mk) (vl := vl) (cl := cl) (wt := wt) (wd := wd) (du := du) (oft := oft) (bg := bg) (av := av) (cp := cp) (v1 := v1) (v2 := v2) (v3 := v3) h
  exact hX _ (hY _ ⟨rfl, ra_RR_mono hR (by omega)⟩)
theorem i_vc_close {k : Nat} {u : SX} {v : SY} (I : i_Rel k u v) (hk : k + 7 ≤ 3584) (v1 : Int32) : wpX_close (fun r u' => wpY_close (fun r' v' => r' = r ∧ i_Rel (k + 7) u' v') v v1) u v1 := by
  refine ra_use (P := fun u v => wpX_close (fun r u' => wpY_close (fun r' v' => r' = r ∧ i_Rel (k + 7) u' v') v v1) u v1) (fun c m n st pr bs tk mk vl cl rs al wt wd tt sb pa du oft bg av ep pt nb lg lt lv gk gt gf gl gs gn sl ss bo ot so sq go mo nt fr tw tx gr ge g1 g2 g3 sv lf se cp sn lo h => ?_) I
  obtain ⟨w, u', v', hR, hX, hY⟩ := ra_close (mk := mk) (vl := vl) (cl := cl) (wt := wt) (wd := wd) (du := du) (oft := oft) (bg := bg) (av := av) (cp := cp) (v1 := v1) h
  exact hX _ (hY _ ⟨rfl, ra_RR_mono hR (by omega)⟩)
theorem i_vc_tick {k : Nat} {u : SX} {v : SY} (I : i_Rel k u v) (hk : k + 7 ≤ 3584) (v1 : Int32) : wpX_tick (fun r u' => wpY_tick (fun r' v' => r' = r ∧ i_Rel (k + 7) u' v') v v1) u v1 := by
  refine ra_use (P := fun u v => wpX_tick (fun r u' => wpY_tick (fun r' v' => r' = r ∧ i_Rel (k + 7) u' v') v v1) u v1) (fun c m n st pr bs tk mk vl cl rs al wt wd tt sb pa du oft bg av ep pt nb lg lt lv gk gt gf gl gs gn sl ss bo ot so sq go mo nt fr tw tx gr ge g1 g2 g3 sv lf se cp sn lo h => ?_) I
  obtain ⟨w, u', v', hR, hX, hY⟩ := ra_tick (mk := mk) (vl := vl) (cl := cl) (wt := wt) (wd := wd) (du := du) (oft := oft) (bg := bg) (av := av) (cp := cp) (v1 := v1) (by omega) h
  exact hX _ (hY _ ⟨rfl, ra_RR_mono hR (by omega)⟩)
theorem i_vc_poke {k : Nat} {u : SX} {v : SY} (I : i_Rel k u v) (hk : k + 7 ≤ 3584) (v1 : Int32) (v2 : Int32) (v3 : Int32) : wpX_poke (fun r u' => wpY_poke (fun r' v' => r' = r ∧ i_Rel (k + 7) u' v') v v1 v2 v3) u v1 v2 v3 := by
  refine ra_use (P := fun u v => wpX_poke (fun r u' => wpY_poke (fun r' v' => r' = r ∧ i_Rel (k + 7) u' v') v v1 v2 v3) u v1 v2 v3) (fun c m n st pr bs tk mk vl cl rs al wt wd tt sb pa du oft bg av ep pt nb lg lt lv gk gt gf gl gs gn sl ss bo ot so sq go mo nt fr tw tx gr ge g1 g2 g3 sv lf se cp sn lo h => ?_) I
  obtain ⟨w, u', v', hR, hX, hY⟩ := ra_poke (mk := mk) (vl := vl) (cl := cl) (wt := wt) (wd := wd) (du := du) (oft := oft) (bg := bg) (av := av) (cp := cp) (v1 := v1) (v2 := v2) (v3 := v3) h
  exact hX _ (hY _ ⟨rfl, ra_RR_mono hR (by omega)⟩)
theorem i_vc_memory {k : Nat} {u : SX} {v : SY} (I : i_Rel k u v) (hk : k + 7 ≤ 3584) (v1 : Int32) (v2 : Int32) : wpX_memory (fun r => wpY_memory (fun r' => r' = r ∧ i_Rel (k + 7) u v) v v1 v2) u v1 v2 := by
  refine ra_use (P := fun u v => wpX_memory (fun r => wpY_memory (fun r' => r' = r ∧ i_Rel (k + 7) u v) v v1 v2) u v1 v2) (fun c m n st pr bs tk mk vl cl rs al wt wd tt sb pa du oft bg av ep pt nb lg lt lv gk gt gf gl gs gn sl ss bo ot so sq go mo nt fr tw tx gr ge g1 g2 g3 sv lf se cp sn lo h => ?_) I
  obtain ⟨w, hX, hY⟩ := ra_memory (mk := mk) (vl := vl) (cl := cl) (wt := wt) (wd := wd) (du := du) (oft := oft) (bg := bg) (av := av) (cp := cp) (v1 := v1) (v2 := v2) h
  exact hX _ (hY _ ⟨rfl, ra_RR_mono (ra_in (mk := mk) (vl := vl) (cl := cl) (wt := wt) (wd := wd) (du := du) (oft := oft) (bg := bg) (av := av) (cp := cp) h) (by omega)⟩)
theorem i_vc_running {k : Nat} {u : SX} {v : SY} (I : i_Rel k u v) (hk : k + 7 ≤ 3584) : wpX_running (fun r => wpY_running (fun r' => r' = r ∧ i_Rel (k + 7) u v) v) u := by
  refine ra_use (P := fun u v => wpX_running (fun r => wpY_running (fun r' => r' = r ∧ i_Rel (k + 7) u v) v) u) (fun c m n st pr bs tk mk vl cl rs al wt wd tt sb pa du oft bg av ep pt nb lg lt lv gk gt gf gl gs gn sl ss bo ot so sq go mo nt fr tw tx gr ge g1 g2 g3 sv lf se cp sn lo h => ?_) I
  obtain ⟨w, hX, hY⟩ := ra_running (mk := mk) (vl := vl) (cl := cl) (wt := wt) (wd := wd) (du := du) (oft := oft) (bg := bg) (av := av) (cp := cp) (by omega) h
  exact hX _ (hY _ ⟨rfl, ra_RR_mono (ra_in (mk := mk) (vl := vl) (cl := cl) (wt := wt) (wd := wd) (du := du) (oft := oft) (bg := bg) (av := av) (cp := cp) h) (by omega)⟩)
theorem i_vc_at {k : Nat} {u : SX} {v : SY} (I : i_Rel k u v) (hk : k + 7 ≤ 3584) (v1 : Int32) (v2 : Int32) : wpX_at (fun r => wpY_at (fun r' => r' = r ∧ i_Rel (k + 7) u v) v v1 v2) u v1 v2 := by
  refine ra_use (P := fun u v => wpX_at (fun r => wpY_at (fun r' => r' = r ∧ i_Rel (k + 7) u v) v v1 v2) u v1 v2) (fun c m n st pr bs tk mk vl cl rs al wt wd tt sb pa du oft bg av ep pt nb lg lt lv gk gt gf gl gs gn sl ss bo ot so sq go mo nt fr tw tx gr ge g1 g2 g3 sv lf se cp sn lo h => ?_) I
  obtain ⟨w, hX, hY⟩ := ra_at (mk := mk) (vl := vl) (cl := cl) (wt := wt) (wd := wd) (du := du) (oft := oft) (bg := bg) (av := av) (cp := cp) (v1 := v1) (v2 := v2) (by omega) h
  exact hX _ (hY _ ⟨rfl, ra_RR_mono (ra_in (mk := mk) (vl := vl) (cl := cl) (wt := wt) (wd := wd) (du := du) (oft := oft) (bg := bg) (av := av) (cp := cp) h) (by omega)⟩)
theorem i_vc_service {k : Nat} {u : SX} {v : SY} (I : i_Rel k u v) (hk : k + 7 ≤ 3584) (v1 : Int32) (v2 : Int32) : wpX_service (fun r => wpY_service (fun r' => r' = r ∧ i_Rel (k + 7) u v) v v1 v2) u v1 v2 := by
  refine ra_use (P := fun u v => wpX_service (fun r => wpY_service (fun r' => r' = r ∧ i_Rel (k + 7) u v) v v1 v2) u v1 v2) (fun c m n st pr bs tk mk vl cl rs al wt wd tt sb pa du oft bg av ep pt nb lg lt lv gk gt gf gl gs gn sl ss bo ot so sq go mo nt fr tw tx gr ge g1 g2 g3 sv lf se cp sn lo h => ?_) I
  obtain ⟨w, hX, hY⟩ := ra_service (mk := mk) (vl := vl) (cl := cl) (wt := wt) (wd := wd) (du := du) (oft := oft) (bg := bg) (av := av) (cp := cp) (v1 := v1) (v2 := v2) h
  exact hX _ (hY _ ⟨rfl, ra_RR_mono (ra_in (mk := mk) (vl := vl) (cl := cl) (wt := wt) (wd := wd) (du := du) (oft := oft) (bg := bg) (av := av) (cp := cp) h) (by omega)⟩)
end
section
/-! what is owed: the last -/
theorem i_vc_total {k : Nat} {u : SX} {v : SY} (I : i_Rel k u v) (hk : k + 7 ≤ 3584) (v1 : Int32) : wpX_total (fun r => wpY_total (fun r' => r' = r ∧ i_Rel (k + 7) u v) v v1) u v1 := by
  refine ra_use (P := fun u v => wpX_total (fun r => wpY_total (fun r' => r' = r ∧ i_Rel (k + 7) u v) v v1) u v1) (fun c m n st pr bs tk mk vl cl rs al wt wd tt sb pa du oft bg av ep pt nb lg lt lv gk gt gf gl gs gn sl ss bo ot so sq go mo nt fr tw tx gr ge g1 g2 g3 sv lf se cp sn lo h => ?_) I
  obtain ⟨w, hX, hY⟩ := ra_total (mk := mk) (vl := vl) (cl := cl) (wt := wt) (wd := wd) (du := du) (oft := oft) (bg := bg) (av := av) (cp := cp) (v1 := v1) h
  exact hX _ (hY _ ⟨rfl, ra_RR_mono (ra_in (mk := mk) (vl := vl) (cl := cl) (wt := wt) (wd := wd) (du := du) (oft := oft) (bg := bg) (av := av) (cp := cp) h) (by omega)⟩)
end
