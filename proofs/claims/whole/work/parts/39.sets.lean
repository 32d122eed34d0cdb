/-! counting, sets as numbers -/
def ct (f : Nat → Bool) : Nat → Nat
  | 0 => 0
  | i + 1 => ct f i + (if f i = true then 1 else 0)
theorem ct_len (f : Nat → Bool) : ∀ n, ((List.range n).filter f).length = ct f n := by
  intro n
  induction n with
  | zero => rfl
  | succ n ih =>
    rw [List.range_succ, List.filter_append, List.length_append, ih]
    show _ = ct f n + (if f n = true then 1 else 0)
    cases h : f n <;> simp [h]
theorem pop_ct (m : Nat) : pop m = ct (fun i => m.testBit i) 12 := ct_len _ 12
theorem ct_le {f q : Nat → Bool} : ∀ n, (∀ i, i < n → f i = true → q i = true) → ct f n ≤ ct q n := by
  intro n
  induction n with
  | zero => intro _; exact Nat.le_refl _
  | succ n ih =>
    intro h
    have h1 := ih (fun i hi => h i (by omega))
    have h2 := h n (by omega)
    unfold ct
    cases hf : f n with
    | false => simp; omega
    | true => rw [h2 hf]; simp; omega
theorem ct_congr {f q : Nat → Bool} {n : Nat} (h : ∀ i, i < n → f i = q i) : ct f n = ct q n := by
  have h1 := ct_le (f := f) (q := q) n (fun i hi e => by rw [← h i hi]; exact e)
  have h2 := ct_le (f := q) (q := f) n (fun i hi e => by rw [h i hi]; exact e)
  omega
theorem ct_or {f q : Nat → Bool} : ∀ n, (∀ i, i < n → ¬ (f i = true ∧ q i = true)) → ct (fun i => f i || q i) n = ct f n + ct q n := by
  intro n
  induction n with
  | zero => intro _; rfl
  | succ n ih =>
    intro h
    have h1 := ih (fun i hi => h i (by omega))
    have h2 := h n (by omega)
    unfold ct
    rw [h1]
    cases hf : f n <;> cases hq : q n <;> simp [hf, hq] at h2 ⊢ <;> omega
theorem ct_bd (f : Nat → Bool) : ∀ n, ct f n ≤ n := by
  intro n
  induction n with
  | zero => exact Nat.le_refl _
  | succ n ih => unfold ct; split <;> omega
theorem ct_0 {f : Nat → Bool} : ∀ n, ct f n = 0 → ∀ i, i < n → f i = false := by
  intro n
  induction n with
  | zero => intro _ i hi; omega
  | succ n ih =>
    intro h i hi
    unfold ct at h
    by_cases hin : i = n
    · subst hin
      cases hf : f i with
      | false => rfl
      | true => rw [hf] at h; simp at h
    · exact ih (by omega) i (by omega)
theorem ct_one {a : Nat} : ∀ n, a < n → ct (fun i => decide (i = a)) n = 1 := by
  intro n
  induction n with
  | zero => intro h; omega
  | succ n ih =>
    intro h
    unfold ct
    by_cases hn : n = a
    · subst hn
      have : ct (fun i => decide (i = n)) n = ct (fun _ => false) n := ct_congr (fun i hi => by simp; omega)
      have h0 : ∀ m, ct (fun _ => false) m = 0 := by
        intro m
        induction m with
        | zero => rfl
        | succ m ih => unfold ct; rw [ih]; rfl
      rw [this, h0]
      simp
    · rw [ih (by omega)]
      simp [hn]
theorem ct_ext {f : Nat → Bool} {n m : Nat} (h : n ≤ m) (h0 : ∀ i, n ≤ i → i < m → f i = false) : ct f m = ct f n := by
  induction m with
  | zero => have : n = 0 := by omega
            rw [this]
  | succ m ih =>
    by_cases hn : n = m + 1
    · rw [hn]
    · rw [← ih (by omega) (fun i a b => h0 i a (by omega))]
      conv => lhs; unfold ct
      rw [h0 m (by omega) (by omega)]
      simp
abbrev sb (a b : Nat) : Prop := ∀ i, a.testBit i = true → b.testBit i = true
theorem tb_lt {m n i : Nat} (h : m < 2 ^ n) (hi : m.testBit i = true) : i < n := by
  by_cases h1 : i < n
  · exact h1
  · have : m < 2 ^ i := Nat.lt_of_lt_of_le h (Nat.pow_le_pow_right (by decide) (by omega))
    rw [Nat.testBit_lt_two_pow this] at hi
    cases hi
theorem sb_lt {a b n : Nat} (h : sb a b) (hb : b < 2 ^ n) : a < 2 ^ n := Nat.lt_pow_two_of_testBit a (fun i hi => by
  cases hq : a.testBit i with
  | false => rfl
  | true => exact absurd (tb_lt hb (h i hq)) (by omega))
theorem pop_sb {a b : Nat} (h : sb a b) : pop a ≤ pop b := by
  rw [pop_ct, pop_ct]
  exact ct_le 12 (fun i _ e => h i e)
theorem pop_or {a b : Nat} (h : ∀ i, ¬ (a.testBit i = true ∧ b.testBit i = true)) : pop (a ||| b) = pop a + pop b := by
  rw [pop_ct, pop_ct, pop_ct, ← ct_or 12 (fun i _ => h i)]
  exact ct_congr (fun i _ => Nat.testBit_or a b i)
theorem pop_one {i : Nat} (h : i < 12) : pop (2 ^ i) = 1 := by
  rw [pop_ct, ← ct_one 12 h]
  refine ct_congr (fun j _ => ?_)
  rw [Nat.testBit_two_pow]
  by_cases hij : i = j
  · simp [hij]
  · simp [hij, show ¬ j = i by omega]
theorem pop_zero : pop 0 = 0 := by decide
theorem pop_0 {m : Nat} (hm : m < 4096) (h : pop m = 0) : m = 0 := by
  rw [pop_ct] at h
  apply Nat.eq_of_testBit_eq
  intro i
  rw [Nat.zero_testBit]
  by_cases hi : i < 12
  · exact ct_0 12 h i hi
  · exact Nat.testBit_lt_two_pow (Nat.lt_of_lt_of_le hm (Nat.pow_le_pow_right (n := 2) (by decide) (show 12 ≤ i by omega)))
theorem pop_n {m n : Nat} (hn : n ≤ 12) (h : m < 2 ^ n) : pop m ≤ n := by
  rw [pop_ct, ct_ext hn (fun i hi _ => Nat.testBit_lt_two_pow (Nat.lt_of_lt_of_le h (Nat.pow_le_pow_right (by decide) hi)))]
  exact ct_bd _ _
theorem clr_tb {m i : Nat} (hm : m < 4096) (hi : i < 12) (j : Nat) : (clr m i).testBit j = (m.testBit j && decide (j ≠ i)) := by
  unfold clr
  rw [Nat.testBit_and, Nat.testBit_xor, Nat.testBit_two_pow]
  by_cases hj : j < 12
  · have : (2 ^ 32 - 1).testBit j = true := by
      rw [Nat.testBit_two_pow_sub_one]
      simp; omega
    rw [this]
    by_cases hij : i = j
    · simp [hij]
    · simp [hij, show ¬ j = i by omega]
  · have : m.testBit j = false := Nat.testBit_lt_two_pow (Nat.lt_of_lt_of_le hm (Nat.pow_le_pow_right (n := 2) (by decide) (show 12 ≤ j by omega)))
    rw [this]
    simp
/-- the lowest place in which two sets differ is the first's -/
def ahd (a b : Nat) : Prop := ∃ i, a.testBit i = true ∧ b.testBit i = false ∧ ∀ j, j < i → a.testBit j = b.testBit j
theorem ahd_trans {a b c : Nat} (h1 : ahd a b) (h2 : ahd b c) : ahd a c := by
  obtain ⟨i, a1, a2, a3⟩ := h1
  obtain ⟨j, b1, b2, b3⟩ := h2
  rcases Nat.lt_trichotomy i j with h | h | h
  · exact ⟨i, a1, by rw [← b3 i h]; exact a2, fun q hq => (a3 q hq).trans (b3 q (by omega))⟩
  · subst h
    rw [a2] at b1
    cases b1
  · exact ⟨j, by rw [a3 j h]; exact b1, b2, fun q hq => (a3 q (by omega)).trans (b3 q hq)⟩
theorem ahd_irr {a : Nat} (h : ahd a a) : False := by
  obtain ⟨i, h1, h2, -⟩ := h
  rw [h1] at h2
  cases h2
def lo9 (d : Nat) : Nat := (List.range 12).foldr (fun i r => if d.testBit i = true then i else r) 12
set_option maxRecDepth 100000 in
theorem lo9_a : ∀ d : Fin 4096, d.val = 0 ∨ (lo9 d.val < 12 ∧ d.val.testBit (lo9 d.val) = true ∧ d.val % 2 ^ lo9 d.val = 0) := by decide +kernel
set_option maxRecDepth 100000 in
theorem lo9_b : ∀ d : Fin 4096, nI d.val &&& -nI d.val = if d.val = 0 then 0 else nI (2 ^ lo9 d.val) := by decide +kernel
theorem ahM_ahd {a b : Nat} (ha : a < 4096) (hb : b < 4096) : ahM a b = true ↔ ahd a b := by
  have hd : a ^^^ b < 4096 := Nat.xor_lt_two_pow (n := 12) ha hb
  have e := lo9_b ⟨a ^^^ b, hd⟩
  have f := lo9_a ⟨a ^^^ b, hd⟩
  simp only at e f
  unfold ahM
  rw [Int32.and_assoc, e]
  by_cases h0 : a ^^^ b = 0
  · rw [if_pos h0]
    have hab : a = b := by
      apply Nat.eq_of_testBit_eq
      intro i
      have : (a ^^^ b).testBit i = false := by rw [h0]; exact Nat.zero_testBit i
      rw [Nat.testBit_xor] at this
      revert this
      cases a.testBit i <;> cases b.testBit i <;> simp
    subst hab
    constructor
    · intro h
      simp at h
    · intro h
      exact (ahd_irr h).elim
  · rw [if_neg h0]
    obtain ⟨f1, f2, f3⟩ := f.resolve_left h0
    have low : ∀ j, j < lo9 (a ^^^ b) → a.testBit j = b.testBit j := by
      intro j hj
      have h1 : ((a ^^^ b) % 2 ^ lo9 (a ^^^ b)).testBit j = false := by rw [f3]; exact Nat.zero_testBit j
      rw [Nat.testBit_mod_two_pow] at h1
      simp [hj] at h1
      revert h1
      cases a.testBit j <;> cases b.testBit j <;> simp
    rw [Nat.testBit_xor] at f2
    rw [nz_and, decide_eq_true_iff]
    have hz : ¬ nI (a &&& 2 ^ lo9 (a ^^^ b)) = 0 ↔ a.testBit (lo9 (a ^^^ b)) = true := by
      rw [nz_bit ha]
      cases a.testBit (lo9 (a ^^^ b)) <;> simp
    rw [hz]
    constructor
    · intro h
      rw [h] at f2
      exact ⟨_, h, by revert f2; cases b.testBit (lo9 (a ^^^ b)) <;> simp, low⟩
    · intro ⟨i, i1, i2, i3⟩
      rcases Nat.lt_trichotomy i (lo9 (a ^^^ b)) with h | h | h
      · have := low i h
        rw [i1, i2] at this
        cases this
      · rw [← h]; exact i1
      · have := i3 _ h
        rw [this] at f2
        revert f2
        cases b.testBit (lo9 (a ^^^ b)) <;> simp
