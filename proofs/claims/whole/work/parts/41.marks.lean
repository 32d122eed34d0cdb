/-! the model's greatest set is the class's -/
def btr (a b : Nat) : Prop := pop b < pop a ∨ (pop a = pop b ∧ ahd a b)
theorem btr_trans {a b c : Nat} (h1 : btr a b) (h2 : btr b c) : btr a c := by
  rcases h1 with h1 | ⟨h1, h3⟩ <;> rcases h2 with h2 | ⟨h2, h4⟩
  · exact Or.inl (by omega)
  · exact Or.inl (by omega)
  · exact Or.inl (by omega)
  · exact Or.inr ⟨by omega, ahd_trans h3 h4⟩
theorem btr_irr {a : Nat} (h : btr a a) : False := by
  rcases h with h | ⟨-, h⟩
  · omega
  · exact ahd_irr h
theorem icI_iff {E : Nat → Nat → Bool} {m i : Nat} {b : Bool} : ∀ q, icI E m i b q = true ↔ b = true ∧ ∀ j, j < q → m.testBit i = true → m.testBit j = true → E i j = true := by
  intro q
  induction q with
  | zero => exact ⟨fun h => ⟨h, fun j hj => by omega⟩, fun h => h.1⟩
  | succ q ih =>
    have e : icI E m i b (q + 1) = (icI E m i b q && (!m.testBit i || !m.testBit q || E i q)) := rfl
    rw [e, Bool.and_eq_true, ih]
    constructor
    · intro ⟨⟨h1, h2⟩, h3⟩
      refine ⟨h1, fun j hj a1 a2 => ?_⟩
      by_cases hjq : j = q
      · subst hjq
        rw [a1, a2] at h3
        simpa using h3
      · exact h2 j (by omega) a1 a2
    · intro ⟨h1, h2⟩
      refine ⟨⟨h1, fun j hj => h2 j (by omega)⟩, ?_⟩
      cases a1 : m.testBit i with
      | false => simp
      | true =>
        cases a2 : m.testBit q with
        | false => simp
        | true => rw [h2 q (by omega) a1 a2]; simp
theorem icO_iff {E : Nat → Nat → Bool} {m : Nat} : ∀ n, icO E m n = true ↔ ∀ i j, j < i → i < n → m.testBit i = true → m.testBit j = true → E i j = true := by
  intro n
  induction n with
  | zero => exact ⟨fun _ i j _ hi => by omega, fun _ => rfl⟩
  | succ n ih =>
    have e : icO E m (n + 1) = icI E m n (icO E m n) n := rfl
    rw [e, icI_iff, ih]
    constructor
    · intro ⟨h1, h2⟩ i j hj hi
      by_cases hin : i = n
      · subst hin; exact h2 j hj
      · exact h1 i j hj (by omega)
    · intro h
      exact ⟨fun i j hj hi => h i j hj (by omega), fun j hj => h n j hj (by omega)⟩
theorem icO_clq {E : Nat → Nat → Bool} {n m : Nat} (hE : ∀ i j, i < n → j < n → E i j = E j i) (hm : m < 2 ^ n) : icO E m n = true ↔ clq E m := by
  rw [icO_iff]
  constructor
  · intro h i j hi hj hij
    have a := tb_lt hm hi
    have b := tb_lt hm hj
    rcases Nat.lt_or_gt_of_ne hij with h1 | h1
    · rw [hE i j a b]; exact h j i h1 b hj hi
    · exact h i j h1 a hi hj
  · intro h i j hj hi a b
    exact h i j a b (by omega)
theorem bM_spec {E : Nat → Nat → Bool} {n : Nat} (hn : n ≤ 12) (hE : ∀ i j, i < n → j < n → E i j = E j i) : ∀ t, t ≤ 2 ^ n → bM E n t < 2 ^ n ∧ clq E (bM E n t) ∧ ∀ T, T < t → clq E T → ¬ btr T (bM E n t) := by
  intro t
  induction t with
  | zero => intro _; exact ⟨Nat.two_pow_pos _, (fun i j hi => by rw [show bM E n 0 = 0 from rfl, Nat.zero_testBit] at hi; cases hi), fun T hT => by omega⟩
  | succ t ih =>
    intro ht
    obtain ⟨h1, h2, h3⟩ := ih (by omega)
    have h12 : (2 : Nat) ^ n ≤ 4096 := (show 2 ^ n ≤ 2 ^ 12 from Nat.pow_le_pow_right (by decide) hn)
    rw [bM_s]
    have cond : ((decide (pop (bM E n t) < pop t) || (decide (pop t = pop (bM E n t)) && ahM t (bM E n t))) && icO E t n) = true ↔ btr t (bM E n t) ∧ clq E t := by
      rw [Bool.and_eq_true, Bool.or_eq_true, Bool.and_eq_true, decide_eq_true_iff, decide_eq_true_iff, ahM_ahd (by omega) (by omega), icO_clq hE (by omega)]
      rfl
    by_cases hc : btr t (bM E n t) ∧ clq E t
    · rw [if_pos (cond.mpr hc)]
      refine ⟨by omega, hc.2, fun T hT hq hb => ?_⟩
      by_cases hTt : T = t
      · subst hTt; exact btr_irr hb
      · exact h3 T (by omega) hq (btr_trans hb hc.1)
    · rw [if_neg (fun z => hc (cond.mp z))]
      refine ⟨h1, h2, fun T hT hq hb => ?_⟩
      by_cases hTt : T = t
      · subst hTt; exact hc ⟨hb, hq⟩
      · exact h3 T (by omega) hq hb
theorem gr_bM {E : Nat → Nat → Bool} {n : Nat} {fo : Nat → Nat} (hn : n ≤ 12) (hE : ∀ i j, i < n → j < n → E i j = E j i) (hfo : ∀ i j, i < n → j < n → (fo i).testBit j = (decide (i ≠ j) && E i j)) :
    gr n fo 14 0 0 (2 ^ n - 1) 0 = bM E n (2 ^ n) := by
  have hp := Nat.two_pow_pos n
  have sp := gr_spec hn hE hfo 14 0 0 (2 ^ n - 1) 0 (by omega) (by omega) hp pop_zero (by omega) (fun i ⟨a, _⟩ => by rw [Nat.zero_testBit] at a; cases a) (by omega)
  obtain ⟨b1, b2, b3⟩ := bM_spec hn hE (2 ^ n) (Nat.le_refl _)
  have hsb : ∀ T, T < 2 ^ n → sb T (2 ^ n - 1) := fun T hT i hi => by
    rw [Nat.testBit_two_pow_sub_one]
    simpa using tb_lt hT hi
  rcases sp with ⟨e, s⟩ | ⟨T0, e, t1, t2, t3, t4⟩
  · have := s _ (hsb _ b1) b2
    rw [pop_zero] at this
    rw [e, pop_0 (p12 hn b1) (by omega)]
  · rw [e, Nat.zero_or]
    have hT : T0 < 2 ^ n := sb_lt t1 (by omega)
    obtain ⟨a, b⟩ := t4 _ (hsb _ b1) b2
    have nb := b3 T0 hT t2
    by_cases heq : bM E n (2 ^ n) = T0
    · exact heq.symm
    · exfalso
      by_cases hpe : pop (bM E n (2 ^ n)) = pop T0
      · exact nb (Or.inr ⟨hpe.symm, b hpe heq⟩)
      · exact nb (Or.inl (by omega))
/-! the marks -/
def Mk (e : Nat → Nat → Bool) (a b : Nat) : Prop := (b < a ∧ e a b = true) ∨ (a < b ∧ e b a = true)
theorem sap_tb {fo : Nat → Nat} {i j a b : Nat} (hij : i ≠ j) : (sap fo i j a).testBit b = true ↔ (fo a).testBit b = true ∨ (a = i ∧ b = j) ∨ (a = j ∧ b = i) := by
  unfold sap
  by_cases h1 : a = j
  · subst h1
    rw [va_up_self, va_up_ne _ _ (fun z => hij z.symm), Nat.testBit_or, Nat.testBit_two_pow, Bool.or_eq_true]
    constructor
    · intro h
      rcases h with h | h
      · exact Or.inl h
      · exact Or.inr (Or.inr ⟨rfl, by simpa using (of_decide_eq_true h).symm⟩)
    · intro h
      rcases h with h | ⟨h, -⟩ | ⟨-, h⟩
      · exact Or.inl h
      · exact absurd h.symm hij
      · exact Or.inr (by simp [h])
  · rw [va_up_ne _ _ h1]
    by_cases h2 : a = i
    · subst h2
      rw [va_up_self, Nat.testBit_or, Nat.testBit_two_pow, Bool.or_eq_true]
      constructor
      · intro h
        rcases h with h | h
        · exact Or.inl h
        · exact Or.inr (Or.inl ⟨rfl, (of_decide_eq_true h).symm⟩)
      · intro h
        rcases h with h | ⟨-, h⟩ | ⟨h, -⟩
        · exact Or.inl h
        · exact Or.inr (by simp [h])
        · exact absurd h h1
    · rw [va_up_ne _ _ h2]
      constructor
      · intro h; exact Or.inl h
      · intro h
        rcases h with h | ⟨h, -⟩ | ⟨h, -⟩
        · exact h
        · exact absurd h h2
        · exact absurd h h1
def MQ9 (e : Nat → Nat → Bool) (i j : Nat) (fo : Nat → Nat) : Prop := ∀ a b, a < 12 → b < 12 → ((fo a).testBit b = true ↔ (a < i ∧ b < i ∧ Mk e a b) ∨ (a = i ∧ b < j ∧ e i b = true) ∨ (b = i ∧ a < j ∧ e i a = true))
theorem mf1_ok {e : Nat → Nat → Bool} {i : Nat} (hi : i < 12) : ∀ f j fo, j + f = i → MQ9 e i j fo → MQ9 e i i (mf1 e i f j fo) := by
  intro f
  induction f with
  | zero =>
    intro j fo hj h
    have : j = i := by omega
    subst this
    exact h
  | succ f ih =>
    intro j fo hj h
    unfold mf1
    refine ih (j + 1) _ (by omega) ?_
    intro a b ha hb
    have h0 := h a b ha hb
    by_cases he : e i j = true
    · rw [if_pos he, sap_tb (by omega), h0]
      constructor
      · intro z
        rcases z with (z | ⟨z1, z2, z3⟩ | ⟨z1, z2, z3⟩) | ⟨z1, z2⟩ | ⟨z1, z2⟩
        · exact Or.inl z
        · exact Or.inr (Or.inl ⟨z1, by omega, z3⟩)
        · exact Or.inr (Or.inr ⟨z1, by omega, z3⟩)
        · exact Or.inr (Or.inl ⟨z1, by omega, by rw [z2]; exact he⟩)
        · exact Or.inr (Or.inr ⟨z2, by omega, by rw [z1]; exact he⟩)
      · intro z
        rcases z with z | ⟨z1, z2, z3⟩ | ⟨z1, z2, z3⟩
        · exact Or.inl (Or.inl z)
        · by_cases hbj : b = j
          · exact Or.inr (Or.inl ⟨z1, hbj⟩)
          · exact Or.inl (Or.inr (Or.inl ⟨z1, by omega, z3⟩))
        · by_cases haj : a = j
          · exact Or.inr (Or.inr ⟨haj, z1⟩)
          · exact Or.inl (Or.inr (Or.inr ⟨z1, by omega, z3⟩))
    · rw [if_neg he, h0]
      constructor
      · intro z
        rcases z with z | ⟨z1, z2, z3⟩ | ⟨z1, z2, z3⟩
        · exact Or.inl z
        · exact Or.inr (Or.inl ⟨z1, by omega, z3⟩)
        · exact Or.inr (Or.inr ⟨z1, by omega, z3⟩)
      · intro z
        rcases z with z | ⟨z1, z2, z3⟩ | ⟨z1, z2, z3⟩
        · exact Or.inl z
        · by_cases hbj : b = j
          · subst hbj; exact absurd z3 he
          · exact Or.inr (Or.inl ⟨z1, by omega, z3⟩)
        · by_cases haj : a = j
          · subst haj; exact absurd z3 he
          · exact Or.inr (Or.inr ⟨z1, by omega, z3⟩)
theorem mf_ok {e : Nat → Nat → Bool} : ∀ f i fo, i + f ≤ 12 → MQ9 e i 0 fo → MQ9 e (i + f) 0 (mf e f i fo) := by
  intro f
  induction f with
  | zero => intro i fo _ h; exact h
  | succ f ih =>
    intro i fo hi h
    unfold mf
    have h1 := mf1_ok (by omega) i 0 fo (by omega) h
    have h2 : MQ9 e (i + 1) 0 (mf1 e i i 0 fo) := by
      intro a b ha hb
      rw [h1 a b ha hb]
      constructor
      · intro z
        rcases z with ⟨z1, z2, z3⟩ | ⟨z1, z2, z3⟩ | ⟨z1, z2, z3⟩
        · exact Or.inl ⟨by omega, by omega, z3⟩
        · exact Or.inl ⟨by omega, by omega, Or.inl ⟨by omega, by rw [z1]; exact z3⟩⟩
        · exact Or.inl ⟨by omega, by omega, Or.inr ⟨by omega, by rw [z1]; exact z3⟩⟩
      · intro z
        rcases z with ⟨z1, z2, z3⟩ | ⟨-, z2, -⟩ | ⟨-, z2, -⟩
        · by_cases hai : a = i
          · subst hai
            rcases z3 with ⟨z3, z4⟩ | ⟨z3, z4⟩
            · exact Or.inr (Or.inl ⟨rfl, z3, z4⟩)
            · omega
          · by_cases hbi : b = i
            · subst hbi
              rcases z3 with ⟨z3, z4⟩ | ⟨z3, z4⟩
              · omega
              · exact Or.inr (Or.inr ⟨rfl, z3, z4⟩)
            · exact Or.inl ⟨by omega, by omega, z3⟩
        · omega
        · omega
    have h3 := ih (i + 1) _ (by omega) h2
    rw [show i + (f + 1) = i + 1 + f by omega]
    exact h3
theorem mf_E {e E : Nat → Nat → Bool} {n : Nat} (hn : n ≤ 12) (he : ∀ i j, i < n → j < n → i ≠ j → e i j = E i j) (hE : ∀ i j, i < n → j < n → E i j = E j i) {fo0 : Nat → Nat} (h0 : ∀ b, b < 12 → fo0 b = 0) :
    ∀ i j, i < n → j < n → (mf e n 0 fo0 i).testBit j = (decide (i ≠ j) && E i j) := by
  intro i j hi hj
  have h1 := mf_ok (e := e) n 0 fo0 (by omega) (fun a b ha hb => by
    rw [h0 a ha, Nat.zero_testBit]
    constructor
    · intro z; cases z
    · intro z
      rcases z with ⟨z, -⟩ | ⟨-, z, -⟩ | ⟨-, z, -⟩ <;> omega)
  have h2 := h1 i j (by omega) (by omega)
  rw [Nat.zero_add] at h2
  have h3 : (mf e n 0 fo0 i).testBit j = true ↔ (decide (i ≠ j) && E i j) = true := by
    rw [h2, Bool.and_eq_true, decide_eq_true_iff]
    constructor
    · intro z
      rcases z with ⟨-, -, z⟩ | ⟨-, z, -⟩ | ⟨-, z, -⟩
      · rcases z with ⟨z1, z2⟩ | ⟨z1, z2⟩
        · exact ⟨by omega, by rw [← he i j hi hj (by omega)]; exact z2⟩
        · exact ⟨by omega, by rw [hE i j hi hj, ← he j i hj hi (by omega)]; exact z2⟩
      · omega
      · omega
    · intro ⟨z1, z2⟩
      refine Or.inl ⟨hi, hj, ?_⟩
      rcases Nat.lt_or_gt_of_ne z1 with h | h
      · exact Or.inr ⟨h, by rw [he j i hj hi (by omega), ← hE i j hi hj]; exact z2⟩
      · exact Or.inl ⟨h, by rw [he i j hi hj (by omega)]; exact z2⟩
  revert h3
  cases (mf e n 0 fo0 i).testBit j <;> cases (decide (i ≠ j) && E i j) <;> simp
