/-! the greatest set, as the class finds it -/
def clq (E : Nat → Nat → Bool) (T : Nat) : Prop := ∀ i j, T.testBit i = true → T.testBit j = true → i ≠ j → E i j = true
def SP (E : Nat → Nat → Bool) (size chosen opn best R : Nat) : Prop :=
  (R = best ∧ ∀ T, sb T opn → clq E T → size + pop T ≤ pop best) ∨
  ∃ T0, R = chosen ||| T0 ∧ sb T0 opn ∧ clq E T0 ∧ pop best < size + pop T0 ∧ ∀ T, sb T opn → clq E T → pop T ≤ pop T0 ∧ (pop T = pop T0 → T ≠ T0 → ahd T0 T)
theorem grL_s {rec : Nat → Nat → Nat → Nat → Nat} {n : Nat} {fo : Nat → Nat} {size chosen f i left best : Nat} : grL rec n fo size chosen (f + 1) i left best =
    if size + pop left ≤ pop best then best
    else if left.testBit i = true ∧ size < n then grL rec n fo size chosen f (i + 1) (clr left i) (rec (size + 1) (chosen ||| 2 ^ i) (clr left i &&& fo i) best)
    else grL rec n fo size chosen f (i + 1) left best := rfl
theorem p12 {n : Nat} (h : n ≤ 12) {m : Nat} (hm : m < 2 ^ n) : m < 4096 := Nat.lt_of_lt_of_le hm (show 2 ^ n ≤ 2 ^ 12 from Nat.pow_le_pow_right (by decide) h)
/-- a set that has i: i and the rest -/
theorem split_i {T i : Nat} (hT : T < 4096) (hi : i < 12) (h : T.testBit i = true) : T = 2 ^ i ||| clr T i := by
  apply Nat.eq_of_testBit_eq
  intro j
  rw [Nat.testBit_or, clr_tb hT hi, Nat.testBit_two_pow]
  by_cases hij : i = j
  · subst hij; simp [h]
  · simp [hij, show ¬ j = i by omega]
theorem pop_i {T i : Nat} (hT : T < 4096) (hi : i < 12) (h : T.testBit i = true) : pop T = 1 + pop (clr T i) := by
  have hd : ∀ j, ¬ ((2 ^ i).testBit j = true ∧ (clr T i).testBit j = true) := by
    intro j ⟨a, b⟩
    rw [clr_tb hT hi] at b
    rw [Nat.testBit_two_pow] at a
    simp at a b
    omega
  conv => lhs; rw [split_i hT hi h]
  rw [pop_or hd, pop_one hi]
theorem grL_spec {E : Nat → Nat → Bool} {n : Nat} {fo : Nat → Nat} (hn : n ≤ 12) (hE : ∀ i j, i < n → j < n → E i j = E j i) (hfo : ∀ i j, i < n → j < n → (fo i).testBit j = (decide (i ≠ j) && E i j)) {rec : Nat → Nat → Nat → Nat → Nat} {size chosen : Nat} (hc : chosen < 2 ^ n) (hsz : pop chosen = size)
    (IH : ∀ c o b, c < 2 ^ n → pop c = size + 1 → o < 2 ^ n → (∀ i, ¬ (c.testBit i = true ∧ o.testBit i = true)) → b < 4096 → SP E (size + 1) c o b (rec (size + 1) c o b)) (hrl : ∀ c o b, c < 4096 → b < 4096 → rec (size + 1) c o b < 4096) :
    ∀ f i left best, i + f = n → left < 2 ^ n → (∀ j, j < i → left.testBit j = false) → (∀ j, ¬ (chosen.testBit j = true ∧ left.testBit j = true)) → best < 4096 → size ≤ pop best → SP E size chosen left best (grL rec n fo size chosen f i left best) := by
  intro f
  induction f with
  | zero =>
    intro i left best hi hl hlow hdis hb hsb
    refine Or.inl ⟨rfl, fun T hT _ => ?_⟩
    have : left = 0 := by
      apply Nat.eq_of_testBit_eq
      intro j
      rw [Nat.zero_testBit]
      by_cases hj : j < i
      · exact hlow j hj
      · exact Nat.testBit_lt_two_pow (Nat.lt_of_lt_of_le hl (Nat.pow_le_pow_right (by decide) (by omega)))
    have h2 := pop_sb hT
    rw [this, pop_zero] at h2
    omega
  | succ f ih =>
    intro i left best hi hl hlow hdis hb hsb
    have hl9 := p12 hn hl
    have hc9 := p12 hn hc
    rw [grL_s]
    by_cases h1 : size + pop left ≤ pop best
    · rw [if_pos h1]
      exact Or.inl ⟨rfl, fun T hT _ => by have := pop_sb hT; omega⟩
    · rw [if_neg h1]
      by_cases h2 : left.testBit i = true
      · have hsn : size < n := by
          have h3 := pop_or hdis
          have h4 : chosen ||| left < 2 ^ n := Nat.or_lt_two_pow hc hl
          have h5 := pop_n hn h4
          have h6 := pop_i hl9 (by omega) h2
          omega
        rw [if_pos ⟨h2, hsn⟩]
        have hci : (chosen).testBit i = false := by
          cases hq : chosen.testBit i with
          | false => rfl
          | true => exact absurd ⟨hq, h2⟩ (hdis i)
        have hcl : sb (clr left i) left := fun j hj => by
          rw [clr_tb hl9 (by omega)] at hj
          simp at hj
          exact hj.1
        have hcl2 : clr left i < 2 ^ n := sb_lt hcl hl
        have hpw : 2 ^ i < 2 ^ n := Nat.pow_lt_pow_right (by decide) (by omega)
        have hc2 : chosen ||| 2 ^ i < 2 ^ n := Nat.or_lt_two_pow hc hpw
        have hp2 : pop (chosen ||| 2 ^ i) = size + 1 := by
          have hd : ∀ j, ¬ (chosen.testBit j = true ∧ (2 ^ i).testBit j = true) := by
            intro j ⟨a, b⟩
            rw [Nat.testBit_two_pow] at b
            simp at b
            subst b
            rw [hci] at a
            cases a
          rw [pop_or hd, hsz, pop_one (by omega)]
        have ho2 : clr left i &&& fo i < 2 ^ n := Nat.lt_of_le_of_lt Nat.and_le_left hcl2
        have hob : ∀ j, (clr left i &&& fo i).testBit j = true ↔ (left.testBit j = true ∧ j ≠ i ∧ E i j = true) := by
          intro j
          rw [Nat.testBit_and, clr_tb hl9 (by omega)]
          by_cases hj : left.testBit j = true
          · have hjn := tb_lt hl hj
            rw [hfo i j (by omega) hjn, hj]
            by_cases hij : j = i
            · subst hij; simp
            · simp [hij, show ¬ i = j by omega]
          · simp [hj]
        have hd2 : ∀ j, ¬ ((chosen ||| 2 ^ i).testBit j = true ∧ (clr left i &&& fo i).testBit j = true) := by
          intro j ⟨a, b⟩
          obtain ⟨b1, b2, b3⟩ := (hob j).mp b
          rw [Nat.testBit_or, Nat.testBit_two_pow] at a
          simp at a
          rcases a with a | a
          · exact hdis j ⟨a, b1⟩
          · omega
        have sp := IH _ _ best hc2 hp2 ho2 hd2 hb
        have hrb := hrl (chosen ||| 2 ^ i) (clr left i &&& fo i) best (p12 hn hc2) hb
        generalize rec (size + 1) (chosen ||| 2 ^ i) (clr left i &&& fo i) best = R1 at sp hrb ⊢
        have hlow2 : ∀ j, j < i + 1 → (clr left i).testBit j = false := by
          intro j hj
          rw [clr_tb hl9 (by omega)]
          by_cases hij : j = i
          · simp [hij]
          · rw [hlow j (by omega)]; rfl
        have hdis2 : ∀ j, ¬ (chosen.testBit j = true ∧ (clr left i).testBit j = true) := fun j ⟨a, b⟩ => hdis j ⟨a, hcl j b⟩
        -- a set in left that has i
        have hin : ∀ T, sb T left → clq E T → T.testBit i = true → sb (clr T i) (clr left i &&& fo i) ∧ clq E (clr T i) ∧ pop T = 1 + pop (clr T i) := by
          intro T hT hq hti
          have hT9 := p12 hn (sb_lt hT hl)
          refine ⟨fun j hj => ?_, fun a b ha hb9 hab => ?_, pop_i hT9 (by omega) hti⟩
          · rw [clr_tb hT9 (by omega)] at hj
            simp at hj
            exact (hob j).mpr ⟨hT j hj.1, hj.2, hq i j hti hj.1 (fun e => hj.2 e.symm)⟩
          · rw [clr_tb hT9 (by omega)] at ha hb9
            simp at ha hb9
            exact hq a b ha.1 hb9.1 hab
        have hout : ∀ T, sb T left → ¬ T.testBit i = true → sb T (clr left i) := by
          intro T hT hti j hj
          rw [clr_tb hl9 (by omega), hT j hj]
          simp
          intro e
          subst e
          exact hti hj
        rcases sp with ⟨rfl, sa⟩ | ⟨T0, hR, hT0, hq0, hp0, hbest⟩
        · have sp2 := ih (i + 1) (clr left i) R1 (by omega) hcl2 hlow2 hdis2 hb hsb
          rcases sp2 with ⟨e2, s2⟩ | ⟨T1, e2, t1, t2, t3, t4⟩
          · refine Or.inl ⟨e2, fun T hT hq => ?_⟩
            by_cases hti : T.testBit i = true
            · obtain ⟨a, b, c⟩ := hin T hT hq hti
              have := sa _ a b
              omega
            · exact s2 T (hout T hT hti) hq
          · refine Or.inr ⟨T1, e2, fun j hj => hcl j (t1 j hj), t2, t3, fun T hT hq => ?_⟩
            by_cases hti : T.testBit i = true
            · obtain ⟨a, b, c⟩ := hin T hT hq hti
              have := sa _ a b
              exact ⟨by omega, fun e => by omega⟩
            · exact t4 T (hout T hT hti) hq
        · have hdT : ∀ j, ¬ ((chosen ||| 2 ^ i).testBit j = true ∧ T0.testBit j = true) := fun j ⟨a, b⟩ => hd2 j ⟨a, hT0 j b⟩
          have hpR : pop R1 = size + 1 + pop T0 := by rw [hR, pop_or hdT, hp2]
          have sp2 := ih (i + 1) (clr left i) R1 (by omega) hcl2 hlow2 hdis2 hrb (by omega)
          have hT09 := p12 hn (sb_lt hT0 ho2)
          have hTi : T0.testBit i = false := by
            cases hq : T0.testBit i with
            | false => rfl
            | true => exact absurd rfl ((hob i).mp (hT0 i hq)).2.1
          rcases sp2 with ⟨e2, s2⟩ | ⟨T1, e2, t1, t2, t3, t4⟩
          · have hpT : pop (2 ^ i ||| T0) = 1 + pop T0 := by
              have hd : ∀ j, ¬ ((2 ^ i).testBit j = true ∧ T0.testBit j = true) := by
                intro j ⟨a, b⟩
                rw [Nat.testBit_two_pow] at a
                simp at a
                subst a
                rw [hTi] at b
                cases b
              rw [pop_or hd, pop_one (by omega)]
            refine Or.inr ⟨2 ^ i ||| T0, by rw [e2, hR, Nat.or_assoc], fun j hj => ?_, fun a b ha hb9 hab => ?_, by omega, fun T hT hq => ?_⟩
            · rw [Nat.testBit_or, Nat.testBit_two_pow] at hj
              simp at hj
              rcases hj with hj | hj
              · subst hj; exact h2
              · exact ((hob j).mp (hT0 j hj)).1
            · rw [Nat.testBit_or, Nat.testBit_two_pow] at ha hb9
              simp at ha hb9
              rcases ha with ha | ha <;> rcases hb9 with hb9 | hb9
              · omega
              · subst ha; exact ((hob b).mp (hT0 b hb9)).2.2
              · subst hb9
                have h8 := (hob a).mp (hT0 a ha)
                rw [hE a i (tb_lt hl h8.1) (by omega)]
                exact h8.2.2
              · exact hq0 a b ha hb9 hab
            · by_cases hti : T.testBit i = true
              · obtain ⟨a, b, c⟩ := hin T hT hq hti
                obtain ⟨d1, d2⟩ := hbest _ a b
                refine ⟨by omega, fun e hne => ?_⟩
                have hT9 := p12 hn (sb_lt hT hl)
                have hne2 : clr T i ≠ T0 := fun e2 => hne (by rw [split_i hT9 (by omega) hti, e2])
                obtain ⟨q, q1, q2, q3⟩ := d2 (by omega) hne2
                have hqi : q ≠ i := fun e3 => by subst e3; rw [hTi] at q1; cases q1
                refine ⟨q, by rw [Nat.testBit_or, q1]; simp, ?_, fun j hj => ?_⟩
                · rw [clr_tb hT9 (by omega)] at q2
                  simp [hqi] at q2
                  exact q2
                · by_cases hji : j = i
                  · subst hji; rw [hti, Nat.testBit_or, Nat.testBit_two_pow]; simp
                  · have := q3 j hj
                    rw [clr_tb hT9 (by omega)] at this
                    simp [hji] at this
                    rw [Nat.testBit_or, Nat.testBit_two_pow, ← this]
                    simp [show ¬ i = j by omega, this]
              · have h8 := s2 T (hout T hT hti) hq
                refine ⟨by omega, fun e hne => ⟨i, by rw [Nat.testBit_or, Nat.testBit_two_pow]; simp, by simpa using hti, fun j hj => ?_⟩⟩
                have a1 : T.testBit j = false := by
                  cases hq9 : T.testBit j with
                  | false => rfl
                  | true => have := hT j hq9; rw [hlow j hj] at this; cases this
                have a2 : T0.testBit j = false := by
                  cases hq9 : T0.testBit j with
                  | false => rfl
                  | true => have := ((hob j).mp (hT0 j hq9)).1; rw [hlow j hj] at this; cases this
                rw [Nat.testBit_or, Nat.testBit_two_pow, a1, a2]
                simp
                omega
          · refine Or.inr ⟨T1, e2, fun j hj => hcl j (t1 j hj), t2, by omega, fun T hT hq => ?_⟩
            by_cases hti : T.testBit i = true
            · obtain ⟨a, b, c⟩ := hin T hT hq hti
              have := (hbest _ a b).1
              exact ⟨by omega, fun e => by omega⟩
            · exact t4 T (hout T hT hti) hq
      · rw [if_neg (fun z => h2 z.1)]
        refine ih (i + 1) left best (by omega) hl (fun j hj => ?_) hdis hb hsb
        by_cases hij : j = i
        · subst hij; simpa using h2
        · exact hlow j (by omega)
theorem gr_spec {E : Nat → Nat → Bool} {n : Nat} {fo : Nat → Nat} (hn : n ≤ 12) (hE : ∀ i j, i < n → j < n → E i j = E j i) (hfo : ∀ i j, i < n → j < n → (fo i).testBit j = (decide (i ≠ j) && E i j)) : ∀ d size chosen opn best, size ≤ n → n < d + size → chosen < 2 ^ n → pop chosen = size → opn < 2 ^ n → (∀ i, ¬ (chosen.testBit i = true ∧ opn.testBit i = true)) → best < 4096 → SP E size chosen opn best (gr n fo d size chosen opn best) := by
  intro d
  induction d with
  | zero => intro size chosen opn best h1 h2; omega
  | succ d ih =>
    intro size chosen opn best h1 h2 hc hp ho hd hb
    have hc9 := p12 hn hc
    unfold gr
    have hle : ∀ c, c < 2 ^ n → pop c = size + 1 → size + 1 ≤ n := fun c h9 h8 => by have := pop_n hn h9; omega
    by_cases hbs : pop best < size
    · rw [if_pos hbs]
      have key := grL_spec hn hE hfo (rec := gr n fo d) hc hp (fun c o b a1 a2 a3 a4 a5 => ih (size + 1) c o b (hle c a1 a2) (by omega) a1 a2 a3 a4 a5) (fun c o b a1 a2 => gr_lt (by omega) d _ _ _ _ a1 a2) n 0 opn chosen (by omega) ho (fun j hj => by omega) hd hc9 (by omega)
      rcases key with ⟨e, k⟩ | ⟨T0, e, k1, k2, k3, k4⟩
      · refine Or.inr ⟨0, (by rw [e]; simp), (fun j hj => by rw [Nat.zero_testBit] at hj; cases hj), (fun i j hi => by rw [Nat.zero_testBit] at hi; cases hi), (by rw [pop_zero]; omega), fun T hT hq => ?_⟩
        have := k T hT hq
        rw [pop_zero]
        refine ⟨by omega, fun e2 hne => absurd (pop_0 (p12 hn (sb_lt hT ho)) e2) hne⟩
      · exact Or.inr ⟨T0, e, k1, k2, by omega, k4⟩
    · rw [if_neg hbs]
      exact grL_spec hn hE hfo (rec := gr n fo d) hc hp (fun c o b a1 a2 a3 a4 a5 => ih (size + 1) c o b (hle c a1 a2) (by omega) a1 a2 a3 a4 a5) (fun c o b a1 a2 => gr_lt (by omega) d _ _ _ _ a1 a2) n 0 opn best (by omega) ho (fun j hj => by omega) hd hb (by omega)
