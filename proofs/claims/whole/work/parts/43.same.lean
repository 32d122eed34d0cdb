/-! lowest terms: Euclid's and the model's -/
theorem ed_gcd : ∀ f x y, y < 2 ^ f → ed (2 * f) x y = Nat.gcd x y := by
  intro f
  induction f with
  | zero =>
    intro x y h
    have : y = 0 := by simpa using h
    subst this
    show x = _
    rw [Nat.gcd_zero_right]
  | succ f ih =>
    intro x y h
    rw [show 2 * (f + 1) = 2 * f + 1 + 1 by omega]
    unfold ed
    by_cases hy : y = 0
    · rw [if_pos hy, hy, Nat.gcd_zero_right]
    · rw [if_neg hy]
      unfold ed
      have e1 : Nat.gcd x y = Nat.gcd y (x % y) := by rw [Nat.gcd_comm x y, Nat.gcd_rec y x, Nat.gcd_comm]
      by_cases hz : x % y = 0
      · rw [if_pos hz, e1, hz, Nat.gcd_zero_right]
      · rw [if_neg hz]
        have h1 := Nat.mod_lt x (show 0 < y by omega)
        have h2 := Nat.mod_lt y (show 0 < x % y by omega)
        have h3 : y % (x % y) + (x % y) ≤ y := by
          have d := Nat.div_add_mod y (x % y)
          have q : 1 ≤ y / (x % y) := Nat.div_pos (by omega) (by omega)
          have m : (x % y) * 1 ≤ (x % y) * (y / (x % y)) := Nat.mul_le_mul_left _ q
          omega
        rw [Nat.pow_succ] at h
        rw [ih (x % y) (y % (x % y)) (by omega), e1]
        conv => rhs; rw [Nat.gcd_comm y (x % y), Nat.gcd_rec (x % y) y, Nat.gcd_comm]
theorem ed64 {a b : Nat} (hb : b < 2 ^ 31) : ed 64 a b = Nat.gcd a b := ed_gcd 32 a b (by omega)
theorem les_ls {a b : Nat} {e : Int32} (ha : a < 2 ^ 31) (hb : b < 2 ^ 31) (h0 : b = 0 → a = 0) : les a b e = if e = 0 then nI (lsO a b) else nI (lsU a b) := by
  unfold les lsO lsU
  rw [ed64 hb]
  by_cases hb0 : b = 0
  · have ha0 := h0 hb0
    subst hb0; subst ha0
    by_cases he : e = 0 <;> simp [he] <;> rfl
  · have hbz : ¬ nI b = 0 := nI_ne0 (by omega) hb
    rw [if_neg hbz]
    have hg : 0 < Nat.gcd a b := Nat.gcd_pos_of_pos_right _ (by omega)
    have hgle : Nat.gcd a b ≤ b := Nat.gcd_le_right _ (by omega)
    rw [if_neg (nI_ne0 (by omega) (by omega))]
    by_cases he : e = 0
    · rw [if_pos he, if_pos he]
      exact pk_div ha hg (by omega)
    · rw [if_neg he, if_neg he, pk_div hb hg (by omega)]
      by_cases ha0 : a = 0
      · subst ha0
        rw [if_pos rfl, Nat.gcd_zero_left, Nat.div_self (by omega)]
      · rw [if_neg ha0]
/-! the j-th of a set: counting up and counting down -/
theorem pof_paM {m : Nat} {x : Int32} {row : Nat → Int32} : ∀ n i q, i + n < 2 ^ 31 → (∃ j, i ≤ j ∧ j < i + n ∧ pof m x n i q = nI j ∧ paM m row n i (x - nI q) = row j) ∨ (pof m x n i q = -1 ∧ paM m row n i (x - nI q) = -1) := by
  intro n
  induction n with
  | zero => intro i q _; exact Or.inr ⟨rfl, rfl⟩
  | succ n ih =>
    intro i q hin
    unfold pof paM
    have up : ∀ q2, (∃ j, i + 1 ≤ j ∧ j < i + 1 + n ∧ pof m x n (i + 1) q2 = nI j ∧ paM m row n (i + 1) (x - nI q2) = row j) ∨ (pof m x n (i + 1) q2 = -1 ∧ paM m row n (i + 1) (x - nI q2) = -1) → (∃ j, i ≤ j ∧ j < i + (n + 1) ∧ pof m x n (i + 1) q2 = nI j ∧ paM m row n (i + 1) (x - nI q2) = row j) ∨ (pof m x n (i + 1) q2 = -1 ∧ paM m row n (i + 1) (x - nI q2) = -1) := by
      intro q2 h
      rcases h with ⟨j, a, b, c, d⟩ | h
      · exact Or.inl ⟨j, by omega, by omega, c, d⟩
      · exact Or.inr h
    by_cases hb : m.testBit i = false
    · rw [if_pos hb, if_pos hb]
      exact up q (ih (i + 1) q (by omega))
    · rw [if_neg hb, if_neg hb]
      by_cases hx : nI q = x
      · have e : x - nI q = 0 := by rw [hx]; exact Int32.sub_self x
        rw [if_pos hx, if_pos e]
        exact Or.inl ⟨i, Nat.le_refl _, by omega, rfl, rfl⟩
      · have e : ¬ x - nI q = 0 := fun z => hx (by
          have : x - nI q + nI q = 0 + nI q := by rw [z]
          rw [Int32.sub_add_cancel, Int32.zero_add] at this
          exact this.symm)
        rw [if_neg hx, if_neg e]
        have e2 : x - nI q + -1 = x - nI (q + 1) := by
          rw [← nI_1]
          generalize nI q = y
          rw [show (-1 : Int32) = -(1 : Int32) from rfl, ← Int32.sub_eq_add_neg]
          apply Int32.toBitVec_inj.mp
          rw [Int32.toBitVec_sub, Int32.toBitVec_sub, Int32.toBitVec_sub, Int32.toBitVec_add]
          generalize x.toBitVec = xv
          generalize y.toBitVec = yv
          generalize (1 : Int32).toBitVec = ov
          rw [BitVec.sub_eq_add_neg, BitVec.sub_eq_add_neg, BitVec.sub_eq_add_neg, BitVec.neg_add, BitVec.sub_eq_add_neg, BitVec.add_assoc]
        rw [e2]
        exact up (q + 1) (ih (i + 1) (q + 1) (by omega))
/-! the rule: the class's and the model's -/
theorem abD_nI {a b : Nat} (ha : a ≤ 30000) (hb : b ≤ 30000) : abD (nI a) (nI b) = if nI a ≤ nI b then nI b - nI a else nI a - nI b := by
  unfold abD
  have e : 0 ≤ nI a - nI b ↔ b ≤ a := by
    rw [Int32.le_iff_toInt_le, pk_sub_toInt (by omega) (by omega), show (0 : Int32).toInt = 0 from rfl]
    omega
  by_cases h : b ≤ a
  · rw [if_pos (e.mpr h)]
    by_cases h2 : a ≤ b
    · have : a = b := by omega
      subst this
      rw [if_pos (nI_le (Nat.le_refl _) (by omega))]
    · rw [if_neg (nI_ge (by omega) (by omega))]
  · rw [if_neg (fun z => h (e.mp z)), if_pos (nI_le (by omega) (by omega))]
    rw [Int32.zero_sub, Int32.neg_sub]
theorem szB_nI {a b : Nat} {bd : Int32} (ha : a ≤ 30000) (hb : b ≤ 30000) : szB (nI a) (nI b) bd = (!decide (nI a ≤ 0) && !decide (nI b ≤ 0) && !decide ((if nI a ≤ nI b then nI b - nI a else nI a - nI b) ≤ bd)) := by
  unfold szB
  rw [abD_nI ha hb]
  have z : ∀ c, c ≤ 30000 → (nI c != 0) = !decide (nI c ≤ 0) := by
    intro c hc
    have e1 : nI c = 0 ↔ c = 0 := by rw [show (0 : Int32) = nI 0 from rfl]; exact nI_eq (by omega) (by decide)
    have e2 : nI c ≤ 0 ↔ c ≤ 0 := by rw [show (0 : Int32) = nI 0 from rfl]; exact nI_leI (by omega) (by decide)
    by_cases h : c = 0
    · subst h; decide
    · have h1 : ¬ nI c = 0 := fun y => h (e1.mp y)
      have h2 : ¬ nI c ≤ 0 := fun y => by have := e2.mp y; omega
      simp [h1, h2]
  rw [z a ha, z b hb]
theorem sdB_4 {x y al : Int32} (h : x = 0 ∨ x = 1 ∨ x = 2 ∨ x = 3) : sdB x y al = (x == y && (decide (x < 2) || (x == 2 && al != 0))) := by
  unfold sdB
  rcases h with rfl | rfl | rfl | rfl
  · have : decide ((0 : Int32) < 2) = true := by decide
    rw [this]; simp
  · have : decide ((1 : Int32) < 2) = true := by decide
    rw [this]; simp
  · have : decide ((2 : Int32) < 2) = false := by decide
    rw [this]; simp
  · have : decide ((3 : Int32) < 2) = false := by decide
    rw [this]; simp
/-- one piece's numbers in the class and in the model -/
def pcR (g mg : Nat → Nat → Int32) (pz : Nat → Nat) (q : Nat) : Prop := g (57 + q) 1 = nI q ∧ g (57 + q) 2 = nI (pz q) ∧ g (57 + q) 4 = mg 4 q ∧ g (57 + q) 5 = mg 3 q ∧ g (57 + q) 6 = mg 5 q ∧ g (57 + q) 7 = mg 6 q ∧ g (57 + q) 8 = mg 7 q ∧ (∃ z, z ≤ 30000 ∧ mg 4 q = nI z) ∧ (mg 3 q = 0 ∨ mg 3 q = 1 ∨ mg 3 q = 2 ∨ mg 3 q = 3)
/-- one kind's numbers -/
def kdR (g mg : Nat → Nat → Int32) (k : Nat) : Prop := (∀ j, j < 16 → g (4 + 9 * k) j = mg 10 (16 * k + j) ∧ g (5 + 9 * k) j = mg 12 (16 * k + j) ∧ g (6 + 9 * k) j = mg 13 (16 * k + j)) ∧ g (3 + 9 * k) 3 = mg 11 k ∧ g (3 + 9 * k) 4 = mg 14 k ∧ g (3 + 9 * k) 5 = mg 15 k ∧ ∃ fa fb, fa ≤ 10000 ∧ 1 ≤ fb ∧ fb ≤ 10000 ∧ mg 14 k = nI fa ∧ mg 15 k = nI fb
theorem ru_IM {g mg : Nat → Nat → Int32} {pz jp : Nat → Nat} {k a b : Nat} (ha : pcR g mg pz a) (hb : pcR g mg pz b) (hk : kdR g mg k) (hja : jp a < 16) (e1 : g (57 + a) 3 = nI (jp a)) (e2 : g (57 + b) 3 = nI (jp b)) (e3 : mg 2 a = nI (jp a)) (e4 : mg 2 b = nI (jp b)) : ruI g k (jp a) a b = ruM mg k (jp a) a b := by
  obtain ⟨-, -, a4, a5, a6, a7, -, ⟨za, za1, za2⟩, as⟩ := ha
  obtain ⟨-, -, b4, b5, b6, b7, -, ⟨zb, zb1, zb2⟩, -⟩ := hb
  obtain ⟨k1, k2, -⟩ := hk
  unfold ruI ruM
  rw [e1, e2, e3, e4, a4, a5, a6, a7, b4, b5, b6, b7, (k1 (jp a) hja).1, k2, sdB_4 as, za2, zb2, szB_nI za1 zb1]
  simp only [Bool.and_assoc]
theorem agB_sym {f1 t1 f2 t2 : Int32} : agB f1 t1 f2 t2 = agB f2 t2 f1 t1 := by
  unfold agB
  have e1 : (!decide (f2 ≤ t1)) = decide (t1 < f2) := by
    by_cases h : t1 < f2
    · simp [h]
    · simp [h, Int32.not_lt.mp h]
  have e2 : (!decide (f1 ≤ t2)) = decide (t2 < f1) := by
    by_cases h : t2 < f1
    · simp [h]
    · simp [h, Int32.not_lt.mp h]
  rw [e1, e2, Bool.or_comm]
theorem dif_sym {x y : Int32} : (if x ≤ y then y - x else x - y) = (if y ≤ x then x - y else y - x) := by
  by_cases h1 : x ≤ y
  · by_cases h2 : y ≤ x
    · have : x = y := Int32.le_antisymm h1 h2
      subst this; rfl
    · rw [if_pos h1, if_neg h2]
  · have h2 : y ≤ x := Int32.le_of_lt (Int32.not_le.mp h1)
    rw [if_neg h1, if_pos h2]
theorem ruM_sym {mg : Nat → Nat → Int32} {jp : Nat → Nat} {k a b : Nat} (hja : jp a < 16) (hjb : jp b < 16) (e3 : mg 2 a = nI (jp a)) (e4 : mg 2 b = nI (jp b)) : ruM mg k (jp a) a b = ruM mg k (jp b) b a := by
  unfold ruM
  by_cases hp : mg 2 a = mg 2 b
  · have hj : jp a = jp b := (nI_eq (by omega) (by omega)).mp (by rw [← e3, ← e4]; exact hp)
    rw [hp, hj, agB_sym, dif_sym]
    by_cases hs : mg 3 a = mg 3 b
    · rw [hs]
      simp only [Bool.and_assoc, Bool.and_left_comm (!decide (mg 4 a ≤ 0))]
    · have h1 : (mg 3 a == mg 3 b) = false := beq_eq_false_iff_ne.mpr hs
      have h2 : (mg 3 b == mg 3 a) = false := beq_eq_false_iff_ne.mpr (fun z => hs z.symm)
      rw [h1, h2]
      simp only [Bool.and_assoc, Bool.and_left_comm (!decide (mg 4 a ≤ 0)), Bool.and_false, Bool.false_and]
  · have h1 : (mg 2 a == mg 2 b) = false := beq_eq_false_iff_ne.mpr hp
    have h2 : (mg 2 b == mg 2 a) = false := beq_eq_false_iff_ne.mpr (fun z => hp z.symm)
    rw [h1, h2, agB_sym]
    simp only [Bool.false_and]
theorem ruM_to {mg m2 : Nat → Nat → Int32} {k ja a b : Nat} (a2 : m2 2 a = mg 2 a) (b2 : m2 2 b = mg 2 b) (a3 : m2 3 a = mg 3 a) (b3 : m2 3 b = mg 3 b) (a4 : m2 4 a = mg 4 a) (b4 : m2 4 b = mg 4 b) (a5 : m2 5 a = mg 5 a) (b5 : m2 5 b = mg 5 b) (a6 : m2 6 a = mg 6 a) (b6 : m2 6 b = mg 6 b) (h10 : m2 10 (16 * k + ja) = mg 10 (16 * k + ja)) (h11 : m2 11 k = mg 11 k) : ruM m2 k ja a b = ruM mg k ja a b := by
  unfold ruM
  rw [a2, b2, a3, b3, a4, b4, a5, b5, a6, b6, h10, h11]
/-! what the partings are made of: only the clashes of the places -/
theorem fN_cg {c : Nat → Nat} {cm c2 : Nat → Nat → Bool} {i x : Nat} : ∀ q, (∀ j, j < q → cm j i = c2 j i) → fN c cm i x q = fN c c2 i x q := by
  intro q
  induction q with
  | zero => intro _; rfl
  | succ q ih =>
    intro h
    unfold fN
    rw [ih (fun j hj => h j (by omega)), h q (by omega)]
theorem fs_cg {cm c2 : Nat → Nat → Bool} {K n : Nat} (h : ∀ i j, i < n → j < n → cm i j = c2 i j) : ∀ d pl us c, pl + d ≤ n → fs cm K d pl us c = fs c2 K d pl us c := by
  intro d
  induction d with
  | zero => intro pl us c _; rfl
  | succ d ih =>
    intro pl us c hp
    unfold fs
    congr 1
    funext x
    rw [fN_cg pl (fun j hj => h j pl (by omega) (by omega)), ih (pl + 1) _ _ (by omega)]
theorem lK_cg {cm c2 : Nat → Nat → Bool} {n : Nat} (h : ∀ i j, i < n → j < n → cm i j = c2 i j) : ∀ f K, lK cm n f K = lK c2 n f K := by
  intro f
  induction f with
  | zero => intro K; rfl
  | succ f ih =>
    intro K
    unfold lK
    rw [fs_cg h n 0 0 c00 (by omega), ih]
theorem lstN_cg {cm c2 : Nat → Nat → Bool} {n : Nat} (h : ∀ i j, i < n → j < n → cm i j = c2 i j) : lstN cm n = lstN c2 n := by
  unfold lstN
  rw [lK_cg h]
theorem icI_cg {cm c2 : Nat → Nat → Bool} {m i : Nat} {b : Bool} : ∀ q, (∀ j, j < q → cm i j = c2 i j) → icI cm m i b q = icI c2 m i b q := by
  intro q
  induction q with
  | zero => intro _; rfl
  | succ q ih =>
    intro h
    unfold icI
    rw [ih (fun j hj => h j (by omega)), h q (by omega)]
theorem icO_cg {cm c2 : Nat → Nat → Bool} {m : Nat} : ∀ n, (∀ i j, i < n → j < n → cm i j = c2 i j) → icO cm m n = icO c2 m n := by
  intro n
  induction n with
  | zero => intro _; rfl
  | succ n ih =>
    intro h
    unfold icO
    rw [ih (fun i j hi hj => h i j (by omega) (by omega)), icI_cg n (fun j hj => h n j (by omega) (by omega))]
theorem bM_cg {cm c2 : Nat → Nat → Bool} {n : Nat} (h : ∀ i j, i < n → j < n → cm i j = c2 i j) : ∀ t, bM cm n t = bM c2 n t := by
  intro t
  induction t with
  | zero => rfl
  | succ t ih =>
    rw [bM_s, bM_s, ih, icO_cg n h]
