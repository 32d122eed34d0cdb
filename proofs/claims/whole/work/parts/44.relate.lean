/-! the shape: which pieces there are, of which kinds, at which places -/
theorem ls_cg {b c : Nat → Int32} : ∀ n, (∀ i, i < n → b i = c i) → l_sum b n = l_sum c n := by
  intro n
  induction n with
  | zero => intro _; rfl
  | succ n ih =>
    intro h
    show l_sum b n + b n = l_sum c n + c n
    rw [ih (fun i hi => h i (by omega)), h n (by omega)]
def csum (h : Nat → Nat → Nat) : Nat → Nat
  | 0 => 0
  | k + 1 => csum h k + h 1 k
def Sp (h : Nat → Nat → Nat) (pz : Nat → Nat) : Prop :=
  (∀ q, q < h 0 0 → h 2 q < 6 ∧ pz q < h 1 (h 2 q) ∧ h (3 + h 2 q) (pz q) = q) ∧
  (∀ k, k < 6 → h 1 k ≤ 12 ∧ ∀ j, j < h 1 k → h (3 + k) j < h 0 0 ∧ h 2 (h (3 + k) j) = k ∧ pz (h (3 + k) j) = j) ∧
  h 0 0 = csum h 6 ∧
  ∀ k, k < 6 → ∀ f : Nat → Int32, l_sum (fun q => if h 2 q = k then f q else 0) (h 0 0) = l_sum (fun j => f (h (3 + k) j)) (h 1 k)
theorem Sp_0 : Sp h00 (fun _ => 0) := by
  refine ⟨fun q hq => ?_, fun k hk => ⟨Nat.zero_le _, fun j hj => ?_⟩, rfl, fun k hk f => rfl⟩
  · exact absurd hq (Nat.not_lt_zero _)
  · exact absurd hj (Nat.not_lt_zero _)
section HP
variable {h : Nat → Nat → Nat} {k : Nat}
theorem hp_n : hpz h k 0 0 = h 0 0 + 1 := by simp [hpz]
theorem hp_c {q : Nat} : hpz h k 1 q = if q = k then h 1 k + 1 else h 1 q := by
  by_cases e : q = k
  · simp [hpz, e]
  · simp [hpz, e]
    omega
theorem hp_k {q : Nat} : hpz h k 2 q = if q = h 0 0 then k else h 2 q := by
  by_cases e : q = h 0 0
  · simp [hpz, e]
  · simp [hpz, e]
    omega
theorem hp_csum : ∀ i, csum (hpz h k) i = csum h i + (if k < i then 1 else 0) := by
  intro i
  induction i with
  | zero => simp [csum]
  | succ i ih =>
    show csum (hpz h k) i + hpz h k 1 i = csum h i + h 1 i + _
    rw [ih, hp_c]
    by_cases e : i = k
    · subst e; simp; omega
    · rw [if_neg e]
      by_cases h1 : k < i
      · rw [if_pos h1, if_pos (by omega)]; omega
      · rw [if_neg h1, if_neg (by omega)]; omega
theorem Sp_s {pz : Nat → Nat} (hs : Sp h pz) (hk : k < 6) (h12 : h 1 k < 12) : Sp (hpz h k) (va_up pz (h 0 0) (h 1 k)) := by
  obtain ⟨s1, s2, s3, s4⟩ := hs
  refine ⟨fun q hq => ?_, fun k2 hk2 => ⟨?_, fun j hj => ?_⟩, ?_, fun k2 hk2 f => ?_⟩
  · rw [hp_n] at hq
    rw [hp_k]
    by_cases e : q = h 0 0
    · rw [if_pos e, e, va_up_self, hp_c, if_pos rfl, hpz_o, if_pos ⟨rfl, rfl⟩]
      exact ⟨hk, by omega, rfl⟩
    · rw [if_neg e, va_up_ne _ _ e, hp_c, hpz_o]
      obtain ⟨a, b, c⟩ := s1 q (by omega)
      refine ⟨a, ?_, ?_⟩
      · split
        · rename_i e2; rw [e2] at b; omega
        · exact b
      · rw [if_neg (fun z => by rw [z.1, z.2] at b; omega)]
        exact c
  · rw [hp_c]
    split
    · omega
    · exact (s2 k2 hk2).1
  · rw [hp_c] at hj
    rw [hpz_o, hp_n]
    by_cases e : k2 = k ∧ j = h 1 k
    · rw [if_pos e, hp_k, if_pos rfl, va_up_self]
      exact ⟨by omega, e.1.symm, e.2.symm⟩
    · have hj2 : j < h 1 k2 := by
        by_cases e2 : k2 = k
        · rw [if_pos e2] at hj
          rw [e2]
          have : ¬ j = h 1 k := fun z => e ⟨e2, z⟩
          omega
        · rw [if_neg e2] at hj; exact hj
      obtain ⟨a, b, c⟩ := (s2 k2 hk2).2 j hj2
      rw [if_neg e, hp_k, if_neg (by omega), va_up_ne _ _ (by omega)]
      exact ⟨by omega, b, c⟩
  · rw [hp_n, hp_csum, if_pos hk, s3]
  · rw [hp_n, hp_c]
    have e1 : l_sum (fun q => if hpz h k 2 q = k2 then f q else 0) (h 0 0) = l_sum (fun q => if h 2 q = k2 then f q else 0) (h 0 0) := ls_cg _ (fun i hi => by show (if hpz h k 2 i = k2 then f i else 0) = (if h 2 i = k2 then f i else 0); rw [show hpz h k 2 i = h 2 i by rw [hp_k, if_neg (by omega)]])
    have e2 : l_sum (fun j => f (hpz h k (3 + k2) j)) (h 1 k2) = l_sum (fun j => f (h (3 + k2) j)) (h 1 k2) := ls_cg _ (fun i hi => by rw [hpz_o, if_neg (fun z => by rw [z.1] at hi; omega)])
    show l_sum _ (h 0 0) + (if hpz h k 2 (h 0 0) = k2 then f (h 0 0) else 0) = _
    rw [e1, hp_k, if_pos rfl, s4 k2 hk2 f]
    by_cases e : k2 = k
    · subst e
      rw [if_pos rfl, if_pos rfl]
      show _ = l_sum (fun j => f (hpz h k2 (3 + k2) j)) (h 1 k2) + f (hpz h k2 (3 + k2) (h 1 k2))
      rw [e2, hpz_o, if_pos ⟨rfl, rfl⟩]
    · rw [if_neg e, if_neg (fun z => e z.symm), e2]
      exact Int32.add_zero _
theorem cs_le (hh : ∀ k, k < 6 → h 1 k ≤ 12) : ∀ i, i ≤ 6 → csum h i ≤ 12 * i := by
  intro i
  induction i with
  | zero => intro _; exact Nat.le_refl _
  | succ i ih =>
    intro hi
    have h1 := ih (by omega)
    have h2 := hh i (by omega)
    show csum h i + h 1 i ≤ _
    omega
theorem cs_lt (hh : ∀ k, k < 6 → h 1 k ≤ 12) (hk : k < 6) (hl : h 1 k < 12) : ∀ i, i ≤ 6 → k < i → csum h i < 12 * i := by
  intro i
  induction i with
  | zero => intro _ h9; omega
  | succ i ih =>
    intro hi hki
    have h2 := hh i (by omega)
    have h3 := cs_le hh i (by omega)
    show csum h i + h 1 i < _
    by_cases e : k = i
    · rw [← e]; rw [← e] at h3; omega
    · have := ih (by omega) (by omega); omega
theorem Sp.le {pz : Nat → Nat} (hs : Sp h pz) : h 0 0 ≤ 72 := by
  rw [hs.2.2.1]
  exact cs_le (fun k hk => (hs.2.1 k hk).1) 6 (by omega)
theorem Sp.lt {pz : Nat → Nat} (hs : Sp h pz) : ∀ k, k < 6 → h 1 k < 12 → h 0 0 < 72 := by
  intro k hk hl
  rw [hs.2.2.1]
  exact cs_lt (fun k hk => (hs.2.1 k hk).1) hk hl 6 (by omega) hk
theorem sqs (a b : Nat) : a * (a - 1) + b * (b - 1) ≤ (a + b) * (a + b - 1) := by
  rcases Nat.eq_zero_or_pos a with rfl | ha
  · simp
  · rcases Nat.eq_zero_or_pos b with rfl | hb
    · simp
    · have h1 : a * (a - 1) ≤ a * (a + b - 1) := Nat.mul_le_mul_left a (by omega)
      have h2 : b * (b - 1) ≤ b * (a + b - 1) := Nat.mul_le_mul_left b (by omega)
      rw [Nat.add_mul]
      omega
theorem aln_cs : ∀ i, aln h i ≤ csum h i * (csum h i - 1) := by
  intro i
  induction i with
  | zero => exact Nat.le_refl _
  | succ i ih =>
    show aln h i + h 1 i * (h 1 i - 1) ≤ (csum h i + h 1 i) * (csum h i + h 1 i - 1)
    have := sqs (csum h i) (h 1 i)
    omega
theorem Sp.aln {pz : Nat → Nat} (hs : Sp h pz) : aln h 6 ≤ h 0 0 * (h 0 0 - 1) := by
  rw [hs.2.2.1]
  exact aln_cs 6
end HP
/-! the class's state against the model's -/
def FC (g mg : Nat → Nat → Int32) (h : Nat → Nat → Nat) (jp : Nat → Nat) (k : Nat) : Prop :=
  g (8 + 9 * k) 0 = nI (lstN (cM mg h jp k) (h 1 k)) ∧ g (8 + 9 * k) 2 = nI (bM (cM mg h jp k) (h 1 k) (2 ^ h 1 k)) ∧ (0 < h 1 k → ∃ r, fs (cM mg h jp k) (lstN (cM mg h jp k) (h 1 k)) (h 1 k) 0 0 c00 = some r ∧ ∀ j, j < h 1 k → g (10 + 9 * k) j = nI (r j))
def SR (g mg : Nat → Nat → Int32) (h : Nat → Nat → Nat) (jp pz : Nat → Nat) : Prop :=
  CIv g h jp ∧ MI mg h jp ∧ Sp h pz ∧ (∀ q, q < h 0 0 → pcR g mg pz q) ∧ (∀ k, k < 6 → kdR g mg k) ∧ ∀ k, k < 6 → g (3 + 9 * k) 7 = 0 → FC g mg h jp k
theorem FC_to {g g2 mg m2 : Nat → Nat → Int32} {h h2 : Nat → Nat → Nat} {jp j2 : Nat → Nat} {k : Nat} (hf : FC g mg h jp k) (hn : h2 1 k = h 1 k) (hc : ∀ i j, i < h 1 k → j < h 1 k → cM mg h jp k i j = cM m2 h2 j2 k i j) (h8 : g2 (8 + 9 * k) = g (8 + 9 * k)) (h10 : g2 (10 + 9 * k) = g (10 + 9 * k)) : FC g2 m2 h2 j2 k := by
  unfold FC
  rw [hn, h8, h10, ← lstN_cg hc, ← bM_cg hc, ← fs_cg hc _ 0 0 c00 (by omega)]
  exact hf
section SRs
variable {g mg : Nat → Nat → Int32} {h : Nat → Nat → Nat} {jp pz : Nat → Nat}
theorem SR.C (s : SR g mg h jp pz) : CIv g h jp := s.1
theorem SR.M (s : SR g mg h jp pz) : MI mg h jp := s.2.1
theorem SR.S (s : SR g mg h jp pz) : Sp h pz := s.2.2.1
theorem SR.pq (s : SR g mg h jp pz) {q : Nat} (hq : q < h 0 0) : pcR g mg pz q := s.2.2.2.1 q hq
theorem SR.kk (s : SR g mg h jp pz) {k : Nat} (hk : k < 6) : kdR g mg k := s.2.2.2.2.1 k hk
theorem SR.ff (s : SR g mg h jp pz) {k : Nat} (hk : k < 6) (h0 : g (3 + 9 * k) 7 = 0) : FC g mg h jp k := s.2.2.2.2.2 k hk h0
theorem SR.own (s : SR g mg h jp pz) {k j : Nat} (hk : k < 6) (hj : j < h 1 k) : h (3 + k) j < h 0 0 ∧ h 2 (h (3 + k) j) = k ∧ pz (h (3 + k) j) = j := (s.S.2.1 k hk).2 j hj
theorem SR.sym (s : SR g mg h jp pz) {k : Nat} (hk : k < 6) : ∀ i j, i < h 1 k → j < h 1 k → cM mg h jp k i j = cM mg h jp k j i := by
  intro i j hi hj
  obtain ⟨a1, a2, -⟩ := s.own hk hi
  obtain ⟨b1, b2, -⟩ := s.own hk hj
  unfold cM
  rw [a2, b2, ruM_sym (s.M.j16 a1) (s.M.j16 b1) (s.M.part a1) (s.M.part b1)]
theorem SR.eqB (s : SR g mg h jp pz) {k : Nat} (hk : k < 6) : ∀ i j, i < h 1 k → j < h 1 k → i ≠ j → eB g h jp k i j = cM mg h jp k i j := by
  intro i j hi hj _
  obtain ⟨a1, a2, -⟩ := s.own hk hi
  obtain ⟨b1, b2, -⟩ := s.own hk hj
  unfold eB cM
  rw [a2, ru_IM (s.pq a1) (s.pq b1) (s.kk hk) (s.M.j16 a1) (s.C.2.2.2.1 _ a1).2.2 (s.C.2.2.2.1 _ b1).2.2 (s.M.part a1) (s.M.part b1)]
theorem pres_FC (s : SR g mg h jp pz) {k : Nat} {u : Nat → Nat → Int32} (hk : k < 6) (hp : pres g h jp k u) : FC u mg h jp k := by
  obtain ⟨-, -, -, fo0, im0, so0, p4, p5, p6, p7, p8⟩ := hp
  have hn := (s.S.2.1 k hk).1
  have hfo := mf_E hn (s.eqB hk) (s.sym hk) p4
  have hfr := fresh (so := so0) hn (s.sym hk) hfo p5
  refine ⟨by rw [p7, hfr.1], by rw [p6, gr_bM hn (s.sym hk) hfo], fun h0 => ?_⟩
  obtain ⟨r, r1, r2⟩ := hfr.2 h0
  exact ⟨r, r1, fun j hj => by rw [p8 j, r2 j hj]⟩
/-- a look at a kind's parting -/
theorem SR.prt (s : SR g mg h jp pz) {k : Nat} {u : Nat → Nat → Int32} (hk : k < 6) (hp : par g h jp k u) : SR u mg h jp pz ∧ u (3 + 9 * k) 7 = 0 := by
  have hz : u (3 + 9 * k) 7 = 0 := (par_P s.C hk hp).2.1
  refine ⟨⟨par_CI s.C hk hp, s.M, s.S, fun q hq => ?_, fun q hq => ?_, fun q hq h0 => ?_⟩, hz⟩
  · have e : ∀ b, u (57 + q) b = g (57 + q) b := fun b => par_keep hp (by omega) (by omega) (by omega) (by omega) (by omega)
    unfold pcR
    rw [e, e, e, e, e, e, e]
    exact s.pq hq
  · have e4 : ∀ b, u (4 + 9 * q) b = g (4 + 9 * q) b := fun b => par_keep hp (by omega) (by omega) (by omega) (by omega) (by omega)
    have e5 : ∀ b, u (5 + 9 * q) b = g (5 + 9 * q) b := fun b => par_keep hp (by omega) (by omega) (by omega) (by omega) (by omega)
    have e6 : ∀ b, u (6 + 9 * q) b = g (6 + 9 * q) b := fun b => par_keep hp (by omega) (by omega) (by omega) (by omega) (by omega)
    have e3 : ∀ b, b ≠ 7 → u (3 + 9 * q) b = g (3 + 9 * q) b := fun b hb => par_keep hp (by omega) (by omega) (by omega) (by omega) (by omega)
    obtain ⟨k1, k2, k3, k4, k5⟩ := s.kk hq
    refine ⟨fun j hj => ?_, ?_, ?_, ?_, k5⟩
    · rw [e4, e5, e6]; exact k1 j hj
    · rw [e3 3 (by decide)]; exact k2
    · rw [e3 4 (by decide)]; exact k3
    · rw [e3 5 (by decide)]; exact k4
  · rcases hp with ⟨h1, rfl⟩ | ⟨h1, hp⟩
    · exact s.ff hq h0
    · by_cases e : q = k
      · subst e; exact pres_FC s hq hp
      · have h0g : g (3 + 9 * q) 7 = 0 := by rw [← hp.2.1 (3 + 9 * q) 7 (by omega) (by omega) (by omega) (by omega) (by omega)]; exact h0
        refine FC_to (s.ff hq h0g) rfl (fun _ _ _ _ => rfl) ?_ ?_
        · funext b; exact hp.2.1 _ b (by omega) (by omega) (by omega) (by omega) (by omega)
        · funext b; exact hp.2.1 _ b (by omega) (by omega) (by omega) (by omega) (by omega)
/-- the model's helpers change nothing that stands against the class -/
def mE (mg m2 : Nat → Nat → Int32) : Prop := m2 0 1 = mg 0 1 ∧ ∀ a, 1 ≤ a → a ≤ 15 → m2 a = mg a
theorem mE_t {b : Nat} {v : Int32} (hb : b ≠ 1) : mE mg (u2 mg 0 b v) := ⟨u2_m (fun e => hb e.symm), fun a h1 _ => u2_row (by omega)⟩
theorem mE_gm {an be : Nat → Nat} : mE mg (gm mg an be) := ⟨by rw [gm_r (by decide) (by decide)], fun a h1 h2 => gm_r (by omega) (by omega)⟩
theorem mE_tr {m2 m3 : Nat → Nat → Int32} (h1 : mE mg m2) (h2 : mE m2 m3) : mE mg m3 := ⟨h2.1.trans h1.1, fun a a1 a2 => (h2.2 a a1 a2).trans (h1.2 a a1 a2)⟩
theorem mE_gle {o u : Nat} : mE mg (gle mg o u) := mE_tr (mE_t (b := 19) (by decide)) (mE_t (b := 20) (by decide))
theorem cM_mE {m2 : Nat → Nat → Int32} (e : mE mg m2) {k : Nat} : cM m2 h jp k = cM mg h jp k := by
  funext i j
  unfold cM ruM
  rw [e.2 2 (by decide) (by decide), e.2 3 (by decide) (by decide), e.2 4 (by decide) (by decide), e.2 5 (by decide) (by decide), e.2 6 (by decide) (by decide), e.2 10 (by decide) (by decide), e.2 11 (by decide) (by decide)]
theorem SR.mm (s : SR g mg h jp pz) {m2 : Nat → Nat → Int32} (e : mE mg m2) : SR g m2 h jp pz := by
  refine ⟨s.C, s.M.to e.1 (e.2 1 (by decide) (by decide)) (e.2 2 (by decide) (by decide)) (e.2 8 (by decide) (by decide)) (e.2 9 (by decide) (by decide)), s.S, fun q hq => ?_, fun k hk => ?_, fun k hk h0 => ?_⟩
  · unfold pcR
    rw [e.2 3 (by decide) (by decide), e.2 4 (by decide) (by decide), e.2 5 (by decide) (by decide), e.2 6 (by decide) (by decide), e.2 7 (by decide) (by decide)]
    exact s.pq hq
  · unfold kdR
    rw [e.2 10 (by decide) (by decide), e.2 11 (by decide) (by decide), e.2 12 (by decide) (by decide), e.2 13 (by decide) (by decide), e.2 14 (by decide) (by decide), e.2 15 (by decide) (by decide)]
    exact s.kk hk
  · exact FC_to (s.ff hk h0) rfl (fun i j _ _ => by rw [cM_mE e]) rfl rfl
end SRs
