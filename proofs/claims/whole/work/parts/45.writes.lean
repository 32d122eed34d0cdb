/-! what the calls that write leave of the relation -/
section MU
variable {g mg g' m' : Nat → Nat → Int32} {h : Nat → Nat → Nat} {jp pz : Nat → Nat}
theorem SR_mut (s : SR g mg h jp pz) (a1 : g' 0 2 = g 0 2) (a2 : ∀ q, q < 6 → g' (3 + 9 * q) 6 = g (3 + 9 * q) 6) (a3 : ∀ q, q < h 0 0 → g' (57 + q) 3 = g (57 + q) 3) (a4 : ∀ q, q < 6 → g' (8 + 9 * q) = g (8 + 9 * q)) (a5 : ∀ q, q < 6 → g' (10 + 9 * q) = g (10 + 9 * q))
    (hM : MI m' h jp) (hq : ∀ q, q < h 0 0 → pcR g' m' pz q) (hk : ∀ q, q < 6 → kdR g' m' q) (hf : ∀ q, q < 6 → g' (3 + 9 * q) 7 = 0 → g (3 + 9 * q) 7 = 0 ∧ ∀ i j, i < h 1 q → j < h 1 q → cM mg h jp q i j = cM m' h jp q i j) : SR g' m' h jp pz := by
  obtain ⟨c1, c2, c3, c4, c5⟩ := s.C
  refine ⟨⟨c1, by rw [a1]; exact c2, fun k hk => ⟨(c3 k hk).1, by rw [a2 k hk]; exact (c3 k hk).2.1, (c3 k hk).2.2⟩, fun q hq => ⟨(c4 q hq).1, (c4 q hq).2.1, by rw [a3 q hq]; exact (c4 q hq).2.2⟩, fun k hk => ?_⟩, hM, s.S, hq, hk, fun k hk h0 => ?_⟩
  · obtain ⟨n, m, K, b1, b2, b3, b4, b5, b6, b7⟩ := c5 k hk
    exact ⟨n, m, K, b1, b2, b3, by rw [a4 k hk]; exact b4, by rw [a4 k hk]; exact b5, by rw [a4 k hk]; exact b6, fun h0 => b7 (hf k hk h0).1⟩
  · obtain ⟨f1, f2⟩ := hf k hk h0
    exact FC_to (s.ff hk f1) rfl f2 (a4 k hk) (a5 k hk)
theorem cM_ne (hs : Sp h pz) (hm : MI mg h jp) {q : Nat} (hq : q < 6) (hp : ∀ a, a < h 0 0 → h 2 a = q → m' 2 a = mg 2 a ∧ m' 3 a = mg 3 a ∧ m' 4 a = mg 4 a ∧ m' 5 a = mg 5 a ∧ m' 6 a = mg 6 a) (h10 : ∀ j, j < 16 → m' 10 (16 * q + j) = mg 10 (16 * q + j)) (h11 : m' 11 q = mg 11 q) : ∀ i j, i < h 1 q → j < h 1 q → cM mg h jp q i j = cM m' h jp q i j := by
  intro i j hi hj
  obtain ⟨a1, a2, -⟩ := (hs.2.1 q hq).2 i hi
  obtain ⟨b1, b2, -⟩ := (hs.2.1 q hq).2 j hj
  obtain ⟨p2, p3, p4, p5, p6⟩ := hp _ a1 a2
  obtain ⟨r2, r3, r4, r5, r6⟩ := hp _ b1 b2
  unfold cM
  rw [a2, ruM_to p2 r2 p3 r3 p4 r4 p5 r5 p6 r6 (h10 _ (hm.j16 a1)) h11]
theorem pc_same (s : SR g mg h jp pz) {q : Nat} (hq : q < h 0 0) (e : ∀ b, b ≠ 3 → b ≠ 0 → g' (57 + q) b = g (57 + q) b) (e3 : m' 3 q = mg 3 q) (e4 : m' 4 q = mg 4 q) (e5 : m' 5 q = mg 5 q) (e6 : m' 6 q = mg 6 q) (e7 : m' 7 q = mg 7 q) : pcR g' m' pz q := by
  unfold pcR
  rw [e 1 (by decide) (by decide), e 2 (by decide) (by decide), e 4 (by decide) (by decide), e 5 (by decide) (by decide), e 6 (by decide) (by decide), e 7 (by decide) (by decide), e 8 (by decide) (by decide), e3, e4, e5, e6, e7]
  exact s.pq hq
theorem kd_same (s : SR g mg h jp pz) {q : Nat} (hq : q < 6) (e3 : ∀ b, b = 3 ∨ b = 4 ∨ b = 5 → g' (3 + 9 * q) b = g (3 + 9 * q) b) (e4 : ∀ j, j < 16 → g' (4 + 9 * q) j = g (4 + 9 * q) j) (e5 : ∀ j, j < 16 → g' (5 + 9 * q) j = g (5 + 9 * q) j) (e6 : ∀ j, j < 16 → g' (6 + 9 * q) j = g (6 + 9 * q) j)
    (f10 : ∀ j, j < 16 → m' 10 (16 * q + j) = mg 10 (16 * q + j)) (f12 : ∀ j, j < 16 → m' 12 (16 * q + j) = mg 12 (16 * q + j)) (f13 : ∀ j, j < 16 → m' 13 (16 * q + j) = mg 13 (16 * q + j)) (f11 : m' 11 q = mg 11 q) (f14 : m' 14 q = mg 14 q) (f15 : m' 15 q = mg 15 q) : kdR g' m' q := by
  obtain ⟨k1, k2, k3, k4, k5⟩ := s.kk hq
  unfold kdR
  rw [e3 3 (by simp), e3 4 (by simp), e3 5 (by simp), f11, f14, f15]
  exact ⟨fun j hj => by rw [e4 j hj, e5 j hj, e6 j hj, f10 j hj, f12 j hj, f13 j hj]; exact k1 j hj, k2, k3, k4, k5⟩
theorem SR_bound (s : SR g mg h jp pz) {k : Nat} (hk : k < 6) (tn : Int32) : SR (u2 (u2 g (3 + 9 * k) 3 tn) (3 + 9 * k) 7 1) (u2 mg 11 k tn) h jp pz := by
  have n1 : ∀ a b, a ≠ 3 + 9 * k → u2 (u2 g (3 + 9 * k) 3 tn) (3 + 9 * k) 7 1 a b = g a b := fun a b ha => by rw [u2_n ha, u2_n ha]
  have n2 : ∀ a b, b ≠ 3 → b ≠ 7 → u2 (u2 g (3 + 9 * k) 3 tn) (3 + 9 * k) 7 1 a b = g a b := fun a b h3 h7 => by rw [u2_m h7, u2_m h3]
  have n3 : ∀ a b, a ≠ 11 → u2 mg 11 k tn a b = mg a b := fun a b ha => u2_n ha
  refine SR_mut s (n1 _ _ (by omega)) (fun q hq => n2 _ _ (by decide) (by decide)) (fun q hq => n1 _ _ (by omega)) (fun q hq => by funext b; exact n1 _ _ (by omega)) (fun q hq => by funext b; exact n1 _ _ (by omega)) (s.M.up (by decide)) (fun q hq => pc_same s hq (fun b _ _ => n1 _ _ (by omega)) (n3 _ _ (by decide)) (n3 _ _ (by decide)) (n3 _ _ (by decide)) (n3 _ _ (by decide)) (n3 _ _ (by decide))) (fun q hq => ?_) (fun q hq h0 => ?_)
  · by_cases e : q = k
    · subst e
      obtain ⟨k1, k2, k3, k4, k5⟩ := s.kk hq
      refine ⟨fun j hj => ?_, ?_, ?_, ?_, ?_⟩
      · rw [n1 _ _ (by omega), n1 _ _ (by omega), n1 _ _ (by omega), n3 _ _ (by decide), n3 _ _ (by decide), n3 _ _ (by decide)]; exact k1 j hj
      · rw [u2_m (by decide), u2_s, u2_s]
      · rw [n2 _ _ (by decide) (by decide), n3 _ _ (by decide)]; exact k3
      · rw [n2 _ _ (by decide) (by decide), n3 _ _ (by decide)]; exact k4
      · rw [n3 _ _ (by decide), n3 _ _ (by decide)]; exact k5
    · exact kd_same s hq (fun b _ => n1 _ _ (by omega)) (fun j _ => n1 _ _ (by omega)) (fun j _ => n1 _ _ (by omega)) (fun j _ => n1 _ _ (by omega)) (fun j _ => n3 _ _ (by decide)) (fun j _ => n3 _ _ (by decide)) (fun j _ => n3 _ _ (by decide)) (u2_m e) (n3 _ _ (by decide)) (n3 _ _ (by decide))
  · by_cases e : q = k
    · subst e; rw [u2_s] at h0; exact absurd h0 (by decide)
    · rw [n1 _ _ (by omega)] at h0
      exact ⟨h0, cM_ne s.S s.M hq (fun a _ _ => ⟨n3 _ _ (by decide), n3 _ _ (by decide), n3 _ _ (by decide), n3 _ _ (by decide), n3 _ _ (by decide)⟩) (fun j _ => n3 _ _ (by decide)) (u2_m e)⟩
theorem SR_single (s : SR g mg h jp pz) {k j : Nat} (hk : k < 6) (hj : j < 16) (z : Int32) : SR (u2 (u2 g (4 + 9 * k) j z) (3 + 9 * k) 7 1) (u2 mg 10 (16 * k + j) z) h jp pz := by
  have n1 : ∀ a b, a ≠ 3 + 9 * k → a ≠ 4 + 9 * k → u2 (u2 g (4 + 9 * k) j z) (3 + 9 * k) 7 1 a b = g a b := fun a b ha hb => by rw [u2_n ha, u2_n hb]
  have n2 : ∀ q b, b ≠ 7 → u2 (u2 g (4 + 9 * k) j z) (3 + 9 * k) 7 1 (3 + 9 * q) b = g (3 + 9 * q) b := fun q b h7 => by rw [u2_m h7, u2_n (by omega)]
  have n3 : ∀ a b, a ≠ 10 → u2 mg 10 (16 * k + j) z a b = mg a b := fun a b ha => u2_n ha
  have n4 : ∀ q b, b ≠ j ∨ q ≠ k → u2 (u2 g (4 + 9 * k) j z) (3 + 9 * k) 7 1 (4 + 9 * q) b = g (4 + 9 * q) b := fun q b hh => by
    rw [u2_n (by omega)]
    rcases hh with hh | hh
    · exact u2_m hh
    · exact u2_n (by omega)
  refine SR_mut s (n1 _ _ (by omega) (by omega)) (fun q hq => n2 _ _ (by decide)) (fun q hq => n1 _ _ (by omega) (by omega)) (fun q hq => by funext b; exact n1 _ _ (by omega) (by omega)) (fun q hq => by funext b; exact n1 _ _ (by omega) (by omega)) (s.M.up (by decide)) (fun q hq => pc_same s hq (fun b _ _ => n1 _ _ (by omega) (by omega)) (n3 _ _ (by decide)) (n3 _ _ (by decide)) (n3 _ _ (by decide)) (n3 _ _ (by decide)) (n3 _ _ (by decide))) (fun q hq => ?_) (fun q hq h0 => ?_)
  · obtain ⟨k1, k2, k3, k4, k5⟩ := s.kk hq
    refine ⟨fun b hb => ?_, ?_, ?_, ?_, ?_⟩
    · rw [n1 (5 + 9 * q) b (by omega) (by omega), n1 (6 + 9 * q) b (by omega) (by omega), n3 12 _ (by decide), n3 13 _ (by decide)]
      refine ⟨?_, (k1 b hb).2⟩
      by_cases e : b = j ∧ q = k
      · rw [e.1, e.2, u2_n (by omega), u2_s, u2_s]
      · rw [n4 q b (by omega), u2_m (by omega)]; exact (k1 b hb).1
    · rw [n2 _ _ (by decide), n3 _ _ (by decide)]; exact k2
    · rw [n2 _ _ (by decide), n3 _ _ (by decide)]; exact k3
    · rw [n2 _ _ (by decide), n3 _ _ (by decide)]; exact k4
    · rw [n3 _ _ (by decide), n3 _ _ (by decide)]; exact k5
  · by_cases e : q = k
    · subst e; rw [u2_s] at h0; exact absurd h0 (by decide)
    · rw [n1 _ _ (by omega) (by omega)] at h0
      exact ⟨h0, cM_ne s.S s.M hq (fun a _ _ => ⟨n3 _ _ (by decide), n3 _ _ (by decide), n3 _ _ (by decide), n3 _ _ (by decide), n3 _ _ (by decide)⟩) (fun b hb => u2_m (by omega)) (n3 _ _ (by decide))⟩
theorem SR_table (s : SR g mg h jp pz) {k j : Nat} (hk : k < 6) (hj : j < 16) (fr tt : Int32) : SR (u2 (u2 g (5 + 9 * k) j fr) (6 + 9 * k) j tt) (u2 (u2 mg 12 (16 * k + j) fr) 13 (16 * k + j) tt) h jp pz := by
  have n1 : ∀ a b, a ≠ 5 + 9 * k → a ≠ 6 + 9 * k → u2 (u2 g (5 + 9 * k) j fr) (6 + 9 * k) j tt a b = g a b := fun a b ha hb => by rw [u2_n hb, u2_n ha]
  have n3 : ∀ a b, a ≠ 12 → a ≠ 13 → u2 (u2 mg 12 (16 * k + j) fr) 13 (16 * k + j) tt a b = mg a b := fun a b ha hb => by rw [u2_n hb, u2_n ha]
  refine SR_mut s (n1 _ _ (by omega) (by omega)) (fun q hq => n1 _ _ (by omega) (by omega)) (fun q hq => n1 _ _ (by omega) (by omega)) (fun q hq => by funext b; exact n1 _ _ (by omega) (by omega)) (fun q hq => by funext b; exact n1 _ _ (by omega) (by omega)) ((s.M.up (by decide)).up (by decide)) (fun q hq => pc_same s hq (fun b _ _ => n1 _ _ (by omega) (by omega)) (n3 _ _ (by decide) (by decide)) (n3 _ _ (by decide) (by decide)) (n3 _ _ (by decide) (by decide)) (n3 _ _ (by decide) (by decide)) (n3 _ _ (by decide) (by decide))) (fun q hq => ?_) (fun q hq h0 => ?_)
  · obtain ⟨k1, k2, k3, k4, k5⟩ := s.kk hq
    refine ⟨fun b hb => ⟨?_, ?_, ?_⟩, ?_, ?_, ?_, ?_⟩
    · rw [n1 _ _ (by omega) (by omega), n3 _ _ (by decide) (by decide)]; exact (k1 b hb).1
    · by_cases e : b = j ∧ q = k
      · rw [e.1, e.2, u2_n (by omega), u2_s, u2_n (by decide), u2_s]
      · rw [u2_n (by omega), u2_n (a := 12) (by decide), u2_m (b := 16 * q + b) (by omega)]
        by_cases e2 : q = k
        · rw [u2_m (by omega)]; exact (k1 b hb).2.1
        · rw [u2_n (by omega)]; exact (k1 b hb).2.1
    · by_cases e : b = j ∧ q = k
      · rw [e.1, e.2, u2_s, u2_s]
      · rw [u2_m (a := 13) (by omega), u2_n (a := 13) (by decide)]
        by_cases e2 : q = k
        · rw [u2_m (by omega), u2_n (by omega)]; exact (k1 b hb).2.2
        · rw [u2_n (by omega), u2_n (by omega)]; exact (k1 b hb).2.2
    · rw [n1 _ _ (by omega) (by omega), n3 _ _ (by decide) (by decide)]; exact k2
    · rw [n1 _ _ (by omega) (by omega), n3 _ _ (by decide) (by decide)]; exact k3
    · rw [n1 _ _ (by omega) (by omega), n3 _ _ (by decide) (by decide)]; exact k4
    · rw [n3 _ _ (by decide) (by decide), n3 _ _ (by decide) (by decide)]; exact k5
  · rw [n1 _ _ (by omega) (by omega)] at h0
    exact ⟨h0, cM_ne s.S s.M hq (fun a _ _ => ⟨n3 _ _ (by decide) (by decide), n3 _ _ (by decide) (by decide), n3 _ _ (by decide) (by decide), n3 _ _ (by decide) (by decide), n3 _ _ (by decide) (by decide)⟩) (fun b hb => n3 _ _ (by decide) (by decide)) (n3 _ _ (by decide) (by decide))⟩
theorem MI.pc (a : MI mg h jp) {c b : Nat} {v : Int32} (hc : 3 ≤ c) (hc2 : c ≤ 7) : MI (u2 mg c b v) h jp := a.to (u2_n (by omega)) (u2_row (by omega)) (u2_row (by omega)) (u2_row (by omega)) (u2_row (by omega))
theorem SR_worn (s : SR g mg h jp pz) {p0 : Nat} (hp : p0 < h 0 0) (v w : Int32) : SR (u2 (u2 (u2 g (57 + p0) 6 v) (57 + p0) 7 w) (3 + 9 * h 2 p0) 7 1) (u2 (u2 mg 5 p0 v) 6 p0 w) h jp pz := by
  have hk := s.M.k6 hp
  have n1 : ∀ a b, a ≠ 57 + p0 → a ≠ 3 + 9 * h 2 p0 → u2 (u2 (u2 g (57 + p0) 6 v) (57 + p0) 7 w) (3 + 9 * h 2 p0) 7 1 a b = g a b := fun a b ha hb => by rw [u2_n hb, u2_n ha, u2_n ha]
  have n2 : ∀ a b, b ≠ 6 → b ≠ 7 → u2 (u2 (u2 g (57 + p0) 6 v) (57 + p0) 7 w) (3 + 9 * h 2 p0) 7 1 a b = g a b := fun a b h6 h7 => by rw [u2_m h7, u2_m h7, u2_m h6]
  have n3 : ∀ a b, a ≠ 5 → a ≠ 6 → u2 (u2 mg 5 p0 v) 6 p0 w a b = mg a b := fun a b ha hb => by rw [u2_n hb, u2_n ha]
  have n4 : ∀ a b, b ≠ p0 → u2 (u2 mg 5 p0 v) 6 p0 w a b = mg a b := fun a b hb => by rw [u2_m hb, u2_m hb]
  refine SR_mut s (n1 _ _ (by omega) (by omega)) (fun q hq => by rw [u2_m (by decide), u2_n (by omega), u2_n (by omega)]) (fun q hq => n2 _ _ (by decide) (by decide)) (fun q hq => by funext b; exact n1 _ _ (by omega) (by omega)) (fun q hq => by funext b; exact n1 _ _ (by omega) (by omega)) ((s.M.pc (by decide) (by decide)).pc (by decide) (by decide)) (fun q hq => ?_) (fun q hq => ?_) (fun q hq h0 => ?_)
  · by_cases e : q = p0
    · subst e
      obtain ⟨q1, q2, q4, q5, q6, q7, q8, q9, q10⟩ := s.pq hq
      refine ⟨?_, ?_, ?_, ?_, ?_, ?_, ?_, ?_, ?_⟩
      · rw [n2 _ _ (by decide) (by decide)]; exact q1
      · rw [n2 _ _ (by decide) (by decide)]; exact q2
      · rw [n2 _ _ (by decide) (by decide), n3 _ _ (by decide) (by decide)]; exact q4
      · rw [n2 _ _ (by decide) (by decide), n3 _ _ (by decide) (by decide)]; exact q5
      · rw [u2_n (by omega), u2_m (by decide), u2_s, u2_n (by decide), u2_s]
      · rw [u2_n (by omega), u2_s, u2_s]
      · rw [n2 _ _ (by decide) (by decide), n3 _ _ (by decide) (by decide)]; exact q8
      · rw [n3 _ _ (by decide) (by decide)]; exact q9
      · rw [n3 _ _ (by decide) (by decide)]; exact q10
    · exact pc_same s hq (fun b _ _ => n1 _ _ (by omega) (by omega)) (n4 _ _ e) (n4 _ _ e) (n4 _ _ e) (n4 _ _ e) (n4 _ _ e)
  · exact kd_same s hq (fun b hb => by rw [u2_m (by omega), u2_n (by omega), u2_n (by omega)]) (fun j _ => n1 _ _ (by omega) (by omega)) (fun j _ => n1 _ _ (by omega) (by omega)) (fun j _ => n1 _ _ (by omega) (by omega)) (fun j _ => n3 _ _ (by decide) (by decide)) (fun j _ => n3 _ _ (by decide) (by decide)) (fun j _ => n3 _ _ (by decide) (by decide)) (n3 _ _ (by decide) (by decide)) (n3 _ _ (by decide) (by decide)) (n3 _ _ (by decide) (by decide))
  · by_cases e : q = h 2 p0
    · rw [e, u2_s] at h0; exact absurd h0 (by decide)
    · rw [n1 _ _ (by omega) (by omega)] at h0
      exact ⟨h0, cM_ne s.S s.M hq (fun a _ ha => by have e9 : a ≠ p0 := fun z => e (by rw [← ha, z])
                                                    exact ⟨n4 _ _ e9, n4 _ _ e9, n4 _ _ e9, n4 _ _ e9, n4 _ _ e9⟩) (fun b hb => n3 _ _ (by decide) (by decide)) (n3 _ _ (by decide) (by decide))⟩
theorem SR_unsure (s : SR g mg h jp pz) {p0 : Nat} (hp : p0 < h 0 0) : SR (u2 (u2 g (57 + p0) 5 3) (3 + 9 * h 2 p0) 7 1) (u2 mg 3 p0 3) h jp pz := by
  have hk := s.M.k6 hp
  have n1 : ∀ a b, a ≠ 57 + p0 → a ≠ 3 + 9 * h 2 p0 → u2 (u2 g (57 + p0) 5 3) (3 + 9 * h 2 p0) 7 1 a b = g a b := fun a b ha hb => by rw [u2_n hb, u2_n ha]
  have n2 : ∀ a b, b ≠ 5 → b ≠ 7 → u2 (u2 g (57 + p0) 5 3) (3 + 9 * h 2 p0) 7 1 a b = g a b := fun a b h6 h7 => by rw [u2_m h7, u2_m h6]
  have n3 : ∀ a b, a ≠ 3 → u2 mg 3 p0 3 a b = mg a b := fun a b ha => u2_n ha
  have n4 : ∀ a b, b ≠ p0 → u2 mg 3 p0 3 a b = mg a b := fun a b hb => u2_m hb
  refine SR_mut s (n1 _ _ (by omega) (by omega)) (fun q hq => by rw [u2_m (by decide), u2_n (by omega)]) (fun q hq => n2 _ _ (by decide) (by decide)) (fun q hq => by funext b; exact n1 _ _ (by omega) (by omega)) (fun q hq => by funext b; exact n1 _ _ (by omega) (by omega)) (s.M.pc (by decide) (by decide)) (fun q hq => ?_) (fun q hq => ?_) (fun q hq h0 => ?_)
  · by_cases e : q = p0
    · subst e
      obtain ⟨q1, q2, q4, q5, q6, q7, q8, q9, q10⟩ := s.pq hq
      refine ⟨?_, ?_, ?_, ?_, ?_, ?_, ?_, ?_, ?_⟩
      · rw [n2 _ _ (by decide) (by decide)]; exact q1
      · rw [n2 _ _ (by decide) (by decide)]; exact q2
      · rw [n2 _ _ (by decide) (by decide), n3 _ _ (by decide)]; exact q4
      · rw [u2_n (by omega), u2_s, u2_s]
      · rw [n2 _ _ (by decide) (by decide), n3 _ _ (by decide)]; exact q6
      · rw [u2_n (by omega), u2_m (by decide), n3 _ _ (by decide)]; exact q7
      · rw [n2 _ _ (by decide) (by decide), n3 _ _ (by decide)]; exact q8
      · rw [n3 _ _ (by decide)]; exact q9
      · rw [u2_s]; exact Or.inr (Or.inr (Or.inr rfl))
    · exact pc_same s hq (fun b _ _ => n1 _ _ (by omega) (by omega)) (n4 _ _ e) (n4 _ _ e) (n4 _ _ e) (n4 _ _ e) (n4 _ _ e)
  · exact kd_same s hq (fun b hb => by rw [u2_m (by omega), u2_n (by omega)]) (fun j _ => n1 _ _ (by omega) (by omega)) (fun j _ => n1 _ _ (by omega) (by omega)) (fun j _ => n1 _ _ (by omega) (by omega)) (fun j _ => n3 _ _ (by decide)) (fun j _ => n3 _ _ (by decide)) (fun j _ => n3 _ _ (by decide)) (n3 _ _ (by decide)) (n3 _ _ (by decide)) (n3 _ _ (by decide))
  · by_cases e : q = h 2 p0
    · rw [e, u2_s] at h0; exact absurd h0 (by decide)
    · rw [n1 _ _ (by omega) (by omega)] at h0
      exact ⟨h0, cM_ne s.S s.M hq (fun a _ ha => by have e9 : a ≠ p0 := fun z => e (by rw [← ha, z])
                                                    exact ⟨n4 _ _ e9, n4 _ _ e9, n4 _ _ e9, n4 _ _ e9, n4 _ _ e9⟩) (fun b hb => n3 _ _ (by decide)) (n3 _ _ (by decide))⟩
theorem SR_weight (s : SR g mg h jp pz) {p0 : Nat} (hp : p0 < h 0 0) (v : Int32) : SR (u2 g (57 + p0) 8 v) (u2 mg 7 p0 v) h jp pz := by
  have n1 : ∀ a b, a ≠ 57 + p0 → u2 g (57 + p0) 8 v a b = g a b := fun a b ha => u2_n ha
  have n2 : ∀ a b, b ≠ 8 → u2 g (57 + p0) 8 v a b = g a b := fun a b h6 => u2_m h6
  have n3 : ∀ a b, a ≠ 7 → u2 mg 7 p0 v a b = mg a b := fun a b ha => u2_n ha
  refine SR_mut s (n1 _ _ (by omega)) (fun q hq => n2 _ _ (by decide)) (fun q hq => n2 _ _ (by decide)) (fun q hq => by funext b; exact n1 _ _ (by omega)) (fun q hq => by funext b; exact n1 _ _ (by omega)) (s.M.pc (by decide) (by decide)) (fun q hq => ?_) (fun q hq => ?_) (fun q hq h0 => ?_)
  · obtain ⟨q1, q2, q4, q5, q6, q7, q8, q9, q10⟩ := s.pq hq
    refine ⟨?_, ?_, ?_, ?_, ?_, ?_, ?_, ?_, ?_⟩
    · rw [n2 _ _ (by decide)]; exact q1
    · rw [n2 _ _ (by decide)]; exact q2
    · rw [n2 _ _ (by decide), n3 _ _ (by decide)]; exact q4
    · rw [n2 _ _ (by decide), n3 _ _ (by decide)]; exact q5
    · rw [n2 _ _ (by decide), n3 _ _ (by decide)]; exact q6
    · rw [n2 _ _ (by decide), n3 _ _ (by decide)]; exact q7
    · by_cases e : q = p0
      · subst e; rw [u2_s, u2_s]
      · rw [n1 _ _ (by omega), u2_m e]; exact q8
    · rw [n3 _ _ (by decide)]; exact q9
    · rw [n3 _ _ (by decide)]; exact q10
  · exact kd_same s hq (fun b hb => n1 _ _ (by omega)) (fun j _ => n1 _ _ (by omega)) (fun j _ => n1 _ _ (by omega)) (fun j _ => n1 _ _ (by omega)) (fun j _ => n3 _ _ (by decide)) (fun j _ => n3 _ _ (by decide)) (fun j _ => n3 _ _ (by decide)) (n3 _ _ (by decide)) (n3 _ _ (by decide)) (n3 _ _ (by decide))
  · rw [n1 _ _ (by omega)] at h0
    exact ⟨h0, cM_ne s.S s.M hq (fun a _ _ => ⟨n3 _ _ (by decide), n3 _ _ (by decide), n3 _ _ (by decide), n3 _ _ (by decide), n3 _ _ (by decide)⟩) (fun b hb => n3 _ _ (by decide)) (n3 _ _ (by decide))⟩
theorem SR_sieve (s : SR g mg h jp pz) {k : Nat} (hk : k < 6) (av bv : Int32) (hr : ∃ fa fb, fa ≤ 10000 ∧ 1 ≤ fb ∧ fb ≤ 10000 ∧ av = nI fa ∧ bv = nI fb) : SR (u2 (u2 g (3 + 9 * k) 4 av) (3 + 9 * k) 5 bv) (u2 (u2 mg 14 k av) 15 k bv) h jp pz := by
  have n1 : ∀ a b, a ≠ 3 + 9 * k → u2 (u2 g (3 + 9 * k) 4 av) (3 + 9 * k) 5 bv a b = g a b := fun a b ha => by rw [u2_n ha, u2_n ha]
  have n2 : ∀ a b, b ≠ 4 → b ≠ 5 → u2 (u2 g (3 + 9 * k) 4 av) (3 + 9 * k) 5 bv a b = g a b := fun a b h6 h7 => by rw [u2_m h7, u2_m h6]
  have n3 : ∀ a b, a ≠ 14 → a ≠ 15 → u2 (u2 mg 14 k av) 15 k bv a b = mg a b := fun a b ha hb => by rw [u2_n hb, u2_n ha]
  refine SR_mut s (n1 _ _ (by omega)) (fun q hq => n2 _ _ (by decide) (by decide)) (fun q hq => n1 _ _ (by omega)) (fun q hq => by funext b; exact n1 _ _ (by omega)) (fun q hq => by funext b; exact n1 _ _ (by omega)) ((s.M.up (by decide)).up (by decide)) (fun q hq => pc_same s hq (fun b _ _ => n1 _ _ (by omega)) (n3 _ _ (by decide) (by decide)) (n3 _ _ (by decide) (by decide)) (n3 _ _ (by decide) (by decide)) (n3 _ _ (by decide) (by decide)) (n3 _ _ (by decide) (by decide))) (fun q hq => ?_) (fun q hq h0 => ?_)
  · by_cases e : q = k
    · subst e
      obtain ⟨k1, k2, k3, k4, k5⟩ := s.kk hq
      refine ⟨fun j hj => ?_, ?_, ?_, ?_, ?_⟩
      · rw [n1 _ _ (by omega), n1 _ _ (by omega), n1 _ _ (by omega), n3 _ _ (by decide) (by decide), n3 _ _ (by decide) (by decide), n3 _ _ (by decide) (by decide)]; exact k1 j hj
      · rw [n2 _ _ (by decide) (by decide), n3 _ _ (by decide) (by decide)]; exact k2
      · rw [u2_m (by decide), u2_s, u2_n (by decide), u2_s]
      · rw [u2_s, u2_s]
      · rw [u2_n (by decide), u2_s, u2_s]; exact hr
    · exact kd_same s hq (fun b _ => n1 _ _ (by omega)) (fun j _ => n1 _ _ (by omega)) (fun j _ => n1 _ _ (by omega)) (fun j _ => n1 _ _ (by omega)) (fun j _ => n3 _ _ (by decide) (by decide)) (fun j _ => n3 _ _ (by decide) (by decide)) (fun j _ => n3 _ _ (by decide) (by decide)) (n3 _ _ (by decide) (by decide)) (by rw [u2_n (by decide), u2_m e]) (by rw [u2_m e, u2_n (by decide)])
  · rw [n2 _ _ (by decide) (by decide)] at h0
    exact ⟨h0, cM_ne s.S s.M hq (fun a _ _ => ⟨n3 _ _ (by decide) (by decide), n3 _ _ (by decide) (by decide), n3 _ _ (by decide) (by decide), n3 _ _ (by decide) (by decide), n3 _ _ (by decide) (by decide)⟩) (fun b hb => n3 _ _ (by decide) (by decide)) (n3 _ _ (by decide) (by decide))⟩
end MU
