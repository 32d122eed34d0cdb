/-! each call: the class's answer is the model's, and the relation stays -/
theorem join4 {b1 b2 b3 c1 c2 c3 X M N : Prop} {r : Int32} {mg um : Nat → Nat → Int32} (hw : w4 b1 b2 b3 r X M) (ht : t4 c1 c2 c3 mg um N) (e1 : b1 ↔ c1) (e2 : ¬ b1 → (b2 ↔ c2)) (e3 : ¬ b1 → ¬ b2 → (b3 ↔ c3)) (hM : M → ¬ b1 ∧ ¬ b2 ∧ ¬ b3) : (¬ r = 0 ∧ X ∧ um = u2 mg 0 0 r) ∨ (r = 0 ∧ M ∧ N) := by
  rcases hw with ⟨rfl, p1, px⟩ | ⟨rfl, p1, p2, px⟩ | ⟨rfl, p1, p2, p3, px⟩ | ⟨rfl, pm⟩
  · rcases ht with ⟨-, t⟩ | ⟨t, -⟩ | ⟨t, -⟩ | ⟨t, -⟩
    · exact Or.inl ⟨by decide, px, t⟩
    · exact absurd (e1.mp p1) t
    · exact absurd (e1.mp p1) t
    · exact absurd (e1.mp p1) t
  · rcases ht with ⟨t, -⟩ | ⟨-, -, t⟩ | ⟨-, t, -⟩ | ⟨-, t, -⟩
    · exact absurd (e1.mpr t) p1
    · exact Or.inl ⟨by decide, px, t⟩
    · exact absurd ((e2 p1).mp p2) t
    · exact absurd ((e2 p1).mp p2) t
  · rcases ht with ⟨t, -⟩ | ⟨-, t, -⟩ | ⟨-, -, -, t⟩ | ⟨-, -, t, -⟩
    · exact absurd (e1.mpr t) p1
    · exact absurd ((e2 p1).mpr t) p2
    · exact Or.inl ⟨by decide, px, t⟩
    · exact absurd ((e3 p1 p2).mp p3) t
  · obtain ⟨p1, p2, p3⟩ := hM pm
    rcases ht with ⟨t, -⟩ | ⟨-, t, -⟩ | ⟨-, -, t, -⟩ | ⟨-, -, -, t⟩
    · exact absurd (e1.mpr t) p1
    · exact absurd ((e2 p1).mpr t) p2
    · exact absurd ((e3 p1 p2).mpr t) p3
    · exact Or.inr ⟨rfl, pm, t⟩
theorem ff {A : Prop} (h : A) : A ∧ ¬ False := ⟨h, fun z => z⟩
section JJ
variable {g mg um : Nat → Nat → Int32} {h : Nat → Nat → Nat} {jp pz : Nat → Nat} {f9 : Nat → Int64} {r rm : Int32}
abbrev U2 := (Nat → Nat → Int32) × (Nat → Int64)
/-- what was thrown, was thrown by both -/
theorem J_x {u : U2} (s : SR g mg h jp pz) (h0 : ¬ r = 0) (hu : u = (g, f9)) (hm : um = u2 mg 0 0 r) {V : Prop} : um 0 0 = r ∧ (r = 0 → V) ∧ SR u.1 um h jp pz := by
  subst hu; subst hm
  exact ⟨u2_s, fun z => absurd z h0, s.mm (mE_t (by decide))⟩
theorem kk_eq {k k2 : Nat} (h1 : k < 2 ^ 31) (h2 : k2 < 2 ^ 31) (e : nI k = nI k2) : k = k2 := (nI_eq h1 h2).mp e
theorem SR.t (s : SR g mg h jp pz) : SR g (u2 mg 0 0 0) h jp pz := s.mm (mE_t (by decide))
theorem J_bound {u : U2} {kd tn : Int32} (s : SR g mg h jp pz) (hw : w4 (ib kd 6) (rb tn 0 30000) False r (u = (g, f9)) (∃ r0, (fun (r : Int32) (u : Nat → Nat → Int32) => ¬ (ib kd 6) ∧ ¬ (rb tn 0 30000) ∧ ∃ k, k < 6 ∧ kd = nI k ∧ r = g (3 + 9 * k) 3 ∧ u = (u2 (u2 g (3 + 9 * k) 3 tn) (3 + 9 * k) 7 1)) r0 u.1 ∧ u.2 0 = r0.toInt64))
    (ht : t4 (ib kd 6) (rb tn 0 30000) False mg um (∃ k, k < 6 ∧ kd = nI k ∧ rm = mg 11 k ∧ um = u2 (u2 mg 0 0 0) 11 k tn)) : um 0 0 = r ∧ (r = 0 → u.2 0 = rm.toInt64) ∧ SR u.1 um h jp pz := by
  rcases join4 hw ht Iff.rfl (fun _ => Iff.rfl) (fun _ _ => Iff.rfl) (fun ⟨_, ⟨a, b, _⟩, _⟩ => ⟨a, b, fun z => z⟩) with ⟨h0, hu, hm⟩ | ⟨h0, ⟨r0, ⟨-, -, k, hk, e1, e2, e3⟩, e4⟩, k2, hk2, d1, d2, d3⟩
  · exact J_x s h0 hu hm
  · have : k = k2 := kk_eq (by omega) (by omega) (by rw [← e1, ← d1])
    subst this
    rw [e3, d3]
    refine ⟨by rw [h0, u2_n (by decide), u2_s], fun _ => by rw [e4, e2, d2, (s.kk hk).2.1], SR_bound s.t hk tn⟩
theorem J_single {u : U2} {kd pt z : Int32} (s : SR g mg h jp pz) (hw : w4 (ib kd 6 ∨ ib pt 16) False False r (u = (g, f9)) (∃ r0, (fun (r : Int32) (u : Nat → Nat → Int32) => ¬ (ib kd 6 ∨ ib pt 16) ∧ ∃ k j, k < 6 ∧ j < 16 ∧ kd = nI k ∧ pt = nI j ∧ r = (if g (4 + 9 * k) j = z then 0 else 1) ∧ u = (u2 (u2 g (4 + 9 * k) j z) (3 + 9 * k) 7 1)) r0 u.1 ∧ u.2 0 = (if r0 = 0 then 0 else 1)))
    (ht : t4 (ib kd 6 ∨ ib pt 16) False False mg um (∃ k j, k < 6 ∧ j < 16 ∧ kd = nI k ∧ pt = nI j ∧ rm = (if mg 10 (16 * k + j) = z then 0 else 1) ∧ um = u2 (u2 mg 0 0 0) 10 (16 * k + j) z)) : um 0 0 = r ∧ (r = 0 → u.2 0 = (if rm = 0 then 0 else 1)) ∧ SR u.1 um h jp pz := by
  rcases join4 hw ht Iff.rfl (fun _ => Iff.rfl) (fun _ _ => Iff.rfl) (fun ⟨_, ⟨a, _⟩, _⟩ => ⟨a, (fun z => z), fun z => z⟩) with ⟨h0, hu, hm⟩ | ⟨h0, ⟨r0, ⟨-, k, j, hk, hj, e0, e1, e2, e3⟩, e4⟩, k2, j2, hk2, hj2, d0, d1, d2, d3⟩
  · exact J_x s h0 hu hm
  · have : k = k2 := kk_eq (by omega) (by omega) (by rw [← e0, ← d0])
    subst this
    have : j = j2 := kk_eq (by omega) (by omega) (by rw [← e1, ← d1])
    subst this
    rw [e3, d3]
    refine ⟨by rw [h0, u2_n (by decide), u2_s], fun _ => by rw [e4, e2, d2, ((s.kk hk).1 j hj).1], SR_single s.t hk hj z⟩
theorem tab_iff {fr tt : Int32} : (rb tt 0 999 ∨ rb fr 0 tt) ↔ (fr < 0 ∨ tt < fr ∨ ¬ tt ≤ 999) := by
  unfold rb
  simp only [Int32.lt_iff_toInt_lt, Int32.le_iff_toInt_le, show (0 : Int32).toInt = 0 from rfl, show (999 : Int32).toInt = 999 by decide]
  omega
theorem J_table {u : U2} {kd wr fr tt : Int32} (s : SR g mg h jp pz) (hw : w4 (ib kd 6 ∨ ib wr 16) (rb tt 0 999 ∨ rb fr 0 tt) False r (u = (g, f9)) ((fun (u : Nat → Nat → Int32) => ¬ (ib kd 6 ∨ ib wr 16) ∧ ¬ (rb tt 0 999 ∨ rb fr 0 tt) ∧ ∃ k j, k < 6 ∧ j < 16 ∧ kd = nI k ∧ wr = nI j ∧ u = (u2 (u2 g (5 + 9 * k) j fr) (6 + 9 * k) j tt)) u.1 ∧ u.2 = f9))
    (ht : t4 (ib kd 6 ∨ ib wr 16) (fr < 0 ∨ tt < fr ∨ ¬ tt ≤ 999) False mg um (∃ k j, k < 6 ∧ j < 16 ∧ kd = nI k ∧ wr = nI j ∧ um = (u2 (u2 (u2 mg 0 0 0) (12) (16 * k + j) fr) (13) (16 * k + j) tt))) : um 0 0 = r ∧ SR u.1 um h jp pz := by
  rcases join4 hw ht Iff.rfl (fun _ => tab_iff) (fun _ _ => Iff.rfl) (fun ⟨⟨a, b, _⟩, _⟩ => ⟨a, b, fun z => z⟩) with ⟨h0, hu, hm⟩ | ⟨h0, ⟨⟨-, -, k, j, hk, hj, e0, e1, e3⟩, -⟩, k2, j2, hk2, hj2, d0, d1, d3⟩
  · have := J_x (V := True) s h0 hu hm
    exact ⟨this.1, this.2.2⟩
  · have : k = k2 := kk_eq (by omega) (by omega) (by rw [← e0, ← d0])
    subst this
    have : j = j2 := kk_eq (by omega) (by omega) (by rw [← e1, ← d1])
    subst this
    rw [e3, d3]
    exact ⟨by rw [h0, u2_n (by decide), u2_n (by decide), u2_s], SR_table s.t hk hj fr tt⟩
theorem SR.g0 (s : SR g mg h jp pz) : g 0 2 = nI (h 0 0) := s.C.2.1
theorem J_worn {u : U2} {pn wr : Int32} (s : SR g mg h jp pz) (hw : w4 (ib pn (g 0 2) ∨ ib wr 16) False False r (u = (g, f9)) ((fun (u : Nat → Nat → Int32) => ¬ (ib pn (g 0 2) ∨ ib wr 16) ∧ ∃ p j, p < h 0 0 ∧ j < 16 ∧ pn = nI p ∧ wr = nI j ∧ u = (u2 (u2 (u2 g (57 + p) 6 (g (5 + 9 * (h 2 p)) j)) (57 + p) 7 ((u2 g (57 + p) 6 (g (5 + 9 * (h 2 p)) j)) (6 + 9 * (h 2 p)) j)) (3 + 9 * (h 2 p)) 7 1)) u.1 ∧ u.2 = f9))
    (ht : t4 (ib pn (nI (h 0 0)) ∨ ib wr 16) False False mg um (∃ q j, q < h 0 0 ∧ j < 16 ∧ pn = nI q ∧ wr = nI j ∧ um = u2 (u2 (u2 mg 0 0 0) 5 q (mg 12 (16 * h 2 q + j))) 6 q (mg 13 (16 * h 2 q + j)))) : um 0 0 = r ∧ SR u.1 um h jp pz := by
  have h72 := s.S.le
  rcases join4 hw ht (by rw [s.g0]) (fun _ => Iff.rfl) (fun _ _ => Iff.rfl) (fun ⟨⟨a, _⟩, _⟩ => ⟨a, (fun z => z), fun z => z⟩) with ⟨h0, hu, hm⟩ | ⟨h0, ⟨⟨-, k, j, hk, hj, e0, e1, e3⟩, -⟩, k2, j2, hk2, hj2, d0, d1, d3⟩
  · have := J_x (V := True) s h0 hu hm
    exact ⟨this.1, this.2.2⟩
  · have : k = k2 := kk_eq (by omega) (by omega) (by rw [← e0, ← d0])
    subst this
    have : j = j2 := kk_eq (by omega) (by omega) (by rw [← e1, ← d1])
    subst this
    have hk6 := s.M.k6 hk
    obtain ⟨-, q5, q6⟩ := (s.kk hk6).1 j hj
    rw [e3, d3, u2_n (a := 6 + 9 * h 2 k) (by omega), q5, q6]
    exact ⟨by rw [h0, u2_n (by decide), u2_n (by decide), u2_s], SR_worn s.t hk _ _⟩
theorem J_aged {u : U2} {pn en : Int32} (s : SR g mg h jp pz) (hw : w4 (ib pn (g 0 2) ∨ ib en 2) False False r (u = (g, f9)) (∃ r0, (fun (r : Int32) (u : Nat → Nat → Int32) => ¬ (ib pn (g 0 2) ∨ ib en 2) ∧ ∃ p, p < h 0 0 ∧ pn = nI p ∧ r = (if en = 0 then g (57 + p) 6 else g (57 + p) 7) ∧ u = g) r0 u.1 ∧ u.2 0 = r0.toInt64))
    (ht : t4 (ib pn (nI (h 0 0)) ∨ ib en 2) False False mg um (∃ q, q < h 0 0 ∧ pn = nI q ∧ rm = (if en = 0 then mg 5 q else mg 6 q) ∧ um = u2 mg 0 0 0)) : um 0 0 = r ∧ (r = 0 → u.2 0 = rm.toInt64) ∧ SR u.1 um h jp pz := by
  have h72 := s.S.le
  rcases join4 hw ht (by rw [s.g0]) (fun _ => Iff.rfl) (fun _ _ => Iff.rfl) (fun ⟨_, ⟨a, _⟩, _⟩ => ⟨a, (fun z => z), fun z => z⟩) with ⟨h0, hu, hm⟩ | ⟨h0, ⟨r0, ⟨-, k, hk, e0, e1, e3⟩, e4⟩, k2, hk2, d0, d1, d3⟩
  · exact J_x s h0 hu hm
  · have : k = k2 := kk_eq (by omega) (by omega) (by rw [← e0, ← d0])
    subst this
    obtain ⟨-, -, -, -, q6, q7, -⟩ := s.pq hk
    rw [e3, d3]
    exact ⟨by rw [h0, u2_s], fun _ => by rw [e4, e1, d1, q6, q7], s.t⟩
theorem J_unsure {u : U2} {pn : Int32} (s : SR g mg h jp pz) (hw : w4 (ib pn (g 0 2)) False False r (u = (g, f9)) (∃ r0, (fun (r : Int32) (u : Nat → Nat → Int32) => ¬ (ib pn (g 0 2)) ∧ ∃ p, p < h 0 0 ∧ pn = nI p ∧ r = (if g (57 + p) 5 = 3 then 0 else 1) ∧ u = (u2 (u2 g (57 + p) 5 3) (3 + 9 * (h 2 p)) 7 1)) r0 u.1 ∧ u.2 0 = (if r0 = 0 then 0 else 1)))
    (ht : t4 (ib pn (nI (h 0 0))) False False mg um (∃ q, q < h 0 0 ∧ pn = nI q ∧ rm = (if mg 3 q = 3 then 0 else 1) ∧ um = u2 (u2 mg 0 0 0) 3 q 3)) : um 0 0 = r ∧ (r = 0 → u.2 0 = (if rm = 0 then 0 else 1)) ∧ SR u.1 um h jp pz := by
  have h72 := s.S.le
  rcases join4 hw ht (by rw [s.g0]) (fun _ => Iff.rfl) (fun _ _ => Iff.rfl) (fun ⟨_, ⟨a, _⟩, _⟩ => ⟨a, (fun z => z), fun z => z⟩) with ⟨h0, hu, hm⟩ | ⟨h0, ⟨r0, ⟨-, k, hk, e0, e1, e3⟩, e4⟩, k2, hk2, d0, d1, d3⟩
  · exact J_x s h0 hu hm
  · have : k = k2 := kk_eq (by omega) (by omega) (by rw [← e0, ← d0])
    subst this
    obtain ⟨-, -, -, q5, -⟩ := s.pq hk
    rw [e3, d3]
    exact ⟨by rw [h0, u2_n (by decide), u2_s], fun _ => by rw [e4, e1, d1, q5], SR_unsure s.t hk⟩
theorem J_clash {u : U2} {p1 q1 : Int32} (s : SR g mg h jp pz) (hw : w4 (ib p1 (g 0 2) ∨ ib q1 (g 0 2)) (p1 = q1 ∨ ¬ h 2 (n32 p1) = h 2 (n32 q1)) False r (u = (g, f9)) (∃ r0, (fun (r : Int32) (u : Nat → Nat → Int32) => ¬ (ib p1 (g 0 2) ∨ ib q1 (g 0 2)) ∧ ¬ (p1 = q1 ∨ ¬ h 2 (n32 p1) = h 2 (n32 q1)) ∧ ∃ p p2, p < h 0 0 ∧ p2 < h 0 0 ∧ p1 = nI p ∧ q1 = nI p2 ∧ h 2 p = h 2 p2 ∧ r = ruI g (h 2 p) (jp p) p p2 ∧ u = g) r0 u.1 ∧ u.2 0 = r0.toInt64))
    (ht : t4 (ib p1 (nI (h 0 0)) ∨ ib q1 (nI (h 0 0))) (p1 = q1 ∨ ¬ h 2 (n32 p1) = h 2 (n32 q1)) False mg um (∃ q q2, q < h 0 0 ∧ q2 < h 0 0 ∧ p1 = nI q ∧ q1 = nI q2 ∧ h 2 q = h 2 q2 ∧ rm = ruM (u2 mg 0 0 0) (h 2 q) (jp q) q q2 ∧ um = u2 mg 0 0 0)) : um 0 0 = r ∧ (r = 0 → u.2 0 = rm.toInt64) ∧ SR u.1 um h jp pz := by
  have h72 := s.S.le
  rcases join4 hw ht (by rw [s.g0]) (fun _ => Iff.rfl) (fun _ _ => Iff.rfl) (fun ⟨_, ⟨a, b, _⟩, _⟩ => ⟨a, b, fun z => z⟩) with ⟨h0, hu, hm⟩ | ⟨h0, ⟨r0, ⟨-, -, k, j, hk, hj, e0, e1, e5, e6, e3⟩, e4⟩, k2, j2, hk2, hj2, d0, d1, d5, d6, d3⟩
  · exact J_x s h0 hu hm
  · have : k = k2 := kk_eq (by omega) (by omega) (by rw [← e0, ← d0])
    subst this
    have : j = j2 := kk_eq (by omega) (by omega) (by rw [← e1, ← d1])
    subst this
    rw [e3, d3]
    exact ⟨by rw [h0, u2_s], fun _ => by rw [e4, e6, d6, ruM_t, ru_IM (s.pq hk) (s.pq hj) (s.kk (s.M.k6 hk)) (s.M.j16 hk) (s.C.2.2.2.1 _ hk).2.2 (s.C.2.2.2.1 _ hj).2.2 (s.M.part hk) (s.M.part hj)], s.t⟩
theorem J_least {u : U2} {kd : Int32} (s : SR g mg h jp pz) (hw : w4 (ib kd 6) False False r (u = (g, f9)) (∃ r0, (fun (r : Int32) (u : Nat → Nat → Int32) => ¬ (ib kd 6) ∧ ∃ k, k < 6 ∧ kd = nI k ∧ par g h jp k u ∧ r = u (8 + 9 * k) 0) r0 u.1 ∧ u.2 0 = r0.toInt64))
    (ht : t4 (ib kd 6) False False mg um (∃ k, k < 6 ∧ kd = nI k ∧ prM (u2 mg 0 0 0) h jp k rm um)) : um 0 0 = r ∧ (r = 0 → u.2 0 = rm.toInt64) ∧ SR u.1 um h jp pz := by
  rcases join4 hw ht Iff.rfl (fun _ => Iff.rfl) (fun _ _ => Iff.rfl) (fun ⟨_, ⟨a, _⟩, _⟩ => ⟨a, (fun z => z), fun z => z⟩) with ⟨h0, hu, hm⟩ | ⟨h0, ⟨r0, ⟨-, k, hk, e0, e1, e3⟩, e4⟩, k2, hk2, d0, d1, an, be, d3, -⟩
  · exact J_x s h0 hu hm
  · have : k = k2 := kk_eq (by omega) (by omega) (by rw [← e0, ← d0])
    subst this
    obtain ⟨s2, z2⟩ := s.prt hk e1
    have fc := s2.ff hk z2
    rw [cM_t] at d1
    rw [d3]
    exact ⟨by rw [h0, gm_r (by decide) (by decide), u2_s], fun _ => by rw [e4, e3, d1, fc.1], s2.t.mm mE_gm⟩
theorem J_animal {u : U2} {pn : Int32} (s : SR g mg h jp pz) (hw : w4 (ib pn (g 0 2)) False False r (u = (g, f9)) (∃ r0, (fun (r : Int32) (u : Nat → Nat → Int32) => ¬ (ib pn (g 0 2)) ∧ ∃ p, p < h 0 0 ∧ pn = nI p ∧ par g h jp (h 2 p) u ∧ ∀ j, j < h 1 (h 2 p) → g (57 + p) 2 = nI j → r = u (10 + 9 * h 2 p) j) r0 u.1 ∧ u.2 0 = r0.toInt64))
    (ht : t4 (ib pn (nI (h 0 0))) False False mg um (∃ q, q < h 0 0 ∧ pn = nI q ∧ ∃ an be, um = gm (u2 mg 0 0 0) an be ∧ rm = nI (an (pz q)) ∧ ∃ r9, fs (cM (u2 mg 0 0 0) h jp (h 2 q)) (lstN (cM (u2 mg 0 0 0) h jp (h 2 q)) (h 1 (h 2 q))) (h 1 (h 2 q)) 0 0 c00 = some r9 ∧ ∀ j, j < h 1 (h 2 q) → an j = r9 j)) : um 0 0 = r ∧ (r = 0 → u.2 0 = rm.toInt64) ∧ SR u.1 um h jp pz := by
  have h72 := s.S.le
  rcases join4 hw ht (by rw [s.g0]) (fun _ => Iff.rfl) (fun _ _ => Iff.rfl) (fun ⟨_, ⟨a, _⟩, _⟩ => ⟨a, (fun z => z), fun z => z⟩) with ⟨h0, hu, hm⟩ | ⟨h0, ⟨r0, ⟨-, k, hk, e0, e1, e3⟩, e4⟩, k2, hk2, d0, an, be, d3, d1, r9, d5, d6⟩
  · exact J_x s h0 hu hm
  · have : k = k2 := kk_eq (by omega) (by omega) (by rw [← e0, ← d0])
    subst this
    have hk6 := s.M.k6 hk
    obtain ⟨-, z1, z3⟩ := s.S.1 k hk
    obtain ⟨s2, z2⟩ := s.prt hk6 e1
    obtain ⟨-, -, f3⟩ := s2.ff hk6 z2
    obtain ⟨r8, f4, f5⟩ := f3 (by omega)
    rw [cM_t, f4] at d5
    cases d5
    have e9 := e3 (pz k) z1 (s.pq hk).2.1
    rw [d3]
    exact ⟨by rw [h0, gm_r (by decide) (by decide), u2_s], fun _ => by rw [e4, e9, d1, f5 _ z1, d6 _ z1], s2.t.mm mE_gm⟩
theorem J_clashing {u : U2} {kd x : Int32} (s : SR g mg h jp pz) (hw : w4 (ib kd 6 ∨ x < 0) False False r (u = (g, f9)) (∃ r0, (fun (r : Int32) (u : Nat → Nat → Int32) => ¬ (ib kd 6 ∨ x < 0) ∧ ∃ k m, k < 6 ∧ kd = nI k ∧ par g h jp k u ∧ m < 4096 ∧ u (8 + 9 * k) 2 = nI m ∧ (∀ j, j < h 1 k → pof m x (h 1 k) 0 0 = nI j → r = u (57 + h (3 + k) j) 1) ∧ (ib (pof m x (h 1 k) 0 0) (nI (h 1 k)) → r = -1)) r0 u.1 ∧ u.2 0 = r0.toInt64))
    (ht : t4 (ib kd 6 ∨ x < 0) False False mg um (∃ k, k < 6 ∧ kd = nI k ∧ rm = paM (bM (cM (u2 mg 0 0 0) h jp k) (h 1 k) (2 ^ h 1 k)) (fun j => nI (h (3 + k) j)) (h 1 k) 0 x ∧ um = u2 mg 0 0 0)) : um 0 0 = r ∧ (r = 0 → u.2 0 = rm.toInt64) ∧ SR u.1 um h jp pz := by
  rcases join4 hw ht Iff.rfl (fun _ => Iff.rfl) (fun _ _ => Iff.rfl) (fun ⟨_, ⟨a, _⟩, _⟩ => ⟨a, (fun z => z), fun z => z⟩) with ⟨h0, hu, hm⟩ | ⟨h0, ⟨r0, ⟨-, k, m, hk, e0, e1, e2, e3, e5, e6⟩, e4⟩, k2, hk2, d0, d1, d3⟩
  · exact J_x s h0 hu hm
  · have : k = k2 := kk_eq (by omega) (by omega) (by rw [← e0, ← d0])
    subst this
    obtain ⟨s2, z2⟩ := s.prt hk e1
    obtain ⟨-, f2, -⟩ := s2.ff hk z2
    have hbl := bM_lt s.M hk (cm := cM mg h jp k)
    have hm9 : m = bM (cM mg h jp k) (h 1 k) (2 ^ h 1 k) := kk_eq (by omega) (by omega) (by rw [← e3, ← f2])
    rw [cM_t, ← hm9] at d1
    have h12 := s.M.c12 hk
    refine ⟨by rw [h0, d3, u2_s], fun _ => ?_, by rw [d3]; exact s2.t⟩
    rw [e4, d1]
    have hx : x = x - nI 0 := (Int32.sub_zero x).symm
    rcases pof_paM (m := m) (x := x) (row := fun j => nI (h (3 + k) j)) (h 1 k) 0 0 (by omega) with ⟨j, j1, j2, j3, j4⟩ | ⟨j1, j2⟩
    · rw [e5 j (by omega) j3, hx, j4, (s2.pq (s.own hk (show j < h 1 k by omega)).1).1]
    · rw [e6 (by rw [j1]; exact Or.inl (by decide)), hx, j2]
theorem J_weight {u : U2} {pn gv : Int32} (s : SR g mg h jp pz) (hw : w4 (ib pn (g 0 2)) (rb gv 0 1000000) False r (u = (g, f9)) (∃ r0, (fun (r : Int32) (u : Nat → Nat → Int32) => ¬ (ib pn (g 0 2)) ∧ ¬ (rb gv 0 1000000) ∧ ∃ p, p < h 0 0 ∧ pn = nI p ∧ r = g (57 + p) 8 ∧ u = (u2 g (57 + p) 8 gv)) r0 u.1 ∧ u.2 0 = r0.toInt64))
    (ht : t4 (ib pn (nI (h 0 0))) (rb gv 0 1000000) False mg um (∃ q, q < h 0 0 ∧ pn = nI q ∧ rm = mg 7 q ∧ um = u2 (u2 mg 0 0 0) 7 q gv)) : um 0 0 = r ∧ (r = 0 → u.2 0 = rm.toInt64) ∧ SR u.1 um h jp pz := by
  have h72 := s.S.le
  rcases join4 hw ht (by rw [s.g0]) (fun _ => Iff.rfl) (fun _ _ => Iff.rfl) (fun ⟨_, ⟨a, b, _⟩, _⟩ => ⟨a, b, fun z => z⟩) with ⟨h0, hu, hm⟩ | ⟨h0, ⟨r0, ⟨-, -, k, hk, e0, e1, e3⟩, e4⟩, k2, hk2, d0, d1, d3⟩
  · exact J_x s h0 hu hm
  · have : k = k2 := kk_eq (by omega) (by omega) (by rw [← e0, ← d0])
    subst this
    obtain ⟨-, -, -, -, -, -, q8, -⟩ := s.pq hk
    rw [e3, d3]
    exact ⟨by rw [h0, u2_n (by decide), u2_s], fun _ => by rw [e4, e1, d1, q8], SR_weight s.t hk gv⟩
theorem J_sum {u : U2} {kd : Int32} (s : SR g mg h jp pz) (hw : w4 (ib kd 6) False False r (u = (g, f9)) (∃ r0, (fun (r : Int32) (u : Nat → Nat → Int32) => ¬ (ib kd 6) ∧ ∃ k, k < 6 ∧ kd = nI k ∧ r = l_sum (fun j => g (57 + h (3 + k) j) 8) (h 1 k) ∧ u = g) r0 u.1 ∧ u.2 0 = r0.toInt64))
    (ht : t4 (ib kd 6) False False mg um (∃ k, k < 6 ∧ kd = nI k ∧ rm = l_sum (fun q => if h 2 q = k then mg 7 q else 0) (h 0 0) ∧ um = u2 mg 0 0 0)) : um 0 0 = r ∧ (r = 0 → u.2 0 = rm.toInt64) ∧ SR u.1 um h jp pz := by
  rcases join4 hw ht Iff.rfl (fun _ => Iff.rfl) (fun _ _ => Iff.rfl) (fun ⟨_, ⟨a, _⟩, _⟩ => ⟨a, (fun z => z), fun z => z⟩) with ⟨h0, hu, hm⟩ | ⟨h0, ⟨r0, ⟨-, k, hk, e0, e1, e3⟩, e4⟩, k2, hk2, d0, d1, d3⟩
  · exact J_x s h0 hu hm
  · have : k = k2 := kk_eq (by omega) (by omega) (by rw [← e0, ← d0])
    subst this
    have e9 : l_sum (fun j => g (57 + h (3 + k) j) 8) (h 1 k) = l_sum (fun j => mg 7 (h (3 + k) j)) (h 1 k) := ls_cg _ (fun i hi => (s.pq (s.own hk hi).1).2.2.2.2.2.2.1)
    rw [e3, d3]
    exact ⟨by rw [h0, u2_s], fun _ => by rw [e4, e1, d1, e9, s.S.2.2.2 k hk (mg 7)], s.t⟩
theorem prs_sh (s : SR g mg h jp pz) : ∀ i (v : Nat → Nat → Int32) A, i ≤ 6 → prs h jp g i v A → SR v mg h jp pz ∧ A = shN mg h jp i := by
  intro i
  induction i with
  | zero => intro v A _ hp; obtain ⟨rfl, rfl⟩ := hp; exact ⟨s, rfl⟩
  | succ i ih =>
    intro v A hi hp
    obtain ⟨w, B, K, h1, h2, h3, h4, rfl⟩ := hp
    obtain ⟨a, rfl⟩ := ih w B (by omega) h1
    obtain ⟨s2, z2⟩ := a.prt (by omega) h2
    have fc := s2.ff (show i < 6 by omega) z2
    have hl := lstN_le (cm := cM mg h jp i) (n := h 1 i)
    have hc := s.M.c12 (show i < 6 by omega)
    have e : K = lstN (cM mg h jp i) (h 1 i) := kk_eq (by omega) (by omega) (by rw [← h3, fc.1])
    exact ⟨s2, by rw [e]; rfl⟩
theorem shN_t : ∀ i, shN (u2 mg 0 0 0) h jp i = shN mg h jp i := by
  intro i
  induction i with
  | zero => rfl
  | succ i ih =>
    show shN (u2 mg 0 0 0) h jp i + lstN (cM (u2 mg 0 0 0) h jp i) (h 1 i) = shN mg h jp i + lstN (cM mg h jp i) (h 1 i)
    rw [ih, cM_t]
theorem shN_ge {k : Nat} : ∀ i, k < i → lstN (cM mg h jp k) (h 1 k) ≤ shN mg h jp i := by
  intro i
  induction i with
  | zero => intro h9; omega
  | succ i ih =>
    intro hk
    show _ ≤ shN mg h jp i + lstN (cM mg h jp i) (h 1 i)
    by_cases e : k = i
    · subst e; omega
    · have := ih (by omega); omega
theorem J_share {u : U2} {kd pt : Int32} (s : SR g mg h jp pz) (hw : w4 (ib kd 6 ∨ ib pt 2) False False r (u = (g, f9)) (∃ r0, (fun (r : Int32) (u : Nat → Nat → Int32) => ¬ (ib kd 6 ∨ ib pt 2) ∧ ∃ k v A K, k < 6 ∧ kd = nI k ∧ prs h jp g 6 v A ∧ par v h jp k u ∧ u (8 + 9 * k) 0 = nI K ∧ K < 25 ∧ r = les K A pt) r0 u.1 ∧ u.2 0 = r0.toInt64))
    (ht : t4 (ib kd 6 ∨ ib pt 2) False False mg um (∃ k, k < 6 ∧ kd = nI k ∧ ∃ an be, um = gle (gm (u2 mg 0 0 0) an be) (lsO (lstN (cM (u2 mg 0 0 0) h jp k) (h 1 k)) (shN (u2 mg 0 0 0) h jp 6)) (lsU (lstN (cM (u2 mg 0 0 0) h jp k) (h 1 k)) (shN (u2 mg 0 0 0) h jp 6)) ∧ rm = if pt = 0 then nI (lsO (lstN (cM (u2 mg 0 0 0) h jp k) (h 1 k)) (shN (u2 mg 0 0 0) h jp 6)) else nI (lsU (lstN (cM (u2 mg 0 0 0) h jp k) (h 1 k)) (shN (u2 mg 0 0 0) h jp 6)))) : um 0 0 = r ∧ (r = 0 → u.2 0 = rm.toInt64) ∧ SR u.1 um h jp pz := by
  rcases join4 hw ht Iff.rfl (fun _ => Iff.rfl) (fun _ _ => Iff.rfl) (fun ⟨_, ⟨a, _⟩, _⟩ => ⟨a, (fun z => z), fun z => z⟩) with ⟨h0, hu, hm⟩ | ⟨h0, ⟨r0, ⟨-, k, v, A, K, hk, e0, e1, e2, e3, e5, e6⟩, e4⟩, k2, hk2, d0, an, be, d3, d1⟩
  · exact J_x s h0 hu hm
  · have : k = k2 := kk_eq (by omega) (by omega) (by rw [← e0, ← d0])
    subst this
    obtain ⟨s1, rfl⟩ := prs_sh s 6 v A (by omega) e1
    obtain ⟨s2, z2⟩ := s1.prt hk e2
    have fc := s2.ff hk z2
    have hl := lstN_le (cm := cM mg h jp k) (n := h 1 k)
    have hc := s.M.c12 hk
    have e : K = lstN (cM mg h jp k) (h 1 k) := kk_eq (by omega) (by omega) (by rw [← e3, fc.1])
    subst e
    have b1 := shN_le s.M 6 (by omega)
    have b2 := shN_ge (mg := mg) (h := h) (jp := jp) 6 hk
    rw [cM_t, shN_t] at d1
    rw [d3]
    refine ⟨?_, fun _ => by rw [e4, e6, d1, les_ls (by omega) (by omega) (by omega)], s2.t.mm (mE_tr mE_gm mE_gle)⟩
    rw [h0, gle, u2_m (by decide), u2_m (by decide), gm_r (by decide) (by decide), u2_s]
theorem sv_iff {av bv : Int32} : (rb av 1 10000 ∨ rb bv 1 av) ↔ (bv < 1 ∨ av < bv ∨ ¬ av ≤ 10000) := by
  unfold rb
  simp only [Int32.lt_iff_toInt_lt, Int32.le_iff_toInt_le, show (1 : Int32).toInt = 1 from rfl, show (10000 : Int32).toInt = 10000 by decide]
  omega
theorem J_sieve {u : U2} {kd av bv : Int32} (s : SR g mg h jp pz) (hw : w4 (ib kd 6) (rb av 1 10000 ∨ rb bv 1 av) False r (u = (g, f9)) ((fun (u : Nat → Nat → Int32) => ¬ (ib kd 6) ∧ ¬ (rb av 1 10000 ∨ rb bv 1 av) ∧ ∃ k, k < 6 ∧ kd = nI k ∧ u = (u2 (u2 g (3 + 9 * k) 4 av) (3 + 9 * k) 5 bv)) u.1 ∧ u.2 = f9))
    (ht : t4 (ib kd 6) (bv < 1 ∨ av < bv ∨ ¬ av ≤ 10000) False mg um (∃ k, k < 6 ∧ kd = nI k ∧ um = u2 (u2 (u2 mg 0 0 0) 14 k av) 15 k bv)) : um 0 0 = r ∧ SR u.1 um h jp pz := by
  rcases join4 hw ht Iff.rfl (fun _ => sv_iff) (fun _ _ => Iff.rfl) (fun ⟨⟨a, b, _⟩, _⟩ => ⟨a, b, fun z => z⟩) with ⟨h0, hu, hm⟩ | ⟨h0, ⟨⟨-, hnb, k, hk, e0, e3⟩, -⟩, k2, hk2, d0, d3⟩
  · have := J_x (V := True) s h0 hu hm
    exact ⟨this.1, this.2.2⟩
  · have : k = k2 := kk_eq (by omega) (by omega) (by rw [← e0, ← d0])
    subst this
    have n1 : ¬ av < 1 := fun z => hnb (Or.inl (Or.inl z))
    have n2 : av ≤ 10000 := Decidable.not_not.mp (fun z => hnb (Or.inl (Or.inr z)))
    have n3 : ¬ bv < 1 := fun z => hnb (Or.inr (Or.inl z))
    have n4 : bv ≤ av := Decidable.not_not.mp (fun z => hnb (Or.inr (Or.inr z)))
    simp only [Int32.lt_iff_toInt_lt, Int32.le_iff_toInt_le, show (1 : Int32).toInt = 1 from rfl, show (10000 : Int32).toInt = 10000 by decide] at n1 n2 n3 n4
    have q : ∀ x : Int32, 1 ≤ x.toInt → x.toInt ≤ 10000 → ∃ j : Nat, 1 ≤ j ∧ j ≤ 10000 ∧ x = nI j := by
      intro x h1 h2
      obtain ⟨j, j1, j2⟩ := nI_of2 (x := x) (M := 10000) (n := 10000) (by decide) (by rw [Int32.lt_iff_toInt_lt, show (0 : Int32).toInt = 0 from rfl]; omega) (by rw [Int32.le_iff_toInt_le, show (10000 : Int32).toInt = 10000 by decide]; omega)
      refine ⟨j, ?_, j1, j2⟩
      rw [j2, nI_toInt (by omega)] at h1
      omega
    obtain ⟨fa, fa1, fa2, fa3⟩ := q av (by omega) (by omega)
    obtain ⟨fb, fb1, fb2, fb3⟩ := q bv (by omega) (by omega)
    rw [e3, d3]
    exact ⟨by rw [h0, u2_n (by decide), u2_n (by decide), u2_s], SR_sieve s.t hk av bv ⟨fa, fb, fa2, fb1, fb2, fa3, fb3⟩⟩
theorem J_scaled {u : U2} {kd pt : Int32} (s : SR g mg h jp pz) (hw : w4 (ib kd 6 ∨ ib pt 3) False False r (u = (g, f9)) (∃ r0, (fun (r : Int32) (u : Nat → Nat → Int32) => ¬ (ib kd 6 ∨ ib pt 3) ∧ ∃ k fa fb, k < 6 ∧ kd = nI k ∧ fa ≤ 10000 ∧ 1 ≤ fb ∧ fb ≤ 10000 ∧ g (3 + 9 * k) 4 = nI fa ∧ g (3 + 9 * k) 5 = nI fb ∧ r = scl (h 1 k) fa fb pt ∧ u = g) r0 u.1 ∧ u.2 0 = r0.toInt64))
    (ht : t4 (ib kd 6 ∨ ib pt 3) False False mg um (∃ k fa fb, k < 6 ∧ kd = nI k ∧ fa ≤ 10000 ∧ 1 ≤ fb ∧ fb ≤ 10000 ∧ mg 14 k = nI fa ∧ mg 15 k = nI fb ∧ um = gle (u2 mg 0 0 0) (lsO (h 1 k * fa % fb) fb) (lsU (h 1 k * fa % fb) fb) ∧ rm = if pt = 0 then nI (h 1 k * fa / fb) else if pt = 1 then nI (lsO (h 1 k * fa % fb) fb) else nI (lsU (h 1 k * fa % fb) fb))) : um 0 0 = r ∧ (r = 0 → u.2 0 = rm.toInt64) ∧ SR u.1 um h jp pz := by
  rcases join4 hw ht Iff.rfl (fun _ => Iff.rfl) (fun _ _ => Iff.rfl) (fun ⟨_, ⟨a, _⟩, _⟩ => ⟨a, (fun z => z), fun z => z⟩) with ⟨h0, hu, hm⟩ | ⟨h0, ⟨r0, ⟨-, k, fa, fb, hk, e0, f1, f2, f3, f4, f5, e1, e3⟩, e4⟩, k2, ga, gb, hk2, d0, g1, g2, g3, g4, g5, d3, d1⟩
  · exact J_x s h0 hu hm
  · have : k = k2 := kk_eq (by omega) (by omega) (by rw [← e0, ← d0])
    subst this
    obtain ⟨-, -, q4, q5, -⟩ := s.kk hk
    have : fa = ga := kk_eq (by omega) (by omega) (by rw [← f4, q4, g4])
    subst this
    have : fb = gb := kk_eq (by omega) (by omega) (by rw [← f5, q5, g5])
    subst this
    have hm9 : h 1 k * fa % fb < fb := Nat.mod_lt _ (by omega)
    rw [e3, d3]
    refine ⟨by rw [h0, gle, u2_m (by decide), u2_m (by decide), u2_s], fun _ => ?_, s.t.mm mE_gle⟩
    rw [e4, e1, d1, scl, les_ls (by omega) (by omega) (by omega)]
    by_cases p0 : pt = 0
    · rw [if_pos p0, if_pos p0]
    · rw [if_neg p0, if_neg p0]
      by_cases p1 : pt = 1
      · rw [if_pos p1, if_pos p1, if_pos rfl]
      · rw [if_neg p1, if_neg p1, if_neg (by decide)]
theorem J_diverse {u : U2} {pt : Int32} (s : SR g mg h jp pz) (hw : w4 (ib pt 2) False False r (u = (g, f9)) (∃ r0, (fun (r : Int32) (u : Nat → Nat → Int32) => ¬ (ib pt 2) ∧ r = les ((h 0 0 * (h 0 0 - 1)) - aln h 6) (h 0 0 * (h 0 0 - 1)) pt ∧ u = g) r0 u.1 ∧ u.2 0 = r0.toInt64))
    (ht : t4 (ib pt 2) False False mg um (um = gle (u2 mg 0 0 0) (lsO ((h 0 0 * (h 0 0 - 1)) - aln h 6) (h 0 0 * (h 0 0 - 1))) (lsU ((h 0 0 * (h 0 0 - 1)) - aln h 6) (h 0 0 * (h 0 0 - 1))) ∧ rm = if pt = 0 then nI (lsO ((h 0 0 * (h 0 0 - 1)) - aln h 6) (h 0 0 * (h 0 0 - 1))) else nI (lsU ((h 0 0 * (h 0 0 - 1)) - aln h 6) (h 0 0 * (h 0 0 - 1))))) : um 0 0 = r ∧ (r = 0 → u.2 0 = rm.toInt64) ∧ SR u.1 um h jp pz := by
  have h72 := s.S.le
  have hpp : h 0 0 * (h 0 0 - 1) ≤ 72 * 71 := Nat.mul_le_mul h72 (by omega)
  rcases join4 hw ht Iff.rfl (fun _ => Iff.rfl) (fun _ _ => Iff.rfl) (fun ⟨_, ⟨a, _⟩, _⟩ => ⟨a, (fun z => z), fun z => z⟩) with ⟨h0, hu, hm⟩ | ⟨h0, ⟨r0, ⟨-, e1, e3⟩, e4⟩, d3, d1⟩
  · exact J_x s h0 hu hm
  · rw [e3, d3]
    refine ⟨by rw [h0, gle, u2_m (by decide), u2_m (by decide), u2_s], fun _ => ?_, s.t.mm mE_gle⟩
    rw [e4, e1, d1, les_ls (by omega) (by omega) (by omega)]
theorem J_pieces {u : U2} {kd : Int32} (s : SR g mg h jp pz) (hw : w4 ((¬ kd = -1 ∧ ib kd 6)) False False r (u = (g, f9)) (∃ r0, (fun (r : Int32) (u : Nat → Nat → Int32) => ¬ ((¬ kd = -1 ∧ ib kd 6)) ∧ (kd = -1 ∧ r = g 0 2 ∨ ∃ k, k < 6 ∧ kd = nI k ∧ r = g (3 + 9 * k) 6) ∧ u = g) r0 u.1 ∧ u.2 0 = r0.toInt64))
    (ht : t4 ((¬ kd = -1 ∧ ib kd 6)) False False mg um ((kd = -1 ∧ rm = mg 0 1 ∨ ∃ k, k < 6 ∧ kd = nI k ∧ rm = mg 8 k) ∧ um = u2 mg 0 0 0)) : um 0 0 = r ∧ (r = 0 → u.2 0 = rm.toInt64) ∧ SR u.1 um h jp pz := by
  rcases join4 hw ht Iff.rfl (fun _ => Iff.rfl) (fun _ _ => Iff.rfl) (fun ⟨_, ⟨a, _⟩, _⟩ => ⟨a, (fun z => z), fun z => z⟩) with ⟨h0, hu, hm⟩ | ⟨h0, ⟨r0, ⟨-, e1, e3⟩, e4⟩, d1, d3⟩
  · exact J_x s h0 hu hm
  · rw [e3, d3]
    refine ⟨by rw [h0, u2_s], fun _ => ?_, s.t⟩
    rcases e1 with ⟨a1, a2⟩ | ⟨k, hk, a1, a2⟩ <;> rcases d1 with ⟨c1, c2⟩ | ⟨k2, hk2, c1, c2⟩
    · rw [e4, a2, c2, s.g0, s.M.many]
    · exact absurd (a1.symm.trans c1) (nI_m1 (by omega))
    · exact absurd (c1.symm.trans a1) (nI_m1 (by omega))
    · have : k = k2 := kk_eq (by omega) (by omega) (by rw [← a1, ← c1])
      subst this
      rw [e4, a2, c2, s.M.cnt hk, (s.C.2.2.1 k hk).2.1]
end JJ
