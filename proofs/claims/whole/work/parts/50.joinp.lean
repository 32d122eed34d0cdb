theorem J_piece {g mg um : Nat → Nat → Int32} {h : Nat → Nat → Nat} {jp pz ad : Nat → Nat} {f9 : Nat → Int64} {r rm : Int32} {u : ((Nat → Nat → Int32) × (Nat → Nat → Nat) × (Nat → Nat)) × (Nat → Int64)} {kd pt sd z9 : Int32} (s : SR g mg h jp pz)
    (hw : w4 (ib kd 6 ∨ ib pt 16) (rb sd 0 3 ∨ rb z9 0 30000) (12 ≤ g (3 + 9 * n32 kd) 6) r (u = ((g, h, ad), f9)) (∃ r0, (fun (r : Int32) (u : (Nat → Nat → Int32) × (Nat → Nat → Nat) × (Nat → Nat)) => ¬ (ib kd 6 ∨ ib pt 16) ∧ ¬ (rb sd 0 3 ∨ rb z9 0 30000) ∧ ¬ (12 ≤ g (3 + 9 * n32 kd) 6) ∧ ∃ k, k < 6 ∧ kd = nI k ∧ r = nI (h 0 0) ∧ u.1 = (u2 (u2 (u2 (gp g (57 + h 0 0) (fun b => [0, nI (h 0 0), nI (h 1 k), pt, z9, sd, 0, 999, 0].getD b (0 : Int32))) (3 + 9 * k) 6 (nI (h 1 k + 1))) (3 + 9 * k) 7 1) 0 2 (nI (h 0 0 + 1))) ∧ u.2.1 = hpz h k ∧ u.2.2 0 = ad 0) r0 u.1 ∧ u.2 0 = r0.toInt64))
    (ht : t4 (ib kd 6 ∨ ib pt 16) (rb sd 0 3 ∨ rb z9 0 30000) (12 ≤ h 1 (n32 kd)) mg um (∃ k, k < 6 ∧ kd = nI k ∧ rm = nI (h 0 0) ∧ um = (u2 (u2 (u2 (u2 (u2 (u2 (u2 (u2 (u2 (u2 (u2 mg 0 0 0) (1) (h 0 0) (nI k)) (2) (h 0 0) pt) (3) (h 0 0) sd) (4) (h 0 0) z9) (5) (h 0 0) 0) (6) (h 0 0) 999) (7) (h 0 0) 0) (9) (12 * k + (h 1 k)) (nI (h 0 0))) (8) k (nI ((h 1 k) + 1))) (0) 1 (nI ((h 0 0) + 1))))) :
    um 0 0 = r ∧ (r = 0 → u.2 0 = rm.toInt64) ∧ ∃ j2 p2, SR u.1.1 um u.1.2.1 j2 p2 ∧ u.1.2.2 0 = ad 0 := by
  have e3 : ¬ (ib kd 6 ∨ ib pt 16) → ¬ (rb sd 0 3 ∨ rb z9 0 30000) → (12 ≤ g (3 + 9 * n32 kd) 6 ↔ 12 ≤ h 1 (n32 kd)) := by
    intro n1 _
    obtain ⟨k, hk, rfl⟩ := ibn (n := 6) (by decide) (fun z => n1 (Or.inl z))
    have h12 := s.M.c12 hk
    rw [n32n k (by omega), (s.C.2.2.1 k hk).2.1, show (12 : Int32) = nI 12 from rfl]
    exact nI_leI (by decide) (by omega)
  rcases join4 hw ht Iff.rfl (fun _ => Iff.rfl) e3 (fun ⟨_, ⟨a, b, c, _⟩, _⟩ => ⟨a, b, c⟩) with ⟨h0, hu, hm⟩ | ⟨h0, ⟨r0, ⟨n1, n2, n3, k, hk, e0, e1, e2, e5, e6⟩, e4⟩, k2, hk2, d0, d1, d3⟩
  · subst hu; subst hm
    exact ⟨u2_s, fun z => absurd z h0, jp, pz, s.mm (mE_t (by decide)), rfl⟩
  · have : k = k2 := kk_eq (by omega) (by omega) (by rw [← e0, ← d0])
    subst this
    have h12 := s.M.c12 hk
    have hlt : h 1 k < 12 := by
      rw [e0, n32n k (by omega), (s.C.2.2.1 k hk).2.1] at n3
      have : ¬ 12 ≤ h 1 k := fun z => n3 (nI_le (a := 12) z (by omega))
      omega
    obtain ⟨j, hj, ept⟩ := ibn (x := pt) (n := 16) (by decide) (fun z => n1 (Or.inr z))
    obtain ⟨z, hz, ez⟩ := rbn (x := z9) (n := 30000) (by decide) (fun q => n2 (Or.inr q))
    obtain ⟨d, hd, ed⟩ := rbn (x := sd) (n := 3) (by decide) (fun q => n2 (Or.inl q))
    have hsd : sd = 0 ∨ sd = 1 ∨ sd = 2 ∨ sd = 3 := by
      rcases (show d = 0 ∨ d = 1 ∨ d = 2 ∨ d = 3 by omega) with rfl | rfl | rfl | rfl
      · exact Or.inl ed
      · exact Or.inr (Or.inl ed)
      · exact Or.inr (Or.inr (Or.inl ed))
      · exact Or.inr (Or.inr (Or.inr ed))
    have key := SR_piece (pt := pt) (sd := sd) (z9 := z9) s.t hk hlt hj ept ⟨z, hz, ez⟩ hsd
    refine ⟨?_, fun _ => by rw [e4, e1, d1], va_up jp (h 0 0) j, va_up pz (h 0 0) (h 1 k), ?_, e6⟩
    · rw [h0, d3, u2_m (by decide), u2_n (by decide), u2_n (by decide), u2_n (by decide), u2_n (by decide), u2_n (by decide), u2_n (by decide), u2_n (by decide), u2_n (by decide), u2_n (by decide), u2_s]
    · rw [e2, e5, d3]
      exact key
