/-! a piece is taken; the beginning -/
def mP (mg : Nat → Nat → Int32) (N k c9 : Nat) (pt sd z9 : Int32) : Nat → Nat → Int32 := u2 (u2 (u2 (u2 (u2 (u2 (u2 (u2 (u2 (u2 mg 1 N (nI k)) 2 N pt) 3 N sd) 4 N z9) 5 N 0) 6 N 999) 7 N 0) 9 (12 * k + c9) (nI N)) 8 k (nI (c9 + 1))) 0 1 (nI (N + 1))
def gP (g : Nat → Nat → Int32) (N k c9 : Nat) (pt sd z9 : Int32) : Nat → Nat → Int32 := u2 (u2 (u2 (gp g (57 + N) (fun b => [0, nI N, nI c9, pt, z9, sd, 0, 999, 0].getD b (0 : Int32))) (3 + 9 * k) 6 (nI (c9 + 1))) (3 + 9 * k) 7 1) 0 2 (nI (N + 1))
section PI
variable {g mg : Nat → Nat → Int32} {h : Nat → Nat → Nat} {jp pz : Nat → Nat} {N k c9 : Nat} {pt sd z9 : Int32}
theorem mP_u {a b : Nat} (h10 : 10 ≤ a) : mP mg N k c9 pt sd z9 a b = mg a b := by
  unfold mP
  rw [u2_n (by omega), u2_n (by omega), u2_n (by omega), u2_n (by omega), u2_n (by omega), u2_n (by omega), u2_n (by omega), u2_n (by omega), u2_n (by omega), u2_n (by omega)]
theorem mP_b {a b : Nat} (h1 : 1 ≤ a) (h7 : a ≤ 7) (hb : b ≠ N) : mP mg N k c9 pt sd z9 a b = mg a b := by
  unfold mP
  rw [u2_n (by omega), u2_n (by omega), u2_n (by omega), u2_m hb, u2_m hb, u2_m hb, u2_m hb, u2_m hb, u2_m hb, u2_m hb]
theorem mP_8 {b : Nat} : mP mg N k c9 pt sd z9 8 b = if b = k then nI (c9 + 1) else mg 8 b := by
  unfold mP
  rw [u2_n (by decide)]
  by_cases e : b = k
  · rw [if_pos e, e, u2_s]
  · rw [if_neg e, u2_m e, u2_n (by decide), u2_n (by decide), u2_n (by decide), u2_n (by decide), u2_n (by decide), u2_n (by decide), u2_n (by decide), u2_n (by decide)]
theorem mP_9 {b : Nat} : mP mg N k c9 pt sd z9 9 b = if b = 12 * k + c9 then nI N else mg 9 b := by
  unfold mP
  rw [u2_n (by decide), u2_n (by decide)]
  by_cases e : b = 12 * k + c9
  · rw [if_pos e, e, u2_s]
  · rw [if_neg e, u2_m e, u2_n (by decide), u2_n (by decide), u2_n (by decide), u2_n (by decide), u2_n (by decide), u2_n (by decide), u2_n (by decide)]
theorem mP_N : mP mg N k c9 pt sd z9 1 N = nI k ∧ mP mg N k c9 pt sd z9 2 N = pt ∧ mP mg N k c9 pt sd z9 3 N = sd ∧ mP mg N k c9 pt sd z9 4 N = z9 ∧ mP mg N k c9 pt sd z9 5 N = 0 ∧ mP mg N k c9 pt sd z9 6 N = 999 ∧ mP mg N k c9 pt sd z9 7 N = 0 := by
  unfold mP
  refine ⟨?_, ?_, ?_, ?_, ?_, ?_, ?_⟩ <;> simp [u2]
theorem gP_57 (hk : k < 6) {b : Nat} : gP g N k c9 pt sd z9 (57 + N) b = [0, nI N, nI c9, pt, z9, sd, 0, 999, 0].getD b (0 : Int32) := by
  unfold gP
  rw [u2_n (by omega), u2_n (by omega), u2_n (by omega)]
  simp [gp]
theorem gP_o {a b : Nat} (h0 : a ≠ 0) (h57 : a ≠ 57 + N) (h3 : a ≠ 3 + 9 * k) : gP g N k c9 pt sd z9 a b = g a b := by
  unfold gP
  rw [u2_n h0, u2_n h3, u2_n h3]
  simp [gp, h57]
theorem gP_3 (hk : k < 6) {q b : Nat} (hq : q < 6) (h6 : b ≠ 6) (h7 : b ≠ 7) : gP g N k c9 pt sd z9 (3 + 9 * q) b = g (3 + 9 * q) b := by
  unfold gP
  rw [u2_n (by omega), u2_m h7, u2_m h6]
  simp [gp, show ¬ 3 + 9 * q = 57 + N by omega]
theorem SR_piece (s : SR g mg h jp pz) (hk : k < 6) (h12 : h 1 k < 12) {j : Nat} (hj : j < 16) (ept : pt = nI j) (hz : ∃ z, z ≤ 30000 ∧ z9 = nI z) (hsd : sd = 0 ∨ sd = 1 ∨ sd = 2 ∨ sd = 3) :
    SR (gP g (h 0 0) k (h 1 k) pt sd z9) (mP mg (h 0 0) k (h 1 k) pt sd z9) (hpz h k) (va_up jp (h 0 0) j) (va_up pz (h 0 0) (h 1 k)) := by
  have hN := s.S.lt k hk h12
  obtain ⟨c1, c2, c3, c4, c5⟩ := s.C
  obtain ⟨m1, m2, m3, m4, m5, m6, m7⟩ := mP_N (mg := mg) (N := h 0 0) (k := k) (c9 := h 1 k) (pt := pt) (sd := sd) (z9 := z9)
  refine ⟨⟨by rw [hp_n]; omega, ?_, fun q hq => ⟨?_, ?_, fun i hi => ?_⟩, fun q hq => ?_, fun q hq => ?_⟩, ⟨by rw [hp_n]; omega, ?_, fun q hq => ⟨?_, ?_, fun i hi => ⟨?_, ?_⟩⟩, fun q hq => ?_⟩, Sp_s s.S hk h12, fun q hq => ?_, fun q hq => ?_, fun q hq h0 => ?_⟩
  · unfold gP; rw [u2_s, hp_n]
  · rw [hp_c]; split
    · omega
    · exact (c3 q hq).1
  · rw [hp_c]
    by_cases e : q = k
    · subst e; rw [if_pos rfl]; unfold gP; rw [u2_n (by omega), u2_m (by decide), u2_s]
    · rw [if_neg e, gP_o (by omega) (by omega) (by omega)]; exact (c3 q hq).2.1
  · exact ((Sp_s s.S hk h12).2.1 q hq).2 i hi |>.1
  · rw [hp_n] at hq
    rw [hp_k]
    by_cases e : q = h 0 0
    · subst e
      rw [if_pos rfl, va_up_self, gP_57 hk]
      exact ⟨hk, hj, ept⟩
    · rw [if_neg e, va_up_ne _ _ e, gP_o (by omega) (by omega) (by omega)]
      exact c4 q (by omega)
  · obtain ⟨n, m, K, b1, b2, b3, b4, b5, b6, b7⟩ := c5 q hq
    refine ⟨n, m, K, b1, b2, b3, ?_, ?_, ?_, fun h0 => ?_⟩
    · rw [gP_o (by omega) (by omega) (by omega)]; exact b4
    · rw [gP_o (by omega) (by omega) (by omega)]; exact b5
    · rw [gP_o (by omega) (by omega) (by omega)]; exact b6
    · by_cases e : q = k
      · subst e; unfold gP at h0; rw [u2_n (by omega), u2_s] at h0; exact absurd h0 (by decide)
      · rw [gP_o (by omega) (by omega) (by omega)] at h0
        rw [hp_c, if_neg e]; exact b7 h0
  · unfold mP; rw [u2_s, hp_n]
  · rw [hp_c]; split
    · omega
    · exact s.M.c12 hq
  · rw [mP_8, hp_c]
    by_cases e : q = k
    · rw [if_pos e, if_pos e]
    · rw [if_neg e, if_neg e]; exact s.M.cnt hq
  · exact ((Sp_s s.S hk h12).2.1 q hq).2 i hi |>.1
  · rw [mP_9, hpz_o]
    have hqc := s.M.c12 hq
    by_cases e : q = k ∧ i = h 1 k
    · rw [if_pos e, e.1, e.2, if_pos rfl]
    · rw [hp_c] at hi
      have hi2 : i < h 1 q := by
        by_cases e2 : q = k
        · rw [if_pos e2] at hi
          rw [e2]
          have : ¬ i = h 1 k := fun z => e ⟨e2, z⟩
          omega
        · rw [if_neg e2] at hi; exact hi
      rw [if_neg e, if_neg (by omega)]
      exact s.M.row hq hi2
  · rw [hp_n] at hq
    rw [hp_k]
    by_cases e : q = h 0 0
    · subst e
      rw [if_pos rfl, va_up_self, m1, m2]
      exact ⟨hk, hj, rfl, ept⟩
    · rw [if_neg e, va_up_ne _ _ e, mP_b (by decide) (by decide) e, mP_b (by decide) (by decide) e]
      have hq2 : q < h 0 0 := by omega
      exact ⟨s.M.k6 hq2, s.M.j16 hq2, s.M.kind hq2, s.M.part hq2⟩
  · rw [hp_n] at hq
    by_cases e : q = h 0 0
    · subst e
      unfold pcR
      rw [gP_57 hk, gP_57 hk, gP_57 hk, gP_57 hk, gP_57 hk, gP_57 hk, gP_57 hk, m3, m4, m5, m6, m7, va_up_self]
      exact ⟨rfl, rfl, rfl, rfl, rfl, rfl, rfl, hz, hsd⟩
    · have o1 : ∀ b, gP g (h 0 0) k (h 1 k) pt sd z9 (57 + q) b = g (57 + q) b := fun b => gP_o (by omega) (by omega) (by omega)
      unfold pcR
      rw [o1, o1, o1, o1, o1, o1, o1, mP_b (by decide) (by decide) e, mP_b (by decide) (by decide) e, mP_b (by decide) (by decide) e, mP_b (by decide) (by decide) e, mP_b (by decide) (by decide) e, va_up_ne _ _ e]
      exact s.pq (by omega)
  · exact kd_same s hq (fun b hb => gP_3 hk hq (by omega) (by omega)) (fun i _ => gP_o (by omega) (by omega) (by omega)) (fun i _ => gP_o (by omega) (by omega) (by omega)) (fun i _ => gP_o (by omega) (by omega) (by omega)) (fun i _ => mP_u (by decide)) (fun i _ => mP_u (by decide)) (fun i _ => mP_u (by decide)) (mP_u (by decide)) (mP_u (by decide)) (mP_u (by decide))
  · by_cases e : q = k
    · subst e; unfold gP at h0; rw [u2_n (by omega), u2_s] at h0; exact absurd h0 (by decide)
    · rw [gP_o (by omega) (by omega) (by omega)] at h0
      refine FC_to (s.ff hq h0) (by rw [hp_c, if_neg e]) (fun i i2 hi hi2 => ?_) (by funext b; exact gP_o (by omega) (by omega) (by omega)) (by funext b; exact gP_o (by omega) (by omega) (by omega))
      obtain ⟨a1, a2, -⟩ := s.own hq hi
      obtain ⟨d1, d2, -⟩ := s.own hq hi2
      have n1 : h (3 + q) i ≠ h 0 0 := by omega
      have n2 : h (3 + q) i2 ≠ h 0 0 := by omega
      unfold cM
      rw [hpz_o, hpz_o, if_neg (fun z => e z.1), if_neg (fun z => e z.1), hp_k, if_neg n1, va_up_ne _ _ n1]
      rw [ruM_to (mP_b (by decide) (by decide) n1) (mP_b (by decide) (by decide) n2) (mP_b (by decide) (by decide) n1) (mP_b (by decide) (by decide) n2) (mP_b (by decide) (by decide) n1) (mP_b (by decide) (by decide) n2) (mP_b (by decide) (by decide) n1) (mP_b (by decide) (by decide) n2) (mP_b (by decide) (by decide) n1) (mP_b (by decide) (by decide) n2) (mP_u (by decide)) (mP_u (by decide))]
end PI
theorem gW_o {a b : Nat} (h13 : a ≠ 13) : gM0 a b = g1 6 a b := by simp [gM0, gW, h13]
theorem SR_0 : SR g00 gM0 h00 (fun _ => 0) (fun _ => 0) := by
  have hz : ∀ a, h00 a = fun _ => 0 := fun a => rfl
  refine ⟨⟨Nat.zero_le _, rfl, fun k hk => ⟨Nat.zero_le _, ?_, fun j hj => absurd hj (Nat.not_lt_zero _)⟩, fun q hq => absurd hq (Nat.not_lt_zero _), fun k hk => ⟨0, 0, 0, by decide, by decide, by decide, ?_, ?_, ?_, fun _ => rfl⟩⟩, ⟨Nat.zero_le _, by decide, fun k hk => ⟨Nat.zero_le _, ?_, fun j hj => absurd hj (Nat.not_lt_zero _)⟩, fun q hq => absurd hq (Nat.not_lt_zero _)⟩, Sp_0, fun q hq => absurd hq (Nat.not_lt_zero _), fun k hk => ⟨fun j hj => ⟨?_, ?_, ?_⟩, ?_, ?_, ?_, 1, 1, by decide, by decide, by decide, ?_, ?_⟩, fun k hk _ => ⟨?_, ?_, fun h0 => absurd h0 (Nat.not_lt_zero _)⟩⟩
  · rw [g00_k hk (j := 0) (by omega) (by omega)]; rfl
  · rw [g00_f hk (j := 5) (by omega) (by omega) (by omega) (by omega)]; rfl
  · rw [g00_f hk (j := 5) (by omega) (by omega) (by omega) (by omega)]; rfl
  · rw [g00_f hk (j := 5) (by omega) (by omega) (by omega) (by omega)]; rfl
  · rw [gW_o (by decide)]; simp [g1]; rfl
  · rw [g00_f hk (j := 1) (by omega) (by omega) (by omega) (by omega), gW_o (by decide)]; simp [g1]
  · rw [g00_f hk (j := 2) (by omega) (by omega) (by omega) (by omega), gW_o (by decide)]; simp [g1]
  · rw [g00_k hk (j := 3) (by omega) (by omega)]
    simp [w999, hj, gM0, gW, show 16 * k + j < 96 by omega]
  · rw [g00_k hk (j := 0) (by omega) (by omega), gW_o (by decide)]; simp [g1, hk]
  · rw [g00_k hk (j := 0) (by omega) (by omega), gW_o (by decide)]; simp [g1, hk]
  · rw [g00_k hk (j := 0) (by omega) (by omega), gW_o (by decide)]; simp [g1, hk]
  · rw [gW_o (by decide)]; simp [g1, hk]; rfl
  · rw [gW_o (by decide)]; simp [g1, hk]; rfl
  · rw [g00_f hk (j := 5) (by omega) (by omega) (by omega) (by omega)]; rfl
  · rw [g00_f hk (j := 5) (by omega) (by omega) (by omega) (by omega)]
    show (0 : Int32) = nI (bM _ 0 1)
    rw [bM_1]; rfl
