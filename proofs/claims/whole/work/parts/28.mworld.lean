/-! the model's world: place 0 the object, 1 kind, 2 part, 3 side, 4 size, 5 and 6 ages, 7 grams, 8 counts, 9 rows, 10 alone, 11 bounds, 12 and 13 wear, 14 above, 15 below, 16 animals, 17 before; g 0: 0 thrown, 1 many, 19 over, 20 under -/
def mc (CA : Nat → ClassId) (g : Nat → Nat → Int32) (ad : Nat → Nat) (i : Nat) : va_E :=
  if i = 0 then .inr (4, [.int (g 0 0), .int (g 0 1), .ref (ad 1), .ref (ad 2), .ref (ad 3), .ref (ad 4), .ref (ad 5), .ref (ad 6), .ref (ad 7), .ref (ad 8), .ref (ad 9), .ref (ad 10), .ref (ad 11), .ref (ad 12), .ref (ad 13), .ref (ad 14), .ref (ad 15), .ref (ad 16), .ref (ad 17), .int (g 0 19), .int (g 0 20)])
  else if i = 1 then .inl (CA 0, aI 72 (g 1))
  else if i = 2 then .inl (CA 0, aI 72 (g 2))
  else if i = 3 then .inl (CA 0, aI 72 (g 3))
  else if i = 4 then .inl (CA 0, aI 72 (g 4))
  else if i = 5 then .inl (CA 0, aI 72 (g 5))
  else if i = 6 then .inl (CA 0, aI 72 (g 6))
  else if i = 7 then .inl (CA 0, aI 72 (g 7))
  else if i = 8 then .inl (CA 0, aI 6 (g 8))
  else if i = 9 then .inl (CA 0, aI 72 (g 9))
  else if i = 10 then .inl (CA 1, aI 96 (g 10))
  else if i = 11 then .inl (CA 0, aI 6 (g 11))
  else if i = 12 then .inl (CA 0, aI 96 (g 12))
  else if i = 13 then .inl (CA 0, aI 96 (g 13))
  else if i = 14 then .inl (CA 0, aI 6 (g 14))
  else if i = 15 then .inl (CA 0, aI 6 (g 15))
  else if i = 16 then .inl (CA 0, aI 12 (g 16))
  else .inl (CA 0, aI 13 (g i))
def mw (CA : Nat → ClassId) (g : Nat → Nat → Int32) (ad : Nat → Nat) : va_W := nw 18 ad (mc CA g ad)
abbrev mA (ad : Nat → Nat) (sz : Nat) : Nat → Prop := nA 18 ad sz
section MW
variable {CA : Nat → ClassId} {g : Nat → Nat → Int32} {ad : Nat → Nat}
theorem mw_O : (mw CA g ad)[0]? = some (ad 0, .inr (4, [.int (g 0 0), .int (g 0 1), .ref (ad 1), .ref (ad 2), .ref (ad 3), .ref (ad 4), .ref (ad 5), .ref (ad 6), .ref (ad 7), .ref (ad 8), .ref (ad 9), .ref (ad 10), .ref (ad 11), .ref (ad 12), .ref (ad 13), .ref (ad 14), .ref (ad 15), .ref (ad 16), .ref (ad 17), .int (g 0 19), .int (g 0 20)])) := nw_getE (by omega) rfl
theorem mw_a1 : (mw CA g ad)[1]? = some (ad 1, .inl (CA 0, aI 72 (g 1))) := nw_getE (by omega) rfl
theorem mw_a2 : (mw CA g ad)[2]? = some (ad 2, .inl (CA 0, aI 72 (g 2))) := nw_getE (by omega) rfl
theorem mw_a3 : (mw CA g ad)[3]? = some (ad 3, .inl (CA 0, aI 72 (g 3))) := nw_getE (by omega) rfl
theorem mw_a4 : (mw CA g ad)[4]? = some (ad 4, .inl (CA 0, aI 72 (g 4))) := nw_getE (by omega) rfl
theorem mw_a5 : (mw CA g ad)[5]? = some (ad 5, .inl (CA 0, aI 72 (g 5))) := nw_getE (by omega) rfl
theorem mw_a6 : (mw CA g ad)[6]? = some (ad 6, .inl (CA 0, aI 72 (g 6))) := nw_getE (by omega) rfl
theorem mw_a7 : (mw CA g ad)[7]? = some (ad 7, .inl (CA 0, aI 72 (g 7))) := nw_getE (by omega) rfl
theorem mw_a8 : (mw CA g ad)[8]? = some (ad 8, .inl (CA 0, aI 6 (g 8))) := nw_getE (by omega) rfl
theorem mw_a9 : (mw CA g ad)[9]? = some (ad 9, .inl (CA 0, aI 72 (g 9))) := nw_getE (by omega) rfl
theorem mw_a10 : (mw CA g ad)[10]? = some (ad 10, .inl (CA 1, aI 96 (g 10))) := nw_getE (by omega) rfl
theorem mw_a11 : (mw CA g ad)[11]? = some (ad 11, .inl (CA 0, aI 6 (g 11))) := nw_getE (by omega) rfl
theorem mw_a12 : (mw CA g ad)[12]? = some (ad 12, .inl (CA 0, aI 96 (g 12))) := nw_getE (by omega) rfl
theorem mw_a13 : (mw CA g ad)[13]? = some (ad 13, .inl (CA 0, aI 96 (g 13))) := nw_getE (by omega) rfl
theorem mw_a14 : (mw CA g ad)[14]? = some (ad 14, .inl (CA 0, aI 6 (g 14))) := nw_getE (by omega) rfl
theorem mw_a15 : (mw CA g ad)[15]? = some (ad 15, .inl (CA 0, aI 6 (g 15))) := nw_getE (by omega) rfl
theorem mw_a16 : (mw CA g ad)[16]? = some (ad 16, .inl (CA 0, aI 12 (g 16))) := nw_getE (by omega) rfl
theorem mw_a17 : (mw CA g ad)[17]? = some (ad 17, .inl (CA 0, aI 13 (g 17))) := nw_getE (by omega) rfl
theorem mc_loc {g' : Nat → Nat → Int32} {i : Nat} (hg : g i = g' i) : mc CA g ad i = mc CA g' ad i := by
  by_cases h18 : i < 17
  · rcases (show i = 0 ∨ i = 1 ∨ i = 2 ∨ i = 3 ∨ i = 4 ∨ i = 5 ∨ i = 6 ∨ i = 7 ∨ i = 8 ∨ i = 9 ∨ i = 10 ∨ i = 11 ∨ i = 12 ∨ i = 13 ∨ i = 14 ∨ i = 15 ∨ i = 16 by omega) with rfl | rfl | rfl | rfl | rfl | rfl | rfl | rfl | rfl | rfl | rfl | rfl | rfl | rfl | rfl | rfl | rfl <;> simp [mc, hg]
  · unfold mc
    rw [hg]
    simp [show ¬ i = 0 by omega, show ¬ i = 1 by omega, show ¬ i = 2 by omega, show ¬ i = 3 by omega, show ¬ i = 4 by omega, show ¬ i = 5 by omega, show ¬ i = 6 by omega, show ¬ i = 7 by omega, show ¬ i = 8 by omega, show ¬ i = 9 by omega, show ¬ i = 10 by omega, show ¬ i = 11 by omega, show ¬ i = 12 by omega, show ¬ i = 13 by omega, show ¬ i = 14 by omega, show ¬ i = 15 by omega, show ¬ i = 16 by omega]
theorem mw_set {i j : Nat} {v : Int32} {e : va_E} (he : mc CA (u2 g i j v) ad i = e) : (mw CA g ad).set i (ad i, e) = mw CA (u2 g i j v) ad := by
  refine nw_setE rfl (fun a _ => ?_)
  by_cases ha : a = i
  · subst ha
    rw [va_up_self, he]
  · rw [va_up_ne _ _ ha]
    exact mc_loc (u2_row ha).symm
theorem mw_sO {j : Nat} {v : Int32} (hj : j = 0 ∨ j = 1 ∨ j = 19 ∨ j = 20) : (mw CA g ad).set 0 (ad 0, .inr (4, List.set [.int (g 0 0), .int (g 0 1), .ref (ad 1), .ref (ad 2), .ref (ad 3), .ref (ad 4), .ref (ad 5), .ref (ad 6), .ref (ad 7), .ref (ad 8), .ref (ad 9), .ref (ad 10), .ref (ad 11), .ref (ad 12), .ref (ad 13), .ref (ad 14), .ref (ad 15), .ref (ad 16), .ref (ad 17), .int (g 0 19), .int (g 0 20)] j (.int v))) = mw CA (u2 g 0 j v) ad := mw_set (by rcases hj with rfl | rfl | rfl | rfl <;> simp [mc, u2])
theorem mw_s1 {b : Nat} {v : Int32} : (mw CA g ad).set 1 (ad 1, .inl (CA 0, 72, .inl (upd (g 1) b v))) = mw CA (u2 g 1 b v) ad := mw_set (by rw [u2_upd]; rfl)
theorem mw_s2 {b : Nat} {v : Int32} : (mw CA g ad).set 2 (ad 2, .inl (CA 0, 72, .inl (upd (g 2) b v))) = mw CA (u2 g 2 b v) ad := mw_set (by rw [u2_upd]; rfl)
theorem mw_s3 {b : Nat} {v : Int32} : (mw CA g ad).set 3 (ad 3, .inl (CA 0, 72, .inl (upd (g 3) b v))) = mw CA (u2 g 3 b v) ad := mw_set (by rw [u2_upd]; rfl)
theorem mw_s4 {b : Nat} {v : Int32} : (mw CA g ad).set 4 (ad 4, .inl (CA 0, 72, .inl (upd (g 4) b v))) = mw CA (u2 g 4 b v) ad := mw_set (by rw [u2_upd]; rfl)
theorem mw_s5 {b : Nat} {v : Int32} : (mw CA g ad).set 5 (ad 5, .inl (CA 0, 72, .inl (upd (g 5) b v))) = mw CA (u2 g 5 b v) ad := mw_set (by rw [u2_upd]; rfl)
theorem mw_s6 {b : Nat} {v : Int32} : (mw CA g ad).set 6 (ad 6, .inl (CA 0, 72, .inl (upd (g 6) b v))) = mw CA (u2 g 6 b v) ad := mw_set (by rw [u2_upd]; rfl)
theorem mw_s7 {b : Nat} {v : Int32} : (mw CA g ad).set 7 (ad 7, .inl (CA 0, 72, .inl (upd (g 7) b v))) = mw CA (u2 g 7 b v) ad := mw_set (by rw [u2_upd]; rfl)
theorem mw_s8 {b : Nat} {v : Int32} : (mw CA g ad).set 8 (ad 8, .inl (CA 0, 6, .inl (upd (g 8) b v))) = mw CA (u2 g 8 b v) ad := mw_set (by rw [u2_upd]; rfl)
theorem mw_s9 {b : Nat} {v : Int32} : (mw CA g ad).set 9 (ad 9, .inl (CA 0, 72, .inl (upd (g 9) b v))) = mw CA (u2 g 9 b v) ad := mw_set (by rw [u2_upd]; rfl)
theorem mw_s10 {b : Nat} {v : Int32} : (mw CA g ad).set 10 (ad 10, .inl (CA 1, 96, .inl (upd (g 10) b v))) = mw CA (u2 g 10 b v) ad := mw_set (by rw [u2_upd]; rfl)
theorem mw_s11 {b : Nat} {v : Int32} : (mw CA g ad).set 11 (ad 11, .inl (CA 0, 6, .inl (upd (g 11) b v))) = mw CA (u2 g 11 b v) ad := mw_set (by rw [u2_upd]; rfl)
theorem mw_s12 {b : Nat} {v : Int32} : (mw CA g ad).set 12 (ad 12, .inl (CA 0, 96, .inl (upd (g 12) b v))) = mw CA (u2 g 12 b v) ad := mw_set (by rw [u2_upd]; rfl)
theorem mw_s13 {b : Nat} {v : Int32} : (mw CA g ad).set 13 (ad 13, .inl (CA 0, 96, .inl (upd (g 13) b v))) = mw CA (u2 g 13 b v) ad := mw_set (by rw [u2_upd]; rfl)
theorem mw_s14 {b : Nat} {v : Int32} : (mw CA g ad).set 14 (ad 14, .inl (CA 0, 6, .inl (upd (g 14) b v))) = mw CA (u2 g 14 b v) ad := mw_set (by rw [u2_upd]; rfl)
theorem mw_s15 {b : Nat} {v : Int32} : (mw CA g ad).set 15 (ad 15, .inl (CA 0, 6, .inl (upd (g 15) b v))) = mw CA (u2 g 15 b v) ad := mw_set (by rw [u2_upd]; rfl)
theorem mw_s16 {b : Nat} {v : Int32} : (mw CA g ad).set 16 (ad 16, .inl (CA 0, 12, .inl (upd (g 16) b v))) = mw CA (u2 g 16 b v) ad := mw_set (by rw [u2_upd]; rfl)
theorem mw_s17 {b : Nat} {v : Int32} : (mw CA g ad).set 17 (ad 17, .inl (CA 0, 13, .inl (upd (g 17) b v))) = mw CA (u2 g 17 b v) ad := mw_set (by rw [u2_upd]; rfl)
end MW
/-! the model's numbers against the shape h -/
def MI (g : Nat → Nat → Int32) (h : Nat → Nat → Nat) (jp : Nat → Nat) : Prop :=
  h 0 0 ≤ 72 ∧ g 0 1 = nI (h 0 0) ∧ (∀ k, k < 6 → h 1 k ≤ 12 ∧ g 8 k = nI (h 1 k) ∧ ∀ j, j < h 1 k → h (3 + k) j < h 0 0 ∧ g 9 (12 * k + j) = nI (h (3 + k) j)) ∧ ∀ q, q < h 0 0 → h 2 q < 6 ∧ jp q < 16 ∧ g 1 q = nI (h 2 q) ∧ g 2 q = nI (jp q)
section MI
variable {g : Nat → Nat → Int32} {h : Nat → Nat → Nat} {jp : Nat → Nat}
theorem MI.le (a : MI g h jp) : h 0 0 ≤ 72 := a.1
theorem MI.many (a : MI g h jp) : g 0 1 = nI (h 0 0) := a.2.1
theorem MI.c12 (a : MI g h jp) {k : Nat} (hk : k < 6) : h 1 k ≤ 12 := (a.2.2.1 k hk).1
theorem MI.cnt (a : MI g h jp) {k : Nat} (hk : k < 6) : g 8 k = nI (h 1 k) := (a.2.2.1 k hk).2.1
theorem MI.rl (a : MI g h jp) {k j : Nat} (hk : k < 6) (hj : j < h 1 k) : h (3 + k) j < h 0 0 := ((a.2.2.1 k hk).2.2 j hj).1
theorem MI.row (a : MI g h jp) {k j : Nat} (hk : k < 6) (hj : j < h 1 k) : g 9 (12 * k + j) = nI (h (3 + k) j) := ((a.2.2.1 k hk).2.2 j hj).2
theorem MI.k6 (a : MI g h jp) {q : Nat} (hq : q < h 0 0) : h 2 q < 6 := (a.2.2.2 q hq).1
theorem MI.j16 (a : MI g h jp) {q : Nat} (hq : q < h 0 0) : jp q < 16 := (a.2.2.2 q hq).2.1
theorem MI.kind (a : MI g h jp) {q : Nat} (hq : q < h 0 0) : g 1 q = nI (h 2 q) := (a.2.2.2 q hq).2.2.1
theorem MI.part (a : MI g h jp) {q : Nat} (hq : q < h 0 0) : g 2 q = nI (jp q) := (a.2.2.2 q hq).2.2.2
theorem MI.to (a : MI g h jp) {u : Nat → Nat → Int32} (h0 : u 0 1 = g 0 1) (h1 : u 1 = g 1) (h2 : u 2 = g 2) (h8 : u 8 = g 8) (h9 : u 9 = g 9) : MI u h jp := by
  unfold MI
  rw [h0, h1, h2, h8, h9]
  exact a
theorem MI.t (a : MI g h jp) {v : Int32} : MI (u2 g 0 0 v) h jp := a.to (u2_m (by decide)) (u2_row (by decide)) (u2_row (by decide)) (u2_row (by decide)) (u2_row (by decide))
theorem MI.o (a : MI g h jp) {v : Int32} {b : Nat} (hb : b ≠ 1) : MI (u2 g 0 b v) h jp := a.to (u2_m (fun e => hb e.symm)) (u2_row (by decide)) (u2_row (by decide)) (u2_row (by decide)) (u2_row (by decide))
theorem MI.up (a : MI g h jp) {c b : Nat} {v : Int32} (hc : 10 ≤ c) : MI (u2 g c b v) h jp := a.to (u2_n (by omega)) (u2_row (by omega)) (u2_row (by omega)) (u2_row (by omega)) (u2_row (by omega))
end MI
/-- what a call of the model leaves: which of the three it notes as thrown, or its answer -/
def t4 (b1 b2 b3 : Prop) (g u : Nat → Nat → Int32) (M : Prop) : Prop := (b1 ∧ u = u2 g 0 0 1) ∨ (¬ b1 ∧ b2 ∧ u = u2 g 0 0 2) ∨ (¬ b1 ∧ ¬ b2 ∧ b3 ∧ u = u2 g 0 0 3) ∨ (¬ b1 ∧ ¬ b2 ∧ ¬ b3 ∧ M)
def tzv (a b c : Int32) : Int32 := if a = 0 then (if b = 0 then (if c = 0 then 0 else 3) else 2) else 1
theorem m12 (a : Nat) : (12 : Int32) * nI a = nI (12 * a) := pk_mul 12 a
theorem m16 (a : Nat) : (16 : Int32) * nI a = nI (16 * a) := pk_mul 16 a
theorem rb_ib {v : Int32} {n : Nat} (hn : 0 < n) (h : n < 2 ^ 31) : rb v 0 (nI (n - 1)) ↔ ib v (nI n) := by
  unfold rb ib
  have e : v ≤ nI (n - 1) ↔ v < nI n := by
    rw [Int32.le_iff_toInt_le, Int32.lt_iff_toInt_lt, nI_toInt h, nI_toInt (by omega)]
    omega
  rw [e]
theorem ib_nb {v : Int32} {n : Nat} (hn : 0 < n) (h : n < 2 ^ 31) (q : ¬ rb v 0 (nI (n - 1))) : ¬ ib v (nI n) := fun a => q ((rb_ib hn h).mpr a)
theorem ib_yb {v : Int32} {n : Nat} (hn : 0 < n) (h : n < 2 ^ 31) (q : rb v 0 (nI (n - 1))) : ib v (nI n) := (rb_ib hn h).mp q
