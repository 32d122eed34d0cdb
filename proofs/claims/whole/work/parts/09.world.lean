/-! the class's world: place 0 the object, 1 its kinds, 2 what was found, 3 + 9 k .. 11 + 9 k the kind k with its arrays and its parting, 57 + p the piece p. Every int of the world stands in g (place, slot); h 0 0: how many pieces, h 1 k: how many of kind k, h 2 p: the kind of piece p, h (3 + k) j: the j-th piece of kind k. CA: the classes of the arrays of int, boolean, Kind, Piece -/
abbrev aI (n : Nat) (f : Nat → Int32) : vp_A := (n, .inl f)
abbrev aR (n : Nat) (f : Nat → Option Nat) : vp_A := (n, .inr (.inr (.inr (.inr f))))
def kc (CA : Nat → ClassId) (g : Nat → Nat → Int32) (h : Nat → Nat → Nat) (ad : Nat → Nat) (k j : Nat) : va_E :=
  if j = 0 then .inr (1, [.ref (ad (4 + 9 * k)), .ref (ad (5 + 9 * k)), .ref (ad (6 + 9 * k)), .int (g (3 + 9 * k) 3), .int (g (3 + 9 * k) 4), .int (g (3 + 9 * k) 5), .int (g (3 + 9 * k) 6), .int (g (3 + 9 * k) 7), .ref (ad (7 + 9 * k)), .ref (ad (8 + 9 * k))])
  else if j = 1 then .inl (CA 1, aI 16 (g (4 + 9 * k)))
  else if j = 2 then .inl (CA 0, aI 16 (g (5 + 9 * k)))
  else if j = 3 then .inl (CA 0, aI 16 (g (6 + 9 * k)))
  else if j = 4 then .inl (CA 3, aR 12 (fun q => if q < h 1 k then some (ad (57 + h (3 + k) q)) else none))
  else if j = 5 then .inr (2, [.int (g (8 + 9 * k) 0), .int (g (8 + 9 * k) 1), .int (g (8 + 9 * k) 2), .ref (ad (9 + 9 * k)), .ref (ad (10 + 9 * k)), .ref (ad (11 + 9 * k))])
  else if j = 6 then .inl (CA 0, aI 12 (g (9 + 9 * k)))
  else if j = 7 then .inl (CA 0, aI 12 (g (10 + 9 * k)))
  else .inl (CA 0, aI 12 (g (11 + 9 * k)))
def cc (CA : Nat → ClassId) (g : Nat → Nat → Int32) (h : Nat → Nat → Nat) (ad : Nat → Nat) (i : Nat) : va_E :=
  if i = 0 then .inr (0, [.ref (ad 1), .ref (ad 2), .int (g 0 2)])
  else if i = 1 then .inl (CA 2, aR 6 (fun q => if q < 6 then some (ad (3 + 9 * q)) else none))
  else if i = 2 then .inl (CA 3, aR 72 (fun q => if q < h 0 0 then some (ad (57 + q)) else none))
  else if i < 57 then kc CA g h ad ((i - 3) / 9) ((i - 3) % 9)
  else .inr (3, [.ref (ad (3 + 9 * h 2 (i - 57))), .int (g i 1), .int (g i 2), .int (g i 3), .int (g i 4), .int (g i 5), .int (g i 6), .int (g i 7), .int (g i 8)])
def cw (CA : Nat → ClassId) (g : Nat → Nat → Int32) (h : Nat → Nat → Nat) (ad : Nat → Nat) : va_W := nw (57 + h 0 0) ad (cc CA g h ad)
section CW
variable {CA : Nat → ClassId} {g : Nat → Nat → Int32} {h : Nat → Nat → Nat} {ad : Nat → Nat}
theorem cc_k {i k j : Nat} (hk : k < 6) (hj : j < 9) (hi : i = 3 + 9 * k + j) : cc CA g h ad i = kc CA g h ad k j := by
  subst hi
  have h1 : (3 + 9 * k + j - 3) / 9 = k := by omega
  have h2 : (3 + 9 * k + j - 3) % 9 = j := by omega
  unfold cc
  rw [if_neg (by omega), if_neg (by omega), if_neg (by omega), if_pos (by omega), h1, h2]
theorem cw_X : (cw CA g h ad)[0]? = some (ad 0, .inr (0, [.ref (ad 1), .ref (ad 2), .int (g 0 2)])) := nw_getE (by omega) rfl
theorem cw_KA : (cw CA g h ad)[1]? = some (ad 1, .inl (CA 2, aR 6 (fun q => if q < 6 then some (ad (3 + 9 * q)) else none))) := nw_getE (by omega) rfl
theorem cw_FA : (cw CA g h ad)[2]? = some (ad 2, .inl (CA 3, aR 72 (fun q => if q < h 0 0 then some (ad (57 + q)) else none))) := nw_getE (by omega) rfl
theorem cw_K {k : Nat} (hk : k < 6) : (cw CA g h ad)[3 + 9 * k]? = some (ad (3 + 9 * k), .inr (1, [.ref (ad (4 + 9 * k)), .ref (ad (5 + 9 * k)), .ref (ad (6 + 9 * k)), .int (g (3 + 9 * k) 3), .int (g (3 + 9 * k) 4), .int (g (3 + 9 * k) 5), .int (g (3 + 9 * k) 6), .int (g (3 + 9 * k) 7), .ref (ad (7 + 9 * k)), .ref (ad (8 + 9 * k))])) := nw_getE (by omega) ((cc_k hk (j := 0) (by omega) (by omega)).trans rfl)
theorem cw_AL {k : Nat} (hk : k < 6) : (cw CA g h ad)[4 + 9 * k]? = some (ad (4 + 9 * k), .inl (CA 1, aI 16 (g (4 + 9 * k)))) := nw_getE (by omega) ((cc_k hk (j := 1) (by omega) (by omega)).trans rfl)
theorem cw_WF {k : Nat} (hk : k < 6) : (cw CA g h ad)[5 + 9 * k]? = some (ad (5 + 9 * k), .inl (CA 0, aI 16 (g (5 + 9 * k)))) := nw_getE (by omega) ((cc_k hk (j := 2) (by omega) (by omega)).trans rfl)
theorem cw_WT {k : Nat} (hk : k < 6) : (cw CA g h ad)[6 + 9 * k]? = some (ad (6 + 9 * k), .inl (CA 0, aI 16 (g (6 + 9 * k)))) := nw_getE (by omega) ((cc_k hk (j := 3) (by omega) (by omega)).trans rfl)
theorem cw_OW {k : Nat} (hk : k < 6) : (cw CA g h ad)[7 + 9 * k]? = some (ad (7 + 9 * k), .inl (CA 3, aR 12 (fun q => if q < h 1 k then some (ad (57 + h (3 + k) q)) else none))) := nw_getE (by omega) ((cc_k hk (j := 4) (by omega) (by omega)).trans rfl)
theorem cw_PT {k : Nat} (hk : k < 6) : (cw CA g h ad)[8 + 9 * k]? = some (ad (8 + 9 * k), .inr (2, [.int (g (8 + 9 * k) 0), .int (g (8 + 9 * k) 1), .int (g (8 + 9 * k) 2), .ref (ad (9 + 9 * k)), .ref (ad (10 + 9 * k)), .ref (ad (11 + 9 * k))])) := nw_getE (by omega) ((cc_k hk (j := 5) (by omega) (by omega)).trans rfl)
theorem cw_FO {k : Nat} (hk : k < 6) : (cw CA g h ad)[9 + 9 * k]? = some (ad (9 + 9 * k), .inl (CA 0, aI 12 (g (9 + 9 * k)))) := nw_getE (by omega) ((cc_k hk (j := 6) (by omega) (by omega)).trans rfl)
theorem cw_SO {k : Nat} (hk : k < 6) : (cw CA g h ad)[10 + 9 * k]? = some (ad (10 + 9 * k), .inl (CA 0, aI 12 (g (10 + 9 * k)))) := nw_getE (by omega) ((cc_k hk (j := 7) (by omega) (by omega)).trans rfl)
theorem cw_IS {k : Nat} (hk : k < 6) : (cw CA g h ad)[11 + 9 * k]? = some (ad (11 + 9 * k), .inl (CA 0, aI 12 (g (11 + 9 * k)))) := nw_getE (by omega) ((cc_k hk (j := 8) (by omega) (by omega)).trans rfl)
theorem cc_q (p : Nat) : cc CA g h ad (57 + p) = .inr (3, [.ref (ad (3 + 9 * h 2 p)), .int (g (57 + p) 1), .int (g (57 + p) 2), .int (g (57 + p) 3), .int (g (57 + p) 4), .int (g (57 + p) 5), .int (g (57 + p) 6), .int (g (57 + p) 7), .int (g (57 + p) 8)]) := by
  unfold cc
  rw [if_neg (by omega), if_neg (by omega), if_neg (by omega), if_neg (by omega), show 57 + p - 57 = p by omega]
theorem cw_Q {p : Nat} (hp : p < h 0 0) : (cw CA g h ad)[57 + p]? = some (ad (57 + p), .inr (3, [.ref (ad (3 + 9 * h 2 p)), .int (g (57 + p) 1), .int (g (57 + p) 2), .int (g (57 + p) 3), .int (g (57 + p) 4), .int (g (57 + p) 5), .int (g (57 + p) 6), .int (g (57 + p) 7), .int (g (57 + p) 8)])) := nw_getE (by omega) (cc_q p)
theorem cc_loc {g' : Nat → Nat → Int32} {i : Nat} (hg : g i = g' i) : cc CA g h ad i = cc CA g' h ad i := by
  by_cases h0 : i = 0
  · subst h0; simp [cc, hg]
  · by_cases h57 : i < 57
    · by_cases h1 : i = 1
      · subst h1; rfl
      · by_cases h2 : i = 2
        · subst h2; rfl
        · obtain ⟨k, j, hk, hj, rfl⟩ : ∃ k j, k < 6 ∧ j < 9 ∧ i = 3 + 9 * k + j := ⟨(i - 3) / 9, (i - 3) % 9, by omega, by omega, by omega⟩
          rw [cc_k hk hj rfl, cc_k hk hj rfl]
          rcases (show j = 0 ∨ j = 1 ∨ j = 2 ∨ j = 3 ∨ j = 4 ∨ j = 5 ∨ j = 6 ∨ j = 7 ∨ j = 8 by omega) with rfl | rfl | rfl | rfl | rfl | rfl | rfl | rfl | rfl
          · rw [show 3 + 9 * k + 0 = 3 + 9 * k by omega] at hg; simp [kc, hg]
          · rw [show 3 + 9 * k + 1 = 4 + 9 * k by omega] at hg; simp [kc, hg]
          · rw [show 3 + 9 * k + 2 = 5 + 9 * k by omega] at hg; simp [kc, hg]
          · rw [show 3 + 9 * k + 3 = 6 + 9 * k by omega] at hg; simp [kc, hg]
          · rfl
          · rw [show 3 + 9 * k + 5 = 8 + 9 * k by omega] at hg; simp [kc, hg]
          · rw [show 3 + 9 * k + 6 = 9 + 9 * k by omega] at hg; simp [kc, hg]
          · rw [show 3 + 9 * k + 7 = 10 + 9 * k by omega] at hg; simp [kc, hg]
          · rw [show 3 + 9 * k + 8 = 11 + 9 * k by omega] at hg; simp [kc, hg]
    · obtain ⟨p, rfl⟩ : ∃ p, i = 57 + p := ⟨i - 57, by omega⟩
      rw [cc_q, cc_q, hg]
/-- a number of a cell is written -/
theorem cw_set {i j : Nat} {v : Int32} {e : va_E} (he : cc CA (u2 g i j v) h ad i = e) : (cw CA g h ad).set i (ad i, e) = cw CA (u2 g i j v) h ad := by
  refine nw_setE rfl (fun a _ => ?_)
  by_cases ha : a = i
  · subst ha
    rw [va_up_self, he]
  · rw [va_up_ne _ _ ha]
    exact cc_loc (u2_row ha).symm
theorem cw_sX {v : Int32} : (cw CA g h ad).set 0 (ad 0, .inr (0, List.set [.ref (ad 1), .ref (ad 2), .int (g 0 2)] 2 (.int v))) = cw CA (u2 g 0 2 v) h ad := cw_set (by simp [cc, u2])
theorem cw_sK {k j : Nat} {v : Int32} (hk : k < 6) (hj : j = 3 ∨ j = 4 ∨ j = 5 ∨ j = 6 ∨ j = 7) : (cw CA g h ad).set (3 + 9 * k) (ad (3 + 9 * k), .inr (1, List.set [.ref (ad (4 + 9 * k)), .ref (ad (5 + 9 * k)), .ref (ad (6 + 9 * k)), .int (g (3 + 9 * k) 3), .int (g (3 + 9 * k) 4), .int (g (3 + 9 * k) 5), .int (g (3 + 9 * k) 6), .int (g (3 + 9 * k) 7), .ref (ad (7 + 9 * k)), .ref (ad (8 + 9 * k))] j (.int v))) = cw CA (u2 g (3 + 9 * k) j v) h ad := cw_set (by
  rw [cc_k hk (j := 0) (by omega) (by omega)]
  rcases hj with rfl | rfl | rfl | rfl | rfl <;> simp [kc, u2])
theorem cw_sP {k j : Nat} {v : Int32} (hk : k < 6) (hj : j = 0 ∨ j = 1 ∨ j = 2) : (cw CA g h ad).set (8 + 9 * k) (ad (8 + 9 * k), .inr (2, List.set [.int (g (8 + 9 * k) 0), .int (g (8 + 9 * k) 1), .int (g (8 + 9 * k) 2), .ref (ad (9 + 9 * k)), .ref (ad (10 + 9 * k)), .ref (ad (11 + 9 * k))] j (.int v))) = cw CA (u2 g (8 + 9 * k) j v) h ad := cw_set (by
  rw [cc_k hk (j := 5) (by omega) (by omega)]
  rcases hj with rfl | rfl | rfl <;> simp [kc, u2])
theorem cw_sQ {p j : Nat} {v : Int32} (hj : j = 1 ∨ j = 2 ∨ j = 3 ∨ j = 4 ∨ j = 5 ∨ j = 6 ∨ j = 7 ∨ j = 8) : (cw CA g h ad).set (57 + p) (ad (57 + p), .inr (3, List.set [.ref (ad (3 + 9 * h 2 p)), .int (g (57 + p) 1), .int (g (57 + p) 2), .int (g (57 + p) 3), .int (g (57 + p) 4), .int (g (57 + p) 5), .int (g (57 + p) 6), .int (g (57 + p) 7), .int (g (57 + p) 8)] j (.int v))) = cw CA (u2 g (57 + p) j v) h ad := cw_set (by
  rw [cc_q]
  rcases hj with rfl | rfl | rfl | rfl | rfl | rfl | rfl | rfl <;> simp [u2])
theorem cw_sAL {k b : Nat} {v : Int32} (hk : k < 6) : (cw CA g h ad).set (4 + 9 * k) (ad (4 + 9 * k), .inl (CA 1, 16, .inl (upd (g (4 + 9 * k)) b v))) = cw CA (u2 g (4 + 9 * k) b v) h ad := cw_set (by rw [cc_k hk (j := 1) (by omega) (by omega), u2_upd]; rfl)
theorem cw_sWF {k b : Nat} {v : Int32} (hk : k < 6) : (cw CA g h ad).set (5 + 9 * k) (ad (5 + 9 * k), .inl (CA 0, 16, .inl (upd (g (5 + 9 * k)) b v))) = cw CA (u2 g (5 + 9 * k) b v) h ad := cw_set (by rw [cc_k hk (j := 2) (by omega) (by omega), u2_upd]; rfl)
theorem cw_sWT {k b : Nat} {v : Int32} (hk : k < 6) : (cw CA g h ad).set (6 + 9 * k) (ad (6 + 9 * k), .inl (CA 0, 16, .inl (upd (g (6 + 9 * k)) b v))) = cw CA (u2 g (6 + 9 * k) b v) h ad := cw_set (by rw [cc_k hk (j := 3) (by omega) (by omega), u2_upd]; rfl)
theorem cw_sFO {k b : Nat} {v : Int32} (hk : k < 6) : (cw CA g h ad).set (9 + 9 * k) (ad (9 + 9 * k), .inl (CA 0, 12, .inl (upd (g (9 + 9 * k)) b v))) = cw CA (u2 g (9 + 9 * k) b v) h ad := cw_set (by rw [cc_k hk (j := 6) (by omega) (by omega), u2_upd]; rfl)
theorem cw_sSO {k b : Nat} {v : Int32} (hk : k < 6) : (cw CA g h ad).set (10 + 9 * k) (ad (10 + 9 * k), .inl (CA 0, 12, .inl (upd (g (10 + 9 * k)) b v))) = cw CA (u2 g (10 + 9 * k) b v) h ad := cw_set (by rw [cc_k hk (j := 7) (by omega) (by omega), u2_upd]; rfl)
theorem cw_sIS {k b : Nat} {v : Int32} (hk : k < 6) : (cw CA g h ad).set (11 + 9 * k) (ad (11 + 9 * k), .inl (CA 0, 12, .inl (upd (g (11 + 9 * k)) b v))) = cw CA (u2 g (11 + 9 * k) b v) h ad := cw_set (by rw [cc_k hk (j := 8) (by omega) (by omega), u2_upd]; rfl)
end CW
abbrev cty (CA : Nat → ClassId) : List (ClassId × FieldType) := [(CA 0, .int), (CA 1, .boolean), (CA 2, .object "CountLeast$Kind"), (CA 3, .object "CountLeast$Piece")]
/-- the set that a method of the class may write -/
abbrev cA (h : Nat → Nat → Nat) (ad : Nat → Nat) (sz : Nat) : Nat → Prop := nA (57 + h 0 0) ad sz
