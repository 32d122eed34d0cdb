/-! the world while a piece is being taken: what the arrays of references hold is said apart -/
def ccG (CA : Nat → ClassId) (g : Nat → Nat → Int32) (fa : Nat → Option Nat) (ow : Nat → Nat → Option Nat) (h2 : Nat → Nat) (ad : Nat → Nat) (i : Nat) : va_E :=
  if i = 2 then .inl (CA 3, aR 72 fa)
  else if 3 ≤ i ∧ i < 57 ∧ (i - 3) % 9 = 4 then .inl (CA 3, aR 12 (ow ((i - 3) / 9)))
  else if i < 57 then cc CA g (fun _ _ => 0) ad i
  else .inr (3, [.ref (ad (3 + 9 * h2 (i - 57))), .int (g i 1), .int (g i 2), .int (g i 3), .int (g i 4), .int (g i 5), .int (g i 6), .int (g i 7), .int (g i 8)])
def cwG (N : Nat) (CA : Nat → ClassId) (g : Nat → Nat → Int32) (fa : Nat → Option Nat) (ow : Nat → Nat → Option Nat) (h2 : Nat → Nat) (ad : Nat → Nat) : va_W := nw N ad (ccG CA g fa ow h2 ad)
section CG
variable {CA : Nat → ClassId} {g : Nat → Nat → Int32} {fa : Nat → Option Nat} {ow : Nat → Nat → Option Nat} {h2 : Nat → Nat} {ad : Nat → Nat} {N : Nat}
theorem ccG_cc {h : Nat → Nat → Nat} (i : Nat) : ccG CA g (fun q => if q < h 0 0 then some (ad (57 + q)) else none) (fun k q => if q < h 1 k then some (ad (57 + h (3 + k) q)) else none) (h 2) ad i = cc CA g h ad i := by
  unfold ccG
  by_cases h2 : i = 2
  · subst h2; simp [cc]
  · rw [if_neg h2]
    by_cases h3 : 3 ≤ i ∧ i < 57 ∧ (i - 3) % 9 = 4
    · rw [if_pos h3, cc_k (k := (i - 3) / 9) (j := 4) (by omega) (by omega) (by omega)]
      simp [kc]
    · rw [if_neg h3]
      by_cases h5 : i < 57
      · rw [if_pos h5]
        by_cases h0 : i < 2
        · rcases (show i = 0 ∨ i = 1 by omega) with rfl | rfl <;> simp [cc]
        · obtain ⟨k, j, hk, hj, rfl⟩ : ∃ k j, k < 6 ∧ j < 9 ∧ i = 3 + 9 * k + j := ⟨(i - 3) / 9, (i - 3) % 9, by omega, by omega, by omega⟩
          rw [cc_k hk hj rfl, cc_k hk hj rfl]
          have : j ≠ 4 := by omega
          rcases (show j = 0 ∨ j = 1 ∨ j = 2 ∨ j = 3 ∨ j = 5 ∨ j = 6 ∨ j = 7 ∨ j = 8 by omega) with rfl | rfl | rfl | rfl | rfl | rfl | rfl | rfl <;> simp [kc]
      · rw [if_neg h5]
        obtain ⟨p, rfl⟩ : ∃ p, i = 57 + p := ⟨i - 57, by omega⟩
        rw [cc_q, show 57 + p - 57 = p by omega]
theorem G_X (hN : 57 ≤ N) : (cwG N CA g fa ow h2 ad)[0]? = some (ad 0, .inr (0, [.ref (ad 1), .ref (ad 2), .int (g 0 2)])) := nw_getE (by omega) rfl
theorem G_FA (hN : 57 ≤ N) : (cwG N CA g fa ow h2 ad)[2]? = some (ad 2, .inl (CA 3, aR 72 fa)) := nw_getE (by omega) rfl
theorem ccG_k {k j i : Nat} (hk : k < 6) (hj : j < 9) (h4 : j ≠ 4) (hi : i = 3 + 9 * k + j) : ccG CA g fa ow h2 ad i = kc CA g (fun _ _ => 0) ad k j := by
  subst hi
  unfold ccG
  rw [if_neg (by omega), if_neg (by omega), if_pos (by omega), cc_k hk hj rfl]
theorem G_K (hN : 57 ≤ N) {k : Nat} (hk : k < 6) : (cwG N CA g fa ow h2 ad)[3 + 9 * k]? = some (ad (3 + 9 * k), .inr (1, [.ref (ad (4 + 9 * k)), .ref (ad (5 + 9 * k)), .ref (ad (6 + 9 * k)), .int (g (3 + 9 * k) 3), .int (g (3 + 9 * k) 4), .int (g (3 + 9 * k) 5), .int (g (3 + 9 * k) 6), .int (g (3 + 9 * k) 7), .ref (ad (7 + 9 * k)), .ref (ad (8 + 9 * k))])) := nw_getE (by omega) ((ccG_k hk (j := 0) (by omega) (by decide) (by omega)).trans rfl)
theorem ccG_o {k : Nat} (hk : k < 6) : ccG CA g fa ow h2 ad (7 + 9 * k) = .inl (CA 3, aR 12 (ow k)) := by
  unfold ccG
  rw [if_neg (by omega), if_pos (by omega), show (7 + 9 * k - 3) / 9 = k by omega]
theorem G_OW (hN : 57 ≤ N) {k : Nat} (hk : k < 6) : (cwG N CA g fa ow h2 ad)[7 + 9 * k]? = some (ad (7 + 9 * k), .inl (CA 3, aR 12 (ow k))) := nw_getE (by omega) (ccG_o hk)
theorem ccG_q (p : Nat) : ccG CA g fa ow h2 ad (57 + p) = .inr (3, [.ref (ad (3 + 9 * h2 p)), .int (g (57 + p) 1), .int (g (57 + p) 2), .int (g (57 + p) 3), .int (g (57 + p) 4), .int (g (57 + p) 5), .int (g (57 + p) 6), .int (g (57 + p) 7), .int (g (57 + p) 8)]) := by
  unfold ccG
  rw [if_neg (by omega), if_neg (by omega), if_neg (by omega), show 57 + p - 57 = p by omega]
theorem G_Q {p : Nat} (hp : 57 + p < N) : (cwG N CA g fa ow h2 ad)[57 + p]? = some (ad (57 + p), .inr (3, [.ref (ad (3 + 9 * h2 p)), .int (g (57 + p) 1), .int (g (57 + p) 2), .int (g (57 + p) 3), .int (g (57 + p) 4), .int (g (57 + p) 5), .int (g (57 + p) 6), .int (g (57 + p) 7), .int (g (57 + p) 8)])) := nw_getE hp (ccG_q p)
theorem ccG_loc {g' : Nat → Nat → Int32} {i : Nat} (hg : g i = g' i) : ccG CA g fa ow h2 ad i = ccG CA g' fa ow h2 ad i := by
  unfold ccG
  rw [cc_loc hg, hg]
theorem G_set {i j : Nat} {v : Int32} {e : va_E} (he : ccG CA (u2 g i j v) fa ow h2 ad i = e) : (cwG N CA g fa ow h2 ad).set i (ad i, e) = cwG N CA (u2 g i j v) fa ow h2 ad := by
  refine nw_setE rfl (fun a _ => ?_)
  by_cases ha : a = i
  · subst ha; rw [va_up_self, he]
  · rw [va_up_ne _ _ ha]; exact ccG_loc (u2_row ha).symm
theorem G_sX {v : Int32} : (cwG N CA g fa ow h2 ad).set 0 (ad 0, .inr (0, List.set [.ref (ad 1), .ref (ad 2), .int (g 0 2)] 2 (.int v))) = cwG N CA (u2 g 0 2 v) fa ow h2 ad := G_set (by simp [ccG, cc, u2])
theorem G_sK {k j : Nat} {v : Int32} (hk : k < 6) (hj : j = 3 ∨ j = 4 ∨ j = 5 ∨ j = 6 ∨ j = 7) : (cwG N CA g fa ow h2 ad).set (3 + 9 * k) (ad (3 + 9 * k), .inr (1, List.set [.ref (ad (4 + 9 * k)), .ref (ad (5 + 9 * k)), .ref (ad (6 + 9 * k)), .int (g (3 + 9 * k) 3), .int (g (3 + 9 * k) 4), .int (g (3 + 9 * k) 5), .int (g (3 + 9 * k) 6), .int (g (3 + 9 * k) 7), .ref (ad (7 + 9 * k)), .ref (ad (8 + 9 * k))] j (.int v))) = cwG N CA (u2 g (3 + 9 * k) j v) fa ow h2 ad := G_set (by
  rw [ccG_k hk (j := 0) (by omega) (by decide) (by omega)]
  rcases hj with rfl | rfl | rfl | rfl | rfl <;> simp [kc, u2])
theorem G_sOW {k : Nat} {f : Nat → Option Nat} (hk : k < 6) : (cwG N CA g fa ow h2 ad).set (7 + 9 * k) (ad (7 + 9 * k), .inl (CA 3, 12, .inr (.inr (.inr (.inr f))))) = cwG N CA g fa (va_up ow k f) h2 ad := by
  refine nw_setE rfl (fun a _ => ?_)
  by_cases ha : a = 7 + 9 * k
  · subst ha; rw [va_up_self, ccG_o hk, va_up_self]
  · rw [va_up_ne _ _ ha]
    unfold ccG
    by_cases h3 : 3 ≤ a ∧ a < 57 ∧ (a - 3) % 9 = 4
    · rw [if_pos h3, if_pos h3, va_up_ne _ _ (by omega)]
    · rw [if_neg h3, if_neg h3]
theorem G_sFA {f : Nat → Option Nat} : (cwG N CA g fa ow h2 ad).set 2 (ad 2, .inl (CA 3, 72, .inr (.inr (.inr (.inr f))))) = cwG N CA g f ow h2 ad := by
  refine nw_setE rfl (fun a _ => ?_)
  by_cases ha : a = 2
  · subst ha; rw [va_up_self]; rfl
  · rw [va_up_ne _ _ ha]
    unfold ccG
    rw [if_neg ha, if_neg ha]
end CG
section CQ
variable {CA : Nat → ClassId} {g : Nat → Nat → Int32} {h : Nat → Nat → Nat} {ad : Nat → Nat} {q : Nat} {e : va_E}
theorem cw_len : (cw CA g h ad).length = 57 + h 0 0 := by simp [cw, nw]
theorem cwq_q : (cw CA g h ad ++ [(q, e)])[57 + h 0 0]? = some (q, e) := by rw [List.getElem?_append_right (by rw [cw_len]; omega), cw_len, Nat.sub_self]; rfl
theorem cwq_s {e' : va_E} : (cw CA g h ad ++ [(q, e)]).set (57 + h 0 0) (q, e') = cw CA g h ad ++ [(q, e')] := by
  rw [List.set_append, if_neg (by rw [cw_len]; omega), cw_len, Nat.sub_self]; rfl
theorem cwq_l {i : Nat} {x : Nat × va_E} (hx : (cw CA g h ad)[i]? = some x) : (cw CA g h ad ++ [(q, e)])[i]? = some x := by
  rw [List.getElem?_append_left (List.getElem?_eq_some_iff.mp hx).1]; exact hx
/-- the new piece's numbers -/
def gp (g : Nat → Nat → Int32) (i : Nat) (r : Nat → Int32) : Nat → Nat → Int32 := fun a b => if a = i then r b else g a b
theorem kc0_ad {ad' : Nat → Nat} {k j : Nat} (hk : k < 6) (hj : j < 9) (h : ∀ a, a < 57 → ad a = ad' a) : kc CA g (fun _ _ => 0) ad k j = kc CA g (fun _ _ => 0) ad' k j := by
  rcases (show j = 0 ∨ j = 1 ∨ j = 2 ∨ j = 3 ∨ j = 4 ∨ j = 5 ∨ j = 6 ∨ j = 7 ∨ j = 8 by omega) with rfl | rfl | rfl | rfl | rfl | rfl | rfl | rfl | rfl
  · simp [kc, h (4 + 9 * k) (by omega), h (5 + 9 * k) (by omega), h (6 + 9 * k) (by omega), h (7 + 9 * k) (by omega), h (8 + 9 * k) (by omega)]
  · simp [kc]
  · simp [kc]
  · simp [kc]
  · simp [kc]
  · simp [kc, h (9 + 9 * k) (by omega), h (10 + 9 * k) (by omega), h (11 + 9 * k) (by omega)]
  · simp [kc]
  · simp [kc]
  · simp [kc]
theorem cc0_ad {ad' : Nat → Nat} {i : Nat} (hi : i < 57) (h : ∀ a, a < 57 → ad a = ad' a) : cc CA g (fun _ _ => 0) ad i = cc CA g (fun _ _ => 0) ad' i := by
  by_cases h0 : i < 3
  · rcases (show i = 0 ∨ i = 1 ∨ i = 2 by omega) with rfl | rfl | rfl
    · simp [cc, h 1 (by omega), h 2 (by omega)]
    · have : (fun x => if x < 6 then some (ad (3 + 9 * x)) else none) = (fun x => if x < 6 then some (ad' (3 + 9 * x)) else none) := by
        funext x
        by_cases hx : x < 6
        · rw [if_pos hx, if_pos hx, h _ (by omega)]
        · rw [if_neg hx, if_neg hx]
      simp [cc, this]
    · simp [cc]
  · obtain ⟨k, j, hk, hj, rfl⟩ : ∃ k j, k < 6 ∧ j < 9 ∧ i = 3 + 9 * k + j := ⟨(i - 3) / 9, (i - 3) % 9, by omega, by omega, by omega⟩
    rw [cc_k hk hj rfl, cc_k hk hj rfl]
    exact kc0_ad hk hj h
theorem cwq_G {k : Nat} {r : Nat → Int32} (hk : k < 6) (hq6 : ∀ p, p < h 0 0 → h 2 p < 6) : cw CA g h ad ++ [(q, .inr (3, [.ref (ad (3 + 9 * k)), .int (r 1), .int (r 2), .int (r 3), .int (r 4), .int (r 5), .int (r 6), .int (r 7), .int (r 8)]))] = cwG (57 + h 0 0 + 1) CA (gp g (57 + h 0 0) r) (fun x => if x < h 0 0 then some (ad (57 + x)) else none) (fun k x => if x < h 1 k then some (ad (57 + h (3 + k) x)) else none) (va_up (h 2) (h 0 0) k) (va_up ad (57 + h 0 0) q) := by
  unfold cw
  rw [nw_push]
  unfold cwG nw
  apply List.map_congr_left
  intro i hi
  have hi := List.mem_range.mp hi
  congr 1
  by_cases h1 : i = 57 + h 0 0
  · subst h1
    rw [va_up_self, ccG_q, va_up_self, va_up_ne _ _ (by omega)]
    simp [gp]
  · rw [va_up_ne _ _ h1, ← ccG_cc i]
    unfold ccG
    by_cases h5 : i < 57
    · rw [if_pos h5, if_pos h5, cc_loc (g := gp g (57 + h 0 0) r) (g' := g) (by funext b; simp [gp, h1]), cc0_ad (ad := va_up ad (57 + h 0 0) q) (ad' := ad) h5 (fun a ha => va_up_ne _ _ (by omega))]
    · rw [if_neg h5, if_neg h5]
      have h6 := hq6 (i - 57) (by omega)
      rw [va_up_ne _ _ (show i - 57 ≠ h 0 0 by omega), va_up_ne _ _ (by omega)]
      simp [gp, h1]
/-- the piece is taken: the world is again one of the class's -/
def hpz (h : Nat → Nat → Nat) (k : Nat) : Nat → Nat → Nat := fun a b => if a = 0 ∧ b = 0 then h 0 0 + 1 else if a = 1 ∧ b = k then h 1 k + 1 else if a = 2 ∧ b = h 0 0 then k else if a = 3 + k ∧ b = h 1 k then h 0 0 else h a b
theorem hpz_o (h : Nat → Nat → Nat) (k k2 x : Nat) : hpz h k (3 + k2) x = if k2 = k ∧ x = h 1 k then h 0 0 else h (3 + k2) x := by
  unfold hpz
  rw [if_neg (by omega), if_neg (by omega), if_neg (by omega)]
  by_cases hh : k2 = k ∧ x = h 1 k
  · rw [if_pos hh, if_pos (by omega)]
  · rw [if_neg hh, if_neg (by omega)]
theorem hpz_1 (h : Nat → Nat → Nat) (k k2 : Nat) : hpz h k 1 k2 = if k2 = k then h 1 k + 1 else h 1 k2 := by
  unfold hpz
  rw [if_neg (by omega)]
  by_cases hh : k2 = k
  · rw [if_pos hh, if_pos ⟨rfl, hh⟩]
  · rw [if_neg hh, if_neg (by omega), if_neg (by omega), if_neg (by omega)]
theorem cwG_end {k n : Nat} {g' : Nat → Nat → Int32} (hk : k < 6) (hc : ∀ k, k < 6 → ∀ j, j < h 1 k → h (3 + k) j < h 0 0) (hn : n = h 0 0) :
    cwG (57 + h 0 0 + 1) CA g' (va_up (fun x => if x < h 0 0 then some (ad (57 + x)) else none) n (some q)) (va_up (fun k x => if x < h 1 k then some (ad (57 + h (3 + k) x)) else none) k (va_up (fun x => if x < h 1 k then some (ad (57 + h (3 + k) x)) else none) (h 1 k) (some q))) (va_up (h 2) (h 0 0) k) (va_up ad (57 + h 0 0) q) = cw CA g' (hpz h k) (va_up ad (57 + h 0 0) q) := by
  subst hn
  unfold cwG cw
  have e0 : hpz h k 0 0 = h 0 0 + 1 := by simp [hpz]
  rw [e0, show 57 + (h 0 0 + 1) = 57 + h 0 0 + 1 by omega]
  refine nw_congr (fun i hi => ?_)
  rw [← ccG_cc (h := hpz h k) i]
  have f1 : (va_up (fun x => if x < h 0 0 then some (ad (57 + x)) else none) (h 0 0) (some q)) = (fun x => if x < hpz h k 0 0 then some (va_up ad (57 + h 0 0) q (57 + x)) else none) := by
    funext x
    rw [e0]
    by_cases hx : x = h 0 0
    · subst hx; rw [va_up_self, if_pos (by omega), va_up_self]
    · rw [va_up_ne _ _ hx]
      by_cases hx2 : x < h 0 0
      · rw [if_pos hx2, if_pos (by omega), va_up_ne _ _ (by omega)]
      · rw [if_neg hx2, if_neg (by omega)]
  have f3 : (va_up (h 2) (h 0 0) k) = hpz h k 2 := by
    funext x
    by_cases hx : x = h 0 0
    · subst hx; rw [va_up_self]; simp [hpz]
    · rw [va_up_ne _ _ hx]; simp [hpz, hx]; omega
  have f2 : ∀ k2, k2 < 6 → (va_up (fun k x => if x < h 1 k then some (ad (57 + h (3 + k) x)) else none) k (va_up (fun x => if x < h 1 k then some (ad (57 + h (3 + k) x)) else none) (h 1 k) (some q))) k2 = (fun x => if x < hpz h k 1 k2 then some (va_up ad (57 + h 0 0) q (57 + hpz h k (3 + k2) x)) else none) := by
    intro k2 hk2
    funext x
    by_cases hkk : k2 = k
    · subst hkk
      rw [va_up_self, hpz_1, if_pos rfl]
      by_cases hx : x = h 1 k2
      · subst hx
        rw [va_up_self, if_pos (by omega), hpz_o, if_pos ⟨rfl, rfl⟩, va_up_self]
      · rw [va_up_ne _ _ hx]
        by_cases hx2 : x < h 1 k2
        · have := hc k2 hk2 x hx2
          rw [if_pos hx2, if_pos (by omega), hpz_o, if_neg (fun z => hx z.2), va_up_ne _ _ (by omega)]
        · rw [if_neg hx2, if_neg (by omega)]
    · rw [va_up_ne _ _ hkk, hpz_1, if_neg hkk]
      by_cases hx2 : x < h 1 k2
      · have := hc k2 hk2 x hx2
        rw [if_pos hx2, if_pos hx2, hpz_o, if_neg (fun z => hkk z.1), va_up_ne _ _ (by omega)]
      · rw [if_neg hx2, if_neg hx2]
  rw [f1, f3]
  unfold ccG
  by_cases h3 : 3 ≤ i ∧ i < 57 ∧ (i - 3) % 9 = 4
  · rw [if_pos h3, if_pos h3, f2 _ (by omega)]
  · rw [if_neg h3, if_neg h3]
end CQ
