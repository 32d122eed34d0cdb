/-! numbered worlds: the i-th cell lies at ad i and holds c i -/
def nw (N : Nat) (ad : Nat → Nat) (c : Nat → va_E) : va_W := (List.range N).map (fun i => (ad i, c i))
theorem nw_get {N : Nat} {ad : Nat → Nat} {c : Nat → va_E} {i : Nat} (h : i < N) : (nw N ad c)[i]? = some (ad i, c i) := by
  simp [nw, h]
theorem nw_getE {N : Nat} {ad : Nat → Nat} {c : Nat → va_E} {i : Nat} {e : va_E} (h : i < N) (he : c i = e) : (nw N ad c)[i]? = some (ad i, e) := by
  rw [nw_get h, he]
theorem nw_get_inv {N : Nat} {ad : Nat → Nat} {c : Nat → va_E} {i : Nat} {q : Nat × va_E} (h : (nw N ad c)[i]? = some q) : i < N ∧ q = (ad i, c i) := by
  by_cases hi : i < N
  · rw [nw_get hi] at h
    exact ⟨hi, (Option.some.inj h).symm⟩
  · have hl : (nw N ad c).length ≤ i := by simp [nw]; omega
    rw [List.getElem?_eq_none hl] at h
    cases h
theorem nw_congr {N : Nat} {ad : Nat → Nat} {c c' : Nat → va_E} (h : ∀ i, i < N → c i = c' i) : nw N ad c = nw N ad c' := by
  unfold nw
  exact List.map_congr_left (fun i hi => by rw [h i (List.mem_range.mp hi)])
theorem nw_set {N : Nat} {ad : Nat → Nat} {c : Nat → va_E} {i : Nat} {a : Nat} {e : va_E} (ha : a = ad i) : (nw N ad c).set i (a, e) = nw N ad (va_up c i e) := by
  subst ha
  apply List.ext_getElem?
  intro j
  rw [List.getElem?_set]
  by_cases hij : i = j
  · subst hij
    by_cases hi : i < N
    · rw [nw_get (c := va_up c i e) hi, va_up_self, if_pos rfl, if_pos (by simp [nw]; exact hi)]
    · have hl : (nw N ad c).length ≤ i := by simp [nw]; omega
      have hl2 : (nw N ad (va_up c i e)).length ≤ i := by simp [nw]; omega
      rw [List.getElem?_eq_none hl2]
      simp [Nat.not_lt.mpr hl]
  · rw [if_neg hij]
    by_cases hj : j < N
    · rw [nw_get hj, nw_get hj, va_up_ne _ _ (fun h => hij h.symm)]
    · have hl : (nw N ad c).length ≤ j := by simp [nw]; omega
      have hl2 : (nw N ad (va_up c i e)).length ≤ j := by simp [nw]; omega
      rw [List.getElem?_eq_none hl, List.getElem?_eq_none hl2]
theorem nw_setE {N : Nat} {ad : Nat → Nat} {c c' : Nat → va_E} {i : Nat} {a : Nat} {e : va_E} (ha : a = ad i) (h : ∀ j, j < N → va_up c i e j = c' j) : (nw N ad c).set i (a, e) = nw N ad c' := by
  rw [nw_set ha]
  exact nw_congr h
theorem nw_push {N : Nat} {ad : Nat → Nat} {c : Nat → va_E} {q : Nat} {e : va_E} : nw N ad c ++ [(q, e)] = nw (N + 1) (va_up ad N q) (va_up c N e) := by
  unfold nw
  rw [List.range_succ, List.map_append]
  congr 1
  · apply List.map_congr_left
    intro i hi
    have : i ≠ N := Nat.ne_of_lt (List.mem_range.mp hi)
    rw [va_up_ne _ _ this, va_up_ne _ _ this]
  · simp [va_up_self]
theorem nw_P {D : va_G} {cl : List vw_C} {N : Nat} {ad : Nat → Nat} {c : Nat → va_E} {H : Heap} : va_P D cl (nw N ad c) H ↔ ∀ i, i < N → va_at D cl (ad i, c i) H := by
  constructor
  · intro h i hi
    exact h i _ (nw_get hi)
  · intro h k q hq
    obtain ⟨hk, rfl⟩ := nw_get_inv hq
    exact h k hk
theorem nw_D {A : Nat → Prop} {N : Nat} {ad : Nat → Nat} {c : Nat → va_E} : va_D A (nw N ad c) ↔ (∀ i j, i < N → j < N → ad i = ad j → i = j) ∧ ∀ i, i < N → A (ad i) := by
  constructor
  · intro h
    exact ⟨fun i j hi hj e => h.1 i j _ _ (nw_get hi) (nw_get hj) e, fun i hi => h.2 i _ (nw_get hi)⟩
  · intro h
    refine ⟨fun i j p q hp hq e => ?_, fun k q hq => ?_⟩
    · obtain ⟨hi, rfl⟩ := nw_get_inv hp
      obtain ⟨hj, rfl⟩ := nw_get_inv hq
      exact h.1 i j hi hj e
    · obtain ⟨hk, rfl⟩ := nw_get_inv hq
      exact h.2 k hk
theorem nw_Dc {A : Nat → Prop} {N : Nat} {ad : Nat → Nat} {c c' : Nat → va_E} (h : va_D A (nw N ad c)) : va_D A (nw N ad c') := nw_D.mpr (nw_D.mp h)
/-- the cells of a numbered world, and all that come from sz on -/
def nA (N : Nat) (ad : Nat → Nat) (sz : Nat) : Nat → Prop := fun q => (∃ i, i < N ∧ q = ad i) ∨ sz ≤ q
theorem nA_self {A : Nat → Prop} {N sz : Nat} {ad : Nat → Nat} {c : Nat → va_E} (h : va_D A (nw N ad c)) : va_D (nA N ad sz) (nw N ad c) := nw_D.mpr ⟨(nw_D.mp h).1, fun i hi => Or.inl ⟨i, hi, rfl⟩⟩
theorem nA_mono {N sz sz' : Nat} {ad : Nat → Nat} (h : sz ≤ sz') : ∀ q, nA N ad sz' q → nA N ad sz q := fun _ hq => hq.elim Or.inl (fun h2 => Or.inr (Nat.le_trans h h2))
/-- two parts of a world: a call that knows the first alone -/
theorem nj {A0 A1 : Nat → Prop} {D : va_G} {cl : List vw_C} {wA wB wA' : va_W} {H H1 : Heap} (hP : va_P D cl (wA ++ wB) H) (hD : va_D A0 (wA ++ wB)) (hk : ∀ q : Nat, q < H.size → ¬ A1 q → H1[q]? = H[q]?)
    (hA : ∀ q, A1 q → q < H.size → ∃ (k : Nat) (e : va_E), wA[k]? = some (q, e)) (hP1 : va_P D cl wA' H1) (hD1 : va_D A1 wA') (h10 : ∀ q, A1 q → A0 q) : va_P D cl (wA' ++ wB) H1 ∧ va_D A0 (wA' ++ wB) := by
  have apart : ∀ (k : Nat) (q : Nat × va_E), wB[k]? = some q → q.1 < H.size ∧ ¬ A1 q.1 := by
    intro k q hq
    have h1 : (wA ++ wB)[wA.length + k]? = some q := by
      rw [List.getElem?_append_right (by omega)]
      rw [show wA.length + k - wA.length = k by omega]
      exact hq
    have hl := (hP _ _ h1).lt
    refine ⟨hl, fun h => ?_⟩
    obtain ⟨k2, e, h2⟩ := hA q.1 h hl
    have hk2 : k2 < wA.length := (List.getElem?_eq_some_iff.mp h2).1
    have h3 : (wA ++ wB)[k2]? = some (q.1, e) := by rw [List.getElem?_append_left hk2]; exact h2
    have := hD.1 _ _ _ _ h1 h3 rfl
    omega
  refine ⟨va_P.app hP1 (fun k q hq => ?_), va_D.app (hD1.weaken (fun k q _ h => h10 q.1 h)) ?_ (fun i j x y hx hy hxy => ?_)⟩
  · have h1 : (wA ++ wB)[wA.length + k]? = some q := by
      rw [List.getElem?_append_right (by omega)]
      rw [show wA.length + k - wA.length = k by omega]
      exact hq
    obtain ⟨g1, g2⟩ := apart k q hq
    exact (hP _ _ h1).kept (hk q.1 g1 g2)
  · refine ⟨fun i j p q hp hq e => ?_, fun k q hq => ?_⟩
    · have h1 : (wA ++ wB)[wA.length + i]? = some p := by
        rw [List.getElem?_append_right (by omega), show wA.length + i - wA.length = i by omega]; exact hp
      have h2 : (wA ++ wB)[wA.length + j]? = some q := by
        rw [List.getElem?_append_right (by omega), show wA.length + j - wA.length = j by omega]; exact hq
      have := hD.1 _ _ _ _ h1 h2 e
      omega
    · have h1 : (wA ++ wB)[wA.length + k]? = some q := by
        rw [List.getElem?_append_right (by omega), show wA.length + k - wA.length = k by omega]; exact hq
      exact hD.2 _ _ h1
  · obtain ⟨g1, g2⟩ := apart j y hy
    exact g2 (by rw [← hxy]; exact hD1.2 i x hx)
/-- one number of a table of tables changed -/
def u2 (g : Nat → Nat → Int32) (i j : Nat) (v : Int32) : Nat → Nat → Int32 := fun a b => if a = i ∧ b = j then v else g a b
theorem u2_s {g : Nat → Nat → Int32} {i j : Nat} {v : Int32} : u2 g i j v i j = v := by simp [u2]
theorem u2_n {g : Nat → Nat → Int32} {i j a b : Nat} {v : Int32} (h : a ≠ i) : u2 g i j v a b = g a b := by simp [u2, h]
theorem u2_m {g : Nat → Nat → Int32} {i j a b : Nat} {v : Int32} (h : b ≠ j) : u2 g i j v a b = g a b := by simp [u2, h]
theorem u2_upd {g : Nat → Nat → Int32} {i j : Nat} {v : Int32} : upd (g i) j v = u2 g i j v i := by
  funext b
  simp [u2, upd]
theorem u2_row {g : Nat → Nat → Int32} {i j a : Nat} {v : Int32} (h : a ≠ i) : u2 g i j v a = g a := by
  funext b
  simp [u2, h]
