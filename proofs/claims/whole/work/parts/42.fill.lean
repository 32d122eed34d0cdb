/-! the class's filling is the model's -/
theorem fN_iff {c : Nat → Nat} {cm : Nat → Nat → Bool} {i x : Nat} : ∀ q, fN c cm i x q = true ↔ ∀ j, j < q → c j = x → cm j i = false := by
  intro q
  induction q with
  | zero => exact ⟨fun _ j hj => by omega, fun _ => rfl⟩
  | succ q ih =>
    have e : fN c cm i x (q + 1) = (fN c cm i x q && (!(c q == x) || !cm q i)) := rfl
    rw [e, Bool.and_eq_true, ih]
    constructor
    · intro ⟨h1, h2⟩ j hj hc
      by_cases hjq : j = q
      · subst hjq
        rw [hc] at h2
        simpa using h2
      · exact h1 j (by omega) hc
    · intro h
      refine ⟨fun j hj => h j (by omega), ?_⟩
      by_cases hc : c q = x
      · rw [h q (by omega) hc]; simp
      · simp [hc]
theorem tr_ex {rec : Nat → Option (Nat → Nat)} {r : Nat → Nat} : ∀ f x, tr rec f x = some r → ∃ y, x ≤ y ∧ y < x + f ∧ rec y = some r := by
  intro f
  induction f with
  | zero => intro x h; cases h
  | succ f ih =>
    intro x h
    cases hq : rec x with
    | some q =>
      rw [tr_s hq] at h
      cases h
      exact ⟨x, Nat.le_refl _, by omega, hq⟩
    | none =>
      rw [tr_n hq] at h
      obtain ⟨y, y1, y2, y3⟩ := ih (x + 1) h
      exact ⟨y, by omega, by omega, y3⟩
theorem fs_ok {E : Nat → Nat → Bool} {K : Nat} {r : Nat → Nat} : ∀ d pl us c, (∀ j, j < pl → c j < K) → (∀ i j, i < j → j < pl → c i = c j → E i j = false) → fs E K d pl us c = some r → (∀ j, j < pl + d → r j < K) ∧ ∀ i j, i < j → j < pl + d → r i = r j → E i j = false := by
  intro d
  induction d with
  | zero =>
    intro pl us c h1 h2 h3
    cases h3
    exact ⟨h1, h2⟩
  | succ d ih =>
    intro pl us c h1 h2 h3
    obtain ⟨y, -, y2, y3⟩ := tr_ex _ _ h3
    cases hf : fN c E pl y pl with
    | false => rw [hf] at y3; simp at y3
    | true =>
      rw [hf, if_pos rfl] at y3
      have hfi := (fN_iff pl).mp hf
      have key := ih (pl + 1) _ _ (fun j hj => ?_) (fun i j hij hj he => ?_) y3
      · rw [show pl + (d + 1) = pl + 1 + d by omega]; exact key
      · by_cases hjp : j = pl
        · subst hjp; rw [va_up_self]; omega
        · rw [va_up_ne _ _ hjp]; exact h1 j (by omega)
      · by_cases hjp : j = pl
        · subst hjp
          rw [va_up_self, va_up_ne _ _ (by omega)] at he
          exact hfi i hij he
        · rw [va_up_ne _ _ hjp, va_up_ne _ _ (by omega)] at he
          exact h2 i j hij (by omega) he
theorem tr_no {rec : Nat → Option (Nat → Nat)} {f x : Nat} (h : ∀ y, x ≤ y → y < x + f → rec y = none) : tr rec f x = none := by
  cases hq : tr rec f x with
  | none => rfl
  | some r =>
    obtain ⟨y, y1, y2, y3⟩ := tr_ex _ _ hq
    rw [h y y1 y2] at y3
    cases y3
theorem fs_ext {E : Nat → Nat → Bool} {K : Nat} {r : Nat → Nat} : ∀ d pl us c, fs E K d pl us c = some r → ∀ j, j < pl → r j = c j := by
  intro d
  induction d with
  | zero =>
    intro pl us c h j _
    cases h
    rfl
  | succ d ih =>
    intro pl us c h j hj
    obtain ⟨y, -, y2, y3⟩ := tr_ex _ _ h
    cases hf : fN c E pl y pl with
    | false => rw [hf] at y3; simp at y3
    | true =>
      rw [hf, if_pos rfl] at y3
      rw [ih (pl + 1) _ _ y3 j (by omega), va_up_ne _ _ (by omega)]
/-- where there is a way, one is found -/
theorem fs_cmp {E : Nat → Nat → Bool} {K n : Nat} : ∀ (d pl us : Nat) (c r : Nat → Nat), pl + d = n → (∀ j, j < pl → r j = c j) → (∀ j, j < pl → c j < us) → (∀ j, j < n → r j < K) → (∀ i j, i < j → j < n → r i = r j → E i j = false) → (fs E K d pl us c).isSome = true := by
  intro d
  induction d with
  | zero => intro pl us c r _ _ _ _ _; rfl
  | succ d ih =>
    intro pl us c r hp h1 h2 h3 h4
    have hK := h3 pl (by omega)
    by_cases hy : r pl < us
    · unfold fs
      refine tr_some _ 0 (r pl) (by omega) (by omega) ?_
      have hf : fN c E pl (r pl) pl = true := (fN_iff pl).mpr (fun j hj e => h4 j pl hj (by omega) (by rw [h1 j hj]; exact e))
      rw [hf, if_pos rfl]
      refine ih (pl + 1) _ _ r (by omega) (fun j hj => ?_) (fun j hj => ?_) h3 h4
      · by_cases hjp : j = pl
        · subst hjp; rw [va_up_self]
        · rw [va_up_ne _ _ hjp]; exact h1 j (by omega)
      · by_cases hjp : j = pl
        · subst hjp; rw [va_up_self]; omega
        · rw [va_up_ne _ _ hjp]; have := h2 j (by omega); omega
    · unfold fs
      refine tr_some _ 0 us (by omega) (by omega) ?_
      have hf : fN c E pl us pl = true := fN_new pl (fun j hj => by have := h2 j hj; omega)
      rw [hf, if_pos rfl]
      refine ih (pl + 1) _ _ (fun j => if r j = r pl then us else if r j = us then r pl else r j) (by omega) (fun j hj => ?_) (fun j hj => ?_) (fun j hj => ?_) (fun i j hij hj e => h4 i j hij hj ?_)
      · by_cases hjp : j = pl
        · subst hjp; rw [va_up_self]; exact if_pos rfl
        · rw [va_up_ne _ _ hjp]
          have a := h1 j (by omega)
          have b := h2 j (by omega)
          show (if r j = r pl then us else if r j = us then r pl else r j) = c j
          rw [if_neg (by omega), if_neg (by omega)]
          exact a
      · by_cases hjp : j = pl
        · subst hjp; rw [va_up_self]; omega
        · rw [va_up_ne _ _ hjp]; have := h2 j (by omega); omega
      · have a := h3 j hj
        show (if r j = r pl then us else if r j = us then r pl else r j) < K
        split
        · omega
        · split <;> omega
      · have e : (if r i = r pl then us else if r i = us then r pl else r i) = (if r j = r pl then us else if r j = us then r pl else r j) := e
        by_cases a1 : r i = r pl
        · by_cases b1 : r j = r pl
          · omega
          · rw [if_pos a1, if_neg b1] at e
            by_cases b2 : r j = us
            · rw [if_pos b2] at e; omega
            · rw [if_neg b2] at e; omega
        · rw [if_neg a1] at e
          by_cases b1 : r j = r pl
          · rw [if_pos b1] at e
            by_cases a2 : r i = us
            · rw [if_pos a2] at e; omega
            · rw [if_neg a2] at e; omega
          · rw [if_neg b1] at e
            by_cases a2 : r i = us
            · rw [if_pos a2] at e
              by_cases b2 : r j = us
              · omega
              · rw [if_neg b2] at e; omega
            · rw [if_neg a2] at e
              by_cases b2 : r j = us
              · rw [if_pos b2] at e; omega
              · rw [if_neg b2] at e; exact e
/-- the places before are parted rightly -/
def OKc (E : Nat → Nat → Bool) (K pl us : Nat) (c : Nat → Nat) : Prop := (∀ j, j < pl → c j < us ∧ c j < K) ∧ ∀ i j, i < j → j < pl → c i = c j → E i j = false
theorem OKc_up {E : Nat → Nat → Bool} {K pl us x : Nat} {c : Nat → Nat} (h : OKc E K pl us c) (hx : x < K) (hf : fN c E pl x pl = true) : OKc E K (pl + 1) (max us (x + 1)) (va_up c pl x) := by
  obtain ⟨h1, h2⟩ := h
  have hfi := (fN_iff pl).mp hf
  refine ⟨fun j hj => ?_, fun i j hij hj he => ?_⟩
  · by_cases hjp : j = pl
    · subst hjp; rw [va_up_self]; omega
    · rw [va_up_ne _ _ hjp]; have := h1 j (by omega); omega
  · by_cases hjp : j = pl
    · subst hjp
      rw [va_up_self, va_up_ne _ _ (by omega)] at he
      exact hfi i hij he
    · rw [va_up_ne _ _ hjp, va_up_ne _ _ (by omega)] at he
      exact h2 i j hij (by omega) he
/-- a place that stood in no later one's way: the rest fails wherever else it goes -/
theorem fs_cut {E : Nat → Nat → Bool} {n K d pl us x : Nat} {c : Nat → Nat} (hp : pl + (d + 1) = n) (hc : OKc E K pl us c) (hx : x < K) (hf : fN c E pl x pl = true) (hb : ∀ j, pl < j → j < n → E pl j = true → ∃ i, i < pl ∧ c i = x ∧ E i j = true) (hno : fs E K d (pl + 1) (max us (x + 1)) (va_up c pl x) = none) {y : Nat} (hy : y < K) : rc E K d pl us c y = none := by
  cases hfy : fN c E pl y pl with
  | false => exact rc_f hfy
  | true =>
    rw [rc_t hfy]
    cases hq : fs E K d (pl + 1) (max us (y + 1)) (va_up c pl y) with
    | none => rfl
    | some r =>
      obtain ⟨o1, o2⟩ := OKc_up hc hy hfy
      obtain ⟨p1, p2⟩ := fs_ok d (pl + 1) _ _ (fun j hj => (o1 j hj).2) o2 hq
      have hx9 := fs_ext d (pl + 1) _ _ hq
      have hr : ∀ j, j < pl → r j = c j := fun j hj => by rw [hx9 j (by omega), va_up_ne _ _ (by omega)]
      have hfi := (fN_iff pl).mp hf
      have key := fs_cmp (E := E) (K := K) (n := n) d (pl + 1) (max us (x + 1)) (va_up c pl x) (va_up r pl x) (by omega) (fun j hj => ?_) (fun j hj => ((OKc_up hc hx hf).1 j hj).1) (fun j hj => ?_) (fun i j hij hj he => ?_)
      · rw [hno] at key; cases key
      · by_cases hjp : j = pl
        · subst hjp; rw [va_up_self, va_up_self]
        · rw [va_up_ne _ _ hjp, va_up_ne _ _ hjp]; exact hr j (by omega)
      · by_cases hjp : j = pl
        · subst hjp; rw [va_up_self]; exact hx
        · rw [va_up_ne _ _ hjp]; exact p1 j (by omega)
      · by_cases hjp : j = pl
        · subst hjp
          rw [va_up_self, va_up_ne _ _ (by omega), hr i hij] at he
          exact hfi i hij he
        · rw [va_up_ne _ _ hjp] at he
          by_cases hip : i = pl
          · subst hip
            rw [va_up_self] at he
            cases hE9 : E i j with
            | false => rfl
            | true =>
              obtain ⟨q, q1, q2, q3⟩ := hb j hij hj hE9
              have := p2 q j (by omega) (by omega) (by rw [hr q q1, q2]; exact he)
              rw [q3] at this
              cases this
          · rw [va_up_ne _ _ hip] at he
            exact p2 i j hij (by omega) he
theorem ngb : ∀ pl, pl < 12 → ∀ j, j < 12 → pl < j → (-(nI (2 ^ pl))).toBitVec.getLsbD j = true := by decide +kernel
theorem m1b : ∀ j, j < 12 → (-1 : Int32).toBitVec.getLsbD j = true := by decide +kernel
theorem nI_bit {a j : Nat} (hj : j < 12) : (nI a).toBitVec.getLsbD j = a.testBit j := by
  show (BitVec.ofNat 32 a).getLsbD j = a.testBit j
  rw [BitVec.getLsbD_ofNat]
  simp [show j < 32 by omega]
theorem cut_bit {a b pl j : Nat} (h : cut a b pl = true) (hp : pl < 12) (hj : j < 12) (hl : pl < j) (ha : a.testBit j = true) : b.testBit j = true := by
  have h1 : (nI a &&& (-(nI (2 ^ pl)))) &&& (nI b ^^^ (-1)) = 0 := of_decide_eq_true h
  have h2 : ((nI a &&& (-(nI (2 ^ pl)))) &&& (nI b ^^^ (-1))).toBitVec.getLsbD j = false := by
    rw [h1]
    show (BitVec.ofNat 32 0).getLsbD j = false
    simp
  rw [Int32.toBitVec_and, Int32.toBitVec_and, Int32.toBitVec_xor, BitVec.getLsbD_and, BitVec.getLsbD_and, BitVec.getLsbD_xor, nI_bit hj, nI_bit hj, ngb pl hp j hj hl, m1b j hj, ha] at h2
  cases hb : b.testBit j with
  | true => rfl
  | false => rw [hb] at h2; cases h2
/-- a set is barred for the foes of its places -/
def BV (n : Nat) (fo : Nat → Nat) (pl : Nat) (im so : Nat → Nat) : Prop := ∀ c, c < 12 → ∀ b, b < n → ((im c).testBit b = true ↔ ∃ j, j < pl ∧ so j = c ∧ (fo j).testBit b = true)
theorem BV_cg {n pl : Nat} {fo im so i2 s2 : Nat → Nat} (h : BV n fo pl im so) (h1 : ∀ c, c < 12 → i2 c = im c) (h2 : ∀ j, j < pl → s2 j = so j) : BV n fo pl i2 s2 := by
  intro c hc b hb
  rw [h1 c hc, h c hc b hb]
  constructor
  · intro ⟨j, a, e, f⟩; exact ⟨j, a, by rw [h2 j a]; exact e, f⟩
  · intro ⟨j, a, e, f⟩; exact ⟨j, a, by rw [← h2 j a]; exact e, f⟩
theorem BV_up {n pl x : Nat} {fo im so : Nat → Nat} (h : BV n fo pl im so) : BV n fo (pl + 1) (va_up im x (im x ||| fo pl)) (va_up so pl x) := by
  intro q hq b hb
  have e : (∃ j, j < pl + 1 ∧ va_up so pl x j = q ∧ (fo j).testBit b = true) ↔ (∃ j, j < pl ∧ so j = q ∧ (fo j).testBit b = true) ∨ (x = q ∧ (fo pl).testBit b = true) := by
    constructor
    · intro ⟨j, a, e, f⟩
      by_cases hj : j = pl
      · subst hj; rw [va_up_self] at e; exact Or.inr ⟨e, f⟩
      · rw [va_up_ne _ _ hj] at e; exact Or.inl ⟨j, by omega, e, f⟩
    · intro z
      rcases z with ⟨j, a, e, f⟩ | ⟨e, f⟩
      · exact ⟨j, by omega, by rw [va_up_ne _ _ (by omega)]; exact e, f⟩
      · exact ⟨pl, by omega, by rw [va_up_self]; exact e, f⟩
  rw [e]
  by_cases hqx : q = x
  · subst hqx
    rw [va_up_self, Nat.testBit_or, Bool.or_eq_true, h q hq b hb]
    exact ⟨fun z => z.elim Or.inl (fun f => Or.inr ⟨rfl, f⟩), fun z => z.elim Or.inl (fun f => Or.inr f.2)⟩
  · rw [va_up_ne _ _ hqx, h q hq b hb]
    exact ⟨Or.inl, fun z => z.elim id (fun f => absurd f.1.symm hqx)⟩
theorem fit_iff {E : Nat → Nat → Bool} {n pl x : Nat} {fo im so c : Nat → Nat} (hfo : ∀ i j, i < n → j < n → (fo i).testBit j = (decide (i ≠ j) && E i j)) (hp : pl < n) (hx : x < 12) (hI : BV n fo pl im so) (hc : ∀ j, j < pl → so j = c j) : (im x).testBit pl = false ↔ fN c E pl x pl = true := by
  rw [fN_iff]
  constructor
  · intro h j hj hcj
    cases hE9 : E j pl with
    | false => rfl
    | true =>
      have : (im x).testBit pl = true := (hI x hx pl hp).mpr ⟨j, hj, by rw [hc j hj]; exact hcj, by rw [hfo j pl (by omega) hp, hE9]; simp; omega⟩
      rw [h] at this
      cases this
  · intro h
    cases hq : (im x).testBit pl with
    | false => rfl
    | true =>
      obtain ⟨j, a, e, f⟩ := (hI x hx pl hp).mp hq
      rw [hfo j pl (by omega) hp, h j a (by rw [← hc j a]; exact e), Bool.and_false] at f
      cases f
/-- what comes of a filling: the first way, or none and all as it was -/
def FR (n pl : Nat) (im so : Nat → Nat) (res : Option (Nat → Nat)) (R : Bool × (Nat → Nat) × (Nat → Nat)) : Prop :=
  (∀ r, res = some r → R.1 = true ∧ ∀ j, j < n → R.2.2 j = r j) ∧ (res = none → R.1 = false ∧ (∀ c, c < 12 → R.2.1 c = im c) ∧ ∀ j, j < pl → R.2.2 j = so j)
theorem flL_s {rec : Nat → Nat → (Nat → Nat) → (Nat → Nat) → Bool × (Nat → Nat) × (Nat → Nat)} {fo : Nat → Nat} {pl us f c : Nat} {im so : Nat → Nat} : flL rec fo pl us (f + 1) c im so =
    if (im c).testBit pl = false then
      if (rec (pl + 1) (max us (c + 1)) (va_up im c (im c ||| fo pl)) (va_up so pl c)).1 = true then rec (pl + 1) (max us (c + 1)) (va_up im c (im c ||| fo pl)) (va_up so pl c)
      else if cut (fo pl) (im c) pl = true then (false, va_up (rec (pl + 1) (max us (c + 1)) (va_up im c (im c ||| fo pl)) (va_up so pl c)).2.1 c (im c), (rec (pl + 1) (max us (c + 1)) (va_up im c (im c ||| fo pl)) (va_up so pl c)).2.2)
      else flL rec fo pl us f (c + 1) (va_up (rec (pl + 1) (max us (c + 1)) (va_up im c (im c ||| fo pl)) (va_up so pl c)).2.1 c (im c)) (rec (pl + 1) (max us (c + 1)) (va_up im c (im c ||| fo pl)) (va_up so pl c)).2.2
    else flL rec fo pl us f (c + 1) im so := rfl
theorem flL_fs {E : Nat → Nat → Bool} {n K : Nat} {fo : Nat → Nat} (hn : n ≤ 12) (hfo : ∀ i j, i < n → j < n → (fo i).testBit j = (decide (i ≠ j) && E i j)) {rec : Nat → Nat → (Nat → Nat) → (Nat → Nat) → Bool × (Nat → Nat) × (Nat → Nat)} {pl us d : Nat} {c : Nat → Nat} (hp : pl + (d + 1) = n) (hok : OKc E K pl us c)
    (IH : ∀ v im so c, OKc E K (pl + 1) v c → BV n fo (pl + 1) im so → (∀ j, j < pl + 1 → so j = c j) → FR n (pl + 1) im so (fs E K d (pl + 1) v c) (rec (pl + 1) v im so)) :
    ∀ f x im so, x + f ≤ 12 → x + f ≤ K → BV n fo pl im so → (∀ j, j < pl → so j = c j) → FR n pl im so (tr (rc E K d pl us c) f x) (flL rec fo pl us f x im so) := by
  intro f
  induction f with
  | zero =>
    intro x im so _ _ hI hc
    exact ⟨(fun r h => by cases h), fun _ => ⟨rfl, fun _ _ => rfl, fun _ _ => rfl⟩⟩
  | succ f ih =>
    intro x im so hx hxK hI hc
    rw [flL_s]
    by_cases hfit : (im x).testBit pl = false
    · rw [if_pos hfit]
      have hfn := (fit_iff hfo (by omega) (by omega) hI hc).mp hfit
      have hc2 : ∀ j, j < pl + 1 → va_up so pl x j = va_up c pl x j := by
        intro j hj
        by_cases hjp : j = pl
        · subst hjp; rw [va_up_self, va_up_self]
        · rw [va_up_ne _ _ hjp, va_up_ne _ _ hjp]; exact hc j (by omega)
      obtain ⟨r1, r2⟩ := IH (max us (x + 1)) _ _ (va_up c pl x) (OKc_up hok (by omega) hfn) (BV_up (x := x) hI) hc2
      have hrc := rc_t (cm := E) (K := K) (d := d) (us := us) hfn
      generalize rec (pl + 1) (max us (x + 1)) (va_up im x (im x ||| fo pl)) (va_up so pl x) = R at r1 r2 ⊢
      cases hres : fs E K d (pl + 1) (max us (x + 1)) (va_up c pl x) with
      | some r =>
        obtain ⟨s1, s2⟩ := r1 r hres
        rw [if_pos s1]
        refine ⟨fun r9 h9 => ?_, fun h9 => ?_⟩
        · rw [tr_s (by rw [hrc]; exact hres)] at h9
          cases h9
          exact ⟨s1, s2⟩
        · rw [tr_s (by rw [hrc]; exact hres)] at h9
          cases h9
      | none =>
        obtain ⟨s1, s2, s3⟩ := r2 hres
        rw [if_neg (by rw [s1]; decide)]
        have him : ∀ q, q < 12 → va_up R.2.1 x (im x) q = im q := by
          intro q hq
          by_cases hqx : q = x
          · subst hqx; rw [va_up_self]
          · rw [va_up_ne _ _ hqx, s2 q hq, va_up_ne _ _ hqx]
        have hso : ∀ j, j < pl → R.2.2 j = so j := fun j hj => by rw [s3 j (by omega), va_up_ne _ _ (by omega)]
        by_cases hcut : cut (fo pl) (im x) pl = true
        · rw [if_pos hcut]
          have hall : tr (rc E K d pl us c) (f + 1) x = none := tr_no (fun y y1 y2 => fs_cut hp hok (show x < K by omega) hfn (fun j hj1 hj2 hEj => by
            have hb := cut_bit hcut (by omega) (show j < 12 by omega) hj1 (by rw [hfo pl j (by omega) hj2, hEj]; simp; omega)
            obtain ⟨q, q1, q2, q3⟩ := (hI x (by omega) j hj2).mp hb
            rw [hfo q j (by omega) hj2, Bool.and_eq_true] at q3
            exact ⟨q, q1, by rw [← hc q q1]; exact q2, q3.2⟩) hres (by omega))
          rw [hall]
          exact ⟨(fun r h => by cases h), fun _ => ⟨rfl, him, hso⟩⟩
        · rw [if_neg hcut, tr_n (by rw [hrc]; exact hres)]
          obtain ⟨t1, t2⟩ := ih (x + 1) _ R.2.2 (by omega) (by omega) (BV_cg hI him hso) (fun j hj => by rw [hso j hj]; exact hc j hj)
          refine ⟨t1, fun h9 => ?_⟩
          obtain ⟨u1, u2, u3⟩ := t2 h9
          exact ⟨u1, fun q hq => by rw [u2 q hq]; exact him q hq, fun j hj => by rw [u3 j hj]; exact hso j hj⟩
    · rw [if_neg hfit]
      have hfn : fN c E pl x pl = false := by
        cases hq : fN c E pl x pl with
        | false => rfl
        | true => exact absurd ((fit_iff hfo (by omega) (by omega) hI hc).mpr hq) hfit
      rw [tr_n (rc_f hfn)]
      exact ih (x + 1) im so (by omega) (by omega) hI hc
theorem fl_fs {E : Nat → Nat → Bool} {n K : Nat} {fo : Nat → Nat} (hn : n ≤ 12) (hK : K ≤ 12) (hfo : ∀ i j, i < n → j < n → (fo i).testBit j = (decide (i ≠ j) && E i j)) :
    ∀ d e pl us im so c, pl + d = n → d < e → OKc E K pl us c → BV n fo pl im so → (∀ j, j < pl → so j = c j) → FR n pl im so (fs E K d pl us c) (fl n K fo e pl us im so) := by
  intro d
  induction d with
  | zero =>
    intro e pl us im so c hp he hok hI hc
    obtain ⟨e, rfl⟩ : ∃ q, e = q + 1 := ⟨e - 1, by omega⟩
    unfold fl
    rw [if_pos (by omega)]
    refine ⟨fun r h => ?_, fun h => by cases h⟩
    cases h
    exact ⟨rfl, fun j hj => hc j (by omega)⟩
  | succ d ih =>
    intro e pl us im so c hp he hok hI hc
    obtain ⟨e, rfl⟩ : ∃ q, e = q + 1 := ⟨e - 1, by omega⟩
    unfold fl
    rw [if_neg (by omega)]
    have h := flL_fs (K := K) hn hfo (rec := fl n K fo e) hp hok (fun v im so c a1 a2 a3 => ih e (pl + 1) v im so c (by omega) (by omega) a1 a2 a3) (min (us + 1) (min K 12)) 0 im so (by omega) (by omega) hI hc
    have e2 : min (us + 1) (min K 12) = min (us + 1) K := by omega
    rw [e2] at h ⊢
    exact h
/-! fewer sets than the greatest set of foes has cannot do -/
theorem ct_le1 {f : Nat → Bool} : ∀ n, (∀ i j, i < j → j < n → ¬ (f i = true ∧ f j = true)) → ct f n ≤ 1 := by
  intro n
  induction n with
  | zero => intro _; exact Nat.zero_le _
  | succ n ih =>
    intro h
    have h1 := ih (fun i j hij hj => h i j hij (by omega))
    have e : ct f (n + 1) = ct f n + (if f n = true then 1 else 0) := rfl
    rw [e]
    by_cases hn : f n = true
    · have : ct f n = 0 := by
        have h0 : ct f n ≤ ct (fun _ => false) n := ct_le n (fun i hi e9 => absurd ⟨e9, hn⟩ (h i n hi (by omega)))
        have h9 : ∀ m, ct (fun _ => false) m = 0 := by
          intro m
          induction m with
          | zero => rfl
          | succ m ih => have e8 : ct (fun _ => false) (m + 1) = ct (fun _ => false) m + (if (false : Bool) = true then 1 else 0) := rfl
                         rw [e8, ih]; rfl
        have := h9 n
        omega
      rw [this, if_pos hn]
      omega
    · rw [if_neg hn]; omega
theorem pig {r : Nat → Nat} {n : Nat} : ∀ K (f : Nat → Bool), (∀ i, i < n → f i = true → r i < K) → (∀ i j, i < j → j < n → f i = true → f j = true → r i ≠ r j) → ct f n ≤ K := by
  intro K
  induction K with
  | zero =>
    intro f h1 _
    have : ct f n ≤ ct (fun i => false) n := ct_le n (fun i hi e => absurd (h1 i hi e) (by omega))
    have h9 := ct_le1 (f := fun _ => false) n (fun i j _ _ z => by cases z.1)
    have h8 : ∀ m, ct (fun _ => false) m = 0 := by
      intro m
      induction m with
      | zero => rfl
      | succ m ih => have e8 : ct (fun _ => false) (m + 1) = ct (fun _ => false) m + (if (false : Bool) = true then 1 else 0) := rfl
                     rw [e8, ih]; rfl
    have := h8 n
    omega
  | succ K ih =>
    intro f h1 h2
    have a := ih (fun i => f i && decide (r i ≠ K)) (fun i hi e => by
      simp at e
      have := h1 i hi e.1
      omega) (fun i j hij hj e1 e2 => by
      simp at e1 e2
      exact h2 i j hij hj e1.1 e2.1)
    have b := ct_le1 (f := fun i => f i && decide (r i = K)) n (fun i j hij hj ⟨e1, e2⟩ => by
      simp at e1 e2
      exact h2 i j hij hj e1.1 e2.1 (by rw [e1.2, e2.2]))
    have e : ct f n = ct (fun i => (f i && decide (r i ≠ K)) || (f i && decide (r i = K))) n := ct_congr (fun i _ => by
      by_cases hr : r i = K <;> simp [hr])
    have o := ct_or (f := fun i => f i && decide (r i ≠ K)) (q := fun i => f i && decide (r i = K)) n (fun i _ ⟨e1, e2⟩ => by
      simp at e1 e2
      exact e1.2 e2.2)
    rw [e, o]
    omega
theorem fs_clq {E : Nat → Nat → Bool} {n K T : Nat} {r : Nat → Nat} (hn : n ≤ 12) (hE : ∀ i j, i < n → j < n → E i j = E j i) (hT : T < 2 ^ n) (hq : clq E T) (h : fs E K n 0 0 c00 = some r) : pop T ≤ K := by
  obtain ⟨h1, h2⟩ := fs_ok n 0 0 c00 (fun j hj => by omega) (fun i j _ hj => by omega) h
  rw [Nat.zero_add] at h1 h2
  rw [pop_ct, ct_ext hn (fun i hi _ => Nat.testBit_lt_two_pow (Nat.lt_of_lt_of_le hT (Nat.pow_le_pow_right (by decide) hi)))]
  refine pig K _ (fun i hi _ => h1 i hi) (fun i j hij hj e1 e2 e => ?_)
  have a := h2 i j hij hj e
  rw [hq i j e1 e2 (by omega)] at a
  cases a
/-! the least number -/
theorem lstN_is {E : Nat → Nat → Bool} {n K : Nat} (h0 : 0 < n) (h1 : 1 ≤ K) (hs : (fs E K n 0 0 c00).isSome = true) (hl : ∀ J, 1 ≤ J → J < K → fs E J n 0 0 c00 = none) : lstN E n = K := by
  unfold lstN
  rw [if_neg (by omega)]
  have a := lK_le (cm := E) (n := n) (n - 1) 1
  have b := lK_some (cm := E) (n := n) (n - 1) 1 (by omega)
  have c := lK_none (cm := E) (n := n) (n - 1) 1
  rcases Nat.lt_trichotomy (lK E n (n - 1) 1) K with h | h | h
  · rw [hl _ a.1 h] at b; cases b
  · exact h
  · rw [c K h1 h] at hs; cases hs
theorem sl_fs {E : Nat → Nat → Bool} {n : Nat} {fo : Nat → Nat} (h0 : 0 < n) (hn : n ≤ 12) (hE : ∀ i j, i < n → j < n → E i j = E j i) (hfo : ∀ i j, i < n → j < n → (fo i).testBit j = (decide (i ≠ j) && E i j)) :
    ∀ f K im so, 1 ≤ K → K ≤ n → n < K + f → (∀ J, 1 ≤ J → J < K → fs E J n 0 0 c00 = none) → (∀ c, c < 12 → im c = 0) → (sl n fo f K im so).1 = lstN E n ∧ ∃ r, fs E (lstN E n) n 0 0 c00 = some r ∧ ∀ j, j < n → (sl n fo f K im so).2.2 j = r j := by
  intro f
  induction f with
  | zero => intro K im so h1 h2 h3; omega
  | succ f ih =>
    intro K im so h1 h2 h3 h4 h5
    have hI : BV n fo 0 im so := fun c hc b _ => by
      rw [h5 c hc, Nat.zero_testBit]
      exact ⟨(fun z => by cases z), fun ⟨j, z, _⟩ => by omega⟩
    obtain ⟨r1, r2⟩ := fl_fs (K := K) hn (by omega) hfo n (n + 1) 0 0 im so c00 (by omega) (by omega) ⟨fun j hj => by omega, fun i j _ hj => by omega⟩ hI (fun j hj => by omega)
    unfold sl
    cases hres : fs E K n 0 0 c00 with
    | some r =>
      obtain ⟨s1, s2⟩ := r1 r hres
      rw [if_pos s1]
      have e := lstN_is h0 h1 (by rw [hres]; rfl) h4
      exact ⟨e.symm, r, by rw [e]; exact hres, s2⟩
    | none =>
      obtain ⟨s1, s2, s3⟩ := r2 hres
      rw [if_neg (by rw [s1]; decide)]
      have hKn : K ≠ n := by
        intro e
        have := fs_some (cm := E) (K := K) n 0 0 c00 (fun j hj => by omega) (by omega) (by omega)
        rw [hres] at this
        cases this
      refine ih (K + 1) _ _ (by omega) (by omega) (by omega) (fun J a b => ?_) (fun c hc => by rw [s2 c hc]; exact h5 c hc)
      by_cases hJ : J = K
      · subst hJ; exact hres
      · exact h4 J a (by omega)
/-- what a fresh search finds -/
theorem fresh {E : Nat → Nat → Bool} {n : Nat} {fo im so : Nat → Nat} (hn : n ≤ 12) (hE : ∀ i j, i < n → j < n → E i j = E j i) (hfo : ∀ i j, i < n → j < n → (fo i).testBit j = (decide (i ≠ j) && E i j)) (hi : ∀ c, c < 12 → im c = 0) :
    (sl n fo n (pop (gr n fo 14 0 0 (2 ^ n - 1) 0)) im so).1 = lstN E n ∧ (0 < n → ∃ r, fs E (lstN E n) n 0 0 c00 = some r ∧ ∀ j, j < n → (sl n fo n (pop (gr n fo 14 0 0 (2 ^ n - 1) 0)) im so).2.2 j = r j) := by
  rw [gr_bM hn hE hfo]
  obtain ⟨b1, b2, b3⟩ := bM_spec hn hE (2 ^ n) (Nat.le_refl _)
  by_cases h0 : n = 0
  · subst h0
    have : bM E 0 (2 ^ 0) = 0 := by have : bM E 0 (2 ^ 0) < 1 := b1
                                    omega
    rw [this]
    exact ⟨by simp [sl, lstN, pop_zero], fun z => by omega⟩
  · have hge : 1 ≤ pop (bM E n (2 ^ n)) := by
      have hq : clq E 1 := fun i j hi hj hij => by
        have a : i = 0 := by have := tb_lt (n := 1) (by decide) hi; omega
        have b : j = 0 := by have := tb_lt (n := 1) (by decide) hj; omega
        omega
      have h2 : 1 < 2 ^ n := Nat.one_lt_two_pow (by omega)
      have h3 := b3 1 h2 hq
      have h4 : pop 1 = 1 := by decide
      by_cases h5 : 1 ≤ pop (bM E n (2 ^ n))
      · exact h5
      · exact absurd (Or.inl (by omega)) h3
    have hle := pop_n hn b1
    have key := sl_fs (by omega) hn hE hfo n (pop (bM E n (2 ^ n))) im so hge hle (by omega) (fun J a b => by
      cases hq : fs E J n 0 0 c00 with
      | none => rfl
      | some r => have := fs_clq hn hE b1 b2 hq; omega) hi
    exact ⟨key.1, fun _ => key.2⟩
