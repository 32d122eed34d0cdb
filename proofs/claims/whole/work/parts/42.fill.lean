/-! the class's filling is the model's -/
theorem fN_iff {c : Nat → Nat} {cm : Nat → Nat → Bool} {i x : Nat} : ∀ q, fN c cm i x q = true ↔ ∀ j, j < q → c j = x → cm j i = false := by
  intro q
  induction q with
  | zero => exact ⟨fun _ j hj => by omega, fun _ => rfl⟩
  | succ q ih =>
    have e : fN c cm i x (q + 1) = (fN c cm i x q && (!(c q == x) || !cm q i)) := rfl
    rw [e, Bool.and_eq_true, ih]
    constructor
    · intro ⟨h1, h2⟩ j hj hc
      by_cases hjq : j = q
      · subst hjq
        rw [hc] at h2
        simpa using h2
      · exact h1 j (by omega) hc
    · intro h
      refine ⟨fun j hj => h j (by omega), ?_⟩
      by_cases hc : c q = x
      · rw [h q (by omega) hc]; simp
      · simp [hc]
def IV (pl : Nat) (im so : Nat → Nat) : Prop := ∀ c, c < 12 → ∀ b, (im c).testBit b = true ↔ b < pl ∧ so b = c
theorem IV_lt {pl : Nat} {im so : Nat → Nat} (h : IV pl im so) (hp : pl ≤ 12) {c : Nat} (hc : c < 12) : im c < 4096 := Nat.lt_pow_two_of_testBit (n := 12) (im c) (fun i hi => by
  cases hq : (im c).testBit i with
  | false => rfl
  | true => have := ((h c hc i).mp hq).1; omega)
theorem fit_iff {E : Nat → Nat → Bool} {n pl x : Nat} {fo im so c : Nat → Nat} (hn : n ≤ 12) (hE : ∀ i j, i < n → j < n → E i j = E j i) (hfo : ∀ i j, i < n → j < n → (fo i).testBit j = (decide (i ≠ j) && E i j)) (hp : pl < n) (hx : x < 12) (hI : IV pl im so) (hc : ∀ j, j < pl → so j = c j) : im x &&& fo pl = 0 ↔ fN c E pl x pl = true := by
  rw [fN_iff]
  constructor
  · intro h j hj hcj
    have h1 : (im x &&& fo pl).testBit j = false := by rw [h]; exact Nat.zero_testBit j
    rw [Nat.testBit_and, (hI x hx j).mpr ⟨hj, by rw [hc j hj]; exact hcj⟩, hfo pl j hp (by omega)] at h1
    rw [hE j pl (by omega) hp]
    simpa [show ¬ pl = j by omega] using h1
  · intro h
    apply Nat.eq_of_testBit_eq
    intro j
    rw [Nat.zero_testBit, Nat.testBit_and]
    cases hq : (im x).testBit j with
    | false => rfl
    | true =>
      obtain ⟨h1, h2⟩ := (hI x hx j).mp hq
      rw [hfo pl j hp (by omega), hE pl j hp (by omega), h j h1 (by rw [← hc j h1]; exact h2)]
      simp
/-- what comes of a filling: the first way, or none and all as it was -/
def FR (n pl : Nat) (im so : Nat → Nat) (res : Option (Nat → Nat)) (R : Bool × (Nat → Nat) × (Nat → Nat)) : Prop :=
  (∀ r, res = some r → R.1 = true ∧ ∀ j, j < n → R.2.2 j = r j) ∧ (res = none → R.1 = false ∧ (∀ c, c < 12 → R.2.1 c = im c) ∧ ∀ j, j < pl → R.2.2 j = so j)
theorem flL_s {rec : Nat → Nat → (Nat → Nat) → (Nat → Nat) → Bool × (Nat → Nat) × (Nat → Nat)} {fo : Nat → Nat} {pl us f c : Nat} {im so : Nat → Nat} : flL rec fo pl us (f + 1) c im so =
    if im c &&& fo pl = 0 then
      if (rec (pl + 1) (max us (c + 1)) (va_up im c (im c ||| 2 ^ pl)) (va_up so pl c)).1 = true then rec (pl + 1) (max us (c + 1)) (va_up im c (im c ||| 2 ^ pl)) (va_up so pl c)
      else flL rec fo pl us f (c + 1) (va_up (rec (pl + 1) (max us (c + 1)) (va_up im c (im c ||| 2 ^ pl)) (va_up so pl c)).2.1 c (clr ((rec (pl + 1) (max us (c + 1)) (va_up im c (im c ||| 2 ^ pl)) (va_up so pl c)).2.1 c) pl)) (rec (pl + 1) (max us (c + 1)) (va_up im c (im c ||| 2 ^ pl)) (va_up so pl c)).2.2
    else flL rec fo pl us f (c + 1) im so := rfl
theorem flL_fs {E : Nat → Nat → Bool} {n K : Nat} {fo : Nat → Nat} (hn : n ≤ 12) (hE : ∀ i j, i < n → j < n → E i j = E j i) (hfo : ∀ i j, i < n → j < n → (fo i).testBit j = (decide (i ≠ j) && E i j)) {rec : Nat → Nat → (Nat → Nat) → (Nat → Nat) → Bool × (Nat → Nat) × (Nat → Nat)} {pl us d : Nat} {c : Nat → Nat} (hp : pl + (d + 1) = n) (hus : us ≤ pl)
    (IH : ∀ v im so c, v ≤ pl + 1 → IV (pl + 1) im so → (∀ j, j < pl + 1 → so j = c j) → FR n (pl + 1) im so (fs E K d (pl + 1) v c) (rec (pl + 1) v im so)) :
    ∀ f x im so, x + f ≤ 12 → x + f ≤ us + 1 → IV pl im so → (∀ j, j < pl → so j = c j) → FR n pl im so (tr (rc E K d pl us c) f x) (flL rec fo pl us f x im so) := by
  intro f
  induction f with
  | zero =>
    intro x im so _ _ hI hc
    exact ⟨(fun r h => by cases h), fun _ => ⟨rfl, fun _ _ => rfl, fun _ _ => rfl⟩⟩
  | succ f ih =>
    intro x im so hx hxu hI hc
    rw [flL_s]
    by_cases hfit : im x &&& fo pl = 0
    · rw [if_pos hfit]
      have hfn := (fit_iff hn hE hfo (by omega) (by omega) hI hc).mp hfit
      have hI2 : IV (pl + 1) (va_up im x (im x ||| 2 ^ pl)) (va_up so pl x) := by
        intro q hq b
        by_cases hqx : q = x
        · subst hqx
          rw [va_up_self, Nat.testBit_or, Bool.or_eq_true, hI q hq b, Nat.testBit_two_pow, decide_eq_true_iff]
          by_cases hb : b = pl
          · subst hb
            rw [va_up_self]
            exact ⟨fun _ => ⟨by omega, rfl⟩, fun _ => Or.inr rfl⟩
          · rw [va_up_ne _ _ hb]
            constructor
            · intro z
              rcases z with ⟨z1, z2⟩ | z
              · exact ⟨by omega, z2⟩
              · omega
            · intro ⟨z1, z2⟩
              exact Or.inl ⟨by omega, z2⟩
        · rw [va_up_ne _ _ hqx, hI q hq b]
          by_cases hb : b = pl
          · subst hb
            rw [va_up_self]
            exact ⟨fun z => by omega, fun z => absurd z.2.symm hqx⟩
          · rw [va_up_ne _ _ hb]
            exact ⟨fun z => ⟨by omega, z.2⟩, fun z => ⟨by omega, z.2⟩⟩
      have hc2 : ∀ j, j < pl + 1 → va_up so pl x j = va_up c pl x j := by
        intro j hj
        by_cases hjp : j = pl
        · subst hjp; rw [va_up_self, va_up_self]
        · rw [va_up_ne _ _ hjp, va_up_ne _ _ hjp]; exact hc j (by omega)
      obtain ⟨r1, r2⟩ := IH (max us (x + 1)) _ _ (va_up c pl x) (by omega) hI2 hc2
      have hrc := rc_t (cm := E) (K := K) (d := d) (us := us) hfn
      generalize rec (pl + 1) (max us (x + 1)) (va_up im x (im x ||| 2 ^ pl)) (va_up so pl x) = R at r1 r2 ⊢
      cases hres : fs E K d (pl + 1) (max us (x + 1)) (va_up c pl x) with
      | some r =>
        obtain ⟨s1, s2⟩ := r1 r hres
        rw [if_pos s1]
        refine ⟨fun r9 h9 => ?_, fun h9 => ?_⟩
        · rw [tr_s (by rw [hrc]; exact hres)] at h9
          cases h9
          exact ⟨s1, s2⟩
        · rw [tr_s (by rw [hrc]; exact hres)] at h9
          cases h9
      | none =>
        obtain ⟨s1, s2, s3⟩ := r2 hres
        rw [if_neg (by rw [s1]; decide), tr_n (by rw [hrc]; exact hres)]
        have hxl := IV_lt hI (by omega) (c := x) (by omega)
        have him : ∀ q, q < 12 → va_up R.2.1 x (clr (R.2.1 x) pl) q = im q := by
          intro q hq
          by_cases hqx : q = x
          · subst hqx
            rw [va_up_self, s2 q hq, va_up_self]
            apply Nat.eq_of_testBit_eq
            intro b
            rw [clr_tb (or_lt hxl (pw_lt (by omega))) (by omega), Nat.testBit_or, Nat.testBit_two_pow]
            by_cases hb : b = pl
            · subst hb
              have : (im q).testBit b = false := by
                cases hq9 : (im q).testBit b with
                | false => rfl
                | true => have := ((hI q hq b).mp hq9).1; omega
              simp [this]
            · simp [hb, show ¬ pl = b by omega]
          · rw [va_up_ne _ _ hqx, s2 q hq, va_up_ne _ _ hqx]
        have hso : ∀ j, j < pl → R.2.2 j = so j := fun j hj => by rw [s3 j (by omega), va_up_ne _ _ (by omega)]
        have hI3 : IV pl (va_up R.2.1 x (clr (R.2.1 x) pl)) R.2.2 := by
          intro q hq b
          rw [him q hq, hI q hq b]
          constructor
          · intro ⟨z1, z2⟩; exact ⟨z1, by rw [hso b z1]; exact z2⟩
          · intro ⟨z1, z2⟩; exact ⟨z1, by rw [← hso b z1]; exact z2⟩
        obtain ⟨t1, t2⟩ := ih (x + 1) _ R.2.2 (by omega) (by omega) hI3 (fun j hj => by rw [hso j hj]; exact hc j hj)
        refine ⟨t1, fun h9 => ?_⟩
        obtain ⟨u1, u2, u3⟩ := t2 h9
        exact ⟨u1, fun q hq => by rw [u2 q hq]; exact him q hq, fun j hj => by rw [u3 j hj]; exact hso j hj⟩
    · rw [if_neg hfit]
      have hfn : fN c E pl x pl = false := by
        cases hq : fN c E pl x pl with
        | false => rfl
        | true => exact absurd ((fit_iff hn hE hfo (by omega) (by omega) hI hc).mpr hq) hfit
      rw [tr_n (rc_f hfn)]
      exact ih (x + 1) im so (by omega) (by omega) hI hc
theorem fl_fs {E : Nat → Nat → Bool} {n K : Nat} {fo : Nat → Nat} (hn : n ≤ 12) (hK : K ≤ 12) (hE : ∀ i j, i < n → j < n → E i j = E j i) (hfo : ∀ i j, i < n → j < n → (fo i).testBit j = (decide (i ≠ j) && E i j)) :
    ∀ d e pl us im so c, pl + d = n → d < e → us ≤ pl → IV pl im so → (∀ j, j < pl → so j = c j) → FR n pl im so (fs E K d pl us c) (fl n K fo e pl us im so) := by
  intro d
  induction d with
  | zero =>
    intro e pl us im so c hp he hus hI hc
    obtain ⟨e, rfl⟩ : ∃ q, e = q + 1 := ⟨e - 1, by omega⟩
    unfold fl
    rw [if_pos (by omega)]
    refine ⟨fun r h => ?_, fun h => by cases h⟩
    cases h
    exact ⟨rfl, fun j hj => hc j (by omega)⟩
  | succ d ih =>
    intro e pl us im so c hp he hus hI hc
    obtain ⟨e, rfl⟩ : ∃ q, e = q + 1 := ⟨e - 1, by omega⟩
    unfold fl
    rw [if_neg (by omega)]
    have h := flL_fs (K := K) hn hE hfo (rec := fl n K fo e) hp hus (fun v im so c a1 a2 a3 => ih e (pl + 1) v im so c (by omega) (by omega) a1 a2 a3) (min (us + 1) (min K 12)) 0 im so (by omega) (by omega) hI hc
    have e2 : min (us + 1) (min K 12) = min (us + 1) K := by omega
    rw [e2] at h ⊢
    exact h
/-! fewer sets than the greatest set of foes has cannot do -/
theorem tr_ex {rec : Nat → Option (Nat → Nat)} {r : Nat → Nat} : ∀ f x, tr rec f x = some r → ∃ y, x ≤ y ∧ y < x + f ∧ rec y = some r := by
  intro f
  induction f with
  | zero => intro x h; cases h
  | succ f ih =>
    intro x h
    cases hq : rec x with
    | some q =>
      rw [tr_s hq] at h
      cases h
      exact ⟨x, Nat.le_refl _, by omega, hq⟩
    | none =>
      rw [tr_n hq] at h
      obtain ⟨y, y1, y2, y3⟩ := ih (x + 1) h
      exact ⟨y, by omega, by omega, y3⟩
theorem fs_ok {E : Nat → Nat → Bool} {K : Nat} {r : Nat → Nat} : ∀ d pl us c, (∀ j, j < pl → c j < K) → (∀ i j, i < j → j < pl → c i = c j → E i j = false) → fs E K d pl us c = some r → (∀ j, j < pl + d → r j < K) ∧ ∀ i j, i < j → j < pl + d → r i = r j → E i j = false := by
  intro d
  induction d with
  | zero =>
    intro pl us c h1 h2 h3
    cases h3
    exact ⟨h1, h2⟩
  | succ d ih =>
    intro pl us c h1 h2 h3
    obtain ⟨y, -, y2, y3⟩ := tr_ex _ _ h3
    cases hf : fN c E pl y pl with
    | false => rw [hf] at y3; simp at y3
    | true =>
      rw [hf, if_pos rfl] at y3
      have hfi := (fN_iff pl).mp hf
      have key := ih (pl + 1) _ _ (fun j hj => ?_) (fun i j hij hj he => ?_) y3
      · rw [show pl + (d + 1) = pl + 1 + d by omega]; exact key
      · by_cases hjp : j = pl
        · subst hjp; rw [va_up_self]; omega
        · rw [va_up_ne _ _ hjp]; exact h1 j (by omega)
      · by_cases hjp : j = pl
        · subst hjp
          rw [va_up_self, va_up_ne _ _ (by omega)] at he
          exact hfi i hij he
        · rw [va_up_ne _ _ hjp, va_up_ne _ _ (by omega)] at he
          exact h2 i j hij (by omega) he
theorem ct_le1 {f : Nat → Bool} : ∀ n, (∀ i j, i < j → j < n → ¬ (f i = true ∧ f j = true)) → ct f n ≤ 1 := by
  intro n
  induction n with
  | zero => intro _; exact Nat.zero_le _
  | succ n ih =>
    intro h
    have h1 := ih (fun i j hij hj => h i j hij (by omega))
    have e : ct f (n + 1) = ct f n + (if f n = true then 1 else 0) := rfl
    rw [e]
    by_cases hn : f n = true
    · have : ct f n = 0 := by
        have h0 : ct f n ≤ ct (fun _ => false) n := ct_le n (fun i hi e9 => absurd ⟨e9, hn⟩ (h i n hi (by omega)))
        have h9 : ∀ m, ct (fun _ => false) m = 0 := by
          intro m
          induction m with
          | zero => rfl
          | succ m ih => have e8 : ct (fun _ => false) (m + 1) = ct (fun _ => false) m + (if (false : Bool) = true then 1 else 0) := rfl
                         rw [e8, ih]; rfl
        have := h9 n
        omega
      rw [this, if_pos hn]
      omega
    · rw [if_neg hn]; omega
theorem pig {r : Nat → Nat} {n : Nat} : ∀ K (f : Nat → Bool), (∀ i, i < n → f i = true → r i < K) → (∀ i j, i < j → j < n → f i = true → f j = true → r i ≠ r j) → ct f n ≤ K := by
  intro K
  induction K with
  | zero =>
    intro f h1 _
    have : ct f n ≤ ct (fun i => false) n := ct_le n (fun i hi e => absurd (h1 i hi e) (by omega))
    have h9 := ct_le1 (f := fun _ => false) n (fun i j _ _ z => by cases z.1)
    have h8 : ∀ m, ct (fun _ => false) m = 0 := by
      intro m
      induction m with
      | zero => rfl
      | succ m ih => have e8 : ct (fun _ => false) (m + 1) = ct (fun _ => false) m + (if (false : Bool) = true then 1 else 0) := rfl
                     rw [e8, ih]; rfl
    have := h8 n
    omega
  | succ K ih =>
    intro f h1 h2
    have a := ih (fun i => f i && decide (r i ≠ K)) (fun i hi e => by
      simp at e
      have := h1 i hi e.1
      omega) (fun i j hij hj e1 e2 => by
      simp at e1 e2
      exact h2 i j hij hj e1.1 e2.1)
    have b := ct_le1 (f := fun i => f i && decide (r i = K)) n (fun i j hij hj ⟨e1, e2⟩ => by
      simp at e1 e2
      exact h2 i j hij hj e1.1 e2.1 (by rw [e1.2, e2.2]))
    have e : ct f n = ct (fun i => (f i && decide (r i ≠ K)) || (f i && decide (r i = K))) n := ct_congr (fun i _ => by
      by_cases hr : r i = K <;> simp [hr])
    have o := ct_or (f := fun i => f i && decide (r i ≠ K)) (q := fun i => f i && decide (r i = K)) n (fun i _ ⟨e1, e2⟩ => by
      simp at e1 e2
      exact e1.2 e2.2)
    rw [e, o]
    omega
theorem fs_clq {E : Nat → Nat → Bool} {n K T : Nat} {r : Nat → Nat} (hn : n ≤ 12) (hE : ∀ i j, i < n → j < n → E i j = E j i) (hT : T < 2 ^ n) (hq : clq E T) (h : fs E K n 0 0 c00 = some r) : pop T ≤ K := by
  obtain ⟨h1, h2⟩ := fs_ok n 0 0 c00 (fun j hj => by omega) (fun i j _ hj => by omega) h
  rw [Nat.zero_add] at h1 h2
  rw [pop_ct, ct_ext hn (fun i hi _ => Nat.testBit_lt_two_pow (Nat.lt_of_lt_of_le hT (Nat.pow_le_pow_right (by decide) hi)))]
  refine pig K _ (fun i hi _ => h1 i hi) (fun i j hij hj e1 e2 e => ?_)
  have a := h2 i j hij hj e
  rw [hq i j e1 e2 (by omega)] at a
  cases a
/-! the least number -/
theorem lstN_is {E : Nat → Nat → Bool} {n K : Nat} (h0 : 0 < n) (h1 : 1 ≤ K) (hs : (fs E K n 0 0 c00).isSome = true) (hl : ∀ J, 1 ≤ J → J < K → fs E J n 0 0 c00 = none) : lstN E n = K := by
  unfold lstN
  rw [if_neg (by omega)]
  have a := lK_le (cm := E) (n := n) (n - 1) 1
  have b := lK_some (cm := E) (n := n) (n - 1) 1 (by omega)
  have c := lK_none (cm := E) (n := n) (n - 1) 1
  rcases Nat.lt_trichotomy (lK E n (n - 1) 1) K with h | h | h
  · rw [hl _ a.1 h] at b; cases b
  · exact h
  · rw [c K h1 h] at hs; cases hs
theorem sl_fs {E : Nat → Nat → Bool} {n : Nat} {fo : Nat → Nat} (h0 : 0 < n) (hn : n ≤ 12) (hE : ∀ i j, i < n → j < n → E i j = E j i) (hfo : ∀ i j, i < n → j < n → (fo i).testBit j = (decide (i ≠ j) && E i j)) :
    ∀ f K im so, 1 ≤ K → K ≤ n → n < K + f → (∀ J, 1 ≤ J → J < K → fs E J n 0 0 c00 = none) → (∀ c, c < 12 → im c = 0) → (sl n fo f K im so).1 = lstN E n ∧ ∃ r, fs E (lstN E n) n 0 0 c00 = some r ∧ ∀ j, j < n → (sl n fo f K im so).2.2 j = r j := by
  intro f
  induction f with
  | zero => intro K im so h1 h2 h3; omega
  | succ f ih =>
    intro K im so h1 h2 h3 h4 h5
    have hI : IV 0 im so := fun c hc b => by
      rw [h5 c hc, Nat.zero_testBit]
      exact ⟨(fun z => by cases z), fun z => by omega⟩
    obtain ⟨r1, r2⟩ := fl_fs (K := K) hn (by omega) hE hfo n (n + 1) 0 0 im so c00 (by omega) (by omega) (by omega) hI (fun j hj => by omega)
    unfold sl
    cases hres : fs E K n 0 0 c00 with
    | some r =>
      obtain ⟨s1, s2⟩ := r1 r hres
      rw [if_pos s1]
      have e := lstN_is h0 h1 (by rw [hres]; rfl) h4
      exact ⟨e.symm, r, by rw [e]; exact hres, s2⟩
    | none =>
      obtain ⟨s1, s2, s3⟩ := r2 hres
      rw [if_neg (by rw [s1]; decide)]
      have hKn : K ≠ n := by
        intro e
        have := fs_some (cm := E) (K := K) n 0 0 c00 (fun j hj => by omega) (by omega) (by omega)
        rw [hres] at this
        cases this
      refine ih (K + 1) _ _ (by omega) (by omega) (by omega) (fun J a b => ?_) (fun c hc => by rw [s2 c hc]; exact h5 c hc)
      by_cases hJ : J = K
      · subst hJ; exact hres
      · exact h4 J a (by omega)
/-- what a fresh search finds -/
theorem fresh {E : Nat → Nat → Bool} {n : Nat} {fo im so : Nat → Nat} (hn : n ≤ 12) (hE : ∀ i j, i < n → j < n → E i j = E j i) (hfo : ∀ i j, i < n → j < n → (fo i).testBit j = (decide (i ≠ j) && E i j)) (hi : ∀ c, c < 12 → im c = 0) :
    (sl n fo n (pop (gr n fo 14 0 0 (2 ^ n - 1) 0)) im so).1 = lstN E n ∧ (0 < n → ∃ r, fs E (lstN E n) n 0 0 c00 = some r ∧ ∀ j, j < n → (sl n fo n (pop (gr n fo 14 0 0 (2 ^ n - 1) 0)) im so).2.2 j = r j) := by
  rw [gr_bM hn hE hfo]
  obtain ⟨b1, b2, b3⟩ := bM_spec hn hE (2 ^ n) (Nat.le_refl _)
  by_cases h0 : n = 0
  · subst h0
    have : bM E 0 (2 ^ 0) = 0 := by have : bM E 0 (2 ^ 0) < 1 := b1
                                    omega
    rw [this]
    exact ⟨by simp [sl, lstN, pop_zero], fun z => by omega⟩
  · have hge : 1 ≤ pop (bM E n (2 ^ n)) := by
      have hq : clq E 1 := fun i j hi hj hij => by
        have a : i = 0 := by have := tb_lt (n := 1) (by decide) hi; omega
        have b : j = 0 := by have := tb_lt (n := 1) (by decide) hj; omega
        omega
      have h2 : 1 < 2 ^ n := Nat.one_lt_two_pow (by omega)
      have h3 := b3 1 h2 hq
      have h4 : pop 1 = 1 := by decide
      by_cases h5 : 1 ≤ pop (bM E n (2 ^ n))
      · exact h5
      · exact absurd (Or.inl (by omega)) h3
    have hle := pop_n hn b1
    have key := sl_fs (by omega) hn hE hfo n (pop (bM E n (2 ^ n))) im so hge hle (by omega) (fun J a b => by
      cases hq : fs E J n 0 0 c00 with
      | none => rfl
      | some r => have := fs_clq hn hE b1 b2 hq; omega) hi
    exact ⟨key.1, fun _ => key.2⟩
