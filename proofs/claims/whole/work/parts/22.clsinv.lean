/-! the class's invariant, and what a look at a parting leaves of it -/
def CB (g : Nat → Nat → Int32) (h : Nat → Nat → Nat) (k : Nat) : Prop := ∃ n m K, n < 13 ∧ m < 4096 ∧ K < 25 ∧ g (8 + 9 * k) 1 = nI n ∧ g (8 + 9 * k) 2 = nI m ∧ g (8 + 9 * k) 0 = nI K ∧ (g (3 + 9 * k) 7 = 0 → n = h 1 k)
def CIv (g : Nat → Nat → Int32) (h : Nat → Nat → Nat) (jp : Nat → Nat) : Prop :=
  h 0 0 ≤ 72 ∧ g 0 2 = nI (h 0 0) ∧ (∀ k, k < 6 → h 1 k ≤ 12 ∧ g (3 + 9 * k) 6 = nI (h 1 k) ∧ ∀ j, j < h 1 k → h (3 + k) j < h 0 0) ∧ (∀ p, p < h 0 0 → h 2 p < 6 ∧ jp p < 16 ∧ g (57 + p) 3 = nI (jp p)) ∧ ∀ k, k < 6 → CB g h k
def par (g : Nat → Nat → Int32) (h : Nat → Nat → Nat) (jp : Nat → Nat) (k : Nat) (u : Nat → Nat → Int32) : Prop := (g (3 + 9 * k) 7 = 0 ∧ u = g) ∨ (¬ g (3 + 9 * k) 7 = 0 ∧ pres g h jp k u)
theorem par_keep {g u : Nat → Nat → Int32} {h : Nat → Nat → Nat} {jp : Nat → Nat} {k : Nat} (hp : par g h jp k u) {a b : Nat} (h8 : a ≠ 8 + 9 * k) (h9 : a ≠ 9 + 9 * k) (h10 : a ≠ 10 + 9 * k) (h11 : a ≠ 11 + 9 * k) (h3 : ¬ (a = 3 + 9 * k ∧ b = 7)) : u a b = g a b := by
  rcases hp with ⟨-, rfl⟩ | ⟨-, hp⟩
  · rfl
  · exact hp.2.1 a b h8 h9 h10 h11 h3
theorem sl_le {n : Nat} {fo : Nat → Nat} : ∀ f K im so, (sl n fo f K im so).1 ≤ K + f := by
  intro f
  induction f with
  | zero => intro K im so; exact Nat.le_refl _
  | succ f ih =>
    intro K im so
    unfold sl
    split
    · exact Nat.le_add_right _ _
    · exact Nat.le_trans (ih _ _ _) (by omega)
theorem par_P {g u : Nat → Nat → Int32} {h : Nat → Nat → Nat} {jp : Nat → Nat} {k : Nat} (hI : CIv g h jp) (hk : k < 6) (hp : par g h jp k u) : u (8 + 9 * k) 1 = nI (h 1 k) ∧ u (3 + 9 * k) 7 = 0 ∧ ∃ m K, m < 4096 ∧ K < 25 ∧ u (8 + 9 * k) 2 = nI m ∧ u (8 + 9 * k) 0 = nI K := by
  rcases hp with ⟨h0, rfl⟩ | ⟨-, hp⟩
  · obtain ⟨n, m, K, h1, h2, h3, h4, h5, h6, h7⟩ := hI.2.2.2.2 k hk
    exact ⟨by rw [h4, h7 h0], h0, m, K, h2, h3, h5, h6⟩
  · obtain ⟨p1, p2, p3, fo0, im0, so0, p4, p5, p6, p7, p8⟩ := hp
    have hn := (hI.2.2.1 k hk).1
    refine ⟨p3, p1, _, _, gr_lt (by omega) _ _ _ _ _ (by decide) (by decide), ?_, p6, p7⟩
    have h1 := sl_le (n := h 1 k) (fo := mf (eB g h jp k) (h 1 k) 0 fo0) (h 1 k) (pop (gr (h 1 k) (mf (eB g h jp k) (h 1 k) 0 fo0) 14 0 0 (2 ^ h 1 k - 1) 0)) im0 so0
    have h2 := pop_le (gr (h 1 k) (mf (eB g h jp k) (h 1 k) 0 fo0) 14 0 0 (2 ^ h 1 k - 1) 0)
    omega
theorem par_CI {g u : Nat → Nat → Int32} {h : Nat → Nat → Nat} {jp : Nat → Nat} {k : Nat} (hI : CIv g h jp) (hk : k < 6) (hp : par g h jp k u) : CIv u h jp := by
  refine ⟨hI.1, ?_, fun q hq => ⟨(hI.2.2.1 q hq).1, ?_, (hI.2.2.1 q hq).2.2⟩, fun p hp9 => ⟨(hI.2.2.2.1 p hp9).1, (hI.2.2.2.1 p hp9).2.1, ?_⟩, fun q hq => ?_⟩
  · rw [par_keep hp (by omega) (by omega) (by omega) (by omega) (by omega)]; exact hI.2.1
  · rw [par_keep hp (by omega) (by omega) (by omega) (by omega) (by omega)]; exact (hI.2.2.1 q hq).2.1
  · rw [par_keep hp (by omega) (by omega) (by omega) (by omega) (by omega)]; exact (hI.2.2.2.1 p hp9).2.2
  · by_cases hqk : q = k
    · subst hqk
      obtain ⟨h1, h2, m, K, h3, h4, h5, h6⟩ := par_P hI hk hp
      exact ⟨h 1 q, m, K, by have := (hI.2.2.1 q hq).1; omega, h3, h4, h1, h5, h6, fun _ => rfl⟩
    · obtain ⟨n, m, K, h1, h2, h3, h4, h5, h6, h7⟩ := hI.2.2.2.2 q hq
      refine ⟨n, m, K, h1, h2, h3, ?_, ?_, ?_, ?_⟩
      · rw [par_keep hp (by omega) (by omega) (by omega) (by omega) (by omega)]; exact h4
      · rw [par_keep hp (by omega) (by omega) (by omega) (by omega) (by omega)]; exact h5
      · rw [par_keep hp (by omega) (by omega) (by omega) (by omega) (by omega)]; exact h6
      · rw [par_keep hp (by omega) (by omega) (by omega) (by omega) (by omega)]; exact h7
/-- the kinds below i, one behind the other -/
def prs (h : Nat → Nat → Nat) (jp : Nat → Nat) (g : Nat → Nat → Int32) : Nat → (Nat → Nat → Int32) → Nat → Prop
  | 0, u, A => u = g ∧ A = 0
  | i + 1, u, A => ∃ v B K, prs h jp g i v B ∧ par v h jp i u ∧ u (8 + 9 * i) 0 = nI K ∧ K < 25 ∧ A = B + K
theorem prs_CI {h : Nat → Nat → Nat} {jp : Nat → Nat} {g : Nat → Nat → Int32} (hI : CIv g h jp) : ∀ i u A, i ≤ 6 → prs h jp g i u A → CIv u h jp ∧ A ≤ 24 * i := by
  intro i
  induction i with
  | zero => intro u A _ hp; obtain ⟨rfl, rfl⟩ := hp; exact ⟨hI, by omega⟩
  | succ i ih =>
    intro u A hi hp
    obtain ⟨v, B, K, h1, h2, h3, h4, rfl⟩ := hp
    obtain ⟨a, b⟩ := ih v B (by omega) h1
    exact ⟨par_CI a (by omega) h2, by omega⟩
def les (a b : Nat) (e : Int32) : Int32 := if nI b = 0 then (if e = 0 then 0 else 1) else if nI (ed 64 a b) = 0 then 0 else (if e = 0 then nI a else nI b) / nI (ed 64 a b)
theorem opr : ∀ n, n < 73 → nI n * (nI n - 1) = nI (n * (n - 1)) := by decide +kernel
def aln (h : Nat → Nat → Nat) : Nat → Nat
  | 0 => 0
  | i + 1 => aln h i + h 1 i * (h 1 i - 1)
theorem aln_le {h : Nat → Nat → Nat} (hh : ∀ k, k < 6 → h 1 k ≤ 12) : ∀ i, i ≤ 6 → aln h i ≤ 132 * i := by
  intro i
  induction i with
  | zero => intro _; exact Nat.le_refl _
  | succ i ih =>
    intro hi
    have h1 := ih (by omega)
    have h2 := hh i (by omega)
    have h3 : h 1 i * (h 1 i - 1) ≤ 12 * 11 := Nat.mul_le_mul h2 (by omega)
    show aln h i + h 1 i * (h 1 i - 1) ≤ _
    omega
set_option maxHeartbeats 4000000 in
set_option maxRecDepth 100000 in
theorem kC_lessened (l : Launch) (a b : Nat) (en : Int32) (ha9 : a < 2 ^ 31) (hb9 : b < 2 ^ 31) : Met l yC_lessened wC_lessened (rm 1 0 0) (va_Pc [.int (nI a), .int (nI b), .int en] (fun _ => True)) (va_Qi (fun r (_ : Unit) => r = les a b en) (fun _ _ => True) (fun _ => False)) 0 0 (fun _ => False) := by
  refine Met.ofW (cc := cC_lessened) (maxL := 3) (ret := (some .int)) (by decide) rfl ?_
  intro p e s m args below meth c s₁ B hml hv
  obtain ⟨rfl, -⟩ := hv
  have hx := B.exec
  have hb := B.bytes
  have hr := B.returns
  have hT : ∀ w ∈ TB, w.before _ s = true := fun w hw => atoms_spec (ws := wC_lessened) B.pre w (List.mem_cons_of_mem _ hw)
  have hown : s.vm.findClass "CountLeast" = some m.cls := findClass_of_methodNamed B.named
  have hlocks := B.notSynchronized
  have hS : va_S (fun _ => False) s.heap s.heap [] := va_S.rf
  obtain ⟨D, -⟩ : ∃ D : va_G, True := ⟨(fun _ => 0, fun _ _ => 0), trivial⟩
  have hP : va_P D vwCl [] s.heap := fun k q h9 => by simp at h9
  have hl := lv_entry ([.int (nI a), .int (nI b), .int en]) (n := 3) (Nat.le_of_ble_eq_true rfl)
  rw [lg_entry_eq]
  generalize (lg_sl ([.int (nI a), .int (nI b), .int en]) ++ List.replicate (3 - (lg_sl ([.int (nI a), .int (nI b), .int en])).length) Slot.unset).toArray = ls at hl ⊢
  have hl : lv_has ls 3 [(0, .int (nI a)), (1, .int (nI b)), (2, .int en)] := hl
  refine lv_iload_n hx hb dC_lessened_0 rfl (lv_at hl 1 rfl) ?_
  refine lv_if_ne (tgt := 14) hx hb dC_lessened_1 (by decide) (fun c_1 => ?_) (fun c_1 => ?_)
  · refine lv_iload_n hx hb dC_lessened_14 rfl (lv_at hl 2 rfl) ?_
    refine lv_if_ne (tgt := 22) hx hb dC_lessened_15 (by decide) (fun c_2 => ?_) (fun c_2 => ?_)
    · refine lv_iload_n hx hb dC_lessened_22 rfl (lv_at hl 1 rfl) ?_
      refine lv_iload_n hx hb dC_lessened_23 rfl (lv_at hl 0 rfl) ?_
      refine lv_iload_n hx hb dC_lessened_24 rfl (lv_at hl 1 rfl) ?_
      refine kSi (n := 2) (D := D) (As := [.int (nI a), .int (nI b)]) (rest := [.int (nI b)]) ⟨hx, hb, hml, hown, hT⟩ (kC_commonDivisor l a b ha9 hb9) (gi_S wm_456 wm_457 wm_1 wm_458) rfl rfl (by decide +kernel) ⟨(Nat.le_of_ble_eq_true rfl), (Nat.le_of_ble_eq_true rfl)⟩ hP hS rfl hl.1 rfl (Nat.le_of_ble_eq_true rfl) dC_lessened_25 ⟨(Nat.le_of_ble_eq_true rfl), (Nat.le_of_ble_eq_true rfl)⟩ (fun r_3 H locs e_4 hz hP hS => ?_)
      subst e_4
      refine kSi (n := 2) (D := D) (As := [.int (nI b), .int (nI (ed 64 a b))]) (rest := []) ⟨hx, hb, hml, hown, hT⟩ (kC_quotient l (nI b) (nI (ed 64 a b))) (gi_S wm_459 wm_460 wm_1 wm_461) rfl rfl (by decide +kernel) ⟨(Nat.le_of_ble_eq_true rfl), (Nat.le_of_ble_eq_true rfl)⟩ hP hS rfl hl.1 rfl (Nat.le_of_ble_eq_true rfl) dC_lessened_28 ⟨(Nat.le_of_ble_eq_true rfl), (Nat.le_of_ble_eq_true rfl)⟩ (fun r_5 H locs e_6 hz hP hS => ?_)
      subst e_6
      exact W.iret (v := if (nI (ed 64 a b)) = 0 then 0 else (nI b) / (nI (ed 64 a b))) hx hb hr (fun t ht hW => ⟨⟨_, (), rfl, by simp [les, c_1, c_2], trivial⟩, hS.F ht⟩) hS.2.2 dC_lessened_31
    · refine lv_iload_n hx hb dC_lessened_18 rfl (lv_at hl 0 rfl) ?_
      refine lv_goto (tgt := 23) hx hb dC_lessened_19 (by decide) ?_
      refine lv_iload_n hx hb dC_lessened_23 rfl (lv_at hl 0 rfl) ?_
      refine lv_iload_n hx hb dC_lessened_24 rfl (lv_at hl 1 rfl) ?_
      refine kSi (n := 2) (D := D) (As := [.int (nI a), .int (nI b)]) (rest := [.int (nI a)]) ⟨hx, hb, hml, hown, hT⟩ (kC_commonDivisor l a b ha9 hb9) (gi_S wm_456 wm_457 wm_1 wm_458) rfl rfl (by decide +kernel) ⟨(Nat.le_of_ble_eq_true rfl), (Nat.le_of_ble_eq_true rfl)⟩ hP hS rfl hl.1 rfl (Nat.le_of_ble_eq_true rfl) dC_lessened_25 ⟨(Nat.le_of_ble_eq_true rfl), (Nat.le_of_ble_eq_true rfl)⟩ (fun r_7 H locs e_8 hz hP hS => ?_)
      subst e_8
      refine kSi (n := 2) (D := D) (As := [.int (nI a), .int (nI (ed 64 a b))]) (rest := []) ⟨hx, hb, hml, hown, hT⟩ (kC_quotient l (nI a) (nI (ed 64 a b))) (gi_S wm_459 wm_460 wm_1 wm_461) rfl rfl (by decide +kernel) ⟨(Nat.le_of_ble_eq_true rfl), (Nat.le_of_ble_eq_true rfl)⟩ hP hS rfl hl.1 rfl (Nat.le_of_ble_eq_true rfl) dC_lessened_28 ⟨(Nat.le_of_ble_eq_true rfl), (Nat.le_of_ble_eq_true rfl)⟩ (fun r_9 H locs e_10 hz hP hS => ?_)
      subst e_10
      exact W.iret (v := if (nI (ed 64 a b)) = 0 then 0 else (nI a) / (nI (ed 64 a b))) hx hb hr (fun t ht hW => ⟨⟨_, (), rfl, by simp [les, c_1, c_2], trivial⟩, hS.F ht⟩) hS.2.2 dC_lessened_31
  · refine lv_iload_n hx hb dC_lessened_4 rfl (lv_at hl 2 rfl) ?_
    refine lv_if_ne (tgt := 12) hx hb dC_lessened_5 (by decide) (fun c_11 => ?_) (fun c_11 => ?_)
    · refine lv_iconst (v := 1) hx hb dC_lessened_12 (by decide) ?_
      exact W.iret (v := 1) hx hb hr (fun t ht hW => ⟨⟨_, (), rfl, by simp [les, c_1, c_11], trivial⟩, hS.F ht⟩) hS.2.2 dC_lessened_13
    · refine lv_iconst (v := 0) hx hb dC_lessened_8 (by decide) ?_
      refine lv_goto (tgt := 13) hx hb dC_lessened_9 (by decide) ?_
      exact W.iret (v := 0) hx hb hr (fun t ht hW => ⟨⟨_, (), rfl, by simp [les, c_1, c_11], trivial⟩, hS.F ht⟩) hS.2.2 dC_lessened_13
set_option maxHeartbeats 4000000 in
set_option maxRecDepth 100000 in
theorem kC_least (l : Launch) (hlt : l.stackTraces = false) (D : va_G) (CA : Nat → ClassId) (g : Nat → Nat → Int32) (h : Nat → Nat → Nat) (ad : Nat → Nat) (sz : Nat) (sa : Nat → Nat) (kd : Int32) (jp : Nat → Nat) (hI : CIv g h jp) : vx_Met l yC_least wC_least (rm 18 1 6) (va_Pc [.ref (ad 0), .int kd] (fun U => gpre D (cty CA) (cw CA g h ad) sz U ∧ xz (cA h ad sz) sa U U.heap)) (va_Qi (fun r (u : Nat → Nat → Int32) => ¬ (ib kd 6) ∧ ∃ k, k < 6 ∧ kd = nI k ∧ par g h jp k u ∧ r = u (8 + 9 * k) 0) (fun u t => gpost D (cty CA) (cw CA u h ad) (cA h ad sz) t) (cA h ad sz)) (vx_X (fun u : Nat → Nat → Int32 => u = g) (fun E u t => te3 (ib kd 6) False False E ∧ gpost D (cty CA) (cw CA u h ad) (cA h ad sz) t) (cA h ad sz)) 1 6 (cA h ad sz) := by
  refine vx_ofW (cc := cC_least) (maxL := 2) (ret := (some .int)) (by decide) rfl ?_
  intro p e s m args below meth c s₁ B hml hno hv
  obtain ⟨rfl, ⟨hsz, hP, hK, hD0⟩, hZ⟩ := hv
  have hx := B.exec
  have hb := B.bytes
  have hr := B.returns
  have hT : ∀ w ∈ TB, w.before _ s = true := fun w hw => atoms_spec (ws := wC_least) B.pre w (List.mem_cons_of_mem _ hw)
  have hown : s.vm.findClass "CountLeast" = some m.cls := findClass_of_methodNamed B.named
  have hlocks := B.notSynchronized
  subst hsz
  have hD := nA_self (sz := s.heap.size) hD0
  have hS : va_S (cA h ad s.heap.size) s.heap s.heap [] := va_S.rf
  have hP : va_P D vwCl (cw CA g h ad) s.heap := hP
  have hl := lv_entry ([.ref (ad 0), .int kd]) (n := 2) (Nat.le_of_ble_eq_true rfl)
  rw [lg_entry_eq]
  generalize (lg_sl ([.ref (ad 0), .int kd]) ++ List.replicate (2 - (lg_sl ([.ref (ad 0), .int kd])).length) Slot.unset).toArray = ls at hl ⊢
  have hl : lv_has ls 2 [(0, .ref (ad 0)), (1, .int kd)] := hl
  have hn72 := hI.1
  have hg0 := hI.2.1
  have hkk := hI.2.2.1
  have hpp := hI.2.2.2.1
  have hq6 : ∀ p, p < h 0 0 → h 2 p < 6 := fun p hp => (hpp p hp).1
  refine lv_aload_n hx hb dC_least_0 rfl (lv_at hl 0 rfl) ?_
  refine lv_iload_n hx hb dC_least_1 rfl (lv_at hl 1 rfl) ?_
  refine kVx (n := 1) (D := D) (wd := fun z => cw CA z h ad) (A1 := fun sz => cA h ad sz) (As := [.int kd]) (rest := []) (te := (te3 (ib kd 6) False False)) ⟨hx, hb, hml, hown, hT⟩ (kC_kindAt l hlt D CA g h ad s.heap.size sa kd) (gi_V wm_120 wm_122 wp_0 wm_1 wm_123) rfl rfl (by decide +kernel) ⟨(Nat.le_of_ble_eq_true rfl), (Nat.le_of_ble_eq_true rfl)⟩ (va_recv hK hP (ci := 0) (q0 := 0) rfl cw_X) hlocks hno hZ (fun _ h9 => h9) hK hP hD hS (fun _ h9 => h9) (nA_mono hS.1) (fun E h9 => Or.inl ⟨h9.1, h9.2⟩) rfl hl.1 rfl (Nat.le_of_ble_eq_true rfl) dC_least_2 ⟨(Nat.le_of_ble_eq_true rfl), (Nat.le_of_ble_eq_true rfl)⟩ (Nat.le_of_ble_eq_true rfl) (Nat.le_of_ble_eq_true rfl) (fun a9 H locs ha hz hP hS => ?_)
  obtain ⟨k, hk, rfl, rfl⟩ := ha
  have f_1 : ¬ ib (nI k) 6 := nib hk (by decide)
  refine kVr (n := 0) (D := D) (wd := fun z => cw CA z h ad) (A1 := fun sz => cA h ad sz) (As := []) (rest := []) ⟨hx, hb, hml, hown, hT⟩ (kK_parted l D CA g h ad H.size k hk (hkk _ hk).2.1 (hkk _ hk).1 (hkk _ hk).2.2 jp (fun p9 hp9 => (hpp p9 hp9).2)) (gi_V wm_359 wm_360 wm_361 wm_2 wm_362) rfl rfl (by decide +kernel) ⟨(Nat.le_of_ble_eq_true rfl), (Nat.le_of_ble_eq_true rfl)⟩ (va_recv hK hP (ci := 1) (q0 := 3 + 9 * k) rfl (cw_K hk)) hK hP hD hS (fun _ h9 => h9) (nA_mono hS.1) rfl hl.1 rfl (Nat.le_of_ble_eq_true rfl) dC_least_5 ⟨(Nat.le_of_ble_eq_true rfl), (Nat.le_of_ble_eq_true rfl)⟩ (fun u_3 a_5 H locs w_4 ha_5 hz hP hD hS => ?_)
  subst ha_5
  have hpar : par g h jp k u_3 := w_4
  have hPP := par_P hI hk hpar
  refine va_get (D := D) (ci := 2) (C := RP) (T := TP) (N := 6) hx hb hT inP hown hK hP (8 + 9 * k) (cw_PT hk) rfl 0 (by decide) (hT _ wm_39) (fun _ h9 => h9) rfl dC_least_8 ?_
  refine vx_ret ?_
  exact W.iret (v := u_3 (8 + 9 * k) 0) hx hb hr (fun t ht hW => ⟨⟨_, u_3, rfl, ⟨f_1, k, hk, rfl, hpar, rfl⟩, gpost_at hP hK hD ht hW.alike⟩, hS.F ht⟩) hS.2.2 dC_least_11
set_option maxHeartbeats 4000000 in
set_option maxRecDepth 100000 in
theorem kC_animal (l : Launch) (hlt : l.stackTraces = false) (D : va_G) (CA : Nat → ClassId) (g : Nat → Nat → Int32) (h : Nat → Nat → Nat) (ad : Nat → Nat) (sz : Nat) (sa : Nat → Nat) (pn : Int32) (jp : Nat → Nat) (hI : CIv g h jp) : vx_Met l yC_animal wC_animal (rm 18 1 6) (va_Pc [.ref (ad 0), .int pn] (fun U => gpre D (cty CA) (cw CA g h ad) sz U ∧ xz (cA h ad sz) sa U U.heap)) (va_Qi (fun r (u : Nat → Nat → Int32) => ¬ (ib pn (g 0 2)) ∧ ∃ p, p < h 0 0 ∧ pn = nI p ∧ par g h jp (h 2 p) u ∧ ∀ j, j < h 1 (h 2 p) → g (57 + p) 2 = nI j → r = u (10 + 9 * h 2 p) j) (fun u t => gpost D (cty CA) (cw CA u h ad) (cA h ad sz) t) (cA h ad sz)) (vx_X (fun u : Nat → Nat → Int32 => u = g) (fun E u t => te3 (ib pn (g 0 2)) False False E ∧ gpost D (cty CA) (cw CA u h ad) (cA h ad sz) t) (cA h ad sz)) 1 6 (cA h ad sz) := by
  refine vx_ofW (cc := cC_animal) (maxL := 3) (ret := (some .int)) (by decide) rfl ?_
  intro p e s m args below meth c s₁ B hml hno hv
  obtain ⟨rfl, ⟨hsz, hP, hK, hD0⟩, hZ⟩ := hv
  have hx := B.exec
  have hb := B.bytes
  have hr := B.returns
  have hT : ∀ w ∈ TB, w.before _ s = true := fun w hw => atoms_spec (ws := wC_animal) B.pre w (List.mem_cons_of_mem _ hw)
  have hown : s.vm.findClass "CountLeast" = some m.cls := findClass_of_methodNamed B.named
  have hlocks := B.notSynchronized
  subst hsz
  have hD := nA_self (sz := s.heap.size) hD0
  have hS : va_S (cA h ad s.heap.size) s.heap s.heap [] := va_S.rf
  have hP : va_P D vwCl (cw CA g h ad) s.heap := hP
  have hl := lv_entry ([.ref (ad 0), .int pn]) (n := 3) (Nat.le_of_ble_eq_true rfl)
  rw [lg_entry_eq]
  generalize (lg_sl ([.ref (ad 0), .int pn]) ++ List.replicate (3 - (lg_sl ([.ref (ad 0), .int pn])).length) Slot.unset).toArray = ls at hl ⊢
  have hl : lv_has ls 3 [(0, .ref (ad 0)), (1, .int pn)] := hl
  have hn72 := hI.1
  have hg0 := hI.2.1
  have hkk := hI.2.2.1
  have hpp := hI.2.2.2.1
  have hq6 : ∀ p, p < h 0 0 → h 2 p < 6 := fun p hp => (hpp p hp).1
  refine lv_aload_n hx hb dC_animal_0 rfl (lv_at hl 0 rfl) ?_
  refine lv_iload_n hx hb dC_animal_1 rfl (lv_at hl 1 rfl) ?_
  refine kVx (n := 1) (D := D) (wd := fun z => cw CA z h ad) (A1 := fun sz => cA h ad sz) (As := [.int pn]) (rest := []) (te := (te3 (ib pn (g 0 2)) False False)) ⟨hx, hb, hml, hown, hT⟩ (kC_pieceAt l hlt D CA g h ad s.heap.size sa pn hn72 hg0) (gi_V wm_310 wm_312 wp_2 wm_1 wm_313) rfl rfl (by decide +kernel) ⟨(Nat.le_of_ble_eq_true rfl), (Nat.le_of_ble_eq_true rfl)⟩ (va_recv hK hP (ci := 0) (q0 := 0) rfl cw_X) hlocks hno hZ (fun _ h9 => h9) hK hP hD hS (fun _ h9 => h9) (nA_mono hS.1) (fun E h9 => Or.inl ⟨h9.1, h9.2⟩) rfl hl.1 rfl (Nat.le_of_ble_eq_true rfl) dC_animal_2 ⟨(Nat.le_of_ble_eq_true rfl), (Nat.le_of_ble_eq_true rfl)⟩ (Nat.le_of_ble_eq_true rfl) (Nat.le_of_ble_eq_true rfl) (fun a9 H locs ha hz hP hS => ?_)
  obtain ⟨p, hp, rfl, rfl⟩ := ha
  have f_1 : ¬ ib (nI p) (g 0 2) := by rw [hg0]; exact nib hp (by omega)
  refine lv_astore_n (lv' := [(2, .ref (ad (57 + p))), (0, .ref (ad 0)), (1, .int (nI p))]) hx hb dC_animal_5 rfl hl (by decide) rfl (fun ls hl => ?_)
  refine lv_aload_n hx hb dC_animal_6 rfl (lv_at hl 0 rfl) ?_
  refine va_get (D := D) (ci := 3) (C := RQ) (T := TQ) (N := 9) hx hb hT inQ hown hK hP (57 + p) (cw_Q hp) rfl 0 (by decide) (hT _ wm_237) (fun _ h9 => h9) rfl dC_animal_7 ?_
  refine kVr (n := 0) (D := D) (wd := fun z => cw CA z h ad) (A1 := fun sz => cA h ad sz) (As := []) (rest := []) ⟨hx, hb, hml, hown, hT⟩ (kK_parted l D CA g h ad H.size (h 2 p) (hq6 p hp) (hkk _ (hq6 p hp)).2.1 (hkk _ (hq6 p hp)).1 (hkk _ (hq6 p hp)).2.2 jp (fun p9 hp9 => (hpp p9 hp9).2)) (gi_V wm_359 wm_360 wm_361 wm_2 wm_362) rfl rfl (by decide +kernel) ⟨(Nat.le_of_ble_eq_true rfl), (Nat.le_of_ble_eq_true rfl)⟩ (va_recv hK hP (ci := 1) (q0 := 3 + 9 * (h 2 p)) rfl (cw_K (hq6 p hp))) hK hP hD hS (fun _ h9 => h9) (nA_mono hS.1) rfl hl.1 rfl (Nat.le_of_ble_eq_true rfl) dC_animal_10 ⟨(Nat.le_of_ble_eq_true rfl), (Nat.le_of_ble_eq_true rfl)⟩ (fun u_3 a_5 H locs w_4 ha_5 hz hP hD hS => ?_)
  subst ha_5
  have hpar : par g h jp (h 2 p) u_3 := w_4
  have hPP := par_P hI (hq6 p hp) hpar
  refine lv_aload_n hx hb dC_animal_13 rfl (lv_at hl 0 rfl) ?_
  refine va_get (D := D) (ci := 3) (C := RQ) (T := TQ) (N := 9) hx hb hT inQ hown hK hP (57 + p) (cw_Q hp) rfl 2 (by decide) (hT _ wm_242) (fun _ h9 => h9) rfl dC_animal_14 ?_
  refine kVi (n := 1) (D := D) (wd := fun z => cw CA z h ad) (A1 := fun sz => cA h ad sz) (As := [.int (u_3 (57 + p) 2)]) (rest := []) ⟨hx, hb, hml, hown, hT⟩ (kP_setOf l D CA u_3 h ad H.size (h 2 p) (hq6 p hp) (u_3 (57 + p) 2) _ hPP.1 (by have := (hkk _ (hq6 p hp)).1; omega)) (gi_V wm_407 wm_408 wm_409 wm_3 wm_410) rfl rfl (by decide +kernel) ⟨(Nat.le_of_ble_eq_true rfl), (Nat.le_of_ble_eq_true rfl)⟩ (va_recv hK hP (ci := 2) (q0 := 8 + 9 * (h 2 p)) rfl (cw_PT (hq6 p hp))) hK hP hD hS (fun _ h9 => h9) (nA_mono hS.1) rfl hl.1 rfl (Nat.le_of_ble_eq_true rfl) dC_animal_17 ⟨(Nat.le_of_ble_eq_true rfl), (Nat.le_of_ble_eq_true rfl)⟩ (fun r_6 u_7 H locs w_8 hz hP hD hS => ?_)
  obtain ⟨w_8, -, hu9⟩ := w_8
  rw [hu9] at hP hD
  refine vx_ret ?_
  exact W.iret (v := r_6) hx hb hr (fun t ht hW => ⟨⟨_, u_3, rfl, ⟨f_1, p, hp, rfl, hpar, fun j9 hj9 e9 => w_8 j9 hj9 (by rw [par_keep hpar (by have := hq6 p hp; omega) (by have := hq6 p hp; omega) (by have := hq6 p hp; omega) (by have := hq6 p hp; omega) (by have := hq6 p hp; omega)]; exact e9)⟩, gpost_at hP hK hD ht hW.alike⟩, hS.F ht⟩) hS.2.2 dC_animal_20
set_option maxHeartbeats 4000000 in
set_option maxRecDepth 100000 in
theorem kC_clashing (l : Launch) (hlt : l.stackTraces = false) (D : va_G) (CA : Nat → ClassId) (g : Nat → Nat → Int32) (h : Nat → Nat → Nat) (ad : Nat → Nat) (sz : Nat) (sa : Nat → Nat) (kd x : Int32) (jp : Nat → Nat) (hI : CIv g h jp) : vx_Met l yC_clashing wC_clashing (rm 18 2 12) (va_Pc [.ref (ad 0), .int kd, .int x] (fun U => gpre D (cty CA) (cw CA g h ad) sz U ∧ xz (cA h ad sz) sa U U.heap)) (va_Qi (fun r (u : Nat → Nat → Int32) => ¬ (ib kd 6 ∨ x < 0) ∧ ∃ k m, k < 6 ∧ kd = nI k ∧ par g h jp k u ∧ m < 4096 ∧ u (8 + 9 * k) 2 = nI m ∧ (∀ j, j < h 1 k → pof m x (h 1 k) 0 0 = nI j → r = u (57 + h (3 + k) j) 1) ∧ (ib (pof m x (h 1 k) 0 0) (nI (h 1 k)) → r = -1)) (fun u t => gpost D (cty CA) (cw CA u h ad) (cA h ad sz) t) (cA h ad sz)) (vx_X (fun u : Nat → Nat → Int32 => u = g) (fun E u t => te3 (ib kd 6 ∨ x < 0) False False E ∧ gpost D (cty CA) (cw CA u h ad) (cA h ad sz) t) (cA h ad sz)) 2 12 (cA h ad sz) := by
  refine vx_ofW (cc := cC_clashing) (maxL := 4) (ret := (some .int)) (by decide) rfl ?_
  intro p e s m args below meth c s₁ B hml hno hv
  obtain ⟨rfl, ⟨hsz, hP, hK, hD0⟩, hZ⟩ := hv
  have hx := B.exec
  have hb := B.bytes
  have hr := B.returns
  have hT : ∀ w ∈ TB, w.before _ s = true := fun w hw => atoms_spec (ws := wC_clashing) B.pre w (List.mem_cons_of_mem _ hw)
  have hown : s.vm.findClass "CountLeast" = some m.cls := findClass_of_methodNamed B.named
  have hlocks := B.notSynchronized
  subst hsz
  have hD := nA_self (sz := s.heap.size) hD0
  have hS : va_S (cA h ad s.heap.size) s.heap s.heap [] := va_S.rf
  have hP : va_P D vwCl (cw CA g h ad) s.heap := hP
  have hl := lv_entry ([.ref (ad 0), .int kd, .int x]) (n := 4) (Nat.le_of_ble_eq_true rfl)
  rw [lg_entry_eq]
  generalize (lg_sl ([.ref (ad 0), .int kd, .int x]) ++ List.replicate (4 - (lg_sl ([.ref (ad 0), .int kd, .int x])).length) Slot.unset).toArray = ls at hl ⊢
  have hl : lv_has ls 4 [(0, .ref (ad 0)), (1, .int kd), (2, .int x)] := hl
  have hn72 := hI.1
  have hg0 := hI.2.1
  have hkk := hI.2.2.1
  have hpp := hI.2.2.2.1
  have hq6 : ∀ p, p < h 0 0 → h 2 p < 6 := fun p hp => (hpp p hp).1
  refine lv_aload_n hx hb dC_clashing_0 rfl (lv_at hl 0 rfl) ?_
  refine lv_iload_n hx hb dC_clashing_1 rfl (lv_at hl 1 rfl) ?_
  refine kVx (n := 1) (D := D) (wd := fun z => cw CA z h ad) (A1 := fun sz => cA h ad sz) (As := [.int kd]) (rest := []) (te := (te3 (ib kd 6 ∨ x < 0) False False)) ⟨hx, hb, hml, hown, hT⟩ (kC_kindAt l hlt D CA g h ad s.heap.size sa kd) (gi_V wm_120 wm_122 wp_0 wm_1 wm_123) rfl rfl (by decide +kernel) ⟨(Nat.le_of_ble_eq_true rfl), (Nat.le_of_ble_eq_true rfl)⟩ (va_recv hK hP (ci := 0) (q0 := 0) rfl cw_X) hlocks hno hZ (fun _ h9 => h9) hK hP hD hS (fun _ h9 => h9) (nA_mono hS.1) (fun E h9 => Or.inl ⟨h9.1, (Or.inl h9.2)⟩) rfl hl.1 rfl (Nat.le_of_ble_eq_true rfl) dC_clashing_2 ⟨(Nat.le_of_ble_eq_true rfl), (Nat.le_of_ble_eq_true rfl)⟩ (Nat.le_of_ble_eq_true rfl) (Nat.le_of_ble_eq_true rfl) (fun a9 H locs ha hz hP hS => ?_)
  obtain ⟨k, hk, rfl, rfl⟩ := ha
  have f_1 : ¬ ib (nI k) 6 := nib hk (by decide)
  refine lv_astore_n (lv' := [(3, .ref (ad (3 + 9 * k))), (0, .ref (ad 0)), (1, .int (nI k)), (2, .int x)]) hx hb dC_clashing_5 rfl hl (by decide) rfl (fun ls hl => ?_)
  refine lv_iload_n hx hb dC_clashing_6 rfl (lv_at hl 3 rfl) ?_
  refine lv_if_ge (tgt := 20) hx hb dC_clashing_7 (by decide) (fun c_2 => ?_) (fun c_2 => ?_)
  · refine lv_aload_n hx hb dC_clashing_20 rfl (lv_at hl 0 rfl) ?_
    refine lv_aload_n hx hb dC_clashing_21 rfl (lv_at hl 0 rfl) ?_
    refine kVr (n := 0) (D := D) (wd := fun z => cw CA z h ad) (A1 := fun sz => cA h ad sz) (As := []) (rest := [.ref (ad (3 + 9 * k))]) ⟨hx, hb, hml, hown, hT⟩ (kK_parted l D CA g h ad H.size k hk (hkk _ hk).2.1 (hkk _ hk).1 (hkk _ hk).2.2 jp (fun p9 hp9 => (hpp p9 hp9).2)) (gi_V wm_359 wm_360 wm_361 wm_2 wm_362) rfl rfl (by decide +kernel) ⟨(Nat.le_of_ble_eq_true rfl), (Nat.le_of_ble_eq_true rfl)⟩ (va_recv hK hP (ci := 1) (q0 := 3 + 9 * k) rfl (cw_K hk)) hK hP hD hS (fun _ h9 => h9) (nA_mono hS.1) rfl hl.1 rfl (Nat.le_of_ble_eq_true rfl) dC_clashing_22 ⟨(Nat.le_of_ble_eq_true rfl), (Nat.le_of_ble_eq_true rfl)⟩ (fun u_4 a_6 H locs w_5 ha_6 hz hP hD hS => ?_)
    subst ha_6
    have hpar : par g h jp k u_4 := w_5
    have hPP := par_P hI hk hpar
    obtain ⟨m9, K9, hm1, hK1, hm2, hK2⟩ := hPP.2.2
    refine lv_iload_n hx hb dC_clashing_25 rfl (lv_at hl 3 rfl) ?_
    refine kVi (n := 1) (D := D) (wd := fun z => cw CA z h ad) (A1 := fun sz => cA h ad sz) (As := [.int x]) (rest := [.ref (ad (3 + 9 * k))]) ⟨hx, hb, hml, hown, hT⟩ (kP_placeOfFoe l D CA u_4 h ad H.size k hk x (h 1 k) m9 hPP.1 (by have := (hkk k hk).1; omega) hm2 hm1) (gi_V wm_419 wm_420 wm_421 wm_3 wm_422) rfl rfl (by decide +kernel) ⟨(Nat.le_of_ble_eq_true rfl), (Nat.le_of_ble_eq_true rfl)⟩ (va_recv hK hP (ci := 2) (q0 := 8 + 9 * k) rfl (cw_PT hk)) hK hP hD hS (fun _ h9 => h9) (nA_mono hS.1) rfl hl.1 rfl (Nat.le_of_ble_eq_true rfl) dC_clashing_26 ⟨(Nat.le_of_ble_eq_true rfl), (Nat.le_of_ble_eq_true rfl)⟩ (fun r_7 u_8 H locs w_9 hz hP hD hS => ?_)
    obtain ⟨w_9, hu9⟩ := w_9
    rw [hu9] at hP hD
    refine kVi (n := 1) (D := D) (wd := fun z => cw CA z h ad) (A1 := fun sz => cA h ad sz) (As := [.int r_7]) (rest := []) ⟨hx, hb, hml, hown, hT⟩ (kK_numberAt l D CA u_4 h ad H.size k hk r_7 ((par_CI hI hk hpar).2.2.1 k hk).2.1 (hkk k hk).1 (hkk k hk).2.2) (gi_V wm_423 wm_424 wm_425 wm_2 wm_426) rfl rfl (by decide +kernel) ⟨(Nat.le_of_ble_eq_true rfl), (Nat.le_of_ble_eq_true rfl)⟩ (va_recv hK hP (ci := 1) (q0 := 3 + 9 * k) rfl (cw_K hk)) hK hP hD hS (fun _ h9 => h9) (nA_mono hS.1) rfl hl.1 rfl (Nat.le_of_ble_eq_true rfl) dC_clashing_29 ⟨(Nat.le_of_ble_eq_true rfl), (Nat.le_of_ble_eq_true rfl)⟩ (fun r_11 u_12 H locs w_13 hz hP hD hS => ?_)
    obtain ⟨hn1, hn2, hu9⟩ := w_13
    rw [hu9] at hP hD
    refine W.widen (k := 2) (n := 12) (Nat.le_of_ble_eq_true rfl) (Nat.le_of_ble_eq_true rfl) ?_
    refine vx_ret ?_
    exact W.iret (v := r_11) hx hb hr (fun t ht hW => ⟨⟨_, u_4, rfl, ⟨(not_or.mpr ⟨f_1, by have := c_2; rw [← Int32.not_lt] at this; exact this⟩), k, m9, hk, rfl, hpar, hm1, hm2, by rw [← w_9]; exact hn1, by rw [← w_9]; exact hn2⟩, gpost_at hP hK hD ht hW.alike⟩, hS.F ht⟩) hS.2.2 dC_clashing_32
  · exact xt1 (is := 120) (text := "no such place") hx hb hlt hown hT hZ hZ.2.2.2.2.2.2.2.2.2 hS hml hl.1 dC_clashing_10 dC_clashing_13 dC_clashing_14 dC_clashing_16 dC_clashing_19 hno (Nat.le_of_ble_eq_true rfl) (Nat.le_of_ble_eq_true rfl) (Nat.le_of_ble_eq_true rfl) (Nat.le_of_ble_eq_true rfl) hlocks (fun t ha h1 h2 => xout (wd := fun z => cw CA z h ad) (te := (te3 (ib (nI k) 6 ∨ x < 0) False False)) hK hP hD hS ha h1 h2 (Or.inl ⟨rfl, Or.inr (by have := c_2; rw [Int32.not_le] at this; exact this)⟩)) hS.2.2 (Nat.le_of_ble_eq_true rfl) (Nat.le_of_ble_eq_true rfl)
set_option maxHeartbeats 4000000 in
set_option maxRecDepth 100000 in
theorem kC_sum (l : Launch) (hlt : l.stackTraces = false) (D : va_G) (CA : Nat → ClassId) (g : Nat → Nat → Int32) (h : Nat → Nat → Nat) (ad : Nat → Nat) (sz : Nat) (sa : Nat → Nat) (kd : Int32) (jp : Nat → Nat) (hI : CIv g h jp) : vx_Met l yC_sum wC_sum (rm 1 1 6) (va_Pc [.ref (ad 0), .int kd] (fun U => gpre D (cty CA) (cw CA g h ad) sz U ∧ xz (cA h ad sz) sa U U.heap)) (va_Qi (fun r (u : Nat → Nat → Int32) => ¬ (ib kd 6) ∧ ∃ k, k < 6 ∧ kd = nI k ∧ r = l_sum (fun j => g (57 + h (3 + k) j) 8) (h 1 k) ∧ u = g) (fun u t => gpost D (cty CA) (cw CA u h ad) (cA h ad sz) t) (cA h ad sz)) (vx_X (fun u : Nat → Nat → Int32 => u = g) (fun E u t => te3 (ib kd 6) False False E ∧ gpost D (cty CA) (cw CA u h ad) (cA h ad sz) t) (cA h ad sz)) 1 6 (cA h ad sz) := by
  refine vx_ofW (cc := cC_sum) (maxL := 2) (ret := (some .int)) (by decide) rfl ?_
  intro p e s m args below meth c s₁ B hml hno hv
  obtain ⟨rfl, ⟨hsz, hP, hK, hD0⟩, hZ⟩ := hv
  have hx := B.exec
  have hb := B.bytes
  have hr := B.returns
  have hT : ∀ w ∈ TB, w.before _ s = true := fun w hw => atoms_spec (ws := wC_sum) B.pre w (List.mem_cons_of_mem _ hw)
  have hown : s.vm.findClass "CountLeast" = some m.cls := findClass_of_methodNamed B.named
  have hlocks := B.notSynchronized
  subst hsz
  have hD := nA_self (sz := s.heap.size) hD0
  have hS : va_S (cA h ad s.heap.size) s.heap s.heap [] := va_S.rf
  have hP : va_P D vwCl (cw CA g h ad) s.heap := hP
  have hl := lv_entry ([.ref (ad 0), .int kd]) (n := 2) (Nat.le_of_ble_eq_true rfl)
  rw [lg_entry_eq]
  generalize (lg_sl ([.ref (ad 0), .int kd]) ++ List.replicate (2 - (lg_sl ([.ref (ad 0), .int kd])).length) Slot.unset).toArray = ls at hl ⊢
  have hl : lv_has ls 2 [(0, .ref (ad 0)), (1, .int kd)] := hl
  have hn72 := hI.1
  have hg0 := hI.2.1
  have hkk := hI.2.2.1
  have hpp := hI.2.2.2.1
  have hq6 : ∀ p, p < h 0 0 → h 2 p < 6 := fun p hp => (hpp p hp).1
  refine lv_aload_n hx hb dC_sum_0 rfl (lv_at hl 0 rfl) ?_
  refine lv_iload_n hx hb dC_sum_1 rfl (lv_at hl 1 rfl) ?_
  refine kVx (n := 1) (D := D) (wd := fun z => cw CA z h ad) (A1 := fun sz => cA h ad sz) (As := [.int kd]) (rest := []) (te := (te3 (ib kd 6) False False)) ⟨hx, hb, hml, hown, hT⟩ (kC_kindAt l hlt D CA g h ad s.heap.size sa kd) (gi_V wm_120 wm_122 wp_0 wm_1 wm_123) rfl rfl (by decide +kernel) ⟨(Nat.le_of_ble_eq_true rfl), (Nat.le_of_ble_eq_true rfl)⟩ (va_recv hK hP (ci := 0) (q0 := 0) rfl cw_X) hlocks hno hZ (fun _ h9 => h9) hK hP hD hS (fun _ h9 => h9) (nA_mono hS.1) (fun E h9 => Or.inl ⟨h9.1, h9.2⟩) rfl hl.1 rfl (Nat.le_of_ble_eq_true rfl) dC_sum_2 ⟨(Nat.le_of_ble_eq_true rfl), (Nat.le_of_ble_eq_true rfl)⟩ (Nat.le_of_ble_eq_true rfl) (Nat.le_of_ble_eq_true rfl) (fun a9 H locs ha hz hP hS => ?_)
  obtain ⟨k, hk, rfl, rfl⟩ := ha
  have f_1 : ¬ ib (nI k) 6 := nib hk (by decide)
  refine kVi (n := 0) (D := D) (wd := fun z => cw CA z h ad) (A1 := fun sz => cA h ad sz) (As := []) (rest := []) ⟨hx, hb, hml, hown, hT⟩ (kK_gramsTogether l D CA g h ad H.size k hk (hkk k hk).2.1 (hkk k hk).1 (hkk k hk).2.2) (gi_V wm_442 wm_443 wm_444 wm_2 wm_445) rfl rfl (by decide +kernel) ⟨(Nat.le_of_ble_eq_true rfl), (Nat.le_of_ble_eq_true rfl)⟩ (va_recv hK hP (ci := 1) (q0 := 3 + 9 * k) rfl (cw_K hk)) hK hP hD hS (fun _ h9 => h9) (nA_mono hS.1) rfl hl.1 rfl (Nat.le_of_ble_eq_true rfl) dC_sum_5 ⟨(Nat.le_of_ble_eq_true rfl), (Nat.le_of_ble_eq_true rfl)⟩ (fun r_2 u_3 H locs w_4 hz hP hD hS => ?_)
  obtain ⟨w_4, hu9⟩ := w_4
  rw [hu9] at hP hD
  refine vx_ret ?_
  exact W.iret (v := r_2) hx hb hr (fun t ht hW => ⟨⟨_, g, rfl, ⟨f_1, k, hk, rfl, w_4, rfl⟩, gpost_at hP hK hD ht hW.alike⟩, hS.F ht⟩) hS.2.2 dC_sum_8
theorem n32n (n : Nat) (hn : n < 2 ^ 31) : n32 (nI n) = n := pk_tn (by omega)
set_option maxHeartbeats 4000000 in
set_option maxRecDepth 100000 in
theorem kC_clash (l : Launch) (hlt : l.stackTraces = false) (D : va_G) (CA : Nat → ClassId) (g : Nat → Nat → Int32) (h : Nat → Nat → Nat) (ad : Nat → Nat) (sz : Nat) (sa : Nat → Nat) (p1 q1 : Int32) (jp : Nat → Nat) (hI : CIv g h jp) : vx_Met l yC_clash wC_clash (rm 2 3 18) (va_Pc [.ref (ad 0), .int p1, .int q1] (fun U => gpre D (cty CA) (cw CA g h ad) sz U ∧ xz (cA h ad sz) sa U U.heap)) (va_Qi (fun r (u : Nat → Nat → Int32) => ¬ (ib p1 (g 0 2) ∨ ib q1 (g 0 2)) ∧ ¬ (p1 = q1 ∨ ¬ h 2 (n32 p1) = h 2 (n32 q1)) ∧ ∃ p p2, p < h 0 0 ∧ p2 < h 0 0 ∧ p1 = nI p ∧ q1 = nI p2 ∧ h 2 p = h 2 p2 ∧ r = ruI g (h 2 p) (jp p) p p2 ∧ u = g) (fun u t => gpost D (cty CA) (cw CA u h ad) (cA h ad sz) t) (cA h ad sz)) (vx_X (fun u : Nat → Nat → Int32 => u = g) (fun E u t => te3 (ib p1 (g 0 2) ∨ ib q1 (g 0 2)) (p1 = q1 ∨ ¬ h 2 (n32 p1) = h 2 (n32 q1)) False E ∧ gpost D (cty CA) (cw CA u h ad) (cA h ad sz) t) (cA h ad sz)) 3 18 (cA h ad sz) := by
  refine vx_ofW (cc := cC_clash) (maxL := 5) (ret := (some .int)) (by decide) rfl ?_
  intro p e s m args below meth c s₁ B hml hno hv
  obtain ⟨rfl, ⟨hsz, hP, hK, hD0⟩, hZ⟩ := hv
  have hx := B.exec
  have hb := B.bytes
  have hr := B.returns
  have hT : ∀ w ∈ TB, w.before _ s = true := fun w hw => atoms_spec (ws := wC_clash) B.pre w (List.mem_cons_of_mem _ hw)
  have hown : s.vm.findClass "CountLeast" = some m.cls := findClass_of_methodNamed B.named
  have hlocks := B.notSynchronized
  subst hsz
  have hD := nA_self (sz := s.heap.size) hD0
  have hS : va_S (cA h ad s.heap.size) s.heap s.heap [] := va_S.rf
  have hP : va_P D vwCl (cw CA g h ad) s.heap := hP
  have hl := lv_entry ([.ref (ad 0), .int p1, .int q1]) (n := 5) (Nat.le_of_ble_eq_true rfl)
  rw [lg_entry_eq]
  generalize (lg_sl ([.ref (ad 0), .int p1, .int q1]) ++ List.replicate (5 - (lg_sl ([.ref (ad 0), .int p1, .int q1])).length) Slot.unset).toArray = ls at hl ⊢
  have hl : lv_has ls 5 [(0, .ref (ad 0)), (1, .int p1), (2, .int q1)] := hl
  have hn72 := hI.1
  have hg0 := hI.2.1
  have hkk := hI.2.2.1
  have hpp := hI.2.2.2.1
  have hq6 : ∀ p, p < h 0 0 → h 2 p < 6 := fun p hp => (hpp p hp).1
  refine lv_aload_n hx hb dC_clash_0 rfl (lv_at hl 0 rfl) ?_
  refine lv_iload_n hx hb dC_clash_1 rfl (lv_at hl 1 rfl) ?_
  refine kVx (n := 1) (D := D) (wd := fun z => cw CA z h ad) (A1 := fun sz => cA h ad sz) (As := [.int p1]) (rest := []) (te := (te3 (ib p1 (g 0 2) ∨ ib q1 (g 0 2)) (p1 = q1 ∨ ¬ h 2 (n32 p1) = h 2 (n32 q1)) False)) ⟨hx, hb, hml, hown, hT⟩ (kC_pieceAt l hlt D CA g h ad s.heap.size sa p1 hn72 hg0) (gi_V wm_310 wm_312 wp_2 wm_1 wm_313) rfl rfl (by decide +kernel) ⟨(Nat.le_of_ble_eq_true rfl), (Nat.le_of_ble_eq_true rfl)⟩ (va_recv hK hP (ci := 0) (q0 := 0) rfl cw_X) hlocks hno hZ (fun _ h9 => h9) hK hP hD hS (fun _ h9 => h9) (nA_mono hS.1) (fun E h9 => Or.inl ⟨h9.1, (Or.inl h9.2)⟩) rfl hl.1 rfl (Nat.le_of_ble_eq_true rfl) dC_clash_2 ⟨(Nat.le_of_ble_eq_true rfl), (Nat.le_of_ble_eq_true rfl)⟩ (Nat.le_of_ble_eq_true rfl) (Nat.le_of_ble_eq_true rfl) (fun a9 H locs ha hz hP hS => ?_)
  obtain ⟨p, hp, rfl, rfl⟩ := ha
  have f_1 : ¬ ib (nI p) (g 0 2) := by rw [hg0]; exact nib hp (by omega)
  refine lv_astore_n (lv' := [(3, .ref (ad (57 + p))), (0, .ref (ad 0)), (1, .int (nI p)), (2, .int q1)]) hx hb dC_clash_5 rfl hl (by decide) rfl (fun ls hl => ?_)
  refine lv_aload_n hx hb dC_clash_6 rfl (lv_at hl 1 rfl) ?_
  refine lv_iload_n hx hb dC_clash_7 rfl (lv_at hl 3 rfl) ?_
  refine kVx (n := 1) (D := D) (wd := fun z => cw CA z h ad) (A1 := fun sz => cA h ad sz) (As := [.int q1]) (rest := []) (te := (te3 (ib (nI p) (g 0 2) ∨ ib q1 (g 0 2)) ((nI p) = q1 ∨ ¬ h 2 (n32 (nI p)) = h 2 (n32 q1)) False)) ⟨hx, hb, hml, hown, hT⟩ (kC_pieceAt l hlt D CA g h ad H.size sa q1 hn72 hg0) (gi_V wm_310 wm_312 wp_2 wm_1 wm_313) rfl rfl (by decide +kernel) ⟨(Nat.le_of_ble_eq_true rfl), (Nat.le_of_ble_eq_true rfl)⟩ (va_recv hK hP (ci := 0) (q0 := 0) rfl cw_X) hlocks hno hZ (fun _ h9 => h9) hK hP hD hS (fun _ h9 => h9) (nA_mono hS.1) (fun E h9 => Or.inl ⟨h9.1, (Or.inr h9.2)⟩) rfl hl.1 rfl (Nat.le_of_ble_eq_true rfl) dC_clash_8 ⟨(Nat.le_of_ble_eq_true rfl), (Nat.le_of_ble_eq_true rfl)⟩ (Nat.le_of_ble_eq_true rfl) (Nat.le_of_ble_eq_true rfl) (fun a9 H locs ha hz hP hS => ?_)
  obtain ⟨p2, hp2, rfl, rfl⟩ := ha
  have f_2 : ¬ ib (nI p2) (g 0 2) := by rw [hg0]; exact nib hp2 (by omega)
  refine lv_astore (lv' := [(4, .ref (ad (57 + p2))), (3, .ref (ad (57 + p))), (0, .ref (ad 0)), (1, .int (nI p)), (2, .int (nI p2))]) hx hb dC_clash_11 hl (by decide) rfl (fun ls hl => ?_)
  refine lv_iload_n hx hb dC_clash_13 rfl (lv_at hl 3 rfl) ?_
  refine lv_iload_n hx hb dC_clash_14 rfl (lv_at hl 4 rfl) ?_
  refine lv_icmp_eq (tgt := 30) hx hb dC_clash_15 (by decide) (fun c_3 => ?_) (fun c_3 => ?_)
  · exact xt2 (is := 95) (text := "not two pieces of one kind") hx hb hlt hown hT hZ hZ.2.2.2.2.2.2.2.2.1 hS hml hl.1 dC_clash_30 dC_clash_33 dC_clash_34 dC_clash_36 dC_clash_39 hno (Nat.le_of_ble_eq_true rfl) (Nat.le_of_ble_eq_true rfl) (Nat.le_of_ble_eq_true rfl) (Nat.le_of_ble_eq_true rfl) hlocks (fun t ha h1 h2 => xout (wd := fun z => cw CA z h ad) (te := (te3 (ib (nI p) (g 0 2) ∨ ib (nI p2) (g 0 2)) ((nI p) = (nI p2) ∨ ¬ h 2 (n32 (nI p)) = h 2 (n32 (nI p2))) False)) hK hP hD hS ha h1 h2 (Or.inr (Or.inl ⟨rfl, (not_or.mpr ⟨f_1, f_2⟩), Or.inl c_3⟩))) hS.2.2 (Nat.le_of_ble_eq_true rfl) (Nat.le_of_ble_eq_true rfl)
  · refine lv_aload_n hx hb dC_clash_18 rfl (lv_at hl 1 rfl) ?_
    refine va_get (D := D) (ci := 3) (C := RQ) (T := TQ) (N := 9) hx hb hT inQ hown hK hP (57 + p) (cw_Q hp) rfl 0 (by decide) (hT _ wm_237) (fun _ h9 => h9) rfl dC_clash_19 ?_
    refine lv_aload hx hb dC_clash_22 (lv_at hl 0 rfl) ?_
    refine va_get (D := D) (ci := 3) (C := RQ) (T := TQ) (N := 9) hx hb hT inQ hown hK hP (57 + p2) (cw_Q hp2) rfl 0 (by decide) (hT _ wm_237) (fun _ h9 => h9) rfl dC_clash_24 ?_
    refine lv_acmp_eq (rx := some (ad (3 + 9 * (h 2 p)))) (ry := some (ad (3 + 9 * (h 2 p2)))) (tgt := 40) hx hb dC_clash_27 (by decide) (fun c_4 => ?_) (fun c_4 => ?_)
    · have hkeq : h 2 p = h 2 p2 := by have := (nw_D.mp hD).1 _ _ (by have := hq6 p hp; omega) (by have := hq6 p2 hp2; omega) (Option.some.inj c_4); omega
      refine lv_aload_n hx hb dC_clash_40 rfl (lv_at hl 1 rfl) ?_
      refine va_get (D := D) (ci := 3) (C := RQ) (T := TQ) (N := 9) hx hb hT inQ hown hK hP (57 + p) (cw_Q hp) rfl 0 (by decide) (hT _ wm_237) (fun _ h9 => h9) rfl dC_clash_41 ?_
      refine lv_aload_n hx hb dC_clash_44 rfl (lv_at hl 1 rfl) ?_
      refine lv_aload hx hb dC_clash_45 (lv_at hl 0 rfl) ?_
      refine kVi (n := 2) (D := D) (wd := fun z => cw CA z h ad) (A1 := fun sz => cA h ad sz) (As := [.ref (ad (57 + p)), .ref (ad (57 + p2))]) (rest := []) ⟨hx, hb, hml, hown, hT⟩ (kK_ruleBetween l D CA g h ad H.size (h 2 p) (hq6 p hp) p p2 hp hp2 (jp p) (hpp p hp).2.1 (hpp p hp).2.2) (gi_V wm_337 wm_338 wm_339 wm_2 wm_340) rfl rfl (by decide +kernel) ⟨(Nat.le_of_ble_eq_true rfl), (Nat.le_of_ble_eq_true rfl)⟩ (va_recv hK hP (ci := 1) (q0 := 3 + 9 * (h 2 p)) rfl (cw_K (hq6 p hp))) hK hP hD hS (fun _ h9 => h9) (nA_mono hS.1) rfl hl.1 rfl (Nat.le_of_ble_eq_true rfl) dC_clash_47 ⟨(Nat.le_of_ble_eq_true rfl), (Nat.le_of_ble_eq_true rfl)⟩ (fun r_5 u_6 H locs w_7 hz hP hD hS => ?_)
      obtain ⟨w_7, hu9⟩ := w_7
      rw [hu9] at hP hD
      refine W.widen (k := 3) (n := 18) (Nat.le_of_ble_eq_true rfl) (Nat.le_of_ble_eq_true rfl) ?_
      refine vx_ret ?_
      exact W.iret (v := r_5) hx hb hr (fun t ht hW => ⟨⟨_, g, rfl, ⟨(not_or.mpr ⟨f_1, f_2⟩), (not_or.mpr ⟨c_3, fun q9 => q9 (by rw [n32n p (by omega), n32n p2 (by omega)]; exact hkeq)⟩), p, p2, hp, hp2, rfl, rfl, hkeq, w_7, rfl⟩, gpost_at hP hK hD ht hW.alike⟩, hS.F ht⟩) hS.2.2 dC_clash_50
    · exact xt2 (is := 95) (text := "not two pieces of one kind") hx hb hlt hown hT hZ hZ.2.2.2.2.2.2.2.2.1 hS hml hl.1 dC_clash_30 dC_clash_33 dC_clash_34 dC_clash_36 dC_clash_39 hno (Nat.le_of_ble_eq_true rfl) (Nat.le_of_ble_eq_true rfl) (Nat.le_of_ble_eq_true rfl) (Nat.le_of_ble_eq_true rfl) hlocks (fun t ha h1 h2 => xout (wd := fun z => cw CA z h ad) (te := (te3 (ib (nI p) (g 0 2) ∨ ib (nI p2) (g 0 2)) ((nI p) = (nI p2) ∨ ¬ h 2 (n32 (nI p)) = h 2 (n32 (nI p2))) False)) hK hP hD hS ha h1 h2 (Or.inr (Or.inl ⟨rfl, (not_or.mpr ⟨f_1, f_2⟩), Or.inr (fun q9 => c_4 (by rw [n32n p (by omega), n32n p2 (by omega)] at q9; rw [q9]))⟩))) hS.2.2 (Nat.le_of_ble_eq_true rfl) (Nat.le_of_ble_eq_true rfl)
