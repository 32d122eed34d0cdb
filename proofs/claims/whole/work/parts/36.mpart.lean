theorem gm_st {g : Nat → Nat → Int32} : u2 g 17 0 0 = gm g (fun b => n32 (g 16 b)) (va_up (fun b => n32 (g 17 b)) 0 0) := by
  conv => lhs; rw [← gm_self (g := g)]
  exact gm_ub (v := 0)
abbrev c00 : Nat → Nat := fun _ => 0
theorem nI_m1 {n : Nat} (h : n < 2 ^ 31) : ¬ (-1 : Int32) = nI n := by
  intro z
  have := nI_pos (n := n) h
  rw [← z] at this
  exact this (by decide)
/-! a place for each can always be found -/
theorem fN_new {c : Nat → Nat} {cm : Nat → Nat → Bool} {i x : Nat} : ∀ q, (∀ j, j < q → c j ≠ x) → fN c cm i x q = true := by
  intro q
  induction q with
  | zero => intro _; rfl
  | succ q ih =>
    intro h
    unfold fN
    rw [ih (fun j hj => h j (by omega))]
    simp [h q (by omega)]
theorem tr_some {rec : Nat → Option (Nat → Nat)} : ∀ f x y, x ≤ y → y < x + f → (rec y).isSome = true → (tr rec f x).isSome = true := by
  intro f
  induction f with
  | zero => intro x y h1 h2; omega
  | succ f ih =>
    intro x y h1 h2 h3
    unfold tr
    cases hq : rec x with
    | some r => rfl
    | none =>
      by_cases hxy : x = y
      · subst hxy; rw [hq] at h3; cases h3
      · exact ih (x + 1) y (by omega) (by omega) h3
theorem fs_some {cm : Nat → Nat → Bool} {K : Nat} : ∀ d pl us c, (∀ j, j < pl → c j < us) → us ≤ pl → pl + d ≤ K → (fs cm K d pl us c).isSome = true := by
  intro d
  induction d with
  | zero => intro pl us c _ _ _; rfl
  | succ d ih =>
    intro pl us c hc hu hK
    unfold fs
    refine tr_some _ 0 us (by omega) (by omega) ?_
    rw [fN_new pl (fun j hj => by have := hc j hj; omega)]
    refine ih (pl + 1) _ _ (fun j hj => ?_) (by omega) (by omega)
    by_cases h1 : j = pl
    · subst h1; rw [va_up_self]; omega
    · rw [va_up_ne _ _ h1]; have := hc j (by omega); omega
def lK (cm : Nat → Nat → Bool) (n : Nat) : Nat → Nat → Nat
  | 0, K => K
  | f + 1, K => if (fs cm K n 0 0 c00).isSome = true then K else lK cm n f (K + 1)
/-- the least number of animals -/
def lstN (cm : Nat → Nat → Bool) (n : Nat) : Nat := if n = 0 then 0 else lK cm n (n - 1) 1
theorem lK_le {cm : Nat → Nat → Bool} {n : Nat} : ∀ f K, K ≤ lK cm n f K ∧ lK cm n f K ≤ K + f := by
  intro f
  induction f with
  | zero => intro K; exact ⟨Nat.le_refl _, Nat.le_refl _⟩
  | succ f ih =>
    intro K
    unfold lK
    split
    · omega
    · have := ih (K + 1); omega
theorem lK_some {cm : Nat → Nat → Bool} {n : Nat} : ∀ f K, n ≤ K + f → (fs cm (lK cm n f K) n 0 0 c00).isSome = true := by
  intro f
  induction f with
  | zero => intro K h; exact fs_some n 0 0 c00 (fun j hj => by omega) (by omega) (by unfold lK; omega)
  | succ f ih =>
    intro K h
    unfold lK
    split
    · assumption
    · exact ih (K + 1) (by omega)
theorem lK_none {cm : Nat → Nat → Bool} {n : Nat} : ∀ f K J, K ≤ J → J < lK cm n f K → fs cm J n 0 0 c00 = none := by
  intro f
  induction f with
  | zero => intro K J h1 h2; unfold lK at h2; omega
  | succ f ih =>
    intro K J h1 h2
    unfold lK at h2
    split at h2
    · omega
    · rename_i h3
      by_cases hJ : J = K
      · subst hJ; exact Option.not_isSome_iff_eq_none.mp h3
      · exact ih (K + 1) J (by omega) h2
theorem lstN_le {cm : Nat → Nat → Bool} {n : Nat} : lstN cm n ≤ n := by
  unfold lstN
  split
  · omega
  · have := (lK_le (cm := cm) (n := n) (n - 1) 1).2; omega
def prM (g : Nat → Nat → Int32) (h : Nat → Nat → Nat) (jp : Nat → Nat) (k : Nat) (r : Int32) (u : Nat → Nat → Int32) : Prop :=
  r = nI (lstN (cM g h jp k) (h 1 k)) ∧ ∃ an be : Nat → Nat, u = gm g an be ∧ (0 < h 1 k → ∃ r9, fs (cM g h jp k) (lstN (cM g h jp k) (h 1 k)) (h 1 k) 0 0 c00 = some r9 ∧ ∀ j, j < h 1 k → an j = r9 j)
def shN (g : Nat → Nat → Int32) (h : Nat → Nat → Nat) (jp : Nat → Nat) : Nat → Nat
  | 0 => 0
  | i + 1 => shN g h jp i + lstN (cM g h jp i) (h 1 i)
theorem shN_le {g : Nat → Nat → Int32} {h : Nat → Nat → Nat} {jp : Nat → Nat} (hm : MI g h jp) : ∀ i, i ≤ 6 → shN g h jp i ≤ 12 * i := by
  intro i
  induction i with
  | zero => intro _; exact Nat.le_refl _
  | succ i ih =>
    intro hi
    have h1 := ih (by omega)
    have h2 := hm.c12 (k := i) (by omega)
    have h3 := lstN_le (cm := cM g h jp i) (n := h 1 i)
    show shN g h jp i + _ ≤ _
    omega
set_option maxHeartbeats 4000000 in
set_option maxRecDepth 100000 in
theorem kM_parts (l : Launch) (D : va_G) (CA : Nat → ClassId) (g : Nat → Nat → Int32) (ad : Nat → Nat) (sz : Nat) (h : Nat → Nat → Nat) (jp : Nat → Nat) (hm : MI g h jp) (k K : Nat) (hk : k < 6) (hK1 : 1 ≤ K) (hK9 : K < 40) : Met l yM_parts wM_parts (rm 3 0 0) (va_Pc [.ref (ad 0), .int (nI k), .int (nI K)] (gpre D (cty CA) (mw CA g ad) sz)) (va_Qi (fun r (u : Nat → Nat → Int32) => ∃ an be, u = gm g an be ∧ ((∃ r9, fs (cM g h jp k) K (h 1 k) 0 0 c00 = some r9 ∧ r = 1 ∧ ∀ j, j < h 1 k → an j = r9 j) ∨ (fs (cM g h jp k) K (h 1 k) 0 0 c00 = none ∧ r = 0))) (fun u t => gpost D (cty CA) (mw CA u ad) (mA ad sz) t) (mA ad sz)) 0 0 (mA ad sz) := by
  refine Met.ofW (cc := cM_parts) (maxL := 8) (ret := (some .boolean)) (by decide) rfl ?_
  intro p e s m args below meth c s₁ B hml hv
  obtain ⟨rfl, hsz, hP, hK, hD0⟩ := hv
  have hx := B.exec
  have hb := B.bytes
  have hr := B.returns
  have hT : ∀ w ∈ TB, w.before _ s = true := fun w hw => atoms_spec (ws := wM_parts) B.pre w (List.mem_cons_of_mem _ hw)
  have hown : s.vm.findClass "CountLeastModel" = some m.cls := findClass_of_methodNamed B.named
  have hlocks := B.notSynchronized
  subst hsz
  have hD := nA_self (sz := s.heap.size) hD0
  have hS : va_S (mA ad s.heap.size) s.heap s.heap [] := va_S.rf
  have hP : va_P D vwCl (mw CA g ad) s.heap := hP
  have hl := lv_entry ([.ref (ad 0), .int (nI k), .int (nI K)]) (n := 8) (Nat.le_of_ble_eq_true rfl)
  rw [lg_entry_eq]
  generalize (lg_sl ([.ref (ad 0), .int (nI k), .int (nI K)]) ++ List.replicate (8 - (lg_sl ([.ref (ad 0), .int (nI k), .int (nI K)])).length) Slot.unset).toArray = ls at hl ⊢
  have hl : lv_has ls 8 [(0, .ref (ad 0)), (1, .int (nI k)), (2, .int (nI K))] := hl
  have h12 := hm.c12 hk
  refine lv_aload_n hx hb dM_parts_0 rfl (lv_at hl 0 rfl) ?_
  refine va_get (D := D) (ci := 4) (C := RM) (T := TM) (N := 21) hx hb hT inM hown hK hP (0) (mw_O) rfl 9 (by decide) (hT _ wm_508) (fun _ h9 => h9) rfl dM_parts_1 ?_
  refine lv_iload_n hx hb dM_parts_4 rfl (lv_at hl 1 rfl) ?_
  refine va_iald (D := D) hx hb hK hP (8) 0 (mw_a8) rfl (vp_in_nI (by omega) (by decide)) dM_parts_5 ?_
  rw [nI_clamp (n := k) (by omega)]
  refine W.eq (g2 := F0 m 6 ls [.int (nI (h 1 k))]) (by rw [hm.cnt (k := k) (by omega)]) ?_
  refine lv_istore_n (lv' := [(3, .int (nI (h 1 k))), (0, .ref (ad 0)), (1, .int (nI k)), (2, .int (nI K))]) hx hb dM_parts_6 rfl hl (by decide) rfl (fun ls hl => ?_)
  refine lv_iconst (v := 0) hx hb dM_parts_7 (by decide) ?_
  refine lv_istore (lv' := [(4, .int 0), (3, .int (nI (h 1 k))), (0, .ref (ad 0)), (1, .int (nI k)), (2, .int (nI K))]) hx hb dM_parts_8 hl (by decide) rfl (fun ls hl => ?_)
  refine lv_iconst (v := 0) hx hb dM_parts_10 (by decide) ?_
  refine lv_istore (lv' := [(5, .int 0), (4, .int 0), (3, .int (nI (h 1 k))), (0, .ref (ad 0)), (1, .int (nI k)), (2, .int (nI K))]) hx hb dM_parts_11 hl (by decide) rfl (fun ls hl => ?_)
  refine lv_aload_n hx hb dM_parts_13 rfl (lv_at hl 3 rfl) ?_
  refine va_get (D := D) (ci := 4) (C := RM) (T := TM) (N := 21) hx hb hT inM hown hK hP (0) (mw_O) rfl 18 (by decide) (hT _ wm_517) (fun _ h9 => h9) rfl dM_parts_14 ?_
  refine lv_iconst (v := 0) hx hb dM_parts_17 (by decide) ?_
  refine W.eq (g2 := F0 m 18 ls [.int (nI 0), .ref (ad 17)]) rfl ?_
  refine lv_iconst (v := 0) hx hb dM_parts_18 (by decide) ?_
  refine va_iast (D := D) hx hb hK hP hD hS (17) 0 (mw_a17) rfl (vp_in_nI (by omega) (by decide)) dM_parts_19 (fun H locs hP hD hS => ?_)
  rw [nI_clamp (n := 0) (by omega), mw_s17] at hP hD
  rw [gm_st] at hP hD
  refine loM_parts hm hk hK1 hK9 hx hb hml hown hT hK (h 1 k) 0 0 c00 _ _ (va_up (fun b => n32 (g 17 b)) 0 0) (by omega) (fun j hj => by omega) (fun j hj => by omega) (fun j hj => rfl) (va_up_self _ _ _) (by omega) (fun an be r9 H locs hres hq hP hD hS ls hl => ?_) (fun an be H locs hres ha hbb hP hD hS ls hl => ?_) _ _ hP hD hS ls (lv_sub hl [1, 0, 3, 4, 5, 2] rfl)
  · refine lv_iload hx hb dM_parts_177 (lv_at hl 0 rfl) ?_
    refine lv_iload_n hx hb dM_parts_179 rfl (lv_at hl 4 rfl) ?_
    refine lv_icmp_ne (tgt := 187) hx hb dM_parts_180 (by decide) (fun c_1 => absurd rfl c_1) (fun c_1 => ?_)
    refine lv_iconst (v := 1) hx hb dM_parts_183 (by decide) ?_
    refine lv_goto (tgt := 188) hx hb dM_parts_184 (by decide) ?_
    exact W.zret (v := 1) hx hb hr rfl (fun t ht hW => ⟨⟨_, gm g an be, rfl, ⟨an, be, rfl, Or.inl ⟨r9, hres, rfl, hq⟩⟩, gpost_at hP hK hD ht hW.alike⟩, hS.F ht⟩) hS.2.2 dM_parts_188
  · refine lv_iinc (v := (nI 0) + (-1)) (lv' := [(4, .int ((nI 0) + (-1))), (0, .ref (ad 0)), (1, .int (nI k)), (2, .int (nI K)), (3, .int (nI (h 1 k)))]) hx hb dM_parts_151 hl (k := 0) rfl rfl (by decide) rfl (fun ls hl => ?_)
    have e9 : nI 0 + (-1) = -1 := by decide
    rw [e9] at hl
    refine lv_iload hx hb dM_parts_154 (lv_at hl 0 rfl) ?_
    refine lv_if_ge (tgt := 163) hx hb dM_parts_156 (by decide) (fun c_2 => absurd c_2 (by decide)) (fun c_2 => ?_)
    refine lv_iconst (v := 0) hx hb dM_parts_159 (by decide) ?_
    refine lv_goto (tgt := 172) hx hb dM_parts_160 (by decide) ?_
    refine lv_istore (lv' := [(5, .int 0), (4, .int (-1)), (0, .ref (ad 0)), (1, .int (nI k)), (2, .int (nI K)), (3, .int (nI (h 1 k)))]) hx hb dM_parts_172 hl (by decide) rfl (fun ls hl => ?_)
    refine lv_goto (tgt := 20) hx hb dM_parts_174 (by decide) ?_
    refine lv_iload hx hb dM_parts_20 (lv_at hl 1 rfl) ?_
    refine lv_if_lt (tgt := 177) hx hb dM_parts_22 (by decide) (fun c_3 => ?_) (fun c_3 => absurd (by decide) c_3)
    refine lv_iload hx hb dM_parts_177 (lv_at hl 1 rfl) ?_
    refine lv_iload_n hx hb dM_parts_179 rfl (lv_at hl 5 rfl) ?_
    refine lv_icmp_ne (tgt := 187) hx hb dM_parts_180 (by decide) (fun c_4 => ?_) (fun c_4 => absurd c_4 (nI_m1 (by have := hm.c12 hk; omega)))
    refine lv_iconst (v := 0) hx hb dM_parts_187 (by decide) ?_
    exact W.zret (v := 0) hx hb hr rfl (fun t ht hW => ⟨⟨_, gm g an be, rfl, ⟨an, be, rfl, Or.inr ⟨hres, rfl⟩⟩, gpost_at hP hK hD ht hW.alike⟩, hS.F ht⟩) hS.2.2 dM_parts_188
set_option maxHeartbeats 4000000 in
set_option maxRecDepth 100000 in
theorem loM_part {p : Program} {l : Launch} {e : Env} {s : State} {m : MethodId} {args : Array Value} {below : List Frame} {meth : Method} {c : Code} {Q : State → Prop} {D : va_G} {CA : Nat → ClassId} {ad : Nat → Nat} {g : Nat → Nat → Int32} {h : Nat → Nat → Nat} {jp : Nat → Nat} (hm : MI g h jp) {k : Nat} (hk : k < 6) (h0 : 0 < h 1 k) (hx : p.tables.exec = Jvm.exec) (hb : c.code = cM_part) (hml : c.maxLocals = 3) (hown : s.vm.findClass "CountLeastModel" = some m.cls) (hT : ∀ w ∈ TB, w.before args s = true) (hK : va_K D vwCl (cty CA) s) (kx : ∀ (K : Nat) (an be : Nat → Nat), K = lK (cM g h jp k) (h 1 k) (h 1 k - 1) 1 → (∃ r9, fs (cM g h jp k) K (h 1 k) 0 0 c00 = some r9 ∧ ∀ j, j < h 1 k → an j = r9 j) → ∀ (H : Heap) (locs : List Loc), va_P D vwCl (mw CA (gm g an be) ad) H → va_D (mA ad s.heap.size) (mw CA (gm g an be) ad) → va_S (mA ad s.heap.size) s.heap H locs → ∀ ls, lv_has ls 3 [(2, .int (nI K)), (1, .int (nI k)), (0, .ref (ad 0))] → W p l e (rm 4 0 0) s m args below meth c H locs 0 0 Q (F0 m 28 ls [])) : ∀ (f K : Nat) (an be : Nat → Nat), K + f = h 1 k → 1 ≤ K → lK (cM g h jp k) (h 1 k) (h 1 k - 1) 1 = lK (cM g h jp k) (h 1 k) f K → ∀ (H : Heap) (locs : List Loc), va_P D vwCl (mw CA (gm g an be) ad) H → va_D (mA ad s.heap.size) (mw CA (gm g an be) ad) → va_S (mA ad s.heap.size) s.heap H locs → ∀ ls, lv_has ls 3 [(2, .int (nI K)), (1, .int (nI k)), (0, .ref (ad 0))] → W p l e (rm 4 0 0) s m args below meth c H locs 0 0 Q (F0 m 13 ls []) := by
  intro f
  induction f with
  | zero =>
    intro K an be hKf h1 hlk H locs hP hD hS ls hl
    have h12 := hm.c12 hk
    refine lv_aload_n hx hb dM_part_13 rfl (lv_at hl 2 rfl) ?_
    refine lv_iload_n hx hb dM_part_14 rfl (lv_at hl 1 rfl) ?_
    refine lv_iload_n hx hb dM_part_15 rfl (lv_at hl 0 rfl) ?_
    refine kVi (n := 2) (D := D) (wd := fun z => mw CA z ad) (A1 := fun sz => mA ad sz) (As := [.int (nI k), .int (nI K)]) (rest := []) ⟨hx, hb, hml, hown, hT⟩ (kM_parts l D CA (gm g an be) ad H.size h jp hm.gm k K hk (by omega) (by omega)) (gi_V wm_625 wm_627 wp_12 wm_4 wm_628) rfl rfl (by decide +kernel) ⟨(Nat.le_of_ble_eq_true rfl), (Nat.le_of_ble_eq_true rfl)⟩ (va_recv hK hP (ci := 4) (q0 := 0) rfl mw_O) hK hP hD hS (fun _ h9 => h9) (nA_mono hS.1) rfl hl.1 rfl (Nat.le_of_ble_eq_true rfl) dM_part_16 ⟨(Nat.le_of_ble_eq_true rfl), (Nat.le_of_ble_eq_true rfl)⟩ (fun r_1 u_2 H locs w_3 hz hP hD hS => ?_)
    obtain ⟨an9, be9, hu9, w_3⟩ := w_3
    rw [cM_gm] at w_3
    rw [hu9, gm_gm] at hP hD
    rcases w_3 with ⟨r9, hr, rfl, hq⟩ | ⟨hr, rfl⟩
    · refine lv_if_ne (tgt := 28) hx hb dM_part_19 (by decide) (fun c_4 => ?_) (fun c_4 => absurd c_4 (by decide))
      exact kx K an9 be9 (by rw [hlk, lK]) ⟨r9, hr, hq⟩ H locs hP hD hS ls (lv_sub hl [0, 1, 2] rfl)
    · refine lv_if_ne (tgt := 28) hx hb dM_part_19 (by decide) (fun c_5 => absurd rfl c_5) (fun c_5 => ?_)
      exact absurd hr (by have := fs_some (cm := (cM g h jp k)) (K := K) (h 1 k) 0 0 c00 (fun j hj => by omega) (by omega) (by omega); intro z; rw [z] at this; cases this)
  | succ f ih =>
    intro K an be hKf h1 hlk H locs hP hD hS ls hl
    have h12 := hm.c12 hk
    refine lv_aload_n hx hb dM_part_13 rfl (lv_at hl 2 rfl) ?_
    refine lv_iload_n hx hb dM_part_14 rfl (lv_at hl 1 rfl) ?_
    refine lv_iload_n hx hb dM_part_15 rfl (lv_at hl 0 rfl) ?_
    refine kVi (n := 2) (D := D) (wd := fun z => mw CA z ad) (A1 := fun sz => mA ad sz) (As := [.int (nI k), .int (nI K)]) (rest := []) ⟨hx, hb, hml, hown, hT⟩ (kM_parts l D CA (gm g an be) ad H.size h jp hm.gm k K hk (by omega) (by omega)) (gi_V wm_625 wm_627 wp_12 wm_4 wm_628) rfl rfl (by decide +kernel) ⟨(Nat.le_of_ble_eq_true rfl), (Nat.le_of_ble_eq_true rfl)⟩ (va_recv hK hP (ci := 4) (q0 := 0) rfl mw_O) hK hP hD hS (fun _ h9 => h9) (nA_mono hS.1) rfl hl.1 rfl (Nat.le_of_ble_eq_true rfl) dM_part_16 ⟨(Nat.le_of_ble_eq_true rfl), (Nat.le_of_ble_eq_true rfl)⟩ (fun r_1 u_2 H locs w_3 hz hP hD hS => ?_)
    obtain ⟨an9, be9, hu9, w_3⟩ := w_3
    rw [cM_gm] at w_3
    rw [hu9, gm_gm] at hP hD
    rcases w_3 with ⟨r9, hr, rfl, hq⟩ | ⟨hr, rfl⟩
    · refine lv_if_ne (tgt := 28) hx hb dM_part_19 (by decide) (fun c_4 => ?_) (fun c_4 => absurd c_4 (by decide))
      exact kx K an9 be9 (by rw [hlk, lK, hr]; simp []) ⟨r9, hr, hq⟩ H locs hP hD hS ls (lv_sub hl [0, 1, 2] rfl)
    · refine lv_if_ne (tgt := 28) hx hb dM_part_19 (by decide) (fun c_5 => absurd rfl c_5) (fun c_5 => ?_)
      refine lv_iinc (v := nI (K + 1)) (lv' := [(2, .int (nI (K + 1))), (1, .int (nI k)), (0, .ref (ad 0))]) hx hb dM_part_22 hl (k := 0) rfl (nI_1 _) (by decide) rfl (fun ls hl => ?_)
      refine lv_goto (tgt := 13) hx hb dM_part_25 (by decide) ?_
      exact ih (K + 1) an9 be9 (by omega) (by omega) (by rw [hlk, lK, hr]; rfl) H locs hP hD hS ls (lv_sub hl [0, 1, 2] rfl)
set_option maxHeartbeats 4000000 in
set_option maxRecDepth 100000 in
theorem kM_part (l : Launch) (D : va_G) (CA : Nat → ClassId) (g : Nat → Nat → Int32) (ad : Nat → Nat) (sz : Nat) (h : Nat → Nat → Nat) (jp : Nat → Nat) (hm : MI g h jp) (k : Nat) (hk : k < 6) : Met l yM_part wM_part (rm 4 0 0) (va_Pc [.ref (ad 0), .int (nI k)] (gpre D (cty CA) (mw CA g ad) sz)) (va_Qi (fun r (u : Nat → Nat → Int32) => prM g h jp k r u) (fun u t => gpost D (cty CA) (mw CA u ad) (mA ad sz) t) (mA ad sz)) 0 0 (mA ad sz) := by
  refine Met.ofW (cc := cM_part) (maxL := 3) (ret := (some .int)) (by decide) rfl ?_
  intro p e s m args below meth c s₁ B hml hv
  obtain ⟨rfl, hsz, hP, hK, hD0⟩ := hv
  have hx := B.exec
  have hb := B.bytes
  have hr := B.returns
  have hT : ∀ w ∈ TB, w.before _ s = true := fun w hw => atoms_spec (ws := wM_part) B.pre w (List.mem_cons_of_mem _ hw)
  have hown : s.vm.findClass "CountLeastModel" = some m.cls := findClass_of_methodNamed B.named
  have hlocks := B.notSynchronized
  subst hsz
  have hD := nA_self (sz := s.heap.size) hD0
  have hS : va_S (mA ad s.heap.size) s.heap s.heap [] := va_S.rf
  have hP : va_P D vwCl (mw CA g ad) s.heap := hP
  have hl := lv_entry ([.ref (ad 0), .int (nI k)]) (n := 3) (Nat.le_of_ble_eq_true rfl)
  rw [lg_entry_eq]
  generalize (lg_sl ([.ref (ad 0), .int (nI k)]) ++ List.replicate (3 - (lg_sl ([.ref (ad 0), .int (nI k)])).length) Slot.unset).toArray = ls at hl ⊢
  have hl : lv_has ls 3 [(0, .ref (ad 0)), (1, .int (nI k))] := hl
  have h12 := hm.c12 hk
  refine lv_aload_n hx hb dM_part_0 rfl (lv_at hl 0 rfl) ?_
  refine va_get (D := D) (ci := 4) (C := RM) (T := TM) (N := 21) hx hb hT inM hown hK hP (0) (mw_O) rfl 9 (by decide) (hT _ wm_508) (fun _ h9 => h9) rfl dM_part_1 ?_
  refine lv_iload_n hx hb dM_part_4 rfl (lv_at hl 1 rfl) ?_
  refine va_iald (D := D) hx hb hK hP (8) 0 (mw_a8) rfl (vp_in_nI (by omega) (by decide)) dM_part_5 ?_
  rw [nI_clamp (n := k) (by omega)]
  refine W.eq (g2 := F0 m 6 ls [.int (nI (h 1 k))]) (by rw [hm.cnt (k := k) (by omega)]) ?_
  refine lv_if_ne (tgt := 11) hx hb dM_part_6 (by decide) (fun c_1 => ?_) (fun c_1 => ?_)
  · refine lv_iconst (v := 1) hx hb dM_part_11 (by decide) ?_
    refine lv_istore_n (lv' := [(2, .int 1), (0, .ref (ad 0)), (1, .int (nI k))]) hx hb dM_part_12 rfl hl (by decide) rfl (fun ls hl => ?_)
    have h0 : 0 < h 1 k := Nat.pos_of_ne_zero (fun z => c_1 (by rw [z]; rfl))
    rw [← gm_self (g := g)] at hP hD
    refine loM_part hm hk h0 hx hb hml hown hT hK (fun K an be hK9 hres H locs hP hD hS ls hl => ?_) (h 1 k - 1) 1 _ _ (by omega) (by omega) rfl _ _ hP hD hS ls (lv_sub hl [0, 2, 1] rfl)
    have hKe : K = lstN (cM g h jp k) (h 1 k) := by rw [hK9]; unfold lstN; rw [if_neg (by omega)]
    refine lv_iload_n hx hb dM_part_28 rfl (lv_at hl 0 rfl) ?_
    exact W.iret (v := nI K) hx hb hr (fun t ht hW => ⟨⟨_, gm g an be, rfl, ⟨by rw [hKe], an, be, rfl, fun _ => by rw [← hKe]; exact hres⟩, gpost_at hP hK hD ht hW.alike⟩, hS.F ht⟩) hS.2.2 dM_part_29
  · refine lv_iconst (v := 0) hx hb dM_part_9 (by decide) ?_
    exact W.iret (v := 0) hx hb hr (fun t ht hW => ⟨⟨_, g, rfl, ⟨by unfold lstN; rw [if_pos (by have := (nI_eq (a := h 1 k) (b := 0) (by omega) (by decide)).mp c_1; exact this)]; rfl, _, _, gm_self.symm, fun z => absurd ((nI_eq (a := h 1 k) (b := 0) (by omega) (by decide)).mp c_1) (by omega)⟩, gpost_at hP hK hD ht hW.alike⟩, hS.F ht⟩) hS.2.2 dM_part_10
set_option maxHeartbeats 4000000 in
set_option maxRecDepth 100000 in
theorem kM_least (l : Launch) (D : va_G) (CA : Nat → ClassId) (g : Nat → Nat → Int32) (ad : Nat → Nat) (sz : Nat) (h : Nat → Nat → Nat) (jp : Nat → Nat) (hm : MI g h jp) (kd : Int32) : Met l yM_least wM_least (rm 5 0 0) (va_Pc [.ref (ad 0), .int kd] (gpre D (cty CA) (mw CA g ad) sz)) (va_Qi (fun r (u : Nat → Nat → Int32) => t4 (ib kd 6) False False g u (∃ k, k < 6 ∧ kd = nI k ∧ prM (u2 g 0 0 0) h jp k r u)) (fun u t => gpost D (cty CA) (mw CA u ad) (mA ad sz) t) (mA ad sz)) 0 0 (mA ad sz) := by
  refine Met.ofW (cc := cM_least) (maxL := 2) (ret := (some .int)) (by decide) rfl ?_
  intro p e s m args below meth c s₁ B hml hv
  obtain ⟨rfl, hsz, hP, hK, hD0⟩ := hv
  have hx := B.exec
  have hb := B.bytes
  have hr := B.returns
  have hT : ∀ w ∈ TB, w.before _ s = true := fun w hw => atoms_spec (ws := wM_least) B.pre w (List.mem_cons_of_mem _ hw)
  have hown : s.vm.findClass "CountLeastModel" = some m.cls := findClass_of_methodNamed B.named
  have hlocks := B.notSynchronized
  subst hsz
  have hD := nA_self (sz := s.heap.size) hD0
  have hS : va_S (mA ad s.heap.size) s.heap s.heap [] := va_S.rf
  have hP : va_P D vwCl (mw CA g ad) s.heap := hP
  have hl := lv_entry ([.ref (ad 0), .int kd]) (n := 2) (Nat.le_of_ble_eq_true rfl)
  rw [lg_entry_eq]
  generalize (lg_sl ([.ref (ad 0), .int kd]) ++ List.replicate (2 - (lg_sl ([.ref (ad 0), .int kd])).length) Slot.unset).toArray = ls at hl ⊢
  have hl : lv_has ls 2 [(0, .ref (ad 0)), (1, .int kd)] := hl
  refine lv_aload_n hx hb dM_least_0 rfl (lv_at hl 0 rfl) ?_
  refine lv_iload_n hx hb dM_least_1 rfl (lv_at hl 1 rfl) ?_
  refine kSi (n := 1) (D := D) (As := [.int kd]) (rest := [.ref (ad 0)]) ⟨hx, hb, hml, hown, hT⟩ (kM_isKind l kd) (gi_S wm_571 wm_572 wm_4 wm_573) rfl rfl (by decide +kernel) ⟨(Nat.le_of_ble_eq_true rfl), (Nat.le_of_ble_eq_true rfl)⟩ hP hS rfl hl.1 rfl (Nat.le_of_ble_eq_true rfl) dM_least_2 ⟨(Nat.le_of_ble_eq_true rfl), (Nat.le_of_ble_eq_true rfl)⟩ (fun r_1 H locs e_2 hz hP hS => ?_)
  rcases e_2 with ⟨rfl, f_3⟩ | ⟨rfl, f_3⟩
  · refine lv_if_ne (tgt := 12) hx hb dM_least_5 (by decide) (fun c_4 => ?_) (fun c_4 => absurd c_4 (by decide))
    refine lv_iconst (v := 0) hx hb dM_least_12 (by decide) ?_
    refine lv_iconst (v := 0) hx hb dM_least_13 (by decide) ?_
    refine lv_iconst (v := 0) hx hb dM_least_14 (by decide) ?_
    refine kVi (n := 3) (D := D) (wd := fun z => mw CA z ad) (A1 := fun sz => mA ad sz) (As := [.int 0, .int 0, .int 0]) (rest := []) ⟨hx, hb, hml, hown, hT⟩ (kM_throwing l D CA g ad H.size 0 0 0) (gi_V wm_577 wm_579 wp_8 wm_4 wm_580) rfl rfl (by decide +kernel) ⟨(Nat.le_of_ble_eq_true rfl), (Nat.le_of_ble_eq_true rfl)⟩ (va_recv hK hP (ci := 4) (q0 := 0) rfl mw_O) hK hP hD hS (fun _ h9 => h9) (nA_mono hS.1) rfl hl.1 rfl (Nat.le_of_ble_eq_true rfl) dM_least_15 ⟨(Nat.le_of_ble_eq_true rfl), (Nat.le_of_ble_eq_true rfl)⟩ (fun r_5 u_6 H locs w_7 hz hP hD hS => ?_)
    obtain ⟨rfl, rfl⟩ := th_000 w_7
    obtain ⟨k, hk, rfl⟩ := ibn (n := 6) (by decide) f_3
    have hm0 := (hm).t (v := 0)
    refine lv_if_eq (tgt := 23) hx hb dM_least_18 (by decide) (fun c_8 => ?_) (fun c_8 => absurd (by decide) c_8)
    refine lv_aload_n hx hb dM_least_23 rfl (lv_at hl 0 rfl) ?_
    refine lv_iload_n hx hb dM_least_24 rfl (lv_at hl 1 rfl) ?_
    refine kVi (n := 1) (D := D) (wd := fun z => mw CA z ad) (A1 := fun sz => mA ad sz) (As := [.int (nI k)]) (rest := []) ⟨hx, hb, hml, hown, hT⟩ (kM_part l D CA (u2 g 0 0 0) ad H.size h jp hm0 k hk) (gi_V wm_621 wm_623 wp_11 wm_4 wm_624) rfl rfl (by decide +kernel) ⟨(Nat.le_of_ble_eq_true rfl), (Nat.le_of_ble_eq_true rfl)⟩ (va_recv hK hP (ci := 4) (q0 := 0) rfl mw_O) hK hP hD hS (fun _ h9 => h9) (nA_mono hS.1) rfl hl.1 rfl (Nat.le_of_ble_eq_true rfl) dM_least_25 ⟨(Nat.le_of_ble_eq_true rfl), (Nat.le_of_ble_eq_true rfl)⟩ (fun r_9 u_10 H locs w_11 hz hP hD hS => ?_)
    exact W.iret (v := r_9) hx hb hr (fun t ht hW => ⟨⟨_, u_10, rfl, Or.inr (Or.inr (Or.inr ⟨f_3, (fun h9 : False => h9), (fun h9 : False => h9), k, hk, rfl, w_11⟩)), gpost_at hP hK hD ht hW.alike⟩, hS.F ht⟩) hS.2.2 dM_least_28
  · refine lv_if_ne (tgt := 12) hx hb dM_least_5 (by decide) (fun c_12 => absurd rfl c_12) (fun c_12 => ?_)
    refine lv_iconst (v := 1) hx hb dM_least_8 (by decide) ?_
    refine lv_goto (tgt := 13) hx hb dM_least_9 (by decide) ?_
    refine lv_iconst (v := 0) hx hb dM_least_13 (by decide) ?_
    refine lv_iconst (v := 0) hx hb dM_least_14 (by decide) ?_
    refine kVi (n := 3) (D := D) (wd := fun z => mw CA z ad) (A1 := fun sz => mA ad sz) (As := [.int 1, .int 0, .int 0]) (rest := []) ⟨hx, hb, hml, hown, hT⟩ (kM_throwing l D CA g ad H.size 1 0 0) (gi_V wm_577 wm_579 wp_8 wm_4 wm_580) rfl rfl (by decide +kernel) ⟨(Nat.le_of_ble_eq_true rfl), (Nat.le_of_ble_eq_true rfl)⟩ (va_recv hK hP (ci := 4) (q0 := 0) rfl mw_O) hK hP hD hS (fun _ h9 => h9) (nA_mono hS.1) rfl hl.1 rfl (Nat.le_of_ble_eq_true rfl) dM_least_15 ⟨(Nat.le_of_ble_eq_true rfl), (Nat.le_of_ble_eq_true rfl)⟩ (fun r_13 u_14 H locs w_15 hz hP hD hS => ?_)
    obtain ⟨rfl, rfl⟩ := th_100 w_15
    refine lv_if_eq (tgt := 23) hx hb dM_least_18 (by decide) (fun c_16 => absurd c_16 (by decide)) (fun c_16 => ?_)
    refine lv_iconst (v := 0) hx hb dM_least_21 (by decide) ?_
    exact W.iret (v := 0) hx hb hr (fun t ht hW => ⟨⟨_, (u2 g 0 0 1), rfl, Or.inl ⟨f_3, rfl⟩, gpost_at hP hK hD ht hW.alike⟩, hS.F ht⟩) hS.2.2 dM_least_22
set_option maxHeartbeats 4000000 in
set_option maxRecDepth 100000 in
theorem loM_animal {p : Program} {l : Launch} {e : Env} {s : State} {m : MethodId} {args : Array Value} {below : List Frame} {meth : Method} {c : Code} {Q : State → Prop} {D : va_G} {CA : Nat → ClassId} {ad : Nat → Nat} {R : Room} {g : Nat → Nat → Int32} {h : Nat → Nat → Nat} {jp : Nat → Nat} (hm : MI g h jp) {pz : Nat → Nat} (hz9 : ∀ q, q < h 0 0 → pz q < h 1 (h 2 q) ∧ h (3 + h 2 q) (pz q) = q) (hi9 : ∀ k j, k < 6 → j < h 1 k → pz (h (3 + k) j) = j) {q : Nat} {rr : Int32} (hq : q < h 0 0) (hx : p.tables.exec = Jvm.exec) (hb : c.code = cM_animal) (hml : c.maxLocals = 4) (hown : s.vm.findClass "CountLeastModel" = some m.cls) (hT : ∀ w ∈ TB, w.before args s = true) (hK : va_K D vwCl (cty CA) s) (kx : ∀ (H : Heap) (locs : List Loc), va_P D vwCl (mw CA (g) ad) H → va_D (mA ad s.heap.size) (mw CA (g) ad) → va_S (mA ad s.heap.size) s.heap H locs → ∀ ls, lv_has ls 4 [(3, .int (nI (pz q))), (2, .int rr), (1, .int (nI q)), (0, .ref (ad 0))] → W p l e R s m args below meth c H locs 0 0 Q (F0 m 63 ls [])) :
    ∀ (n i : Nat), i + n = pz q → ∀ (H : Heap) (locs : List Loc), va_P D vwCl (mw CA (g) ad) H → va_D (mA ad s.heap.size) (mw CA (g) ad) → va_S (mA ad s.heap.size) s.heap H locs → ∀ ls, lv_has ls 4 [(3, .int (nI i)), (2, .int rr), (1, .int (nI q)), (0, .ref (ad 0))] → W p l e R s m args below meth c H locs 0 0 Q (F0 m 37 ls []) := by
  intro n
  induction n with
  | zero =>
    intro i hi H locs hP hD hS ls hl
    have hi : i = pz q := by omega
    have h72 := hm.le
    have hk6 := hm.k6 hq
    have h12 := hm.c12 hk6
    have hzq := (hz9 q hq).1
    refine lv_aload_n hx hb dM_animal_37 rfl (lv_at hl 3 rfl) ?_
    refine va_get (D := D) (ci := 4) (C := RM) (T := TM) (N := 21) hx hb hT inM hown hK hP (0) (mw_O) rfl 10 (by decide) (hT _ wm_509) (fun _ h9 => h9) rfl dM_animal_38 ?_
    refine lv_bipush (v := 12) hx hb dM_animal_41 (by decide) ?_
    refine lv_aload_n hx hb dM_animal_43 rfl (lv_at hl 3 rfl) ?_
    refine va_get (D := D) (ci := 4) (C := RM) (T := TM) (N := 21) hx hb hT inM hown hK hP (0) (mw_O) rfl 2 (by decide) (hT _ wm_501) (fun _ h9 => h9) rfl dM_animal_44 ?_
    refine lv_iload_n hx hb dM_animal_47 rfl (lv_at hl 2 rfl) ?_
    refine va_iald (D := D) hx hb hK hP (1) 0 (mw_a1) rfl (vp_in_nI (by omega) (by decide)) dM_animal_48 ?_
    rw [nI_clamp (n := q) (by omega)]
    refine W.eq (g2 := F0 m 49 ls [.int (nI (h 2 q)), .int 12, .ref (ad 9)]) (by rw [hm.kind (q := q) (by omega)]) ?_
    refine lv_imul hx hb dM_animal_49 ?_
    refine W.eq (g2 := F0 m 50 ls [.int (nI (12 * (h 2 q))), .ref (ad 9)]) (by rw [m12 _]) ?_
    refine lv_iload_n hx hb dM_animal_50 rfl (lv_at hl 0 rfl) ?_
    refine lv_iadd hx hb dM_animal_51 ?_
    refine W.eq (g2 := F0 m 52 ls [.int (nI (12 * (h 2 q) + i)), .ref (ad 9)]) (by rw [nI_add]) ?_
    refine va_iald (D := D) hx hb hK hP (9) 0 (mw_a9) rfl (vp_in_nI (by omega) (by decide)) dM_animal_52 ?_
    rw [nI_clamp (n := 12 * (h 2 q) + i) (by omega)]
    refine W.eq (g2 := F0 m 53 ls [.int (nI (h (3 + (h 2 q)) i))]) (by rw [hm.row (k := (h 2 q)) (j := i) (by omega) (by omega)]) ?_
    refine lv_iload_n hx hb dM_animal_53 rfl (lv_at hl 2 rfl) ?_
    refine lv_icmp_eq (tgt := 63) hx hb dM_animal_54 (by decide) (fun c_1 => ?_) (fun c_1 => absurd (by rw [hi, (hz9 q hq).2]) c_1)
    rw [hi] at hl
    exact kx H locs hP hD hS ls (lv_sub hl [0, 1, 2, 3] rfl)
  | succ n ih =>
    intro i hi H locs hP hD hS ls hl
    have h72 := hm.le
    have hk6 := hm.k6 hq
    have h12 := hm.c12 hk6
    have hzq := (hz9 q hq).1
    refine lv_aload_n hx hb dM_animal_37 rfl (lv_at hl 3 rfl) ?_
    refine va_get (D := D) (ci := 4) (C := RM) (T := TM) (N := 21) hx hb hT inM hown hK hP (0) (mw_O) rfl 10 (by decide) (hT _ wm_509) (fun _ h9 => h9) rfl dM_animal_38 ?_
    refine lv_bipush (v := 12) hx hb dM_animal_41 (by decide) ?_
    refine lv_aload_n hx hb dM_animal_43 rfl (lv_at hl 3 rfl) ?_
    refine va_get (D := D) (ci := 4) (C := RM) (T := TM) (N := 21) hx hb hT inM hown hK hP (0) (mw_O) rfl 2 (by decide) (hT _ wm_501) (fun _ h9 => h9) rfl dM_animal_44 ?_
    refine lv_iload_n hx hb dM_animal_47 rfl (lv_at hl 2 rfl) ?_
    refine va_iald (D := D) hx hb hK hP (1) 0 (mw_a1) rfl (vp_in_nI (by omega) (by decide)) dM_animal_48 ?_
    rw [nI_clamp (n := q) (by omega)]
    refine W.eq (g2 := F0 m 49 ls [.int (nI (h 2 q)), .int 12, .ref (ad 9)]) (by rw [hm.kind (q := q) (by omega)]) ?_
    refine lv_imul hx hb dM_animal_49 ?_
    refine W.eq (g2 := F0 m 50 ls [.int (nI (12 * (h 2 q))), .ref (ad 9)]) (by rw [m12 _]) ?_
    refine lv_iload_n hx hb dM_animal_50 rfl (lv_at hl 0 rfl) ?_
    refine lv_iadd hx hb dM_animal_51 ?_
    refine W.eq (g2 := F0 m 52 ls [.int (nI (12 * (h 2 q) + i)), .ref (ad 9)]) (by rw [nI_add]) ?_
    refine va_iald (D := D) hx hb hK hP (9) 0 (mw_a9) rfl (vp_in_nI (by omega) (by decide)) dM_animal_52 ?_
    rw [nI_clamp (n := 12 * (h 2 q) + i) (by omega)]
    refine W.eq (g2 := F0 m 53 ls [.int (nI (h (3 + (h 2 q)) i))]) (by rw [hm.row (k := (h 2 q)) (j := i) (by omega) (by omega)]) ?_
    refine lv_iload_n hx hb dM_animal_53 rfl (lv_at hl 2 rfl) ?_
    refine lv_icmp_eq (tgt := 63) hx hb dM_animal_54 (by decide) (fun c_1 => absurd c_1 (fun z => by have := (nI_eq (by have := hm.rl (hm.k6 hq) (show i < h 1 (h 2 q) by have := (hz9 q hq).1; omega); omega) (by omega)).mp z; have y := hi9 (h 2 q) i (hm.k6 hq) (by have := (hz9 q hq).1; omega); rw [this] at y; omega)) (fun c_1 => ?_)
    refine lv_iinc (v := nI (i + 1)) (lv' := [(3, .int (nI (i + 1))), (2, .int rr), (1, .int (nI q)), (0, .ref (ad 0))]) hx hb dM_animal_57 hl (k := 0) rfl (nI_1 _) (by decide) rfl (fun ls hl => ?_)
    refine lv_goto (tgt := 37) hx hb dM_animal_60 (by decide) ?_
    exact ih (i + 1) (by omega) H locs hP hD hS ls (lv_sub hl [0, 1, 2, 3] rfl)
theorem lstN_pos {cm : Nat → Nat → Bool} {n : Nat} (h : 0 < n) : 1 ≤ lstN cm n := by
  unfold lstN
  rw [if_neg (by omega)]
  exact (lK_le _ _).1
set_option maxHeartbeats 4000000 in
set_option maxRecDepth 100000 in
theorem kM_animal (l : Launch) (D : va_G) (CA : Nat → ClassId) (g : Nat → Nat → Int32) (ad : Nat → Nat) (sz : Nat) (h : Nat → Nat → Nat) (jp : Nat → Nat) (hm : MI g h jp) (pn : Int32) (pz : Nat → Nat) (hz9 : ∀ q, q < h 0 0 → pz q < h 1 (h 2 q) ∧ h (3 + h 2 q) (pz q) = q) (hi9 : ∀ k j, k < 6 → j < h 1 k → pz (h (3 + k) j) = j) : Met l yM_animal wM_animal (rm 5 0 0) (va_Pc [.ref (ad 0), .int pn] (gpre D (cty CA) (mw CA g ad) sz)) (va_Qi (fun r (u : Nat → Nat → Int32) => t4 (ib pn (nI (h 0 0))) False False g u (∃ q, q < h 0 0 ∧ pn = nI q ∧ ∃ an be, u = gm (u2 g 0 0 0) an be ∧ r = nI (an (pz q)) ∧ ∃ r9, fs (cM (u2 g 0 0 0) h jp (h 2 q)) (lstN (cM (u2 g 0 0 0) h jp (h 2 q)) (h 1 (h 2 q))) (h 1 (h 2 q)) 0 0 c00 = some r9 ∧ ∀ j, j < h 1 (h 2 q) → an j = r9 j)) (fun u t => gpost D (cty CA) (mw CA u ad) (mA ad sz) t) (mA ad sz)) 0 0 (mA ad sz) := by
  refine Met.ofW (cc := cM_animal) (maxL := 4) (ret := (some .int)) (by decide) rfl ?_
  intro p e s m args below meth c s₁ B hml hv
  obtain ⟨rfl, hsz, hP, hK, hD0⟩ := hv
  have hx := B.exec
  have hb := B.bytes
  have hr := B.returns
  have hT : ∀ w ∈ TB, w.before _ s = true := fun w hw => atoms_spec (ws := wM_animal) B.pre w (List.mem_cons_of_mem _ hw)
  have hown : s.vm.findClass "CountLeastModel" = some m.cls := findClass_of_methodNamed B.named
  have hlocks := B.notSynchronized
  subst hsz
  have hD := nA_self (sz := s.heap.size) hD0
  have hS : va_S (mA ad s.heap.size) s.heap s.heap [] := va_S.rf
  have hP : va_P D vwCl (mw CA g ad) s.heap := hP
  have hl := lv_entry ([.ref (ad 0), .int pn]) (n := 4) (Nat.le_of_ble_eq_true rfl)
  rw [lg_entry_eq]
  generalize (lg_sl ([.ref (ad 0), .int pn]) ++ List.replicate (4 - (lg_sl ([.ref (ad 0), .int pn])).length) Slot.unset).toArray = ls at hl ⊢
  have hl : lv_has ls 4 [(0, .ref (ad 0)), (1, .int pn)] := hl
  refine lv_aload_n hx hb dM_animal_0 rfl (lv_at hl 0 rfl) ?_
  refine lv_aload_n hx hb dM_animal_1 rfl (lv_at hl 0 rfl) ?_
  refine lv_iload_n hx hb dM_animal_2 rfl (lv_at hl 1 rfl) ?_
  refine kVi (n := 1) (D := D) (wd := fun z => mw CA z ad) (A1 := fun sz => mA ad sz) (As := [.int pn]) (rest := [.ref (ad 0)]) ⟨hx, hb, hml, hown, hT⟩ (kM_isPiece l D CA g ad s.heap.size h jp hm pn) (gi_V wm_597 wm_599 wp_9 wm_4 wm_600) rfl rfl (by decide +kernel) ⟨(Nat.le_of_ble_eq_true rfl), (Nat.le_of_ble_eq_true rfl)⟩ (va_recv hK hP (ci := 4) (q0 := 0) rfl mw_O) hK hP hD hS (fun _ h9 => h9) (nA_mono hS.1) rfl hl.1 rfl (Nat.le_of_ble_eq_true rfl) dM_animal_3 ⟨(Nat.le_of_ble_eq_true rfl), (Nat.le_of_ble_eq_true rfl)⟩ (fun r_1 u_2 H locs w_3 hz hP hD hS => ?_)
  obtain ⟨hu9, w_3⟩ := w_3
  rw [hu9] at hP hD
  rcases w_3 with ⟨rfl, f_4⟩ | ⟨rfl, f_4⟩
  · refine lv_if_ne (tgt := 13) hx hb dM_animal_6 (by decide) (fun c_5 => ?_) (fun c_5 => absurd c_5 (by decide))
    refine lv_iconst (v := 0) hx hb dM_animal_13 (by decide) ?_
    refine lv_iconst (v := 0) hx hb dM_animal_14 (by decide) ?_
    refine lv_iconst (v := 0) hx hb dM_animal_15 (by decide) ?_
    refine kVi (n := 3) (D := D) (wd := fun z => mw CA z ad) (A1 := fun sz => mA ad sz) (As := [.int 0, .int 0, .int 0]) (rest := []) ⟨hx, hb, hml, hown, hT⟩ (kM_throwing l D CA g ad H.size 0 0 0) (gi_V wm_577 wm_579 wp_8 wm_4 wm_580) rfl rfl (by decide +kernel) ⟨(Nat.le_of_ble_eq_true rfl), (Nat.le_of_ble_eq_true rfl)⟩ (va_recv hK hP (ci := 4) (q0 := 0) rfl mw_O) hK hP hD hS (fun _ h9 => h9) (nA_mono hS.1) rfl hl.1 rfl (Nat.le_of_ble_eq_true rfl) dM_animal_16 ⟨(Nat.le_of_ble_eq_true rfl), (Nat.le_of_ble_eq_true rfl)⟩ (fun r_6 u_7 H locs w_8 hz hP hD hS => ?_)
    obtain ⟨rfl, rfl⟩ := th_000 w_8
    obtain ⟨q, hq, rfl⟩ := ibn (n := h 0 0) (by have := hm.le; omega) f_4
    have hm0 := (hm).t (v := 0)
    have h72 := hm.le
    have hk6 := hm.k6 hq
    refine lv_if_eq (tgt := 24) hx hb dM_animal_19 (by decide) (fun c_9 => ?_) (fun c_9 => absurd (by decide) c_9)
    refine lv_aload_n hx hb dM_animal_24 rfl (lv_at hl 0 rfl) ?_
    refine lv_aload_n hx hb dM_animal_25 rfl (lv_at hl 0 rfl) ?_
    refine va_get (D := D) (ci := 4) (C := RM) (T := TM) (N := 21) hx hb hT inM hown hK hP (0) (mw_O) rfl 2 (by decide) (hT _ wm_501) (fun _ h9 => h9) rfl dM_animal_26 ?_
    refine lv_iload_n hx hb dM_animal_29 rfl (lv_at hl 1 rfl) ?_
    refine va_iald (D := D) hx hb hK hP (1) 0 (mw_a1) rfl (vp_in_nI (by omega) (by decide)) dM_animal_30 ?_
    rw [nI_clamp (n := q) (by omega)]
    refine W.eq (g2 := F0 m 31 ls [.int (nI (h 2 q)), .ref (ad 0)]) (by rw [hm0.kind (q := q) (by omega)]) ?_
    refine kVi (n := 1) (D := D) (wd := fun z => mw CA z ad) (A1 := fun sz => mA ad sz) (As := [.int (nI (h 2 q))]) (rest := []) ⟨hx, hb, hml, hown, hT⟩ (kM_part l D CA (u2 g 0 0 0) ad H.size h jp hm0 (h 2 q) hk6) (gi_V wm_621 wm_623 wp_11 wm_4 wm_624) rfl rfl (by decide +kernel) ⟨(Nat.le_of_ble_eq_true rfl), (Nat.le_of_ble_eq_true rfl)⟩ (va_recv hK hP (ci := 4) (q0 := 0) rfl mw_O) hK hP hD hS (fun _ h9 => h9) (nA_mono hS.1) rfl hl.1 rfl (Nat.le_of_ble_eq_true rfl) dM_animal_31 ⟨(Nat.le_of_ble_eq_true rfl), (Nat.le_of_ble_eq_true rfl)⟩ (fun r_10 u_11 H locs w_12 hz hP hD hS => ?_)
    refine lv_istore_n (lv' := [(2, .int r_10), (0, .ref (ad 0)), (1, .int (nI q))]) hx hb dM_animal_34 rfl hl (by decide) rfl (fun ls hl => ?_)
    refine lv_iconst (v := 0) hx hb dM_animal_35 (by decide) ?_
    refine lv_istore_n (lv' := [(3, .int 0), (2, .int r_10), (0, .ref (ad 0)), (1, .int (nI q))]) hx hb dM_animal_36 rfl hl (by decide) rfl (fun ls hl => ?_)
    obtain ⟨w_12, an, be, rfl, hfs⟩ := w_12
    refine loM_animal hm0.gm hz9 hi9 hq hx hb hml hown hT hK (fun H locs hP hD hS ls hl => ?_) (pz q) 0 (by omega) _ _ hP hD hS ls (lv_sub hl [0, 1, 3, 2] rfl)
    have hzq := (hz9 q hq).1
    have h12 := hm.c12 hk6
    refine lv_iload_n hx hb dM_animal_63 rfl (lv_at hl 1 rfl) ?_
    refine lv_if_le (tgt := 76) hx hb dM_animal_64 (by decide) (fun c_13 => absurd c_13 (by rw [w_12]; exact nI_ge (a := 0) (Nat.lt_of_lt_of_le Nat.zero_lt_one (lstN_pos (by omega))) (by have := lstN_le (cm := cM (u2 g 0 0 0) h jp (h 2 q)) (n := h 1 (h 2 q)); omega))) (fun c_13 => ?_)
    refine lv_aload_n hx hb dM_animal_67 rfl (lv_at hl 3 rfl) ?_
    refine va_get (D := D) (ci := 4) (C := RM) (T := TM) (N := 21) hx hb hT inM hown hK hP (0) (mw_O) rfl 17 (by decide) (hT _ wm_516) (fun _ h9 => h9) rfl dM_animal_68 ?_
    refine lv_iload_n hx hb dM_animal_71 rfl (lv_at hl 0 rfl) ?_
    refine va_iald (D := D) hx hb hK hP (16) 0 (mw_a16) rfl (vp_in_nI (by omega) (by decide)) dM_animal_72 ?_
    rw [nI_clamp (n := pz q) (by omega)]
    refine lv_goto (tgt := 77) hx hb dM_animal_73 (by decide) ?_
    exact W.iret (v := (gm (u2 g 0 0 0) an be) (16) (pz q)) hx hb hr (fun t ht hW => ⟨⟨_, (gm (u2 g 0 0 0) an be), rfl, Or.inr (Or.inr (Or.inr ⟨f_4, (fun h9 : False => h9), (fun h9 : False => h9), q, hq, rfl, an, be, rfl, gm_a, hfs (by omega)⟩)), gpost_at hP hK hD ht hW.alike⟩, hS.F ht⟩) hS.2.2 dM_animal_77
  · refine lv_if_ne (tgt := 13) hx hb dM_animal_6 (by decide) (fun c_14 => absurd rfl c_14) (fun c_14 => ?_)
    refine lv_iconst (v := 1) hx hb dM_animal_9 (by decide) ?_
    refine lv_goto (tgt := 14) hx hb dM_animal_10 (by decide) ?_
    refine lv_iconst (v := 0) hx hb dM_animal_14 (by decide) ?_
    refine lv_iconst (v := 0) hx hb dM_animal_15 (by decide) ?_
    refine kVi (n := 3) (D := D) (wd := fun z => mw CA z ad) (A1 := fun sz => mA ad sz) (As := [.int 1, .int 0, .int 0]) (rest := []) ⟨hx, hb, hml, hown, hT⟩ (kM_throwing l D CA g ad H.size 1 0 0) (gi_V wm_577 wm_579 wp_8 wm_4 wm_580) rfl rfl (by decide +kernel) ⟨(Nat.le_of_ble_eq_true rfl), (Nat.le_of_ble_eq_true rfl)⟩ (va_recv hK hP (ci := 4) (q0 := 0) rfl mw_O) hK hP hD hS (fun _ h9 => h9) (nA_mono hS.1) rfl hl.1 rfl (Nat.le_of_ble_eq_true rfl) dM_animal_16 ⟨(Nat.le_of_ble_eq_true rfl), (Nat.le_of_ble_eq_true rfl)⟩ (fun r_15 u_16 H locs w_17 hz hP hD hS => ?_)
    obtain ⟨rfl, rfl⟩ := th_100 w_17
    refine lv_if_eq (tgt := 24) hx hb dM_animal_19 (by decide) (fun c_18 => absurd c_18 (by decide)) (fun c_18 => ?_)
    refine lv_iconst (v := 0) hx hb dM_animal_22 (by decide) ?_
    exact W.iret (v := 0) hx hb hr (fun t ht hW => ⟨⟨_, (u2 g 0 0 1), rfl, Or.inl ⟨f_4, rfl⟩, gpost_at hP hK hD ht hW.alike⟩, hS.F ht⟩) hS.2.2 dM_animal_23
