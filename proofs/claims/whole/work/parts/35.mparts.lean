/-! the parting as the model seeks it: an the animals, be how many before -/
def gm (g : Nat → Nat → Int32) (an be : Nat → Nat) : Nat → Nat → Int32 := fun a b => if a = 16 then nI (an b) else if a = 17 then nI (be b) else g a b
theorem gm_a {g : Nat → Nat → Int32} {an be : Nat → Nat} {b : Nat} : gm g an be 16 b = nI (an b) := by simp [gm]
theorem gm_b {g : Nat → Nat → Int32} {an be : Nat → Nat} {b : Nat} : gm g an be 17 b = nI (be b) := by simp [gm]
theorem gm_r {g : Nat → Nat → Int32} {an be : Nat → Nat} {a : Nat} (h1 : a ≠ 16) (h2 : a ≠ 17) : gm g an be a = g a := by
  funext b
  simp [gm, h1, h2]
theorem gm_ua {g : Nat → Nat → Int32} {an be : Nat → Nat} {c v : Nat} : u2 (gm g an be) 16 c (nI v) = gm g (va_up an c v) be := by
  funext a b
  by_cases h1 : a = 16
  · subst h1
    by_cases h2 : b = c <;> simp [u2, gm, va_up, h2]
  · simp [u2, gm, h1]
theorem gm_ub {g : Nat → Nat → Int32} {an be : Nat → Nat} {c v : Nat} : u2 (gm g an be) 17 c (nI v) = gm g an (va_up be c v) := by
  funext a b
  by_cases h1 : a = 17
  · subst h1
    by_cases h2 : b = c <;> simp [u2, gm, va_up, h2]
  · simp [u2, gm, h1]
theorem gm_self {g : Nat → Nat → Int32} : gm g (fun b => n32 (g 16 b)) (fun b => n32 (g 17 b)) = g := by
  funext a b
  by_cases h1 : a = 16
  · subst h1; simp [gm, n32_nI]
  · by_cases h2 : a = 17
    · subst h2; simp [gm, n32_nI]
    · simp [gm, h1, h2]
theorem gm_gm {g : Nat → Nat → Int32} {an be an2 be2 : Nat → Nat} : gm (gm g an be) an2 be2 = gm g an2 be2 := by
  funext a b
  by_cases h1 : a = 16
  · subst h1; simp [gm]
  · by_cases h2 : a = 17
    · subst h2; simp [gm]
    · simp [gm, h1, h2]
theorem MI.gm {g : Nat → Nat → Int32} {h : Nat → Nat → Nat} {jp : Nat → Nat} (a : MI g h jp) {an be : Nat → Nat} : MI (gm g an be) h jp := a.to (by rw [gm_r (by decide) (by decide)]) (gm_r (by decide) (by decide)) (gm_r (by decide) (by decide)) (gm_r (by decide) (by decide)) (gm_r (by decide) (by decide))
theorem ruM_gm {g : Nat → Nat → Int32} {an be : Nat → Nat} {k ja a b : Nat} : ruM (gm g an be) k ja a b = ruM g k ja a b := by
  unfold ruM
  rw [gm_r (a := 2) (by decide) (by decide), gm_r (a := 3) (by decide) (by decide), gm_r (a := 4) (by decide) (by decide), gm_r (a := 5) (by decide) (by decide), gm_r (a := 6) (by decide) (by decide), gm_r (a := 10) (by decide) (by decide), gm_r (a := 11) (by decide) (by decide)]
theorem cM_gm {g : Nat → Nat → Int32} {an be : Nat → Nat} {h : Nat → Nat → Nat} {jp : Nat → Nat} {k : Nat} : cM (gm g an be) h jp k = cM g h jp k := by
  funext i j
  unfold cM
  rw [ruM_gm]
theorem ruM_t {g : Nat → Nat → Int32} {v : Int32} {b9 k ja a b : Nat} : ruM (u2 g 0 b9 v) k ja a b = ruM g k ja a b := by
  unfold ruM
  rw [u2_row (a := 2) (by decide), u2_row (a := 3) (by decide), u2_row (a := 4) (by decide), u2_row (a := 5) (by decide), u2_row (a := 6) (by decide), u2_row (a := 10) (by decide), u2_row (a := 11) (by decide)]
theorem cM_t {g : Nat → Nat → Int32} {v : Int32} {b9 : Nat} {h : Nat → Nat → Nat} {jp : Nat → Nat} {k : Nat} : cM (u2 g 0 b9 v) h jp k = cM g h jp k := by
  funext i j
  unfold cM
  rw [ruM_t]
def fN (an : Nat → Nat) (cm : Nat → Nat → Bool) (i x : Nat) : Nat → Bool
  | 0 => true
  | j + 1 => fN an cm i x j && (!(an j == x) || !cm j i)
theorem fM_fN {g : Nat → Nat → Int32} {an be c : Nat → Nat} {cm : Nat → Nat → Bool} {i x : Nat} (hx : x < 2 ^ 31) (hc : ∀ j, j < i → an j = c j) (hb : ∀ j, j < i → c j < 2 ^ 31) : ∀ q, q ≤ i → fM (gm g an be) cm i (nI x) q = fN c cm i x q := by
  intro q
  induction q with
  | zero => intro _; rfl
  | succ q ih =>
    intro hq
    unfold fM fN
    rw [ih (by omega), gm_a, hc q (by omega)]
    have e : (nI (c q) == nI x) = (c q == x) := by
      by_cases h1 : c q = x
      · simp [h1]
      · have h2 : ¬ nI (c q) = nI x := fun z => h1 ((nI_eq (hb q (by omega)) hx).mp z)
        rw [show (nI (c q) == nI x) = false from beq_eq_false_iff_ne.mpr h2, show (c q == x) = false from beq_eq_false_iff_ne.mpr h1]
    rw [e]
def tr (rec : Nat → Option (Nat → Nat)) : Nat → Nat → Option (Nat → Nat)
  | 0, _ => none
  | f + 1, x => match rec x with
    | some r => some r
    | none => tr rec f (x + 1)
def fs (cm : Nat → Nat → Bool) (K : Nat) : Nat → Nat → Nat → (Nat → Nat) → Option (Nat → Nat)
  | 0, _, _, c => some c
  | d + 1, pl, us, c => tr (fun x => if fN c cm pl x pl = true then fs cm K d (pl + 1) (max us (x + 1)) (va_up c pl x) else none) (min (us + 1) K) 0
/-- what is tried at a place -/
def rc (cm : Nat → Nat → Bool) (K d pl us : Nat) (c : Nat → Nat) (x : Nat) : Option (Nat → Nat) := if fN c cm pl x pl = true then fs cm K d (pl + 1) (max us (x + 1)) (va_up c pl x) else none
theorem tr_s {rec : Nat → Option (Nat → Nat)} {f x : Nat} {r : Nat → Nat} (h : rec x = some r) : tr rec (f + 1) x = some r := by
  unfold tr
  rw [h]
theorem tr_n {rec : Nat → Option (Nat → Nat)} {f x : Nat} (h : rec x = none) : tr rec (f + 1) x = tr rec f (x + 1) := by
  conv => lhs; unfold tr
  rw [h]
theorem rc_f {cm : Nat → Nat → Bool} {K d pl us x : Nat} {c : Nat → Nat} (h : fN c cm pl x pl = false) : rc cm K d pl us c x = none := by
  unfold rc
  rw [h]
  rfl
theorem rc_t {cm : Nat → Nat → Bool} {K d pl us x : Nat} {c : Nat → Nat} (h : fN c cm pl x pl = true) : rc cm K d pl us c x = fs cm K d (pl + 1) (max us (x + 1)) (va_up c pl x) := by
  unfold rc
  rw [h]
  rfl
theorem lst9 {us K : Nat} (h1 : us < 40) (hK1 : 1 ≤ K) (hK9 : K < 40) (c : ¬ nI K ≤ nI us) : nI us = nI (min us (K - 1)) := by
  have : us < K := by
    have z : ¬ K ≤ us := fun y => c (nI_le y (by omega))
    omega
  rw [show min us (K - 1) = us by omega]
theorem lst8 {us K : Nat} (h1 : us < 40) (hK1 : 1 ≤ K) (hK9 : K < 40) (c : nI K ≤ nI us) : nI K - 1 = nI (min us (K - 1)) := by
  have : K ≤ us := (nI_leI (by omega) (by omega)).mp c
  rw [show min us (K - 1) = K - 1 by omega]
  exact pk_sub hK1
theorem nI_dec (n : Nat) : nI (n + 1) + (-1) = nI n := by
  rw [← nI_1, Int32.add_assoc]
  exact Int32.add_zero _
set_option maxHeartbeats 4000000 in
set_option maxRecDepth 100000 in
theorem liM_parts {p : Program} {l : Launch} {e : Env} {s : State} {m : MethodId} {args : Array Value} {below : List Frame} {meth : Method} {c : Code} {Q : State → Prop} {D : va_G} {CA : Nat → ClassId} {ad : Nat → Nat} {g : Nat → Nat → Int32} {h : Nat → Nat → Nat} {jp : Nat → Nat} (hm : MI g h jp) {k K : Nat} (hk : k < 6) (hK1 : 1 ≤ K) (hK9 : K < 40) (hx : p.tables.exec = Jvm.exec) (hb : c.code = cM_parts) (hml : c.maxLocals = 8) (hown : s.vm.findClass "CountLeastModel" = some m.cls) (hT : ∀ w ∈ TB, w.before args s = true) (hK : va_K D vwCl (cty CA) s) {d pl us : Nat} {cz b0 : Nat → Nat} (hpl : pl + (d + 1) = h 1 k) (hcb : ∀ j, j < pl → cz j ≤ 12) (hb0 : b0 pl = us) (hus : us ≤ pl) (IH : ∀ (pl us : Nat) (cz an be b0 : Nat → Nat), pl + d = h 1 k → (∀ j, j < pl → an j = cz j) → (∀ j, j < pl → cz j ≤ 12) → (∀ j, j ≤ pl → be j = b0 j) → b0 pl = us → us ≤ pl → (∀ (an9 be9 r9 : Nat → Nat) (H : Heap) (locs : List Loc), fs (cM g h jp k) K d pl us cz = some r9 → (∀ j, j < h 1 k → an9 j = r9 j) → va_P D vwCl (mw CA (gm g an9 be9) ad) H → va_D (mA ad s.heap.size) (mw CA (gm g an9 be9) ad) → va_S (mA ad s.heap.size) s.heap H locs → ∀ ls, lv_has ls 8 [(4, .int (nI (h 1 k))), (0, .ref (ad 0)), (1, .int (nI k)), (2, .int (nI K)), (3, .int (nI (h 1 k)))] → W p l e (rm 3 0 0) s m args below meth c H locs 0 0 Q (F0 m 177 ls [])) → (∀ (an9 be9 : Nat → Nat) (H : Heap) (locs : List Loc), fs (cM g h jp k) K d pl us cz = none → (∀ j, j < pl → an9 j = cz j) → (∀ j, j ≤ pl → be9 j = b0 j) → va_P D vwCl (mw CA (gm g an9 be9) ad) H → va_D (mA ad s.heap.size) (mw CA (gm g an9 be9) ad) → va_S (mA ad s.heap.size) s.heap H locs → ∀ ls, lv_has ls 8 [(4, .int (nI pl)), (0, .ref (ad 0)), (1, .int (nI k)), (2, .int (nI K)), (3, .int (nI (h 1 k)))] → W p l e (rm 3 0 0) s m args below meth c H locs 0 0 Q (F0 m 151 ls [])) → ∀ (H : Heap) (locs : List Loc), va_P D vwCl (mw CA (gm g an be) ad) H → va_D (mA ad s.heap.size) (mw CA (gm g an be) ad) → va_S (mA ad s.heap.size) s.heap H locs → ∀ ls, lv_has ls 8 [(4, .int (nI pl)), (5, .int 0), (0, .ref (ad 0)), (1, .int (nI k)), (2, .int (nI K)), (3, .int (nI (h 1 k)))] → W p l e (rm 3 0 0) s m args below meth c H locs 0 0 Q (F0 m 20 ls [])) : ∀ (f x : Nat) (an be : Nat → Nat), x + f = min (us + 1) K → (∀ j, j < pl → an j = cz j) → (∀ j, j ≤ pl → be j = b0 j) → (∀ (an9 be9 r9 : Nat → Nat) (H : Heap) (locs : List Loc), tr (rc (cM g h jp k) K d pl us cz) f x = some r9 → (∀ j, j < h 1 k → an9 j = r9 j) → va_P D vwCl (mw CA (gm g an9 be9) ad) H → va_D (mA ad s.heap.size) (mw CA (gm g an9 be9) ad) → va_S (mA ad s.heap.size) s.heap H locs → ∀ ls, lv_has ls 8 [(4, .int (nI (h 1 k))), (0, .ref (ad 0)), (1, .int (nI k)), (2, .int (nI K)), (3, .int (nI (h 1 k)))] → W p l e (rm 3 0 0) s m args below meth c H locs 0 0 Q (F0 m 177 ls [])) → (∀ (an9 be9 : Nat → Nat) (H : Heap) (locs : List Loc), tr (rc (cM g h jp k) K d pl us cz) f x = none → (∀ j, j < pl → an9 j = cz j) → (∀ j, j ≤ pl → be9 j = b0 j) → va_P D vwCl (mw CA (gm g an9 be9) ad) H → va_D (mA ad s.heap.size) (mw CA (gm g an9 be9) ad) → va_S (mA ad s.heap.size) s.heap H locs → ∀ ls, lv_has ls 8 [(4, .int (nI pl)), (0, .ref (ad 0)), (1, .int (nI k)), (2, .int (nI K)), (3, .int (nI (h 1 k)))] → W p l e (rm 3 0 0) s m args below meth c H locs 0 0 Q (F0 m 151 ls [])) → ∀ (H : Heap) (locs : List Loc), va_P D vwCl (mw CA (gm g an be) ad) H → va_D (mA ad s.heap.size) (mw CA (gm g an be) ad) → va_S (mA ad s.heap.size) s.heap H locs → ∀ ls, lv_has ls 8 [(6, .int (nI x)), (7, .int (nI (min us (K - 1)))), (4, .int (nI pl)), (0, .ref (ad 0)), (1, .int (nI k)), (2, .int (nI K)), (3, .int (nI (h 1 k)))] → W p l e (rm 3 0 0) s m args below meth c H locs 0 0 Q (F0 m 61 ls []) := by
  intro f
  induction f with
  | zero =>
    intro x an be hxf hag hbe kS kF H locs hP hD hS ls hl
    have h12 := hm.c12 hk
    refine lv_iload hx hb dM_parts_61 (lv_at hl 0 rfl) ?_
    refine lv_iload hx hb dM_parts_63 (lv_at hl 1 rfl) ?_
    refine lv_icmp_gt (tgt := 86) hx hb dM_parts_65 (by decide) (fun c_1 => ?_) (fun c_1 => absurd (nI_lt (by omega) (by omega)) c_1)
    refine lv_iload hx hb dM_parts_86 (lv_at hl 0 rfl) ?_
    refine lv_iload hx hb dM_parts_88 (lv_at hl 1 rfl) ?_
    refine lv_icmp_gt (tgt := 151) hx hb dM_parts_90 (by decide) (fun c_2 => ?_) (fun c_2 => absurd (nI_lt (by omega) (by omega)) c_2)
    exact kF an be H locs rfl hag hbe hP hD hS ls (lv_sub hl [2, 3, 4, 5, 6] rfl)
  | succ f ih =>
    intro x an be hxf hag hbe kS kF H locs hP hD hS ls hl
    have h12 := hm.c12 hk
    refine lv_iload hx hb dM_parts_61 (lv_at hl 0 rfl) ?_
    refine lv_iload hx hb dM_parts_63 (lv_at hl 1 rfl) ?_
    refine lv_icmp_gt (tgt := 86) hx hb dM_parts_65 (by decide) (fun c_1 => absurd c_1 (fun z => by rw [nI_ltI (by omega) (by omega)] at z; omega)) (fun c_1 => ?_)
    refine lv_aload_n hx hb dM_parts_68 rfl (lv_at hl 3 rfl) ?_
    refine lv_iload_n hx hb dM_parts_69 rfl (lv_at hl 4 rfl) ?_
    refine lv_iload hx hb dM_parts_70 (lv_at hl 2 rfl) ?_
    refine lv_iload hx hb dM_parts_72 (lv_at hl 0 rfl) ?_
    refine kVi (n := 3) (D := D) (wd := fun z => mw CA z ad) (A1 := fun sz => mA ad sz) (As := [.int (nI k), .int (nI pl), .int (nI x)]) (rest := []) ⟨hx, hb, hml, hown, hT⟩ (kM_fits l D CA (gm g an be) ad H.size h jp hm.gm k pl (nI x) hk (by omega)) (gi_V wm_629 wm_631 wp_13 wm_4 wm_632) rfl rfl (by decide +kernel) ⟨(Nat.le_of_ble_eq_true rfl), (Nat.le_of_ble_eq_true rfl)⟩ (va_recv hK hP (ci := 4) (q0 := 0) rfl mw_O) hK hP hD hS (fun _ h9 => h9) (nA_mono hS.1) rfl hl.1 rfl (Nat.le_of_ble_eq_true rfl) dM_parts_74 ⟨(Nat.le_of_ble_eq_true rfl), (Nat.le_of_ble_eq_true rfl)⟩ (fun r_2 u_3 H locs w_4 hz hP hD hS => ?_)
    obtain ⟨w_4, hu9⟩ := w_4
    rw [hu9] at hP hD
    rw [cM_gm, fM_fN (by omega) hag (fun j hj => by have := hcb j hj; omega) pl (Nat.le_refl _)] at w_4
    refine lv_if_ne (tgt := 86) hx hb dM_parts_77 (by decide) (fun c_5 => ?_) (fun c_5 => ?_)
    · refine lv_iload hx hb dM_parts_86 (lv_at hl 0 rfl) ?_
      refine lv_iload hx hb dM_parts_88 (lv_at hl 1 rfl) ?_
      refine lv_icmp_gt (tgt := 151) hx hb dM_parts_90 (by decide) (fun c_6 => absurd c_6 (fun z => by rw [nI_ltI (by omega) (by omega)] at z; omega)) (fun c_6 => ?_)
      refine lv_aload_n hx hb dM_parts_93 rfl (lv_at hl 3 rfl) ?_
      refine va_get (D := D) (ci := 4) (C := RM) (T := TM) (N := 21) hx hb hT inM hown hK hP (0) (mw_O) rfl 17 (by decide) (hT _ wm_516) (fun _ h9 => h9) rfl dM_parts_94 ?_
      refine lv_iload hx hb dM_parts_97 (lv_at hl 2 rfl) ?_
      refine lv_iload hx hb dM_parts_99 (lv_at hl 0 rfl) ?_
      refine va_iast (D := D) hx hb hK hP hD hS (16) 0 (mw_a16) rfl (vp_in_nI (by omega) (by decide)) dM_parts_101 (fun H locs hP hD hS => ?_)
      rw [nI_clamp (n := pl) (by omega), mw_s16] at hP hD
      rw [gm_ua] at hP hD
      refine lv_aload_n hx hb dM_parts_102 rfl (lv_at hl 3 rfl) ?_
      refine va_get (D := D) (ci := 4) (C := RM) (T := TM) (N := 21) hx hb hT inM hown hK hP (0) (mw_O) rfl 18 (by decide) (hT _ wm_517) (fun _ h9 => h9) rfl dM_parts_103 ?_
      refine lv_iload hx hb dM_parts_106 (lv_at hl 2 rfl) ?_
      refine lv_iconst (v := 1) hx hb dM_parts_108 (by decide) ?_
      refine lv_iadd hx hb dM_parts_109 ?_
      refine W.eq (g2 := F0 m 110 ls [.int (nI (pl + 1)), .ref (ad 17)]) (by rw [nI_1]) ?_
      refine lv_iload hx hb dM_parts_110 (lv_at hl 0 rfl) ?_
      refine lv_aload_n hx hb dM_parts_112 rfl (lv_at hl 3 rfl) ?_
      refine va_get (D := D) (ci := 4) (C := RM) (T := TM) (N := 21) hx hb hT inM hown hK hP (0) (mw_O) rfl 18 (by decide) (hT _ wm_517) (fun _ h9 => h9) rfl dM_parts_113 ?_
      refine lv_iload hx hb dM_parts_116 (lv_at hl 2 rfl) ?_
      refine va_iald (D := D) hx hb hK hP (17) 0 (mw_a17) rfl (vp_in_nI (by omega) (by decide)) dM_parts_118 ?_
      rw [nI_clamp (n := pl) (by omega)]
      refine W.eq (g2 := F0 m 119 ls [.int (nI us), .int (nI x), .int (nI (pl + 1)), .ref (ad 17)]) (by rw [gm_b, hbe pl (Nat.le_refl _), hb0]) ?_
      refine lv_icmp_ne (tgt := 134) hx hb dM_parts_119 (by decide) (fun c_7 => ?_) (fun c_7 => ?_)
      · refine lv_aload_n hx hb dM_parts_134 rfl (lv_at hl 3 rfl) ?_
        refine va_get (D := D) (ci := 4) (C := RM) (T := TM) (N := 21) hx hb hT inM hown hK hP (0) (mw_O) rfl 18 (by decide) (hT _ wm_517) (fun _ h9 => h9) rfl dM_parts_135 ?_
        refine lv_iload hx hb dM_parts_138 (lv_at hl 2 rfl) ?_
        refine va_iald (D := D) hx hb hK hP (17) 0 (mw_a17) rfl (vp_in_nI (by omega) (by decide)) dM_parts_140 ?_
        rw [nI_clamp (n := pl) (by omega)]
        refine W.eq (g2 := F0 m 141 ls [.int (nI us), .int (nI (pl + 1)), .ref (ad 17)]) (by rw [gm_b, hbe pl (Nat.le_refl _), hb0]) ?_
        have e9 : nI us = nI (max us (x + 1)) := by have z : ¬ x = us := fun y => c_7 (by rw [y]); rw [show max us (x + 1) = us by omega]
        refine W.eq (g2 := F0 m 141 ls [.int (nI (max us (x + 1))), .int (nI (pl + 1)), .ref (ad 17)]) (by rw [e9]) ?_
        refine va_iast (D := D) hx hb hK hP hD hS (17) 0 (mw_a17) rfl (vp_in_nI (by omega) (by decide)) dM_parts_141 (fun H locs hP hD hS => ?_)
        rw [nI_clamp (n := pl + 1) (by omega), mw_s17] at hP hD
        rw [gm_ub] at hP hD
        refine lv_iconst (v := 0) hx hb dM_parts_142 (by decide) ?_
        refine lv_istore (lv' := [(5, .int 0), (6, .int (nI x)), (7, .int (nI (min us (K - 1)))), (4, .int (nI pl)), (0, .ref (ad 0)), (1, .int (nI k)), (2, .int (nI K)), (3, .int (nI (h 1 k)))]) hx hb dM_parts_143 hl (by decide) rfl (fun ls hl => ?_)
        refine lv_iinc (v := nI (pl + 1)) (lv' := [(4, .int (nI (pl + 1))), (5, .int 0), (6, .int (nI x)), (7, .int (nI (min us (K - 1)))), (0, .ref (ad 0)), (1, .int (nI k)), (2, .int (nI K)), (3, .int (nI (h 1 k)))]) hx hb dM_parts_145 hl (k := 3) rfl (nI_1 _) (by decide) rfl (fun ls hl => ?_)
        refine lv_goto (tgt := 174) hx hb dM_parts_148 (by decide) ?_
        refine lv_goto (tgt := 20) hx hb dM_parts_174 (by decide) ?_
        have hyes := rc_t (cm := (cM g h jp k)) (K := K) (d := d) (us := us) (bI_t (by rw [← w_4]; exact c_5))
        refine IH (pl + 1) (max us (x + 1)) (va_up cz pl x) _ _ (va_up b0 (pl + 1) (max us (x + 1))) (by omega) (fun j hj => ?_) (fun j hj => ?_) (fun j hj => ?_) (va_up_self _ _ _) (by omega) (fun a1 b1 r1 H locs hr => kS a1 b1 r1 H locs (tr_s (by rw [hyes]; exact hr))) (fun an9 be9 H locs hr ha9 hb9 hP hD hS ls hl => ?_) H locs hP hD hS ls (lv_sub hl [0, 1, 4, 5, 6, 7] rfl)
        · by_cases hj9 : j = pl
          · subst hj9; rw [va_up_self, va_up_self]
          · rw [va_up_ne _ _ hj9, va_up_ne _ _ hj9]; exact hag j (by omega)
        · by_cases hj9 : j = pl
          · subst hj9; rw [va_up_self]; omega
          · rw [va_up_ne _ _ hj9]; exact hcb j (by omega)
        · by_cases hj9 : j = pl + 1
          · subst hj9; rw [va_up_self, va_up_self]
          · rw [va_up_ne _ _ hj9, va_up_ne _ _ hj9]; exact hbe j (by omega)
        have hno : (rc (cM g h jp k) K d pl us cz) x = none := by rw [hyes]; exact hr
        have hbq : ∀ j, j ≤ pl → be9 j = b0 j := fun j hj => by rw [hb9 j (by omega), va_up_ne _ _ (by omega)]
        refine lv_iinc (v := (nI (pl + 1)) + (-1)) (lv' := [(4, .int ((nI (pl + 1)) + (-1))), (0, .ref (ad 0)), (1, .int (nI k)), (2, .int (nI K)), (3, .int (nI (h 1 k)))]) hx hb dM_parts_151 hl (k := 0) rfl rfl (by decide) rfl (fun ls hl => ?_)
        have e9 : nI (pl + 1) + (-1) = nI pl := nI_dec pl
        rw [e9] at hl
        refine lv_iload hx hb dM_parts_154 (lv_at hl 0 rfl) ?_
        refine lv_if_ge (tgt := 163) hx hb dM_parts_156 (by decide) (fun c_8 => ?_) (fun c_8 => absurd (nI_pos' (by omega)) c_8)
        refine lv_aload_n hx hb dM_parts_163 rfl (lv_at hl 1 rfl) ?_
        refine va_get (D := D) (ci := 4) (C := RM) (T := TM) (N := 21) hx hb hT inM hown hK hP (0) (mw_O) rfl 17 (by decide) (hT _ wm_516) (fun _ h9 => h9) rfl dM_parts_164 ?_
        refine lv_iload hx hb dM_parts_167 (lv_at hl 0 rfl) ?_
        refine va_iald (D := D) hx hb hK hP (16) 0 (mw_a16) rfl (vp_in_nI (by omega) (by decide)) dM_parts_169 ?_
        rw [nI_clamp (n := pl) (by omega)]
        have ea : an9 pl = x := by rw [ha9 pl (by omega), va_up_self]
        refine W.eq (g2 := F0 m 170 ls [.int (nI x)]) (by rw [gm_a, ea]) ?_
        refine lv_iconst (v := 1) hx hb dM_parts_170 (by decide) ?_
        refine lv_iadd hx hb dM_parts_171 ?_
        refine W.eq (g2 := F0 m 172 ls [.int (nI (x + 1))]) (by rw [nI_1]) ?_
        refine lv_istore (lv' := [(5, .int (nI (x + 1))), (4, .int (nI pl)), (0, .ref (ad 0)), (1, .int (nI k)), (2, .int (nI K)), (3, .int (nI (h 1 k)))]) hx hb dM_parts_172 hl (by decide) rfl (fun ls hl => ?_)
        refine lv_goto (tgt := 20) hx hb dM_parts_174 (by decide) ?_
        refine lv_iload hx hb dM_parts_20 (lv_at hl 1 rfl) ?_
        refine lv_if_lt (tgt := 177) hx hb dM_parts_22 (by decide) (fun c_9 => absurd c_9 (nI_pos (by omega))) (fun c_9 => ?_)
        refine lv_iload hx hb dM_parts_25 (lv_at hl 1 rfl) ?_
        refine lv_iload_n hx hb dM_parts_27 rfl (lv_at hl 5 rfl) ?_
        refine lv_icmp_ge (tgt := 177) hx hb dM_parts_28 (by decide) (fun c_10 => absurd c_10 (nI_ge (by omega) (by omega))) (fun c_10 => ?_)
        refine lv_iload hx hb dM_parts_31 (lv_at hl 0 rfl) ?_
        refine lv_istore (lv' := [(6, .int (nI (x + 1))), (5, .int (nI (x + 1))), (4, .int (nI pl)), (0, .ref (ad 0)), (1, .int (nI k)), (2, .int (nI K)), (3, .int (nI (h 1 k)))]) hx hb dM_parts_33 hl (by decide) rfl (fun ls hl => ?_)
        refine lv_aload_n hx hb dM_parts_35 rfl (lv_at hl 3 rfl) ?_
        refine va_get (D := D) (ci := 4) (C := RM) (T := TM) (N := 21) hx hb hT inM hown hK hP (0) (mw_O) rfl 18 (by decide) (hT _ wm_517) (fun _ h9 => h9) rfl dM_parts_36 ?_
        refine lv_iload hx hb dM_parts_39 (lv_at hl 2 rfl) ?_
        refine va_iald (D := D) hx hb hK hP (17) 0 (mw_a17) rfl (vp_in_nI (by omega) (by decide)) dM_parts_41 ?_
        rw [nI_clamp (n := pl) (by omega)]
        refine W.eq (g2 := F0 m 42 ls [.int (nI us)]) (by rw [gm_b, hbq pl (Nat.le_refl _), hb0]) ?_
        refine lv_iload_n hx hb dM_parts_42 rfl (lv_at hl 5 rfl) ?_
        refine lv_icmp_ge (tgt := 56) hx hb dM_parts_43 (by decide) (fun c_11 => ?_) (fun c_11 => ?_)
        · refine lv_iload_n hx hb dM_parts_56 rfl (lv_at hl 5 rfl) ?_
          refine lv_iconst (v := 1) hx hb dM_parts_57 (by decide) ?_
          refine lv_isub hx hb dM_parts_58 ?_
          refine W.eq (g2 := F0 m 59 ls [.int (nI (min us (K - 1)))]) (by rw [lst8 (by omega) hK1 hK9 c_11]) ?_
          refine lv_istore (lv' := [(7, .int (nI (min us (K - 1)))), (6, .int (nI (x + 1))), (5, .int (nI (x + 1))), (4, .int (nI pl)), (0, .ref (ad 0)), (1, .int (nI k)), (2, .int (nI K)), (3, .int (nI (h 1 k)))]) hx hb dM_parts_59 hl (by decide) rfl (fun ls hl => ?_)
          exact ih (x + 1) an9 be9 (by omega) (fun j hj => by rw [ha9 j (by omega), va_up_ne _ _ (by omega)]) hbq (fun a1 b1 r1 H locs hr => kS a1 b1 r1 H locs (by rw [tr_n hno]; exact hr)) (fun a1 b1 H locs hr => kF a1 b1 H locs (by rw [tr_n hno]; exact hr)) H locs hP hD hS ls (lv_sub hl [1, 0, 3, 4, 5, 6, 7] rfl)
        · refine lv_aload_n hx hb dM_parts_46 rfl (lv_at hl 3 rfl) ?_
          refine va_get (D := D) (ci := 4) (C := RM) (T := TM) (N := 21) hx hb hT inM hown hK hP (0) (mw_O) rfl 18 (by decide) (hT _ wm_517) (fun _ h9 => h9) rfl dM_parts_47 ?_
          refine lv_iload hx hb dM_parts_50 (lv_at hl 2 rfl) ?_
          refine va_iald (D := D) hx hb hK hP (17) 0 (mw_a17) rfl (vp_in_nI (by omega) (by decide)) dM_parts_52 ?_
          rw [nI_clamp (n := pl) (by omega)]
          refine W.eq (g2 := F0 m 53 ls [.int (nI us)]) (by rw [gm_b, hbq pl (Nat.le_refl _), hb0]) ?_
          refine lv_goto (tgt := 59) hx hb dM_parts_53 (by decide) ?_
          refine W.eq (g2 := F0 m 59 ls [.int (nI (min us (K - 1)))]) (by rw [lst9 (by omega) hK1 hK9 c_11]) ?_
          refine lv_istore (lv' := [(7, .int (nI (min us (K - 1)))), (6, .int (nI (x + 1))), (5, .int (nI (x + 1))), (4, .int (nI pl)), (0, .ref (ad 0)), (1, .int (nI k)), (2, .int (nI K)), (3, .int (nI (h 1 k)))]) hx hb dM_parts_59 hl (by decide) rfl (fun ls hl => ?_)
          exact ih (x + 1) an9 be9 (by omega) (fun j hj => by rw [ha9 j (by omega), va_up_ne _ _ (by omega)]) hbq (fun a1 b1 r1 H locs hr => kS a1 b1 r1 H locs (by rw [tr_n hno]; exact hr)) (fun a1 b1 H locs hr => kF a1 b1 H locs (by rw [tr_n hno]; exact hr)) H locs hP hD hS ls (lv_sub hl [1, 0, 3, 4, 5, 6, 7] rfl)
      · refine lv_aload_n hx hb dM_parts_122 rfl (lv_at hl 3 rfl) ?_
        refine va_get (D := D) (ci := 4) (C := RM) (T := TM) (N := 21) hx hb hT inM hown hK hP (0) (mw_O) rfl 18 (by decide) (hT _ wm_517) (fun _ h9 => h9) rfl dM_parts_123 ?_
        refine lv_iload hx hb dM_parts_126 (lv_at hl 2 rfl) ?_
        refine va_iald (D := D) hx hb hK hP (17) 0 (mw_a17) rfl (vp_in_nI (by omega) (by decide)) dM_parts_128 ?_
        rw [nI_clamp (n := pl) (by omega)]
        refine W.eq (g2 := F0 m 129 ls [.int (nI us), .int (nI (pl + 1)), .ref (ad 17)]) (by rw [gm_b, hbe pl (Nat.le_refl _), hb0]) ?_
        refine lv_iconst (v := 1) hx hb dM_parts_129 (by decide) ?_
        refine lv_iadd hx hb dM_parts_130 ?_
        refine W.eq (g2 := F0 m 131 ls [.int (nI (us + 1)), .int (nI (pl + 1)), .ref (ad 17)]) (by rw [nI_1]) ?_
        refine lv_goto (tgt := 141) hx hb dM_parts_131 (by decide) ?_
        have e9 : nI (us + 1) = nI (max us (x + 1)) := by have z : x = us := (nI_eq (by omega) (by omega)).mp c_7; rw [show max us (x + 1) = us + 1 by omega]
        refine W.eq (g2 := F0 m 141 ls [.int (nI (max us (x + 1))), .int (nI (pl + 1)), .ref (ad 17)]) (by rw [e9]) ?_
        refine va_iast (D := D) hx hb hK hP hD hS (17) 0 (mw_a17) rfl (vp_in_nI (by omega) (by decide)) dM_parts_141 (fun H locs hP hD hS => ?_)
        rw [nI_clamp (n := pl + 1) (by omega), mw_s17] at hP hD
        rw [gm_ub] at hP hD
        refine lv_iconst (v := 0) hx hb dM_parts_142 (by decide) ?_
        refine lv_istore (lv' := [(5, .int 0), (6, .int (nI x)), (7, .int (nI (min us (K - 1)))), (4, .int (nI pl)), (0, .ref (ad 0)), (1, .int (nI k)), (2, .int (nI K)), (3, .int (nI (h 1 k)))]) hx hb dM_parts_143 hl (by decide) rfl (fun ls hl => ?_)
        refine lv_iinc (v := nI (pl + 1)) (lv' := [(4, .int (nI (pl + 1))), (5, .int 0), (6, .int (nI x)), (7, .int (nI (min us (K - 1)))), (0, .ref (ad 0)), (1, .int (nI k)), (2, .int (nI K)), (3, .int (nI (h 1 k)))]) hx hb dM_parts_145 hl (k := 3) rfl (nI_1 _) (by decide) rfl (fun ls hl => ?_)
        refine lv_goto (tgt := 174) hx hb dM_parts_148 (by decide) ?_
        refine lv_goto (tgt := 20) hx hb dM_parts_174 (by decide) ?_
        have hyes := rc_t (cm := (cM g h jp k)) (K := K) (d := d) (us := us) (bI_t (by rw [← w_4]; exact c_5))
        refine IH (pl + 1) (max us (x + 1)) (va_up cz pl x) _ _ (va_up b0 (pl + 1) (max us (x + 1))) (by omega) (fun j hj => ?_) (fun j hj => ?_) (fun j hj => ?_) (va_up_self _ _ _) (by omega) (fun a1 b1 r1 H locs hr => kS a1 b1 r1 H locs (tr_s (by rw [hyes]; exact hr))) (fun an9 be9 H locs hr ha9 hb9 hP hD hS ls hl => ?_) H locs hP hD hS ls (lv_sub hl [0, 1, 4, 5, 6, 7] rfl)
        · by_cases hj9 : j = pl
          · subst hj9; rw [va_up_self, va_up_self]
          · rw [va_up_ne _ _ hj9, va_up_ne _ _ hj9]; exact hag j (by omega)
        · by_cases hj9 : j = pl
          · subst hj9; rw [va_up_self]; omega
          · rw [va_up_ne _ _ hj9]; exact hcb j (by omega)
        · by_cases hj9 : j = pl + 1
          · subst hj9; rw [va_up_self, va_up_self]
          · rw [va_up_ne _ _ hj9, va_up_ne _ _ hj9]; exact hbe j (by omega)
        have hno : (rc (cM g h jp k) K d pl us cz) x = none := by rw [hyes]; exact hr
        have hbq : ∀ j, j ≤ pl → be9 j = b0 j := fun j hj => by rw [hb9 j (by omega), va_up_ne _ _ (by omega)]
        refine lv_iinc (v := (nI (pl + 1)) + (-1)) (lv' := [(4, .int ((nI (pl + 1)) + (-1))), (0, .ref (ad 0)), (1, .int (nI k)), (2, .int (nI K)), (3, .int (nI (h 1 k)))]) hx hb dM_parts_151 hl (k := 0) rfl rfl (by decide) rfl (fun ls hl => ?_)
        have e9 : nI (pl + 1) + (-1) = nI pl := nI_dec pl
        rw [e9] at hl
        refine lv_iload hx hb dM_parts_154 (lv_at hl 0 rfl) ?_
        refine lv_if_ge (tgt := 163) hx hb dM_parts_156 (by decide) (fun c_12 => ?_) (fun c_12 => absurd (nI_pos' (by omega)) c_12)
        refine lv_aload_n hx hb dM_parts_163 rfl (lv_at hl 1 rfl) ?_
        refine va_get (D := D) (ci := 4) (C := RM) (T := TM) (N := 21) hx hb hT inM hown hK hP (0) (mw_O) rfl 17 (by decide) (hT _ wm_516) (fun _ h9 => h9) rfl dM_parts_164 ?_
        refine lv_iload hx hb dM_parts_167 (lv_at hl 0 rfl) ?_
        refine va_iald (D := D) hx hb hK hP (16) 0 (mw_a16) rfl (vp_in_nI (by omega) (by decide)) dM_parts_169 ?_
        rw [nI_clamp (n := pl) (by omega)]
        have ea : an9 pl = x := by rw [ha9 pl (by omega), va_up_self]
        refine W.eq (g2 := F0 m 170 ls [.int (nI x)]) (by rw [gm_a, ea]) ?_
        refine lv_iconst (v := 1) hx hb dM_parts_170 (by decide) ?_
        refine lv_iadd hx hb dM_parts_171 ?_
        refine W.eq (g2 := F0 m 172 ls [.int (nI (x + 1))]) (by rw [nI_1]) ?_
        refine lv_istore (lv' := [(5, .int (nI (x + 1))), (4, .int (nI pl)), (0, .ref (ad 0)), (1, .int (nI k)), (2, .int (nI K)), (3, .int (nI (h 1 k)))]) hx hb dM_parts_172 hl (by decide) rfl (fun ls hl => ?_)
        refine lv_goto (tgt := 20) hx hb dM_parts_174 (by decide) ?_
        refine lv_iload hx hb dM_parts_20 (lv_at hl 1 rfl) ?_
        refine lv_if_lt (tgt := 177) hx hb dM_parts_22 (by decide) (fun c_13 => absurd c_13 (nI_pos (by omega))) (fun c_13 => ?_)
        refine lv_iload hx hb dM_parts_25 (lv_at hl 1 rfl) ?_
        refine lv_iload_n hx hb dM_parts_27 rfl (lv_at hl 5 rfl) ?_
        refine lv_icmp_ge (tgt := 177) hx hb dM_parts_28 (by decide) (fun c_14 => absurd c_14 (nI_ge (by omega) (by omega))) (fun c_14 => ?_)
        refine lv_iload hx hb dM_parts_31 (lv_at hl 0 rfl) ?_
        refine lv_istore (lv' := [(6, .int (nI (x + 1))), (5, .int (nI (x + 1))), (4, .int (nI pl)), (0, .ref (ad 0)), (1, .int (nI k)), (2, .int (nI K)), (3, .int (nI (h 1 k)))]) hx hb dM_parts_33 hl (by decide) rfl (fun ls hl => ?_)
        refine lv_aload_n hx hb dM_parts_35 rfl (lv_at hl 3 rfl) ?_
        refine va_get (D := D) (ci := 4) (C := RM) (T := TM) (N := 21) hx hb hT inM hown hK hP (0) (mw_O) rfl 18 (by decide) (hT _ wm_517) (fun _ h9 => h9) rfl dM_parts_36 ?_
        refine lv_iload hx hb dM_parts_39 (lv_at hl 2 rfl) ?_
        refine va_iald (D := D) hx hb hK hP (17) 0 (mw_a17) rfl (vp_in_nI (by omega) (by decide)) dM_parts_41 ?_
        rw [nI_clamp (n := pl) (by omega)]
        refine W.eq (g2 := F0 m 42 ls [.int (nI us)]) (by rw [gm_b, hbq pl (Nat.le_refl _), hb0]) ?_
        refine lv_iload_n hx hb dM_parts_42 rfl (lv_at hl 5 rfl) ?_
        refine lv_icmp_ge (tgt := 56) hx hb dM_parts_43 (by decide) (fun c_15 => ?_) (fun c_15 => ?_)
        · refine lv_iload_n hx hb dM_parts_56 rfl (lv_at hl 5 rfl) ?_
          refine lv_iconst (v := 1) hx hb dM_parts_57 (by decide) ?_
          refine lv_isub hx hb dM_parts_58 ?_
          refine W.eq (g2 := F0 m 59 ls [.int (nI (min us (K - 1)))]) (by rw [lst8 (by omega) hK1 hK9 c_15]) ?_
          refine lv_istore (lv' := [(7, .int (nI (min us (K - 1)))), (6, .int (nI (x + 1))), (5, .int (nI (x + 1))), (4, .int (nI pl)), (0, .ref (ad 0)), (1, .int (nI k)), (2, .int (nI K)), (3, .int (nI (h 1 k)))]) hx hb dM_parts_59 hl (by decide) rfl (fun ls hl => ?_)
          exact ih (x + 1) an9 be9 (by omega) (fun j hj => by rw [ha9 j (by omega), va_up_ne _ _ (by omega)]) hbq (fun a1 b1 r1 H locs hr => kS a1 b1 r1 H locs (by rw [tr_n hno]; exact hr)) (fun a1 b1 H locs hr => kF a1 b1 H locs (by rw [tr_n hno]; exact hr)) H locs hP hD hS ls (lv_sub hl [1, 0, 3, 4, 5, 6, 7] rfl)
        · refine lv_aload_n hx hb dM_parts_46 rfl (lv_at hl 3 rfl) ?_
          refine va_get (D := D) (ci := 4) (C := RM) (T := TM) (N := 21) hx hb hT inM hown hK hP (0) (mw_O) rfl 18 (by decide) (hT _ wm_517) (fun _ h9 => h9) rfl dM_parts_47 ?_
          refine lv_iload hx hb dM_parts_50 (lv_at hl 2 rfl) ?_
          refine va_iald (D := D) hx hb hK hP (17) 0 (mw_a17) rfl (vp_in_nI (by omega) (by decide)) dM_parts_52 ?_
          rw [nI_clamp (n := pl) (by omega)]
          refine W.eq (g2 := F0 m 53 ls [.int (nI us)]) (by rw [gm_b, hbq pl (Nat.le_refl _), hb0]) ?_
          refine lv_goto (tgt := 59) hx hb dM_parts_53 (by decide) ?_
          refine W.eq (g2 := F0 m 59 ls [.int (nI (min us (K - 1)))]) (by rw [lst9 (by omega) hK1 hK9 c_15]) ?_
          refine lv_istore (lv' := [(7, .int (nI (min us (K - 1)))), (6, .int (nI (x + 1))), (5, .int (nI (x + 1))), (4, .int (nI pl)), (0, .ref (ad 0)), (1, .int (nI k)), (2, .int (nI K)), (3, .int (nI (h 1 k)))]) hx hb dM_parts_59 hl (by decide) rfl (fun ls hl => ?_)
          exact ih (x + 1) an9 be9 (by omega) (fun j hj => by rw [ha9 j (by omega), va_up_ne _ _ (by omega)]) hbq (fun a1 b1 r1 H locs hr => kS a1 b1 r1 H locs (by rw [tr_n hno]; exact hr)) (fun a1 b1 H locs hr => kF a1 b1 H locs (by rw [tr_n hno]; exact hr)) H locs hP hD hS ls (lv_sub hl [1, 0, 3, 4, 5, 6, 7] rfl)
    · refine lv_iinc (v := nI (x + 1)) (lv' := [(6, .int (nI (x + 1))), (7, .int (nI (min us (K - 1)))), (4, .int (nI pl)), (0, .ref (ad 0)), (1, .int (nI k)), (2, .int (nI K)), (3, .int (nI (h 1 k)))]) hx hb dM_parts_80 hl (k := 0) rfl (nI_1 _) (by decide) rfl (fun ls hl => ?_)
      refine lv_goto (tgt := 61) hx hb dM_parts_83 (by decide) ?_
      have hno : (rc (cM g h jp k) K d pl us cz) x = none := rc_f (bI_f (by rw [← w_4]; exact c_5))
      exact ih (x + 1) an be (by omega) hag hbe (fun a1 b1 r1 H locs hr => kS a1 b1 r1 H locs (by rw [tr_n hno]; exact hr)) (fun a1 b1 H locs hr => kF a1 b1 H locs (by rw [tr_n hno]; exact hr)) H locs hP hD hS ls (lv_sub hl [0, 1, 2, 3, 4, 5, 6] rfl)
set_option maxHeartbeats 4000000 in
set_option maxRecDepth 100000 in
theorem loM_parts {p : Program} {l : Launch} {e : Env} {s : State} {m : MethodId} {args : Array Value} {below : List Frame} {meth : Method} {c : Code} {Q : State → Prop} {D : va_G} {CA : Nat → ClassId} {ad : Nat → Nat} {g : Nat → Nat → Int32} {h : Nat → Nat → Nat} {jp : Nat → Nat} (hm : MI g h jp) {k K : Nat} (hk : k < 6) (hK1 : 1 ≤ K) (hK9 : K < 40) (hx : p.tables.exec = Jvm.exec) (hb : c.code = cM_parts) (hml : c.maxLocals = 8) (hown : s.vm.findClass "CountLeastModel" = some m.cls) (hT : ∀ w ∈ TB, w.before args s = true) (hK : va_K D vwCl (cty CA) s) : ∀ d, ∀ (pl us : Nat) (cz an be b0 : Nat → Nat), pl + d = h 1 k → (∀ j, j < pl → an j = cz j) → (∀ j, j < pl → cz j ≤ 12) → (∀ j, j ≤ pl → be j = b0 j) → b0 pl = us → us ≤ pl → (∀ (an9 be9 r9 : Nat → Nat) (H : Heap) (locs : List Loc), fs (cM g h jp k) K d pl us cz = some r9 → (∀ j, j < h 1 k → an9 j = r9 j) → va_P D vwCl (mw CA (gm g an9 be9) ad) H → va_D (mA ad s.heap.size) (mw CA (gm g an9 be9) ad) → va_S (mA ad s.heap.size) s.heap H locs → ∀ ls, lv_has ls 8 [(4, .int (nI (h 1 k))), (0, .ref (ad 0)), (1, .int (nI k)), (2, .int (nI K)), (3, .int (nI (h 1 k)))] → W p l e (rm 3 0 0) s m args below meth c H locs 0 0 Q (F0 m 177 ls [])) → (∀ (an9 be9 : Nat → Nat) (H : Heap) (locs : List Loc), fs (cM g h jp k) K d pl us cz = none → (∀ j, j < pl → an9 j = cz j) → (∀ j, j ≤ pl → be9 j = b0 j) → va_P D vwCl (mw CA (gm g an9 be9) ad) H → va_D (mA ad s.heap.size) (mw CA (gm g an9 be9) ad) → va_S (mA ad s.heap.size) s.heap H locs → ∀ ls, lv_has ls 8 [(4, .int (nI pl)), (0, .ref (ad 0)), (1, .int (nI k)), (2, .int (nI K)), (3, .int (nI (h 1 k)))] → W p l e (rm 3 0 0) s m args below meth c H locs 0 0 Q (F0 m 151 ls [])) → ∀ (H : Heap) (locs : List Loc), va_P D vwCl (mw CA (gm g an be) ad) H → va_D (mA ad s.heap.size) (mw CA (gm g an be) ad) → va_S (mA ad s.heap.size) s.heap H locs → ∀ ls, lv_has ls 8 [(4, .int (nI pl)), (5, .int 0), (0, .ref (ad 0)), (1, .int (nI k)), (2, .int (nI K)), (3, .int (nI (h 1 k)))] → W p l e (rm 3 0 0) s m args below meth c H locs 0 0 Q (F0 m 20 ls []) := by
  intro d
  induction d with
  | zero =>
    intro pl us cz an be b0 hpl hag hcb hbe hb0 hus kS kF H locs hP hD hS ls hl
    have h12 := hm.c12 hk
    have hpl : pl = h 1 k := by omega
    refine lv_iload hx hb dM_parts_20 (lv_at hl 0 rfl) ?_
    refine lv_if_lt (tgt := 177) hx hb dM_parts_22 (by decide) (fun c_1 => absurd c_1 (nI_pos (by omega))) (fun c_1 => ?_)
    refine lv_iload hx hb dM_parts_25 (lv_at hl 0 rfl) ?_
    refine lv_iload_n hx hb dM_parts_27 rfl (lv_at hl 5 rfl) ?_
    refine lv_icmp_ge (tgt := 177) hx hb dM_parts_28 (by decide) (fun c_2 => ?_) (fun c_2 => absurd (nI_le (by omega) (by omega)) c_2)
    rw [hpl] at hl
    exact kS an be cz H locs rfl (fun j hj => hag j (by omega)) hP hD hS ls (lv_sub hl [0, 2, 3, 4, 5] rfl)
  | succ d IH =>
    intro pl us cz an be b0 hpl hag hcb hbe hb0 hus kS kF H locs hP hD hS ls hl
    have h12 := hm.c12 hk
    refine lv_iload hx hb dM_parts_20 (lv_at hl 0 rfl) ?_
    refine lv_if_lt (tgt := 177) hx hb dM_parts_22 (by decide) (fun c_1 => absurd c_1 (nI_pos (by omega))) (fun c_1 => ?_)
    refine lv_iload hx hb dM_parts_25 (lv_at hl 0 rfl) ?_
    refine lv_iload_n hx hb dM_parts_27 rfl (lv_at hl 5 rfl) ?_
    refine lv_icmp_ge (tgt := 177) hx hb dM_parts_28 (by decide) (fun c_2 => absurd c_2 (nI_ge (by omega) (by omega))) (fun c_2 => ?_)
    refine lv_iload hx hb dM_parts_31 (lv_at hl 1 rfl) ?_
    refine lv_istore (lv' := [(6, .int 0), (4, .int (nI pl)), (5, .int 0), (0, .ref (ad 0)), (1, .int (nI k)), (2, .int (nI K)), (3, .int (nI (h 1 k)))]) hx hb dM_parts_33 hl (by decide) rfl (fun ls hl => ?_)
    refine lv_aload_n hx hb dM_parts_35 rfl (lv_at hl 3 rfl) ?_
    refine va_get (D := D) (ci := 4) (C := RM) (T := TM) (N := 21) hx hb hT inM hown hK hP (0) (mw_O) rfl 18 (by decide) (hT _ wm_517) (fun _ h9 => h9) rfl dM_parts_36 ?_
    refine lv_iload hx hb dM_parts_39 (lv_at hl 1 rfl) ?_
    refine va_iald (D := D) hx hb hK hP (17) 0 (mw_a17) rfl (vp_in_nI (by omega) (by decide)) dM_parts_41 ?_
    rw [nI_clamp (n := pl) (by omega)]
    refine W.eq (g2 := F0 m 42 ls [.int (nI us)]) (by rw [gm_b, hbe pl (Nat.le_refl _), hb0]) ?_
    refine lv_iload_n hx hb dM_parts_42 rfl (lv_at hl 5 rfl) ?_
    refine lv_icmp_ge (tgt := 56) hx hb dM_parts_43 (by decide) (fun c_3 => ?_) (fun c_3 => ?_)
    · refine lv_iload_n hx hb dM_parts_56 rfl (lv_at hl 5 rfl) ?_
      refine lv_iconst (v := 1) hx hb dM_parts_57 (by decide) ?_
      refine lv_isub hx hb dM_parts_58 ?_
      refine W.eq (g2 := F0 m 59 ls [.int (nI (min us (K - 1)))]) (by rw [lst8 (by omega) hK1 hK9 c_3]) ?_
      refine lv_istore (lv' := [(7, .int (nI (min us (K - 1)))), (6, .int 0), (4, .int (nI pl)), (5, .int 0), (0, .ref (ad 0)), (1, .int (nI k)), (2, .int (nI K)), (3, .int (nI (h 1 k)))]) hx hb dM_parts_59 hl (by decide) rfl (fun ls hl => ?_)
      exact liM_parts hm hk hK1 hK9 hx hb hml hown hT hK hpl hcb hb0 hus IH (min (us + 1) K) 0 an be (by omega) hag hbe kS kF H locs hP hD hS ls (lv_sub hl [1, 0, 2, 4, 5, 6, 7] rfl)
    · refine lv_aload_n hx hb dM_parts_46 rfl (lv_at hl 3 rfl) ?_
      refine va_get (D := D) (ci := 4) (C := RM) (T := TM) (N := 21) hx hb hT inM hown hK hP (0) (mw_O) rfl 18 (by decide) (hT _ wm_517) (fun _ h9 => h9) rfl dM_parts_47 ?_
      refine lv_iload hx hb dM_parts_50 (lv_at hl 1 rfl) ?_
      refine va_iald (D := D) hx hb hK hP (17) 0 (mw_a17) rfl (vp_in_nI (by omega) (by decide)) dM_parts_52 ?_
      rw [nI_clamp (n := pl) (by omega)]
      refine W.eq (g2 := F0 m 53 ls [.int (nI us)]) (by rw [gm_b, hbe pl (Nat.le_refl _), hb0]) ?_
      refine lv_goto (tgt := 59) hx hb dM_parts_53 (by decide) ?_
      refine W.eq (g2 := F0 m 59 ls [.int (nI (min us (K - 1)))]) (by rw [lst9 (by omega) hK1 hK9 c_3]) ?_
      refine lv_istore (lv' := [(7, .int (nI (min us (K - 1)))), (6, .int 0), (4, .int (nI pl)), (5, .int 0), (0, .ref (ad 0)), (1, .int (nI k)), (2, .int (nI K)), (3, .int (nI (h 1 k)))]) hx hb dM_parts_59 hl (by decide) rfl (fun ls hl => ?_)
      exact liM_parts hm hk hK1 hK9 hx hb hml hown hT hK hpl hcb hb0 hus IH (min (us + 1) K) 0 an be (by omega) hag hbe kS kF H locs hP hD hS ls (lv_sub hl [1, 0, 2, 4, 5, 6, 7] rfl)
