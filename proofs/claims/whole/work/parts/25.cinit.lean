/-! a new object: its kinds one behind the other -/
def g00 : Nat → Nat → Int32 := fun a b => if 3 ≤ a ∧ a < 57 then (if (a - 3) % 9 = 0 then (if b = 3 then 30000 else if b = 4 ∨ b = 5 then 1 else 0) else if (a - 3) % 9 = 3 then w999 16 b else 0) else 0
def h00 : Nat → Nat → Nat := fun _ _ => 0
theorem g00_k {k j b : Nat} (hk : k < 6) (hj : j < 9) {a : Nat} (ha : a = 3 + 9 * k + j) : g00 a b = if j = 0 then (if b = 3 then 30000 else if b = 4 ∨ b = 5 then 1 else 0) else if j = 3 then w999 16 b else 0 := by
  subst ha
  unfold g00
  rw [if_pos (by omega), show (3 + 9 * k + j - 3) % 9 = j by omega]
theorem g00_f {k j : Nat} (hk : k < 6) (hj : j < 9) {a : Nat} (ha : a = 3 + 9 * k + j) (h0 : j ≠ 0) (h3 : j ≠ 3) : g00 a = fun _ => 0 := by
  funext b
  rw [g00_k hk hj ha, if_neg h0, if_neg h3]
theorem g00_w {k : Nat} (hk : k < 6) : g00 (6 + 9 * k) = w999 16 := by
  funext b
  rw [g00_k (k := k) (j := 3) hk (by omega) (by omega), if_neg (by decide), if_pos rfl]
def ci (CA : Nat → ClassId) (i : Nat) (ad : Nat → Nat) : Nat → va_E := fun a => if a = 1 then .inl (CA 2, aR 6 (fun q => if q < i then some (ad (3 + 9 * q)) else none)) else cc CA g00 h00 ad a
def ax (i : Nat) (ad : Nat → Nat) (q : Nat) (u : Nat → Nat) : Nat → Nat := fun a => if a < 3 + 9 * i then ad a else if a = 3 + 9 * i then q else u (a - (4 + 9 * i))
theorem ax_l {i a : Nat} {ad : Nat → Nat} {q : Nat} {u : Nat → Nat} (h : a < 3 + 9 * i) : ax i ad q u a = ad a := if_pos h
theorem ax_q {i : Nat} {ad : Nat → Nat} {q : Nat} {u : Nat → Nat} : ax i ad q u (3 + 9 * i) = q := by simp [ax]
theorem ax_u {i j a : Nat} {ad : Nat → Nat} {q : Nat} {u : Nat → Nat} (ha : a = 4 + 9 * i + j) : ax i ad q u a = u j := by
  subst ha
  unfold ax
  rw [if_neg (by omega), if_neg (by omega), show 4 + 9 * i + j - (4 + 9 * i) = j by omega]
theorem kc_ad {CA : Nat → ClassId} {ad ad' : Nat → Nat} {k j : Nat} (hj : j < 9) (h : ∀ a, 3 + 9 * k ≤ a → a < 12 + 9 * k → ad a = ad' a) : kc CA g00 h00 ad k j = kc CA g00 h00 ad' k j := by
  have e := fun a h1 h2 => h a h1 h2
  rcases (show j = 0 ∨ j = 1 ∨ j = 2 ∨ j = 3 ∨ j = 4 ∨ j = 5 ∨ j = 6 ∨ j = 7 ∨ j = 8 by omega) with rfl | rfl | rfl | rfl | rfl | rfl | rfl | rfl | rfl
  · simp [kc, e (4 + 9 * k) (by omega) (by omega), e (5 + 9 * k) (by omega) (by omega), e (6 + 9 * k) (by omega) (by omega), e (7 + 9 * k) (by omega) (by omega), e (8 + 9 * k) (by omega) (by omega)]
  · simp [kc]
  · simp [kc]
  · simp [kc]
  · simp [kc, h00]
  · simp [kc, e (9 + 9 * k) (by omega) (by omega), e (10 + 9 * k) (by omega) (by omega), e (11 + 9 * k) (by omega) (by omega)]
  · simp [kc]
  · simp [kc]
  · simp [kc]
theorem ci_low {CA : Nat → ClassId} {i : Nat} {ad : Nat → Nat} {q : Nat} {u : Nat → Nat} (hi : i < 6) {a : Nat} (ha : a < 3 + 9 * i) (h1 : a ≠ 1) : ci CA i ad a = ci CA (i + 1) (ax i ad q u) a := by
  unfold ci
  rw [if_neg h1, if_neg h1]
  by_cases h0 : a = 0
  · subst h0; simp [cc, ax_l (i := i) (a := 1) (ad := ad) (q := q) (u := u) (by omega), ax_l (i := i) (a := 2) (ad := ad) (q := q) (u := u) (by omega)]
  · by_cases h2 : a = 2
    · subst h2; simp [cc, h00]
    · obtain ⟨k, j, hk, hj, rfl⟩ : ∃ k j, k < i ∧ j < 9 ∧ a = 3 + 9 * k + j := ⟨(a - 3) / 9, (a - 3) % 9, by omega, by omega, by omega⟩
      rw [cc_k (k := k) (j := j) (by omega) hj rfl, cc_k (k := k) (j := j) (by omega) hj rfl]
      exact kc_ad hj (fun b h3 h4 => (ax_l (by omega)).symm)
theorem ci_new {CA : Nat → ClassId} {i : Nat} {ad : Nat → Nat} {q : Nat} {u : Nat → Nat} (hi : i < 6) {j : Nat} (hj : j < 9) : (kw CA q u)[j]? = some (ax i ad q u (3 + 9 * i + j), ci CA (i + 1) (ax i ad q u) (3 + 9 * i + j)) := by
  unfold ci
  rw [if_neg (by omega), cc_k (k := i) (j := j) hi hj rfl]
  have e : ∀ b n, b = 4 + 9 * i + n → ax i ad q u b = u n := fun b n h => ax_u h
  rcases (show j = 0 ∨ j = 1 ∨ j = 2 ∨ j = 3 ∨ j = 4 ∨ j = 5 ∨ j = 6 ∨ j = 7 ∨ j = 8 by omega) with rfl | rfl | rfl | rfl | rfl | rfl | rfl | rfl | rfl
  · rw [show 3 + 9 * i + 0 = 3 + 9 * i by omega, ax_q]
    have z := fun b => g00_k (k := i) (j := 0) (b := b) hi (by omega) (a := 3 + 9 * i) (by omega)
    simp [kc, kw, e (4 + 9 * i) 0 (by omega), e (5 + 9 * i) 1 (by omega), e (6 + 9 * i) 2 (by omega), e (7 + 9 * i) 3 (by omega), e (8 + 9 * i) 4 (by omega), z]
  · rw [e _ 0 (by omega)]; simp [kc, kw, g00_f (k := i) (j := 1) hi (by omega) (a := 4 + 9 * i) (by omega) (by decide) (by decide)]
  · rw [e _ 1 (by omega)]; simp [kc, kw, g00_f (k := i) (j := 2) hi (by omega) (a := 5 + 9 * i) (by omega) (by decide) (by decide)]
  · rw [e _ 2 (by omega)]; simp [kc, kw, g00_w hi]
  · rw [e _ 3 (by omega)]; simp [kc, kw, h00]
  · rw [e _ 4 (by omega)]
    have z := g00_f (k := i) (j := 5) hi (by omega) (a := 8 + 9 * i) (by omega) (by decide) (by decide)
    simp [kc, kw, e (9 + 9 * i) 5 (by omega), e (10 + 9 * i) 6 (by omega), e (11 + 9 * i) 7 (by omega), z]
  · rw [e _ 5 (by omega)]; simp [kc, kw, g00_f (k := i) (j := 6) hi (by omega) (a := 9 + 9 * i) (by omega) (by decide) (by decide)]
  · rw [e _ 6 (by omega)]; simp [kc, kw, g00_f (k := i) (j := 7) hi (by omega) (a := 10 + 9 * i) (by omega) (by decide) (by decide)]
  · rw [e _ 7 (by omega)]; simp [kc, kw, g00_f (k := i) (j := 8) hi (by omega) (a := 11 + 9 * i) (by omega) (by decide) (by decide)]
theorem ci_step {CA : Nat → ClassId} {i : Nat} {ad : Nat → Nat} {q : Nat} {u : Nat → Nat} (hi : i < 6) {a : Nat} (ha : a < 12 + 9 * i) :
    ((nw (3 + 9 * i) ad (ci CA i ad) ++ kw CA q u).set 1 (ad 1, .inl (CA 2, 6, .inr (.inr (.inr (.inr (va_up (fun q => if q < i then some (ad (3 + 9 * q)) else none) i (some q))))))))[a]? = some (ax i ad q u a, ci CA (i + 1) (ax i ad q u) a) := by
  have hlen : (nw (3 + 9 * i) ad (ci CA i ad)).length = 3 + 9 * i := by simp [nw]
  rw [List.getElem?_set]
  by_cases h1 : 1 = a
  · subst h1
    rw [if_pos rfl, if_pos (by simp [hlen]; omega), ax_l (by omega)]
    congr 2
    unfold ci
    rw [if_pos rfl]
    congr 3
    congr 4
    funext b
    by_cases hb : b = i
    · subst hb; rw [va_up_self, if_pos (by omega), ax_q]
    · rw [va_up_ne _ _ hb]
      by_cases hb2 : b < i
      · rw [if_pos hb2, if_pos (by omega), ax_l (by omega)]
      · rw [if_neg hb2, if_neg (by omega)]
  · rw [if_neg h1]
    by_cases h2 : a < 3 + 9 * i
    · rw [List.getElem?_append_left (by rw [hlen]; exact h2), nw_get h2, ax_l h2, ci_low hi h2 (fun e => h1 e.symm)]
    · obtain ⟨j, rfl⟩ : ∃ j, a = 3 + 9 * i + j := ⟨a - (3 + 9 * i), by omega⟩
      rw [List.getElem?_append_right (by rw [hlen]; omega), hlen, show 3 + 9 * i + j - (3 + 9 * i) = j by omega]
      exact ci_new hi (by omega)
theorem nw_ofL {D : va_G} {cl : List vw_C} {A : Nat → Prop} {L : va_W} {N : Nat} {ad : Nat → Nat} {c : Nat → va_E} {H : Heap} (hP : va_P D cl L H) (hD : va_D A L) (h : ∀ a, a < N → L[a]? = some (ad a, c a)) : va_P D cl (nw N ad c) H ∧ va_D A (nw N ad c) :=
  ⟨nw_P.mpr (fun i hi => hP i _ (h i hi)), nw_D.mpr ⟨fun i j hi hj e => hD.1 i j _ _ (h i hi) (h j hj) e, fun i hi => hD.2 i _ (h i hi)⟩⟩
theorem P_right {D : va_G} {cl : List vw_C} {wA wB : va_W} {H : Heap} (h : va_P D cl (wB ++ wA) H) : va_P D cl wA H := fun k q hq => h (wB.length + k) q (by rw [List.getElem?_append_right (by omega), show wB.length + k - wB.length = k by omega]; exact hq)
theorem D_right {A : Nat → Prop} {wA wB : va_W} (h : va_D A (wB ++ wA)) : va_D A wA := by
  have e : ∀ (k : Nat) (q : Nat × va_E), wA[k]? = some q → (wB ++ wA)[wB.length + k]? = some q := fun k q hq => by rw [List.getElem?_append_right (by omega), show wB.length + k - wB.length = k by omega]; exact hq
  exact ⟨fun i j p q hp hq e9 => by have := h.1 _ _ _ _ (e i p hp) (e j q hq) e9; omega, fun k q hq => h.2 _ _ (e k q hq)⟩
theorem vp_cell_cq (cA : ClassId) {n : Nat} {f f' : Nat → Option Nat} (h : ∀ j, j < n → f j = f' j) : vp_cell cA (aR n f) = vp_cell cA (aR n f') := by
  rw [vp_cell_q, vp_cell_q]
  unfold arrV
  congr 1
  apply congrArg
  funext j
  show va_rf (f j.val) = va_rf (f' j.val)
  rw [h j.val j.isLt]
theorem ci_end {D : va_G} {CA : Nat → ClassId} {ad : Nat → Nat} {A : Nat → Prop} {H : Heap} (hP : va_P D vwCl (nw 57 ad (ci CA 6 ad)) H) (hD : va_D A (nw 57 ad (ci CA 6 ad))) : va_P D vwCl (cw CA g00 h00 ad) H ∧ va_D A (cw CA g00 h00 ad) := by
  have e : nw 57 ad (ci CA 6 ad) = cw CA g00 h00 ad := nw_congr (fun i _ => by
    unfold ci
    by_cases h : i = 1
    · subst h; rfl
    · rw [if_neg h])
  rw [← e]
  exact ⟨hP, hD⟩
set_option maxHeartbeats 4000000 in
set_option maxRecDepth 100000 in
theorem loC_init {p : Program} {l : Launch} {e : Env} {s : State} {m : MethodId} {args : Array Value} {below : List Frame} {meth : Method} {c : Code} {Q : State → Prop} {D : va_G} {CA : Nat → ClassId} {q0 : Nat} (hx : p.tables.exec = Jvm.exec) (hb : c.code = cC_init) (hml : c.maxLocals = 2) (hown : s.vm.findClass "CountLeast" = some m.cls) (hT : ∀ w ∈ TB, w.before args s = true) (hK : va_K D vwCl (cty CA) s) (hN : nst s) (kx : ∀ (H : Heap) (locs : List Loc) (ad : Nat → Nat), ad 0 = q0 → va_P D vwCl (nw (3 + 9 * 6) ad (ci CA 6 ad)) H → va_D (oA q0 s.heap.size) (nw (3 + 9 * 6) ad (ci CA 6 ad)) → va_S (oA q0 s.heap.size) s.heap H locs → ∀ ls, W p l e (rm 2 56 750) s m args below meth c H locs (2 + 9 * 6) (78 + 112 * 6) Q (F0 m 54 ls [])) :
    ∀ (n i : Nat), i + n = 6 → ∀ (H : Heap) (locs : List Loc) (ad : Nat → Nat), ad 0 = q0 → va_P D vwCl (nw (3 + 9 * i) ad (ci CA i ad)) H → va_D (oA q0 s.heap.size) (nw (3 + 9 * i) ad (ci CA i ad)) → va_S (oA q0 s.heap.size) s.heap H locs → ∀ ls, lv_has ls 2 [(1, .int (nI i)), (0, .ref q0)] → W p l e (rm 2 56 750) s m args below meth c H locs (2 + 9 * i) (78 + 112 * i) Q (F0 m 29 ls []) := by
  have hA : ∀ q, s.heap.size ≤ q → (oA q0 s.heap.size) q := fun _ h => Or.inr h
  intro n
  induction n with
  | zero =>
    intro i hi H locs ad ha0 hP hD hS ls hl
    have hi : i = 6 := by omega
    subst hi
    refine lv_iload_n hx hb dC_init_29 rfl (lv_at hl 0 rfl) ?_
    refine lv_bipush (v := 6) hx hb dC_init_30 (by decide) ?_
    refine lv_icmp_ge (tgt := 54) hx hb dC_init_32 (by decide) (fun c_1 => ?_) (fun c_1 => absurd (by decide) c_1)
    exact kx H locs ad ha0 hP hD hS ls
  | succ n ih =>
    intro i hi H locs ad ha0 hP hD hS ls hl
    subst ha0
    refine lv_iload_n hx hb dC_init_29 rfl (lv_at hl 0 rfl) ?_
    refine lv_bipush (v := 6) hx hb dC_init_30 (by decide) ?_
    refine lv_icmp_ge (tgt := 54) hx hb dC_init_32 (by decide) (fun c_1 => absurd c_1 (nI_ge (b := 6) (by omega) (by decide))) (fun c_1 => ?_)
    refine lv_aload_n hx hb dC_init_35 rfl (lv_at hl 1 rfl) ?_
    refine va_get (D := D) (ci := 0) (C := RC) (T := TC) (N := 3) hx hb hT inC hown hK hP 0 (nw_getE (e := .inr (0, [.ref (ad 1), .ref (ad 2), .int 0])) (by omega) rfl) rfl 0 (by decide) (hT _ wm_100) (fun _ h9 => h9) rfl dC_init_36 ?_
    refine lv_iload_n hx hb dC_init_39 rfl (lv_at hl 0 rfl) ?_
    have hc1 : 2 + 9 * i + 1 ≤ 56 := by omega
    have hs1 : 78 + 112 * i + 10 ≤ 750 := by omega
    refine va_new (ci := 1) (fs := [.null, .null, .null, .int 0, .int 0, .int 0, .int 0, .int 0, .null, .null]) (own := "CountLeast") (C := RK) (T := TK) (N := 10) hx hb hT inK tyK tyokK hown (hT _ wm_22) (hT _ wm_26) (hT _ wm_2) hK hP hD hS hA rfl (fun j hj => by rcases (show j = 0 ∨ j = 1 ∨ j = 2 ∨ j = 3 ∨ j = 4 ∨ j = 5 ∨ j = 6 ∨ j = 7 ∨ j = 8 ∨ j = 9 by omega) with rfl | rfl | rfl | rfl | rfl | rfl | rfl | rfl | rfl | rfl <;> rfl) hc1 hs1 dC_init_40 (fun q9 H hP hD hS => ?_)
    refine lv_dup hx hb dC_init_43 rfl ?_
    have hFA : ∀ x, oA q9 H.size x → (oA (ad 0) s.heap.size) x := fun x hx9 => hx9.elim (fun e9 => by rw [e9]; exact (D_right hD).2 0 _ rfl) (fun e9 => Or.inr (Nat.le_trans hS.1 e9))
    refine va_callv (va_runI (As := []) (rest := [.ref q9, .int (nI i), .ref (ad 1)]) ⟨hx, hb, hml, hown, hT⟩ (kK_init l D CA H.size q9) (cwI 0 hT (gi_cons wm_29 gi_TB) rfl rfl rfl (hT _ wm_2) (hT _ wm_27) (hT _ wm_28) rfl (by decide +kernel) ⟨(Nat.le_of_ble_eq_true rfl), (Nat.le_of_ble_eq_true rfl)⟩) ⟨fun a U fr mk q => ⟨q.1, gpre_blind fr mk a q.2.1, nst_blind fr mk a q.2.2⟩, fun U hU hW9 => ⟨rfl, gpre_at (P_right hP) hK (D_right hD) hU hW9, nst_warm hW9 hN⟩⟩ rfl rfl hl.1 rfl (lv_room (Nat.le_of_ble_eq_true rfl)) dC_init_44 ⟨show 2 + 9 * i + 1 + 8 ≤ 56 by omega, show 78 + 112 * i + 10 + 102 ≤ 750 by omega⟩) hS (fun x _ hx9 => hFA x hx9) hFA (fun u9 t9 H1 locs ht9 hvm9 _ hB9 hz9 hk9 hS => ?_)
    obtain ⟨hP1, -, hD1⟩ := hB9
    rw [ht9] at hP1
    obtain ⟨hP, hD⟩ := nj2 hP hD hk9 oA_in hP1 hD1 hFA
    generalize H1 = H at hP hS ⊢
    have hlen : (nw (3 + 9 * i) ad (ci CA i ad)).length = 3 + 9 * i := by simp [nw]
    refine va_astq (D := D) hx hb hK hP hD hS 1 2 (3 + 9 * i) 1 (r := (RK, TK, 10)) (cA := CA 2) (n := 6) (f := fun q => if q < i then some (ad (3 + 9 * q)) else none) (vs := [.ref (u9 0), .ref (u9 1), .ref (u9 2), .int 30000, .int 1, .int 1, .int 0, .int 0, .ref (u9 3), .ref (u9 4)]) (by rw [List.getElem?_append_left (by rw [hlen]; omega)]; exact nw_getE (by omega) rfl) rfl (by rw [List.getElem?_append_right (by rw [hlen]; omega), hlen, Nat.sub_self]; rfl) rfl (vp_in_nI (show i < 6 by omega) (by decide)) dC_init_47 (fun H locs hP hD hS => ?_)
    rw [nI_clamp (n := i) (by omega)] at hP hD
    obtain ⟨hP, hD⟩ := nw_ofL (N := 12 + 9 * i) hP hD (fun a ha => ci_step (by omega) ha)
    refine W.widen (k := 2 + 9 * (i + 1)) (n := 78 + 112 * (i + 1)) (by omega) (by omega) ?_
    refine lv_iinc (v := nI (i + 1)) (lv' := [(1, .int (nI (i + 1))), (0, .ref (ad 0))]) hx hb dC_init_48 hl (k := 0) rfl (nI_1 _) (by decide) rfl (fun ls hl => ?_)
    refine lv_goto (tgt := 29) hx hb dC_init_51 (by decide) ?_
    rw [show 12 + 9 * i = 3 + 9 * (i + 1) by omega] at hP hD
    exact ih (i + 1) (by omega) H locs _ (ax_l (by omega)) hP hD hS ls hl
set_option maxHeartbeats 4000000 in
set_option maxRecDepth 100000 in
theorem kC_init (l : Launch) (D : va_G) (CA : Nat → ClassId) (sz q0 : Nat) : Met l yC_init wC_init (rm 2 56 750) (va_Pc [.ref q0] (fun U => gpre D (cty CA) [(q0, .inr (0, [.null, .null, .int 0]))] sz U ∧ nst U)) (va_Qv (fun (u : Nat → Nat) => u 0 = q0) (fun u t => gpost D (cty CA) (cw CA g00 h00 u) (oA q0 sz) t) (oA q0 sz)) 56 750 (oA q0 sz) := by
  refine Met.ofW (cc := cC_init) (maxL := 2) (ret := none) (by decide) rfl ?_
  intro p e s m args below meth c s₁ B hml hv
  obtain ⟨rfl, ⟨hsz, hP, hK, hD0⟩, hN⟩ := hv
  have hx := B.exec
  have hb := B.bytes
  have hr := B.returns
  have hT : ∀ w ∈ TB, w.before _ s = true := fun w hw => atoms_spec (ws := wC_init) B.pre w (List.mem_cons_of_mem _ hw)
  have hown : s.vm.findClass "CountLeast" = some m.cls := findClass_of_methodNamed B.named
  have hlocks := B.notSynchronized
  have hin : meth.name = "<init>" := (name_of_methodNamed B.named B.method).1
  subst hsz
  have hOK := hN.2.1
  have hOP := hN.2.2
  have hD := oA_D (sz := s.heap.size) hD0
  have hA : ∀ q, s.heap.size ≤ q → oA q0 s.heap.size q := fun _ h => Or.inr h
  have hS : va_S (oA q0 s.heap.size) s.heap s.heap [] := va_S.rf
  have hl := lv_entry ([.ref q0]) (n := 2) (Nat.le_of_ble_eq_true rfl)
  rw [lg_entry_eq]
  generalize (lg_sl ([.ref q0]) ++ List.replicate (2 - (lg_sl ([.ref q0])).length) Slot.unset).toArray = ls at hl ⊢
  have hl : lv_has ls 2 [(0, .ref q0)] := hl
  refine lv_aload_n hx hb dC_init_0 rfl (lv_at hl 0 rfl) ?_
  refine W.objInit hx hb hown (hT _ wm_19) (hT _ wm_20) (hT _ wm_21) rfl (by rw [hml]; exact hl.1) rfl dC_init_1 (Nat.le_of_ble_eq_true rfl) (Nat.le_of_ble_eq_true rfl) ?_
  refine W.eq (g2 := F0 m 4 ls []) rfl ?_
  refine lv_aload_n hx hb dC_init_4 rfl (lv_at hl 0 rfl) ?_
  refine lv_bipush (v := 6) hx hb dC_init_5 (by decide) ?_
  refine va_newq (own := "CountLeast") (C := "CountLeast$Kind") hx hb hown (hT _ wm_22) hOK hK hP hD hS hA (N' := 6) (by decide) (by decide) (by decide) (Nat.le_of_ble_eq_true rfl) (Nat.le_of_ble_eq_true rfl) dC_init_7 (fun q_1 cA H hK9 hP hD hS => ?_)
  obtain rfl : cA = CA 2 := ra_u (hK9.2 4 _ rfl).2 (hK.2 2 _ rfl).2
  refine W.widen (k := 1) (n := 6) (Nat.le_refl _) (Nat.le_refl _) ?_
  have hP : va_P D vwCl [(q0, .inr (0, [.null, .null, .int 0])), (q_1, .inl (CA 2, aR 6 (fun _ => none)))] H := hP
  have hD : va_D (oA q0 s.heap.size) [(q0, .inr (0, [.null, .null, .int 0])), (q_1, .inl (CA 2, aR 6 (fun _ => none)))] := hD
  refine va_putF (D := D) (ci := 0) (v := .ref q_1) (ty := (.array (.object "CountLeast$Kind"))) (C := RC) (T := TC) (N := 3) hx hb hT inC tyC tyokC nmC hown hK hP hD hS 0 rfl rfl 0 (by decide) (hT _ wm_100) (fun _ h9 => h9) rfl hin rfl (by decide +kernel) rfl rfl (Nat.le_of_ble_eq_true rfl) dC_init_10 (fun H locs hP hD hS => ?_)
  have hP : va_P D vwCl [(q0, .inr (0, [.ref q_1, .null, .int 0])), (q_1, .inl (CA 2, aR 6 (fun _ => none)))] H := hP
  have hD : va_D (oA q0 s.heap.size) [(q0, .inr (0, [.ref q_1, .null, .int 0])), (q_1, .inl (CA 2, aR 6 (fun _ => none)))] := hD
  refine lv_aload_n hx hb dC_init_13 rfl (lv_at hl 0 rfl) ?_
  refine lv_bipush (v := 72) hx hb dC_init_14 (by decide) ?_
  refine va_newq (own := "CountLeast") (C := "CountLeast$Piece") hx hb hown (hT _ wm_24) hOP hK hP hD hS hA (N' := 72) (by decide) (by decide) (by decide) (Nat.le_of_ble_eq_true rfl) (Nat.le_of_ble_eq_true rfl) dC_init_16 (fun q_2 cA H hK9 hP hD hS => ?_)
  obtain rfl : cA = CA 3 := ra_u (hK9.2 4 _ rfl).2 (hK.2 3 _ rfl).2
  refine W.widen (k := 2) (n := 78) (Nat.le_refl _) (Nat.le_refl _) ?_
  have hP : va_P D vwCl [(q0, .inr (0, [.ref q_1, .null, .int 0])), (q_1, .inl (CA 2, aR 6 (fun _ => none))), (q_2, .inl (CA 3, aR 72 (fun _ => none)))] H := hP
  have hD : va_D (oA q0 s.heap.size) [(q0, .inr (0, [.ref q_1, .null, .int 0])), (q_1, .inl (CA 2, aR 6 (fun _ => none))), (q_2, .inl (CA 3, aR 72 (fun _ => none)))] := hD
  refine va_putF (D := D) (ci := 0) (v := .ref q_2) (ty := (.array (.object "CountLeast$Piece"))) (C := RC) (T := TC) (N := 3) hx hb hT inC tyC tyokC nmC hown hK hP hD hS 0 rfl rfl 1 (by decide) (hT _ wm_101) (fun _ h9 => h9) rfl hin rfl (by decide +kernel) rfl rfl (Nat.le_of_ble_eq_true rfl) dC_init_19 (fun H locs hP hD hS => ?_)
  have hP : va_P D vwCl [(q0, .inr (0, [.ref q_1, .ref q_2, .int 0])), (q_1, .inl (CA 2, aR 6 (fun _ => none))), (q_2, .inl (CA 3, aR 72 (fun _ => none)))] H := hP
  have hD : va_D (oA q0 s.heap.size) [(q0, .inr (0, [.ref q_1, .ref q_2, .int 0])), (q_1, .inl (CA 2, aR 6 (fun _ => none))), (q_2, .inl (CA 3, aR 72 (fun _ => none)))] := hD
  refine lv_aload_n hx hb dC_init_22 rfl (lv_at hl 0 rfl) ?_
  refine lv_iconst (v := 0) hx hb dC_init_23 (by decide) ?_
  refine va_put (D := D) (ci := 0) (v := .int 0) (ty := .int) (C := RC) (T := TC) (N := 3) hx hb hT inC tyC tyokC nmC hown hK hP hD hS 0 rfl rfl 2 (by decide) (hT _ wm_102) (fun _ h9 => h9) rfl (by decide +kernel) rfl rfl (Nat.le_of_ble_eq_true rfl) dC_init_24 (fun H locs hP hD hS => ?_)
  have hP : va_P D vwCl [(q0, .inr (0, [.ref q_1, .ref q_2, .int 0])), (q_1, .inl (CA 2, aR 6 (fun _ => none))), (q_2, .inl (CA 3, aR 72 (fun _ => none)))] H := hP
  have hD : va_D (oA q0 s.heap.size) [(q0, .inr (0, [.ref q_1, .ref q_2, .int 0])), (q_1, .inl (CA 2, aR 6 (fun _ => none))), (q_2, .inl (CA 3, aR 72 (fun _ => none)))] := hD
  refine lv_iconst (v := 0) hx hb dC_init_27 (by decide) ?_
  refine lv_istore_n (lv' := [(1, .int 0), (0, .ref q0)]) hx hb dC_init_28 rfl hl (by decide) rfl (fun ls hl => ?_)
  obtain ⟨hP, hD⟩ := nw_ofL (N := 3 + 9 * 0) (ad := (fun n => [q0, q_1, q_2].getD n 0)) (c := ci CA 0 (fun n => [q0, q_1, q_2].getD n 0)) hP hD (fun a ha => by rcases (show a = 0 ∨ a = 1 ∨ a = 2 by omega) with rfl | rfl | rfl <;> rfl)
  refine loC_init hx hb hml hown hT hK hN (fun H locs ad ha0 hP hD hS ls => ?_) 6 0 (by omega) H locs _ rfl hP hD hS ls (lv_sub hl [0, 1] rfl)
  obtain ⟨hP, hD⟩ := ci_end hP hD
  exact W.vret hx hb hr (fun t ht hW => ⟨⟨ad, rfl, ha0, gpost_at hP hK hD ht hW.alike⟩, hS.F ht⟩) hS.2.2 dC_init_54
