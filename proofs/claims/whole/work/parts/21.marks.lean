/-! marks: how they stay small -/
theorem sap_lt {fo : Nat → Nat} {i j : Nat} (h : iok fo) (hi : i < 12) (hj : j < 12) : iok (sap fo i j) := by
  have h1 : iok (va_up fo i (fo i ||| 2 ^ j)) := iok_up h (or_lt (h i hi) (pw_lt hj))
  exact iok_up h1 (or_lt (h1 j hj) (pw_lt hi))
theorem mf1_lt {e : Nat → Nat → Bool} {i : Nat} (hi : i < 12) : ∀ f j fo, j + f ≤ 12 → iok fo → iok (mf1 e i f j fo) := by
  intro f
  induction f with
  | zero => intro j fo _ h; exact h
  | succ f ih =>
    intro j fo hj h
    unfold mf1
    refine ih _ _ (by omega) ?_
    split
    · exact sap_lt h hi (by omega)
    · exact h
theorem mf_lt {e : Nat → Nat → Bool} : ∀ f i fo, i + f ≤ 12 → iok fo → iok (mf e f i fo) := by
  intro f
  induction f with
  | zero => intro i fo _ h; exact h
  | succ f ih =>
    intro i fo hi h
    unfold mf
    exact ih _ _ (by omega) (mf1_lt (by omega) _ _ _ (by omega) h)
/-- what stands behind a fresh search of kind k -/
def pres (g : Nat → Nat → Int32) (h : Nat → Nat → Nat) (jp : Nat → Nat) (k : Nat) (u : Nat → Nat → Int32) : Prop :=
  u (3 + 9 * k) 7 = 0 ∧ (∀ a b, a ≠ 8 + 9 * k → a ≠ 9 + 9 * k → a ≠ 10 + 9 * k → a ≠ 11 + 9 * k → ¬ (a = 3 + 9 * k ∧ b = 7) → u a b = g a b) ∧ u (8 + 9 * k) 1 = nI (h 1 k) ∧
  ∃ fo0 im0 so0 : Nat → Nat, (∀ b, b < 12 → fo0 b = 0) ∧ (∀ b, b < 12 → im0 b = 0) ∧ u (8 + 9 * k) 2 = nI (gr (h 1 k) (mf (eB g h jp k) (h 1 k) 0 fo0) 14 0 0 (2 ^ h 1 k - 1) 0) ∧
    u (8 + 9 * k) 0 = nI (sl (h 1 k) (mf (eB g h jp k) (h 1 k) 0 fo0) (h 1 k) (pop (gr (h 1 k) (mf (eB g h jp k) (h 1 k) 0 fo0) 14 0 0 (2 ^ h 1 k - 1) 0)) im0 so0).1 ∧
    ∀ b, u (10 + 9 * k) b = nI ((sl (h 1 k) (mf (eB g h jp k) (h 1 k) 0 fo0) (h 1 k) (pop (gr (h 1 k) (mf (eB g h jp k) (h 1 k) 0 fo0) 14 0 0 (2 ^ h 1 k - 1) 0)) im0 so0).2.2 b)
set_option maxHeartbeats 4000000 in
set_option maxRecDepth 100000 in
theorem liK_markFoes {p : Program} {l : Launch} {e : Env} {s : State} {m : MethodId} {args : Array Value} {below : List Frame} {meth : Method} {c : Code} {Q : State → Prop} {D : va_G} {CA : Nat → ClassId} {g : Nat → Nat → Int32} {h : Nat → Nat → Nat} {ad : Nat → Nat} {k : Nat} (hk : k < 6) (hc : g (3 + 9 * k) 6 = nI (h 1 k)) (hc12 : h 1 k ≤ 12) (ho : ∀ j, j < h 1 k → h (3 + k) j < h 0 0) {jp : Nat → Nat} (hjp : ∀ p, p < h 0 0 → jp p < 16 ∧ g (57 + p) 3 = nI (jp p)) (hpc : g (8 + 9 * k) 1 = nI (h 1 k)) {i : Nat} (hi : i < h 1 k) (hx : p.tables.exec = Jvm.exec) (hb : c.code = cK_markFoes) (hml : c.maxLocals = 3) (hown : s.vm.findClass "CountLeast$Kind" = some m.cls) (hT : ∀ w ∈ TB, w.before args s = true) (hK : va_K D vwCl (cty CA) s) :
    ∀ (f j : Nat) (fo : Nat → Nat), j + f = i → (∀ (H : Heap) (locs : List Loc) (x : Nat → Nat), x = mf1 (eB g h jp k) i f j fo → va_P D vwCl (cw CA (gq k g x) h ad) H → va_D (cA h ad s.heap.size) (cw CA (gq k g x) h ad) → va_S (cA h ad s.heap.size) s.heap H locs → ∀ ls, lv_has ls 3 [(0, .ref (ad (3 + 9 * k))), (1, .int (nI i))] → W p l e (rm 2 0 0) s m args below meth c H locs 0 0 Q (F0 m 51 ls [])) → ∀ (H : Heap) (locs : List Loc), va_P D vwCl (cw CA (gq k g fo) h ad) H → va_D (cA h ad s.heap.size) (cw CA (gq k g fo) h ad) → va_S (cA h ad s.heap.size) s.heap H locs → ∀ ls, lv_has ls 3 [(2, .int (nI j)), (0, .ref (ad (3 + 9 * k))), (1, .int (nI i))] → W p l e (rm 2 0 0) s m args below meth c H locs 0 0 Q (F0 m 12 ls []) := by
  intro f
  induction f with
  | zero =>
    intro j fo hj kx H locs hP hD hS ls hl
    have hj : j = i := by omega
    subst hj
    refine lv_iload_n hx hb dK_markFoes_12 rfl (lv_at hl 0 rfl) ?_
    refine lv_iload_n hx hb dK_markFoes_13 rfl (lv_at hl 2 rfl) ?_
    refine lv_icmp_ge (tgt := 51) hx hb dK_markFoes_14 (by decide) (fun c_1 => ?_) (fun c_1 => absurd (nI_le (Nat.le_refl _) (by omega)) c_1)
    exact kx H locs fo rfl hP hD hS ls (lv_sub hl [1, 2] rfl)
  | succ f ih =>
    intro j fo hj kx H locs hP hD hS ls hl
    refine lv_iload_n hx hb dK_markFoes_12 rfl (lv_at hl 0 rfl) ?_
    refine lv_iload_n hx hb dK_markFoes_13 rfl (lv_at hl 2 rfl) ?_
    refine lv_icmp_ge (tgt := 51) hx hb dK_markFoes_14 (by decide) (fun c_1 => absurd c_1 (nI_ge (by omega) (by omega))) (fun c_1 => ?_)
    refine lv_aload_n hx hb dK_markFoes_17 rfl (lv_at hl 1 rfl) ?_
    refine lv_aload_n hx hb dK_markFoes_18 rfl (lv_at hl 1 rfl) ?_
    refine va_get (D := D) (ci := 1) (C := RK) (T := TK) (N := 10) hx hb hT inK hown hK hP (3 + 9 * k) (cw_K hk) rfl 8 (by decide) (hT _ wm_77) (fun _ h9 => h9) rfl dK_markFoes_19 ?_
    refine lv_iload_n hx hb dK_markFoes_22 rfl (lv_at hl 2 rfl) ?_
    refine va_aldq (D := D) hx hb hK hP (7 + 9 * k) 3 (cw_OW hk) rfl (vp_in_nI (by omega) (by decide)) dK_markFoes_23 ?_
    refine W.eq (g2 := F0 m 24 ls [.ref (ad (57 + (h (3 + k) i))), .ref (ad (3 + 9 * k))]) (by rw [nI_clamp (n := i) (by omega)]; simp [va_rf, show i < h 1 k by omega]) ?_
    refine lv_aload_n hx hb dK_markFoes_24 rfl (lv_at hl 1 rfl) ?_
    refine va_get (D := D) (ci := 1) (C := RK) (T := TK) (N := 10) hx hb hT inK hown hK hP (3 + 9 * k) (cw_K hk) rfl 8 (by decide) (hT _ wm_77) (fun _ h9 => h9) rfl dK_markFoes_25 ?_
    refine lv_iload_n hx hb dK_markFoes_28 rfl (lv_at hl 0 rfl) ?_
    refine va_aldq (D := D) hx hb hK hP (7 + 9 * k) 3 (cw_OW hk) rfl (vp_in_nI (by omega) (by decide)) dK_markFoes_29 ?_
    refine W.eq (g2 := F0 m 30 ls [.ref (ad (57 + (h (3 + k) j))), .ref (ad (57 + (h (3 + k) i))), .ref (ad (3 + 9 * k))]) (by rw [nI_clamp (n := j) (by omega)]; simp [va_rf, show j < h 1 k by omega]) ?_
    refine kVi (n := 2) (D := D) (wd := fun z => cw CA z h ad) (A1 := fun sz => cA h ad sz) (As := [.ref (ad (57 + (h (3 + k) i))), .ref (ad (57 + (h (3 + k) j)))]) (rest := []) ⟨hx, hb, hml, hown, hT⟩ (kK_ruleBetween l D CA (gq k g fo) h ad H.size k hk (h (3 + k) i) (h (3 + k) j) (ho i (by omega)) (ho j (by omega)) (jp (h (3 + k) i)) (hjp _ (ho i (by omega))).1 (by rw [gq_o (by omega)]; exact (hjp _ (ho i (by omega))).2)) (gi_V wm_377 wm_338 wm_339 wm_2 wm_340) rfl rfl (by decide +kernel) ⟨(Nat.le_of_ble_eq_true rfl), (Nat.le_of_ble_eq_true rfl)⟩ (va_recv hK hP (ci := 1) (q0 := 3 + 9 * k) rfl (cw_K hk)) hK hP hD hS (fun _ h9 => h9) (nA_mono hS.1) rfl hl.1 rfl (Nat.le_of_ble_eq_true rfl) dK_markFoes_30 ⟨(Nat.le_of_ble_eq_true rfl), (Nat.le_of_ble_eq_true rfl)⟩ (fun r9 u9 H locs hw9 hz hP hD hS => ?_)
    obtain ⟨hr9, hu9⟩ := hw9
    rw [hu9] at hP hD
    rw [ruI_gq hk] at hr9
    refine lv_if_eq (tgt := 45) hx hb dK_markFoes_33 (by decide) (fun c_2 => ?_) (fun c_2 => ?_)
    · refine lv_iinc (v := nI (j + 1)) (lv' := [(2, .int (nI (j + 1))), (0, .ref (ad (3 + 9 * k))), (1, .int (nI i))]) hx hb dK_markFoes_45 hl (k := 0) rfl (nI_1 _) (by decide) rfl (fun ls hl => ?_)
      refine lv_goto (tgt := 12) hx hb dK_markFoes_48 (by decide) ?_
      have hef : ¬ (eB g h jp k) i j = true := by simp [eB, ← hr9, c_2]
      exact ih (j + 1) fo (by omega) (fun H locs x hx9 hP hD hS ls hl => kx H locs x (by rw [mf1, if_neg hef]; exact hx9) hP hD hS ls hl) H locs hP hD hS ls (lv_sub hl [0, 1, 2] rfl)
    · refine lv_aload_n hx hb dK_markFoes_36 rfl (lv_at hl 1 rfl) ?_
      refine va_get (D := D) (ci := 1) (C := RK) (T := TK) (N := 10) hx hb hT inK hown hK hP (3 + 9 * k) (cw_K hk) rfl 9 (by decide) (hT _ wm_78) (fun _ h9 => h9) rfl dK_markFoes_37 ?_
      refine lv_iload_n hx hb dK_markFoes_40 rfl (lv_at hl 2 rfl) ?_
      refine lv_iload_n hx hb dK_markFoes_41 rfl (lv_at hl 0 rfl) ?_
      have het : (eB g h jp k) i j = true := by simp [eB, ← hr9, c_2]
      refine kVv (n := 2) (D := D) (wd := fun z => cw CA z h ad) (A1 := fun sz => cA h ad sz) (As := [.int (nI i), .int (nI j)]) (rest := []) ⟨hx, hb, hml, hown, hT⟩ (kP_setApart l D CA (gq k g fo) h ad H.size k hk i j (h 1 k) (by rw [gq_o (by omega)]; exact hpc) (by omega) hi (by omega)) (gi_V wm_378 wm_379 wm_380 wm_3 wm_381) rfl rfl (by decide +kernel) ⟨(Nat.le_of_ble_eq_true rfl), (Nat.le_of_ble_eq_true rfl)⟩ (va_recv hK hP (ci := 2) (q0 := 8 + 9 * k) rfl (cw_PT hk)) hK hP hD hS (fun _ h9 => h9) (nA_mono hS.1) rfl hl.1 rfl (Nat.le_of_ble_eq_true rfl) dK_markFoes_42 ⟨(Nat.le_of_ble_eq_true rfl), (Nat.le_of_ble_eq_true rfl)⟩ (fun u8 H locs hu8 hz hP hD hS => ?_)
      rw [hu8, sa_gq (by omega) (by omega)] at hP hD
      refine lv_iinc (v := nI (j + 1)) (lv' := [(2, .int (nI (j + 1))), (0, .ref (ad (3 + 9 * k))), (1, .int (nI i))]) hx hb dK_markFoes_45 hl (k := 0) rfl (nI_1 _) (by decide) rfl (fun ls hl => ?_)
      refine lv_goto (tgt := 12) hx hb dK_markFoes_48 (by decide) ?_
      exact ih (j + 1) (sap fo i j) (by omega) (fun H locs x hx9 hP hD hS ls hl => kx H locs x (by rw [mf1, if_pos het]; exact hx9) hP hD hS ls hl) H locs hP hD hS ls (lv_sub hl [0, 1, 2] rfl)
set_option maxHeartbeats 4000000 in
set_option maxRecDepth 100000 in
theorem loK_markFoes {p : Program} {l : Launch} {e : Env} {s : State} {m : MethodId} {args : Array Value} {below : List Frame} {meth : Method} {c : Code} {Q : State → Prop} {D : va_G} {CA : Nat → ClassId} {g : Nat → Nat → Int32} {h : Nat → Nat → Nat} {ad : Nat → Nat} {k : Nat} (hk : k < 6) (hc : g (3 + 9 * k) 6 = nI (h 1 k)) (hc12 : h 1 k ≤ 12) (ho : ∀ j, j < h 1 k → h (3 + k) j < h 0 0) {jp : Nat → Nat} (hjp : ∀ p, p < h 0 0 → jp p < 16 ∧ g (57 + p) 3 = nI (jp p)) (hpc : g (8 + 9 * k) 1 = nI (h 1 k)) (hx : p.tables.exec = Jvm.exec) (hb : c.code = cK_markFoes) (hml : c.maxLocals = 3) (hown : s.vm.findClass "CountLeast$Kind" = some m.cls) (hT : ∀ w ∈ TB, w.before args s = true) (hK : va_K D vwCl (cty CA) s) :
    ∀ (f i : Nat) (fo : Nat → Nat), i + f = h 1 k → (∀ (H : Heap) (locs : List Loc) (x : Nat → Nat), x = mf (eB g h jp k) f i fo → va_P D vwCl (cw CA (gq k g x) h ad) H → va_D (cA h ad s.heap.size) (cw CA (gq k g x) h ad) → va_S (cA h ad s.heap.size) s.heap H locs → ∀ ls, lv_has ls 3 [(0, .ref (ad (3 + 9 * k)))] → W p l e (rm 2 0 0) s m args below meth c H locs 0 0 Q (F0 m 57 ls [])) → ∀ (H : Heap) (locs : List Loc), va_P D vwCl (cw CA (gq k g fo) h ad) H → va_D (cA h ad s.heap.size) (cw CA (gq k g fo) h ad) → va_S (cA h ad s.heap.size) s.heap H locs → ∀ ls, lv_has ls 3 [(1, .int (nI i)), (0, .ref (ad (3 + 9 * k)))] → W p l e (rm 2 0 0) s m args below meth c H locs 0 0 Q (F0 m 2 ls []) := by
  intro f
  induction f with
  | zero =>
    intro i fo hi kx H locs hP hD hS ls hl
    refine lv_iload_n hx hb dK_markFoes_2 rfl (lv_at hl 0 rfl) ?_
    refine lv_aload_n hx hb dK_markFoes_3 rfl (lv_at hl 1 rfl) ?_
    refine va_get (D := D) (ci := 1) (C := RK) (T := TK) (N := 10) hx hb hT inK hown hK hP (3 + 9 * k) (cw_K hk) rfl 6 (by decide) (hT _ wm_73) (fun _ h9 => h9) rfl dK_markFoes_4 ?_
    refine W.eq (g2 := F0 m 7 ls [.int (nI (h 1 k)), .int (nI i)]) (by rw [gq_o (by omega), hc]) ?_
    refine lv_icmp_ge (tgt := 57) hx hb dK_markFoes_7 (by decide) (fun c_1 => ?_) (fun c_1 => absurd (nI_le (by omega) (by omega)) c_1)
    exact kx H locs fo rfl hP hD hS ls (lv_sub hl [1] rfl)
  | succ f ih =>
    intro i fo hi kx H locs hP hD hS ls hl
    refine lv_iload_n hx hb dK_markFoes_2 rfl (lv_at hl 0 rfl) ?_
    refine lv_aload_n hx hb dK_markFoes_3 rfl (lv_at hl 1 rfl) ?_
    refine va_get (D := D) (ci := 1) (C := RK) (T := TK) (N := 10) hx hb hT inK hown hK hP (3 + 9 * k) (cw_K hk) rfl 6 (by decide) (hT _ wm_73) (fun _ h9 => h9) rfl dK_markFoes_4 ?_
    refine W.eq (g2 := F0 m 7 ls [.int (nI (h 1 k)), .int (nI i)]) (by rw [gq_o (by omega), hc]) ?_
    refine lv_icmp_ge (tgt := 57) hx hb dK_markFoes_7 (by decide) (fun c_1 => absurd c_1 (nI_ge (by omega) (by omega))) (fun c_1 => ?_)
    refine lv_iconst (v := 0) hx hb dK_markFoes_10 (by decide) ?_
    refine lv_istore_n (lv' := [(2, .int 0), (1, .int (nI i)), (0, .ref (ad (3 + 9 * k)))]) hx hb dK_markFoes_11 rfl hl (by decide) rfl (fun ls hl => ?_)
    refine liK_markFoes hk hc hc12 ho hjp hpc (show i < h 1 k by omega) hx hb hml hown hT hK i 0 fo (by omega) (fun H locs x9 hx9 hP hD hS ls hl => ?_) H locs hP hD hS ls (lv_sub hl [0, 2, 1] rfl)
    refine lv_iinc (v := nI (i + 1)) (lv' := [(1, .int (nI (i + 1))), (0, .ref (ad (3 + 9 * k)))]) hx hb dK_markFoes_51 hl (k := 1) rfl (nI_1 _) (by decide) rfl (fun ls hl => ?_)
    refine lv_goto (tgt := 2) hx hb dK_markFoes_54 (by decide) ?_
    exact ih (i + 1) x9 (by omega) (fun H locs x hx8 hP hD hS ls hl => kx H locs x (by rw [mf, ← hx9]; exact hx8) hP hD hS ls hl) H locs hP hD hS ls (lv_sub hl [0, 1] rfl)
set_option maxHeartbeats 4000000 in
set_option maxRecDepth 100000 in
theorem kK_markFoes (l : Launch) (D : va_G) (CA : Nat → ClassId) (g : Nat → Nat → Int32) (h : Nat → Nat → Nat) (ad : Nat → Nat) (sz : Nat) (k : Nat) (hk : k < 6) (hc : g (3 + 9 * k) 6 = nI (h 1 k)) (hc12 : h 1 k ≤ 12) (ho : ∀ j, j < h 1 k → h (3 + k) j < h 0 0) (jp : Nat → Nat) (hjp : ∀ p, p < h 0 0 → jp p < 16 ∧ g (57 + p) 3 = nI (jp p)) (hpc : g (8 + 9 * k) 1 = nI (h 1 k)) : Met l yK_markFoes wK_markFoes (rm 2 0 0) (va_Pc [.ref (ad (3 + 9 * k))] (gpre D (cty CA) (cw CA g h ad) sz)) (va_Qv (fun (u : Nat → Nat → Int32) => u = gq k g (mf (eB g h jp k) (h 1 k) 0 (fun b => n32 (g (9 + 9 * k) b)))) (fun u t => gpost D (cty CA) (cw CA u h ad) (cA h ad sz) t) (cA h ad sz)) 0 0 (cA h ad sz) := by
  refine Met.ofW (cc := cK_markFoes) (maxL := 3) (ret := none) (by decide) rfl ?_
  intro p e s m args below meth c s₁ B hml hv
  obtain ⟨rfl, hsz, hP, hK, hD0⟩ := hv
  have hx := B.exec
  have hb := B.bytes
  have hr := B.returns
  have hT : ∀ w ∈ TB, w.before _ s = true := fun w hw => atoms_spec (ws := wK_markFoes) B.pre w (List.mem_cons_of_mem _ hw)
  have hown : s.vm.findClass "CountLeast$Kind" = some m.cls := findClass_of_methodNamed B.named
  have hlocks := B.notSynchronized
  subst hsz
  have hD := nA_self (sz := s.heap.size) hD0
  have hS : va_S (cA h ad s.heap.size) s.heap s.heap [] := va_S.rf
  have hP : va_P D vwCl (cw CA g h ad) s.heap := hP
  have hl := lv_entry ([.ref (ad (3 + 9 * k))]) (n := 3) (Nat.le_of_ble_eq_true rfl)
  rw [lg_entry_eq]
  generalize (lg_sl ([.ref (ad (3 + 9 * k))]) ++ List.replicate (3 - (lg_sl ([.ref (ad (3 + 9 * k))])).length) Slot.unset).toArray = ls at hl ⊢
  have hl : lv_has ls 3 [(0, .ref (ad (3 + 9 * k)))] := hl
  refine lv_iconst (v := 0) hx hb dK_markFoes_0 (by decide) ?_
  refine lv_istore_n (lv' := [(1, .int 0), (0, .ref (ad (3 + 9 * k)))]) hx hb dK_markFoes_1 rfl hl (by decide) rfl (fun ls hl => ?_)
  rw [← gq_self (k := k) (g := g)] at hP hD
  refine loK_markFoes (g := g) hk hc hc12 ho hjp hpc hx hb hml hown hT hK (h 1 k) 0 _ (by omega) (fun H locs x9 hx9 hP hD hS ls hl => ?_) _ _ hP hD hS ls (lv_sub hl [0, 1] rfl)
  exact W.vret hx hb hr (fun t ht hW => ⟨⟨gq k g x9, rfl, by rw [hx9], gpost_at hP hK hD ht hW.alike⟩, hS.F ht⟩) hS.2.2 dK_markFoes_57
set_option maxHeartbeats 4000000 in
set_option maxRecDepth 100000 in
theorem kK_parted (l : Launch) (D : va_G) (CA : Nat → ClassId) (g : Nat → Nat → Int32) (h : Nat → Nat → Nat) (ad : Nat → Nat) (sz : Nat) (k : Nat) (hk : k < 6) (hc : g (3 + 9 * k) 6 = nI (h 1 k)) (hc12 : h 1 k ≤ 12) (ho : ∀ j, j < h 1 k → h (3 + k) j < h 0 0) (jp : Nat → Nat) (hjp : ∀ p, p < h 0 0 → jp p < 16 ∧ g (57 + p) 3 = nI (jp p)) : Met l yK_parted wK_parted (rm 17 0 0) (va_Pc [.ref (ad (3 + 9 * k))] (gpre D (cty CA) (cw CA g h ad) sz)) (va_Qr (fun (u : Nat → Nat → Int32) => (g (3 + 9 * k) 7 = 0 ∧ u = g) ∨ (¬ g (3 + 9 * k) 7 = 0 ∧ pres g h jp k u)) (fun u a t => a = ad (8 + 9 * k) ∧ gpost D (cty CA) (cw CA u h ad) (cA h ad sz) t) (cA h ad sz)) 0 0 (cA h ad sz) := by
  refine Met.ofW (cc := cK_parted) (maxL := 1) (ret := (some (.object "CountLeast$Parting"))) (by decide) rfl ?_
  intro p e s m args below meth c s₁ B hml hv
  obtain ⟨rfl, hsz, hP, hK, hD0⟩ := hv
  have hx := B.exec
  have hb := B.bytes
  have hr := B.returns
  have hT : ∀ w ∈ TB, w.before _ s = true := fun w hw => atoms_spec (ws := wK_parted) B.pre w (List.mem_cons_of_mem _ hw)
  have hown : s.vm.findClass "CountLeast$Kind" = some m.cls := findClass_of_methodNamed B.named
  have hlocks := B.notSynchronized
  subst hsz
  have hD := nA_self (sz := s.heap.size) hD0
  have hS : va_S (cA h ad s.heap.size) s.heap s.heap [] := va_S.rf
  have hP : va_P D vwCl (cw CA g h ad) s.heap := hP
  have hl := lv_entry ([.ref (ad (3 + 9 * k))]) (n := 1) (Nat.le_of_ble_eq_true rfl)
  rw [lg_entry_eq]
  generalize (lg_sl ([.ref (ad (3 + 9 * k))]) ++ List.replicate (1 - (lg_sl ([.ref (ad (3 + 9 * k))])).length) Slot.unset).toArray = ls at hl ⊢
  have hl : lv_has ls 1 [(0, .ref (ad (3 + 9 * k)))] := hl
  have z9 : ∀ a, a ≠ 8 + 9 * k → a ≠ 9 + 9 * k → a ≠ 11 + 9 * k → (zg k (u2 g (8 + 9 * k) 1 (nI (h 1 k))) 12) a = g a := fun a h1 h2 h3 => by funext b; simp [zg, u2, h1, h2, h3]
  refine lv_aload_n hx hb dK_parted_0 rfl (lv_at hl 0 rfl) ?_
  refine va_get (D := D) (ci := 1) (C := RK) (T := TK) (N := 10) hx hb hT inK hown hK hP (3 + 9 * k) (cw_K hk) rfl 7 (by decide) (hT _ wm_75) (fun _ h9 => h9) rfl dK_parted_1 ?_
  refine lv_if_eq (tgt := 34) hx hb dK_parted_4 (by decide) (fun c_1 => ?_) (fun c_1 => ?_)
  · refine lv_aload_n hx hb dK_parted_34 rfl (lv_at hl 0 rfl) ?_
    refine va_get (D := D) (ci := 1) (C := RK) (T := TK) (N := 10) hx hb hT inK hown hK hP (3 + 9 * k) (cw_K hk) rfl 9 (by decide) (hT _ wm_78) (fun _ h9 => h9) rfl dK_parted_35 ?_
    exact W.aret (v := .ref (ad (8 + 9 * k))) hx hb hr (Or.inl ⟨_, rfl⟩) (Or.inr ⟨_, rfl⟩) (fun t ht hW => ⟨⟨g, _, rfl, Or.inl ⟨c_1, rfl⟩, rfl, gpost_at hP hK hD ht hW.alike⟩, hS.F ht⟩) hS.2.2 dK_parted_38
  · refine lv_aload_n hx hb dK_parted_7 rfl (lv_at hl 0 rfl) ?_
    refine va_get (D := D) (ci := 1) (C := RK) (T := TK) (N := 10) hx hb hT inK hown hK hP (3 + 9 * k) (cw_K hk) rfl 9 (by decide) (hT _ wm_78) (fun _ h9 => h9) rfl dK_parted_8 ?_
    refine lv_aload_n hx hb dK_parted_11 rfl (lv_at hl 0 rfl) ?_
    refine va_get (D := D) (ci := 1) (C := RK) (T := TK) (N := 10) hx hb hT inK hown hK hP (3 + 9 * k) (cw_K hk) rfl 6 (by decide) (hT _ wm_73) (fun _ h9 => h9) rfl dK_parted_12 ?_
    refine W.eq (g2 := F0 m 15 ls [.int (nI (h 1 k)), .ref (ad (8 + 9 * k))]) (by rw [hc]) ?_
    refine kVv (n := 1) (D := D) (wd := fun z => cw CA z h ad) (A1 := fun sz => cA h ad sz) (As := [.int (nI (h 1 k))]) (rest := []) ⟨hx, hb, hml, hown, hT⟩ (kP_begin l D CA g h ad s.heap.size k hk (h 1 k) (by omega)) (gi_V wm_363 wm_364 wm_365 wm_3 wm_366) rfl rfl (by decide +kernel) ⟨(Nat.le_of_ble_eq_true rfl), (Nat.le_of_ble_eq_true rfl)⟩ (va_recv hK hP (ci := 2) (q0 := 8 + 9 * k) rfl (cw_PT hk)) hK hP hD hS (fun _ h9 => h9) (nA_mono hS.1) rfl hl.1 rfl (Nat.le_of_ble_eq_true rfl) dK_parted_15 ⟨(Nat.le_of_ble_eq_true rfl), (Nat.le_of_ble_eq_true rfl)⟩ (fun u_3 H locs w_4 hz hP hD hS => ?_)
    rw [w_4] at hP hD
    refine lv_aload_n hx hb dK_parted_18 rfl (lv_at hl 0 rfl) ?_
    refine kVv (n := 0) (D := D) (wd := fun z => cw CA z h ad) (A1 := fun sz => cA h ad sz) (As := []) (rest := []) ⟨hx, hb, hml, hown, hT⟩ (kK_markFoes l D CA (zg k (u2 g (8 + 9 * k) 1 (nI (h 1 k))) 12) h ad H.size k hk (by rw [z9 (3 + 9 * k) (by omega) (by omega) (by omega)]; exact hc) hc12 ho jp (fun p9 hp9 => ⟨(hjp p9 hp9).1, by rw [z9 (57 + p9) (by omega) (by omega) (by omega)]; exact (hjp p9 hp9).2⟩) (by simp [zg, u2, show ¬ (8 + 9 * k = 9 + 9 * k) by omega, show ¬ (8 + 9 * k = 11 + 9 * k) by omega])) (gi_V wm_373 wm_375 wp_5 wm_2 wm_376) rfl rfl (by decide +kernel) ⟨(Nat.le_of_ble_eq_true rfl), (Nat.le_of_ble_eq_true rfl)⟩ (va_recv hK hP (ci := 1) (q0 := 3 + 9 * k) rfl (cw_K hk)) hK hP hD hS (fun _ h9 => h9) (nA_mono hS.1) rfl hl.1 rfl (Nat.le_of_ble_eq_true rfl) dK_parted_19 ⟨(Nat.le_of_ble_eq_true rfl), (Nat.le_of_ble_eq_true rfl)⟩ (fun u_7 H locs w_8 hz hP hD hS => ?_)
    rw [w_8] at hP hD
    have hee : eB (zg k (u2 g (8 + 9 * k) 1 (nI (h 1 k))) 12) h jp k = eB g h jp k := by
      funext i9 j9
      unfold eB ruI
      simp only [z9 (57 + h (3 + k) i9) (by omega) (by omega) (by omega), z9 (57 + h (3 + k) j9) (by omega) (by omega) (by omega), z9 (4 + 9 * k) (by omega) (by omega) (by omega), z9 (3 + 9 * k) (by omega) (by omega) (by omega)]
    rw [hee] at hP hD
    obtain ⟨fo9, hfo9⟩ : ∃ z, z = mf (eB g h jp k) (h 1 k) 0 (fun b => n32 ((zg k (u2 g (8 + 9 * k) 1 (nI (h 1 k))) 12) (9 + 9 * k) b)) := ⟨_, rfl⟩
    rw [← hfo9] at hP hD
    have hfl : iok fo9 := by rw [hfo9]; exact mf_lt _ _ _ (by omega) (fun j hj => by simp [zg, hj, n32_0])
    refine lv_aload_n hx hb dK_parted_22 rfl (lv_at hl 0 rfl) ?_
    refine va_get (D := D) (ci := 1) (C := RK) (T := TK) (N := 10) hx hb hT inK hown hK hP (3 + 9 * k) (cw_K hk) rfl 9 (by decide) (hT _ wm_78) (fun _ h9 => h9) rfl dK_parted_23 ?_
    refine kVv (n := 0) (D := D) (wd := fun z => cw CA z h ad) (A1 := fun sz => cA h ad sz) (As := []) (rest := []) ⟨hx, hb, hml, hown, hT⟩ (kP_search l D CA (gq k (zg k (u2 g (8 + 9 * k) 1 (nI (h 1 k))) 12) fo9) h ad H.size k hk (h 1 k) (by omega) fo9 hfl (by rw [gq_o (by omega)]; simp [zg, u2, show ¬ (8 + 9 * k = 9 + 9 * k) by omega, show ¬ (8 + 9 * k = 11 + 9 * k) by omega]) (fun i9 _ => gq_f) (fun b9 hb9 => by rw [gq_o (by omega)]; simp [zg, hb9])) (gi_V wm_382 wm_383 wm_384 wm_3 wm_385) rfl rfl (by decide +kernel) ⟨(Nat.le_of_ble_eq_true rfl), (Nat.le_of_ble_eq_true rfl)⟩ (va_recv hK hP (ci := 2) (q0 := 8 + 9 * k) rfl (cw_PT hk)) hK hP hD hS (fun _ h9 => h9) (nA_mono hS.1) rfl hl.1 rfl (Nat.le_of_ble_eq_true rfl) dK_parted_26 ⟨(Nat.le_of_ble_eq_true rfl), (Nat.le_of_ble_eq_true rfl)⟩ (fun u_11 H locs w_12 hz hP hD hS => ?_)
    obtain ⟨x9, hx9, hu9⟩ := w_12
    refine lv_aload_n hx hb dK_parted_29 rfl (lv_at hl 0 rfl) ?_
    refine lv_iconst (v := 0) hx hb dK_parted_30 (by decide) ?_
    refine va_put (D := D) (ci := 1) (v := .int 0) (ty := .boolean) (C := RK) (T := TK) (N := 10) hx hb hT inK tyK tyokK nmK hown hK hP hD hS (3 + 9 * k) (cw_K hk) rfl 7 (by decide) (hT _ wm_75) (fun _ h9 => h9) rfl (by decide +kernel) rfl rfl (Nat.le_of_ble_eq_true rfl) dK_parted_31 (fun H locs hP hD hS => ?_)
    rw [cw_sK hk (by simp)] at hP hD
    have hpre : pres g h jp k (u2 u_11 (3 + 9 * k) 7 0) := by
      subst hu9
      refine ⟨u2_s, fun a b h8 h9 h10 h11 h3 => ?_, ?_, (fun b => n32 ((zg k (u2 g (8 + 9 * k) 1 (nI (h 1 k))) 12) (9 + 9 * k) b)), (fun b => n32 ((gq k (zg k (u2 g (8 + 9 * k) 1 (nI (h 1 k))) 12) fo9) (11 + 9 * k) b)), (fun b => n32 ((gq k (zg k (u2 g (8 + 9 * k) 1 (nI (h 1 k))) 12) fo9) (10 + 9 * k) b)), ?_, ?_, ?_, ?_, ?_⟩
      · simp only [u2, gf, gq, zg, h8, h9, h10, h11, h3, false_and, if_false, false_or]
      · simp [u2, gf, gq, zg, show ¬ (8 + 9 * k = 9 + 9 * k) by omega, show ¬ (8 + 9 * k = 11 + 9 * k) by omega, show ¬ (8 + 9 * k = 10 + 9 * k) by omega, show ¬ (8 + 9 * k = 3 + 9 * k) by omega]
      · intro b hb8; simp [zg, hb8, n32_0]
      · intro b hb8; simp [gq, zg, hb8, n32_0, show ¬ (11 + 9 * k = 9 + 9 * k) by omega]
      · rw [← hfo9]; simp [u2, gf, show ¬ (8 + 9 * k = 11 + 9 * k) by omega, show ¬ (8 + 9 * k = 10 + 9 * k) by omega, show ¬ (8 + 9 * k = 3 + 9 * k) by omega]
      · rw [← hfo9, ← hx9]; simp [u2, gf, show ¬ (8 + 9 * k = 11 + 9 * k) by omega, show ¬ (8 + 9 * k = 10 + 9 * k) by omega, show ¬ (8 + 9 * k = 3 + 9 * k) by omega]
      · intro b; rw [← hfo9, ← hx9]; simp [u2, gf, show ¬ (10 + 9 * k = 11 + 9 * k) by omega, show ¬ (10 + 9 * k = 3 + 9 * k) by omega]
    refine lv_aload_n hx hb dK_parted_34 rfl (lv_at hl 0 rfl) ?_
    refine va_get (D := D) (ci := 1) (C := RK) (T := TK) (N := 10) hx hb hT inK hown hK hP (3 + 9 * k) (cw_K hk) rfl 9 (by decide) (hT _ wm_78) (fun _ h9 => h9) rfl dK_parted_35 ?_
    exact W.aret (v := .ref (ad (8 + 9 * k))) hx hb hr (Or.inl ⟨_, rfl⟩) (Or.inr ⟨_, rfl⟩) (fun t ht hW => ⟨⟨(u2 u_11 (3 + 9 * k) 7 0), _, rfl, Or.inr ⟨c_1, hpre⟩, rfl, gpost_at hP hK hD ht hW.alike⟩, hS.F ht⟩) hS.2.2 dK_parted_38
