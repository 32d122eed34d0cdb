/-! by which rule two pieces cannot be one, on the numbers -/
def sdB (x y al : Int32) : Bool := x == y && (x == 0 || x == 1 || (x == 2 && al != 0))
def abD (x y : Int32) : Int32 := if 0 ≤ x - y then x - y else 0 - (x - y)
def szB (x y bd : Int32) : Bool := x != 0 && y != 0 && !decide (abD x y ≤ bd)
def agB (f1 t1 f2 t2 : Int32) : Bool := decide (t2 < f1) || !decide (f2 ≤ t1)
def ruI (g : Nat → Nat → Int32) (k ja a b : Nat) : Int32 :=
  if (g (57 + a) 3 == g (57 + b) 3 && sdB (g (57 + a) 5) (g (57 + b) 5) (g (4 + 9 * k) ja)) = true then 1
  else if agB (g (57 + a) 6) (g (57 + a) 7) (g (57 + b) 6) (g (57 + b) 7) = true then 2
  else if (g (57 + a) 3 == g (57 + b) 3 && szB (g (57 + a) 4) (g (57 + b) 4) (g (3 + 9 * k) 3)) = true then 3 else 0
theorem if01 {b : Bool} {r : Int32} (h : r = if b = true then 1 else 0) : r = 0 ↔ b = false := by
  cases b <;> simp [h]
theorem if01t {b : Bool} {r : Int32} (h : r = if b = true then 1 else 0) (c : ¬ r = 0) : b = true := by
  cases b
  · exact absurd (by simp [h]) c
  · rfl
set_option maxHeartbeats 4000000 in
set_option maxRecDepth 100000 in
theorem kK_numberAt (l : Launch) (D : va_G) (CA : Nat → ClassId) (g : Nat → Nat → Int32) (h : Nat → Nat → Nat) (ad : Nat → Nat) (sz : Nat) (k : Nat) (hk : k < 6) (x : Int32) (hc : g (3 + 9 * k) 6 = nI (h 1 k)) (hc12 : h 1 k ≤ 12) (ho : ∀ j, j < h 1 k → h (3 + k) j < h 0 0) : Met l yK_numberAt wK_numberAt (rm 0 0 0) (va_Pc [.ref (ad (3 + 9 * k)), .int x] (gpre D (cty CA) (cw CA g h ad) sz)) (va_Qi (fun r (u : Nat → Nat → Int32) => (∀ j, j < h 1 k → x = nI j → r = g (57 + h (3 + k) j) 1) ∧ (ib x (nI (h 1 k)) → r = -1) ∧ u = g) (fun u t => gpost D (cty CA) (cw CA u h ad) (cA h ad sz) t) (cA h ad sz)) 0 0 (cA h ad sz) := by
  refine Met.ofW (cc := cK_numberAt) (maxL := 2) (ret := (some .int)) (by decide) rfl ?_
  intro p e s m args below meth c s₁ B hml hv
  obtain ⟨rfl, hsz, hP, hK, hD0⟩ := hv
  have hx := B.exec
  have hb := B.bytes
  have hr := B.returns
  have hT : ∀ w ∈ TB, w.before _ s = true := fun w hw => atoms_spec (ws := wK_numberAt) B.pre w (List.mem_cons_of_mem _ hw)
  have hown : s.vm.findClass "CountLeast$Kind" = some m.cls := findClass_of_methodNamed B.named
  have hlocks := B.notSynchronized
  subst hsz
  have hD := nA_self (sz := s.heap.size) hD0
  have hS : va_S (cA h ad s.heap.size) s.heap s.heap [] := va_S.rf
  have hP : va_P D vwCl (cw CA g h ad) s.heap := hP
  have hl := lv_entry ([.ref (ad (3 + 9 * k)), .int x]) (n := 2) (Nat.le_of_ble_eq_true rfl)
  rw [lg_entry_eq]
  generalize (lg_sl ([.ref (ad (3 + 9 * k)), .int x]) ++ List.replicate (2 - (lg_sl ([.ref (ad (3 + 9 * k)), .int x])).length) Slot.unset).toArray = ls at hl ⊢
  have hl : lv_has ls 2 [(0, .ref (ad (3 + 9 * k))), (1, .int x)] := hl
  refine lv_iload_n hx hb dK_numberAt_0 rfl (lv_at hl 1 rfl) ?_
  refine lv_if_lt (tgt := 12) hx hb dK_numberAt_1 (by decide) (fun c_1 => ?_) (fun c_1 => ?_)
  · refine lv_iconst (v := (-1)) hx hb dK_numberAt_12 (by decide) ?_
    refine lv_goto (tgt := 25) hx hb dK_numberAt_13 (by decide) ?_
    exact W.iret (v := (-1)) hx hb hr (fun t ht hW => ⟨⟨_, g, rfl, ⟨fun j9 hj9 e9 => absurd (show ib x (nI (h 1 k)) by first | exact Or.inl c_1 | exact Or.inr (by rw [← hc]; exact c_2)) (by rw [e9]; exact nib hj9 (by omega)), fun _ => rfl, rfl⟩, gpost_at hP hK hD ht hW.alike⟩, hS.F ht⟩) hS.2.2 dK_numberAt_25
  · refine lv_iload_n hx hb dK_numberAt_4 rfl (lv_at hl 1 rfl) ?_
    refine lv_aload_n hx hb dK_numberAt_5 rfl (lv_at hl 0 rfl) ?_
    refine va_get (D := D) (ci := 1) (C := RK) (T := TK) (N := 10) hx hb hT inK hown hK hP (3 + 9 * k) (cw_K hk) rfl 6 (by decide) (hT _ wm_73) (fun _ h9 => h9) rfl dK_numberAt_6 ?_
    refine lv_icmp_lt (tgt := 16) hx hb dK_numberAt_9 (by decide) (fun c_2 => ?_) (fun c_2 => ?_)
    · obtain ⟨j, hj, rfl⟩ := ibn (n := h 1 k) (by omega) (show ¬ ib x (nI (h 1 k)) from not_or.mpr ⟨c_1, fun q => q (by rw [← hc]; exact c_2)⟩)
      refine lv_aload_n hx hb dK_numberAt_16 rfl (lv_at hl 0 rfl) ?_
      refine va_get (D := D) (ci := 1) (C := RK) (T := TK) (N := 10) hx hb hT inK hown hK hP (3 + 9 * k) (cw_K hk) rfl 8 (by decide) (hT _ wm_77) (fun _ h9 => h9) rfl dK_numberAt_17 ?_
      refine lv_iload_n hx hb dK_numberAt_20 rfl (lv_at hl 1 rfl) ?_
      refine va_aldq (D := D) hx hb hK hP (7 + 9 * k) 3 (cw_OW hk) rfl (vp_in_nI (by omega) (by decide)) dK_numberAt_21 ?_
      refine W.eq (g2 := F0 m 22 ls [.ref (ad (57 + (h (3 + k) j)))]) (by rw [nI_clamp (n := j) (by omega)]; simp [va_rf, show j < h 1 k by omega]) ?_
      refine va_get (D := D) (ci := 3) (C := RQ) (T := TQ) (N := 9) hx hb hT inQ hown hK hP (57 + (h (3 + k) j)) (cw_Q (ho j (by omega))) rfl 1 (by decide) (hT _ wm_240) (fun _ h9 => h9) rfl dK_numberAt_22 ?_
      exact W.iret (v := g (57 + (h (3 + k) j)) 1) hx hb hr (fun t ht hW => ⟨⟨_, g, rfl, ⟨fun j9 hj9 e9 => by rw [(nI_eq (by omega) (by omega)).mp e9], fun q => absurd q (nib hj (by omega)), rfl⟩, gpost_at hP hK hD ht hW.alike⟩, hS.F ht⟩) hS.2.2 dK_numberAt_25
    · refine lv_iconst (v := (-1)) hx hb dK_numberAt_12 (by decide) ?_
      refine lv_goto (tgt := 25) hx hb dK_numberAt_13 (by decide) ?_
      exact W.iret (v := (-1)) hx hb hr (fun t ht hW => ⟨⟨_, g, rfl, ⟨fun j9 hj9 e9 => absurd (show ib x (nI (h 1 k)) by first | exact Or.inl c_1 | exact Or.inr (by rw [← hc]; exact c_2)) (by rw [e9]; exact nib hj9 (by omega)), fun _ => rfl, rfl⟩, gpost_at hP hK hD ht hW.alike⟩, hS.F ht⟩) hS.2.2 dK_numberAt_25
set_option maxHeartbeats 4000000 in
set_option maxRecDepth 100000 in
theorem loK_gramsTogether {p : Program} {l : Launch} {e : Env} {s : State} {m : MethodId} {args : Array Value} {below : List Frame} {meth : Method} {c : Code} {Q : State → Prop} {cells slots : Nat} {D : va_G} {CA : Nat → ClassId} {g : Nat → Nat → Int32} {h : Nat → Nat → Nat} {ad : Nat → Nat} {H : Heap} {locs : List Loc} {R : Room} {k : Nat} (hk : k < 6) (hc : g (3 + 9 * k) 6 = nI (h 1 k)) (hc12 : h 1 k ≤ 12) (ho : ∀ j, j < h 1 k → h (3 + k) j < h 0 0) (hx : p.tables.exec = Jvm.exec) (hb : c.code = cK_gramsTogether) (hml : c.maxLocals = 3) (hown : s.vm.findClass "CountLeast$Kind" = some m.cls) (hT : ∀ w ∈ TB, w.before args s = true) (hK : va_K D vwCl (cty CA) s) (hP : va_P D vwCl (cw CA g h ad) H) (kx : ∀ ls, lv_has ls 3 [(2, .int (nI (h 1 k))), (1, .int (l_sum (fun j => g (57 + h (3 + k) j) 8) (h 1 k))), (0, .ref (ad (3 + 9 * k)))] → W p l e R s m args below meth c H locs cells slots Q (F0 m 30 ls [])) :
    ∀ (n i : Nat), i + n = h 1 k → ∀ ls, lv_has ls 3 [(2, .int (nI i)), (1, .int (l_sum (fun j => g (57 + h (3 + k) j) 8) i)), (0, .ref (ad (3 + 9 * k)))] → W p l e R s m args below meth c H locs cells slots Q (F0 m 4 ls []) := by
  intro n
  induction n with
  | zero =>
    intro i hi ls hl
    have hi : i = h 1 k := by omega
    subst hi
    refine lv_iload_n hx hb dK_gramsTogether_4 rfl (lv_at hl 0 rfl) ?_
    refine lv_aload_n hx hb dK_gramsTogether_5 rfl (lv_at hl 2 rfl) ?_
    refine va_get (D := D) (ci := 1) (C := RK) (T := TK) (N := 10) hx hb hT inK hown hK hP (3 + 9 * k) (cw_K hk) rfl 6 (by decide) (hT _ wm_73) (fun _ h9 => h9) rfl dK_gramsTogether_6 ?_
    refine lv_icmp_ge (tgt := 30) hx hb dK_gramsTogether_9 (by decide) (fun c_1 => ?_) (fun c_1 => absurd (by rw [hc]; exact nI_le (Nat.le_refl _) (by omega)) c_1)
    exact kx ls hl
  | succ n ih =>
    intro i hi ls hl
    refine lv_iload_n hx hb dK_gramsTogether_4 rfl (lv_at hl 0 rfl) ?_
    refine lv_aload_n hx hb dK_gramsTogether_5 rfl (lv_at hl 2 rfl) ?_
    refine va_get (D := D) (ci := 1) (C := RK) (T := TK) (N := 10) hx hb hT inK hown hK hP (3 + 9 * k) (cw_K hk) rfl 6 (by decide) (hT _ wm_73) (fun _ h9 => h9) rfl dK_gramsTogether_6 ?_
    refine lv_icmp_ge (tgt := 30) hx hb dK_gramsTogether_9 (by decide) (fun c_1 => absurd c_1 (by rw [hc]; exact nI_ge (by omega) (by omega))) (fun c_1 => ?_)
    refine lv_iload_n hx hb dK_gramsTogether_12 rfl (lv_at hl 1 rfl) ?_
    refine lv_aload_n hx hb dK_gramsTogether_13 rfl (lv_at hl 2 rfl) ?_
    refine va_get (D := D) (ci := 1) (C := RK) (T := TK) (N := 10) hx hb hT inK hown hK hP (3 + 9 * k) (cw_K hk) rfl 8 (by decide) (hT _ wm_77) (fun _ h9 => h9) rfl dK_gramsTogether_14 ?_
    refine lv_iload_n hx hb dK_gramsTogether_17 rfl (lv_at hl 0 rfl) ?_
    refine va_aldq (D := D) hx hb hK hP (7 + 9 * k) 3 (cw_OW hk) rfl (vp_in_nI (by omega) (by decide)) dK_gramsTogether_18 ?_
    refine W.eq (g2 := F0 m 19 ls [.ref (ad (57 + (h (3 + k) i))), .int (l_sum (fun j => g (57 + h (3 + k) j) 8) i)]) (by rw [nI_clamp (n := i) (by omega)]; simp [va_rf, show i < h 1 k by omega]) ?_
    refine va_get (D := D) (ci := 3) (C := RQ) (T := TQ) (N := 9) hx hb hT inQ hown hK hP (57 + (h (3 + k) i)) (cw_Q (ho i (by omega))) rfl 8 (by decide) (hT _ wm_257) (fun _ h9 => h9) rfl dK_gramsTogether_19 ?_
    refine lv_iadd hx hb dK_gramsTogether_22 ?_
    refine lv_istore_n (lv' := [(1, .int ((l_sum (fun j => g (57 + h (3 + k) j) 8) i) + (g (57 + (h (3 + k) i)) 8))), (2, .int (nI i)), (0, .ref (ad (3 + 9 * k)))]) hx hb dK_gramsTogether_23 rfl hl (by decide) rfl (fun ls hl => ?_)
    refine lv_iinc (v := nI (i + 1)) (lv' := [(2, .int (nI (i + 1))), (1, .int ((l_sum (fun j => g (57 + h (3 + k) j) 8) i) + (g (57 + (h (3 + k) i)) 8))), (0, .ref (ad (3 + 9 * k)))]) hx hb dK_gramsTogether_24 hl (k := 1) rfl (nI_1 _) (by decide) rfl (fun ls hl => ?_)
    refine lv_goto (tgt := 4) hx hb dK_gramsTogether_27 (by decide) ?_
    exact ih (i + 1) (by omega) ls (lv_sub hl [0, 1, 2] rfl)
set_option maxHeartbeats 4000000 in
set_option maxRecDepth 100000 in
theorem kK_gramsTogether (l : Launch) (D : va_G) (CA : Nat → ClassId) (g : Nat → Nat → Int32) (h : Nat → Nat → Nat) (ad : Nat → Nat) (sz : Nat) (k : Nat) (hk : k < 6) (hc : g (3 + 9 * k) 6 = nI (h 1 k)) (hc12 : h 1 k ≤ 12) (ho : ∀ j, j < h 1 k → h (3 + k) j < h 0 0) : Met l yK_gramsTogether wK_gramsTogether (rm 0 0 0) (va_Pc [.ref (ad (3 + 9 * k))] (gpre D (cty CA) (cw CA g h ad) sz)) (va_Qi (fun r (u : Nat → Nat → Int32) => r = l_sum (fun j => g (57 + h (3 + k) j) 8) (h 1 k) ∧ u = g) (fun u t => gpost D (cty CA) (cw CA u h ad) (cA h ad sz) t) (cA h ad sz)) 0 0 (cA h ad sz) := by
  refine Met.ofW (cc := cK_gramsTogether) (maxL := 3) (ret := (some .int)) (by decide) rfl ?_
  intro p e s m args below meth c s₁ B hml hv
  obtain ⟨rfl, hsz, hP, hK, hD0⟩ := hv
  have hx := B.exec
  have hb := B.bytes
  have hr := B.returns
  have hT : ∀ w ∈ TB, w.before _ s = true := fun w hw => atoms_spec (ws := wK_gramsTogether) B.pre w (List.mem_cons_of_mem _ hw)
  have hown : s.vm.findClass "CountLeast$Kind" = some m.cls := findClass_of_methodNamed B.named
  have hlocks := B.notSynchronized
  subst hsz
  have hD := nA_self (sz := s.heap.size) hD0
  have hS : va_S (cA h ad s.heap.size) s.heap s.heap [] := va_S.rf
  have hP : va_P D vwCl (cw CA g h ad) s.heap := hP
  have hl := lv_entry ([.ref (ad (3 + 9 * k))]) (n := 3) (Nat.le_of_ble_eq_true rfl)
  rw [lg_entry_eq]
  generalize (lg_sl ([.ref (ad (3 + 9 * k))]) ++ List.replicate (3 - (lg_sl ([.ref (ad (3 + 9 * k))])).length) Slot.unset).toArray = ls at hl ⊢
  have hl : lv_has ls 3 [(0, .ref (ad (3 + 9 * k)))] := hl
  refine lv_iconst (v := 0) hx hb dK_gramsTogether_0 (by decide) ?_
  refine lv_istore_n (lv' := [(1, .int 0), (0, .ref (ad (3 + 9 * k)))]) hx hb dK_gramsTogether_1 rfl hl (by decide) rfl (fun ls hl => ?_)
  refine lv_iconst (v := 0) hx hb dK_gramsTogether_2 (by decide) ?_
  refine lv_istore_n (lv' := [(2, .int 0), (1, .int 0), (0, .ref (ad (3 + 9 * k)))]) hx hb dK_gramsTogether_3 rfl hl (by decide) rfl (fun ls hl => ?_)
  refine loK_gramsTogether hk hc hc12 ho hx hb hml hown hT hK hP (fun ls hl => ?_) (h 1 k) 0 (by omega) ls (lv_sub hl [0, 1, 2] rfl)
  refine lv_iload_n hx hb dK_gramsTogether_30 rfl (lv_at hl 1 rfl) ?_
  exact W.iret (v := l_sum (fun j => g (57 + h (3 + k) j) 8) (h 1 k)) hx hb hr (fun t ht hW => ⟨⟨_, g, rfl, ⟨rfl, rfl⟩, gpost_at hP hK hD ht hW.alike⟩, hS.F ht⟩) hS.2.2 dK_gramsTogether_31
set_option maxHeartbeats 4000000 in
set_option maxRecDepth 100000 in
theorem kK_sidesClash (l : Launch) (D : va_G) (CA : Nat → ClassId) (g : Nat → Nat → Int32) (h : Nat → Nat → Nat) (ad : Nat → Nat) (sz : Nat) (k : Nat) (hk : k < 6) (a b : Nat) (ha : a < h 0 0) (hb9 : b < h 0 0) (ja : Nat) (hja : ja < 16) (eja : g (57 + a) 3 = nI ja) : Met l yK_sidesClash wK_sidesClash (rm 0 0 0) (va_Pc [.ref (ad (3 + 9 * k)), .ref (ad (57 + a)), .ref (ad (57 + b))] (gpre D (cty CA) (cw CA g h ad) sz)) (va_Qi (fun r (u : Nat → Nat → Int32) => r = (if sdB (g (57 + a) 5) (g (57 + b) 5) (g (4 + 9 * k) ja) = true then 1 else 0) ∧ u = g) (fun u t => gpost D (cty CA) (cw CA u h ad) (cA h ad sz) t) (cA h ad sz)) 0 0 (cA h ad sz) := by
  refine Met.ofW (cc := cK_sidesClash) (maxL := 3) (ret := (some .boolean)) (by decide) rfl ?_
  intro p e s m args below meth c s₁ B hml hv
  obtain ⟨rfl, hsz, hP, hK, hD0⟩ := hv
  have hx := B.exec
  have hb := B.bytes
  have hr := B.returns
  have hT : ∀ w ∈ TB, w.before _ s = true := fun w hw => atoms_spec (ws := wK_sidesClash) B.pre w (List.mem_cons_of_mem _ hw)
  have hown : s.vm.findClass "CountLeast$Kind" = some m.cls := findClass_of_methodNamed B.named
  have hlocks := B.notSynchronized
  subst hsz
  have hD := nA_self (sz := s.heap.size) hD0
  have hS : va_S (cA h ad s.heap.size) s.heap s.heap [] := va_S.rf
  have hP : va_P D vwCl (cw CA g h ad) s.heap := hP
  have hl := lv_entry ([.ref (ad (3 + 9 * k)), .ref (ad (57 + a)), .ref (ad (57 + b))]) (n := 3) (Nat.le_of_ble_eq_true rfl)
  rw [lg_entry_eq]
  generalize (lg_sl ([.ref (ad (3 + 9 * k)), .ref (ad (57 + a)), .ref (ad (57 + b))]) ++ List.replicate (3 - (lg_sl ([.ref (ad (3 + 9 * k)), .ref (ad (57 + a)), .ref (ad (57 + b))])).length) Slot.unset).toArray = ls at hl ⊢
  have hl : lv_has ls 3 [(0, .ref (ad (3 + 9 * k))), (1, .ref (ad (57 + a))), (2, .ref (ad (57 + b)))] := hl
  refine lv_aload_n hx hb dK_sidesClash_0 rfl (lv_at hl 1 rfl) ?_
  refine va_get (D := D) (ci := 3) (C := RQ) (T := TQ) (N := 9) hx hb hT inQ hown hK hP (57 + a) (cw_Q ha) rfl 5 (by decide) (hT _ wm_248) (fun _ h9 => h9) rfl dK_sidesClash_1 ?_
  refine lv_aload_n hx hb dK_sidesClash_4 rfl (lv_at hl 2 rfl) ?_
  refine va_get (D := D) (ci := 3) (C := RQ) (T := TQ) (N := 9) hx hb hT inQ hown hK hP (57 + b) (cw_Q hb9) rfl 5 (by decide) (hT _ wm_248) (fun _ h9 => h9) rfl dK_sidesClash_5 ?_
  refine lv_icmp_eq (tgt := 13) hx hb dK_sidesClash_8 (by decide) (fun c_1 => ?_) (fun c_1 => ?_)
  · refine lv_aload_n hx hb dK_sidesClash_13 rfl (lv_at hl 1 rfl) ?_
    refine va_get (D := D) (ci := 3) (C := RQ) (T := TQ) (N := 9) hx hb hT inQ hown hK hP (57 + a) (cw_Q ha) rfl 5 (by decide) (hT _ wm_248) (fun _ h9 => h9) rfl dK_sidesClash_14 ?_
    refine lv_if_eq (tgt := 48) hx hb dK_sidesClash_17 (by decide) (fun c_2 => ?_) (fun c_2 => ?_)
    · refine lv_iconst (v := 1) hx hb dK_sidesClash_48 (by decide) ?_
      refine lv_goto (tgt := 53) hx hb dK_sidesClash_49 (by decide) ?_
      exact W.zret (v := 1) hx hb hr rfl (fun t ht hW => ⟨⟨_, g, rfl, ⟨by simp [sdB, ← c_1, c_2], rfl⟩, gpost_at hP hK hD ht hW.alike⟩, hS.F ht⟩) hS.2.2 dK_sidesClash_53
    · refine lv_aload_n hx hb dK_sidesClash_20 rfl (lv_at hl 1 rfl) ?_
      refine va_get (D := D) (ci := 3) (C := RQ) (T := TQ) (N := 9) hx hb hT inQ hown hK hP (57 + a) (cw_Q ha) rfl 5 (by decide) (hT _ wm_248) (fun _ h9 => h9) rfl dK_sidesClash_21 ?_
      refine lv_iconst (v := 1) hx hb dK_sidesClash_24 (by decide) ?_
      refine lv_icmp_eq (tgt := 48) hx hb dK_sidesClash_25 (by decide) (fun c_3 => ?_) (fun c_3 => ?_)
      · refine lv_iconst (v := 1) hx hb dK_sidesClash_48 (by decide) ?_
        refine lv_goto (tgt := 53) hx hb dK_sidesClash_49 (by decide) ?_
        exact W.zret (v := 1) hx hb hr rfl (fun t ht hW => ⟨⟨_, g, rfl, ⟨by simp [sdB, ← c_1, c_2, c_3], rfl⟩, gpost_at hP hK hD ht hW.alike⟩, hS.F ht⟩) hS.2.2 dK_sidesClash_53
      · refine lv_aload_n hx hb dK_sidesClash_28 rfl (lv_at hl 1 rfl) ?_
        refine va_get (D := D) (ci := 3) (C := RQ) (T := TQ) (N := 9) hx hb hT inQ hown hK hP (57 + a) (cw_Q ha) rfl 5 (by decide) (hT _ wm_248) (fun _ h9 => h9) rfl dK_sidesClash_29 ?_
        refine lv_iconst (v := 2) hx hb dK_sidesClash_32 (by decide) ?_
        refine lv_icmp_ne (tgt := 52) hx hb dK_sidesClash_33 (by decide) (fun c_4 => ?_) (fun c_4 => ?_)
        · refine lv_iconst (v := 0) hx hb dK_sidesClash_52 (by decide) ?_
          exact W.zret (v := 0) hx hb hr rfl (fun t ht hW => ⟨⟨_, g, rfl, ⟨by simp [sdB, ← c_1, c_2, c_3, c_4], rfl⟩, gpost_at hP hK hD ht hW.alike⟩, hS.F ht⟩) hS.2.2 dK_sidesClash_53
        · refine lv_aload_n hx hb dK_sidesClash_36 rfl (lv_at hl 0 rfl) ?_
          refine va_get (D := D) (ci := 1) (C := RK) (T := TK) (N := 10) hx hb hT inK hown hK hP (3 + 9 * k) (cw_K hk) rfl 0 (by decide) (hT _ wm_60) (fun _ h9 => h9) rfl dK_sidesClash_37 ?_
          refine lv_aload_n hx hb dK_sidesClash_40 rfl (lv_at hl 1 rfl) ?_
          refine va_get (D := D) (ci := 3) (C := RQ) (T := TQ) (N := 9) hx hb hT inQ hown hK hP (57 + a) (cw_Q ha) rfl 3 (by decide) (hT _ wm_244) (fun _ h9 => h9) rfl dK_sidesClash_41 ?_
          refine W.eq (g2 := F0 m 44 ls [.int (nI ja), .ref (ad (4 + 9 * k))]) (by rw [eja]) ?_
          refine va_zald (D := D) hx hb hK hP (4 + 9 * k) 1 (cw_AL hk) rfl (vp_in_nI (by omega) (by decide)) dK_sidesClash_44 ?_
          rw [nI_clamp (n := ja) (by omega)]
          refine lv_if_eq (tgt := 52) hx hb dK_sidesClash_45 (by decide) (fun c_5 => ?_) (fun c_5 => ?_)
          · refine lv_iconst (v := 0) hx hb dK_sidesClash_52 (by decide) ?_
            exact W.zret (v := 0) hx hb hr rfl (fun t ht hW => ⟨⟨_, g, rfl, ⟨by simp [sdB, ← c_1, c_2, c_3, c_4, c_5], rfl⟩, gpost_at hP hK hD ht hW.alike⟩, hS.F ht⟩) hS.2.2 dK_sidesClash_53
          · refine lv_iconst (v := 1) hx hb dK_sidesClash_48 (by decide) ?_
            refine lv_goto (tgt := 53) hx hb dK_sidesClash_49 (by decide) ?_
            exact W.zret (v := 1) hx hb hr rfl (fun t ht hW => ⟨⟨_, g, rfl, ⟨by simp [sdB, ← c_1, c_2, c_3, c_4, c_5], rfl⟩, gpost_at hP hK hD ht hW.alike⟩, hS.F ht⟩) hS.2.2 dK_sidesClash_53
  · refine lv_iconst (v := 0) hx hb dK_sidesClash_11 (by decide) ?_
    exact W.zret (v := 0) hx hb hr rfl (fun t ht hW => ⟨⟨_, g, rfl, ⟨by simp [sdB, c_1], rfl⟩, gpost_at hP hK hD ht hW.alike⟩, hS.F ht⟩) hS.2.2 dK_sidesClash_12
set_option maxHeartbeats 4000000 in
set_option maxRecDepth 100000 in
theorem kK_sizesClash (l : Launch) (D : va_G) (CA : Nat → ClassId) (g : Nat → Nat → Int32) (h : Nat → Nat → Nat) (ad : Nat → Nat) (sz : Nat) (k : Nat) (hk : k < 6) (a b : Nat) (ha : a < h 0 0) (hb9 : b < h 0 0) : Met l yK_sizesClash wK_sizesClash (rm 0 0 0) (va_Pc [.ref (ad (3 + 9 * k)), .ref (ad (57 + a)), .ref (ad (57 + b))] (gpre D (cty CA) (cw CA g h ad) sz)) (va_Qi (fun r (u : Nat → Nat → Int32) => r = (if szB (g (57 + a) 4) (g (57 + b) 4) (g (3 + 9 * k) 3) = true then 1 else 0) ∧ u = g) (fun u t => gpost D (cty CA) (cw CA u h ad) (cA h ad sz) t) (cA h ad sz)) 0 0 (cA h ad sz) := by
  refine Met.ofW (cc := cK_sizesClash) (maxL := 3) (ret := (some .boolean)) (by decide) rfl ?_
  intro p e s m args below meth c s₁ B hml hv
  obtain ⟨rfl, hsz, hP, hK, hD0⟩ := hv
  have hx := B.exec
  have hb := B.bytes
  have hr := B.returns
  have hT : ∀ w ∈ TB, w.before _ s = true := fun w hw => atoms_spec (ws := wK_sizesClash) B.pre w (List.mem_cons_of_mem _ hw)
  have hown : s.vm.findClass "CountLeast$Kind" = some m.cls := findClass_of_methodNamed B.named
  have hlocks := B.notSynchronized
  subst hsz
  have hD := nA_self (sz := s.heap.size) hD0
  have hS : va_S (cA h ad s.heap.size) s.heap s.heap [] := va_S.rf
  have hP : va_P D vwCl (cw CA g h ad) s.heap := hP
  have hl := lv_entry ([.ref (ad (3 + 9 * k)), .ref (ad (57 + a)), .ref (ad (57 + b))]) (n := 3) (Nat.le_of_ble_eq_true rfl)
  rw [lg_entry_eq]
  generalize (lg_sl ([.ref (ad (3 + 9 * k)), .ref (ad (57 + a)), .ref (ad (57 + b))]) ++ List.replicate (3 - (lg_sl ([.ref (ad (3 + 9 * k)), .ref (ad (57 + a)), .ref (ad (57 + b))])).length) Slot.unset).toArray = ls at hl ⊢
  have hl : lv_has ls 3 [(0, .ref (ad (3 + 9 * k))), (1, .ref (ad (57 + a))), (2, .ref (ad (57 + b)))] := hl
  refine lv_aload_n hx hb dK_sizesClash_0 rfl (lv_at hl 1 rfl) ?_
  refine va_get (D := D) (ci := 3) (C := RQ) (T := TQ) (N := 9) hx hb hT inQ hown hK hP (57 + a) (cw_Q ha) rfl 4 (by decide) (hT _ wm_246) (fun _ h9 => h9) rfl dK_sizesClash_1 ?_
  refine lv_if_eq (tgt := 37) hx hb dK_sizesClash_4 (by decide) (fun c_1 => ?_) (fun c_1 => ?_)
  · refine lv_iconst (v := 0) hx hb dK_sizesClash_37 (by decide) ?_
    exact W.zret (v := 0) hx hb hr rfl (fun t ht hW => ⟨⟨_, g, rfl, ⟨by simp [szB, c_1], rfl⟩, gpost_at hP hK hD ht hW.alike⟩, hS.F ht⟩) hS.2.2 dK_sizesClash_38
  · refine lv_aload_n hx hb dK_sizesClash_7 rfl (lv_at hl 2 rfl) ?_
    refine va_get (D := D) (ci := 3) (C := RQ) (T := TQ) (N := 9) hx hb hT inQ hown hK hP (57 + b) (cw_Q hb9) rfl 4 (by decide) (hT _ wm_246) (fun _ h9 => h9) rfl dK_sizesClash_8 ?_
    refine lv_if_eq (tgt := 37) hx hb dK_sizesClash_11 (by decide) (fun c_2 => ?_) (fun c_2 => ?_)
    · refine lv_iconst (v := 0) hx hb dK_sizesClash_37 (by decide) ?_
      exact W.zret (v := 0) hx hb hr rfl (fun t ht hW => ⟨⟨_, g, rfl, ⟨by simp [szB, c_1, c_2], rfl⟩, gpost_at hP hK hD ht hW.alike⟩, hS.F ht⟩) hS.2.2 dK_sizesClash_38
    · refine lv_aload_n hx hb dK_sizesClash_14 rfl (lv_at hl 1 rfl) ?_
      refine va_get (D := D) (ci := 3) (C := RQ) (T := TQ) (N := 9) hx hb hT inQ hown hK hP (57 + a) (cw_Q ha) rfl 4 (by decide) (hT _ wm_246) (fun _ h9 => h9) rfl dK_sizesClash_15 ?_
      refine lv_aload_n hx hb dK_sizesClash_18 rfl (lv_at hl 2 rfl) ?_
      refine va_get (D := D) (ci := 3) (C := RQ) (T := TQ) (N := 9) hx hb hT inQ hown hK hP (57 + b) (cw_Q hb9) rfl 4 (by decide) (hT _ wm_246) (fun _ h9 => h9) rfl dK_sizesClash_19 ?_
      refine lv_isub hx hb dK_sizesClash_22 ?_
      refine va_mabs hx hb (hml.trans hl.1.symm) (own := "CountLeast$Kind") hown (hT _ wm_349) (hT _ wm_350) (hT _ wm_12) (hT _ wm_351) (Nat.le_of_ble_eq_true rfl) (Nat.le_of_ble_eq_true rfl) (Nat.le_of_ble_eq_true rfl) (Nat.le_of_ble_eq_true rfl) dK_sizesClash_23 ?_
      refine lv_aload_n hx hb dK_sizesClash_26 rfl (lv_at hl 0 rfl) ?_
      refine va_get (D := D) (ci := 1) (C := RK) (T := TK) (N := 10) hx hb hT inK hown hK hP (3 + 9 * k) (cw_K hk) rfl 3 (by decide) (hT _ wm_66) (fun _ h9 => h9) rfl dK_sizesClash_27 ?_
      refine lv_icmp_le (tgt := 37) hx hb dK_sizesClash_30 (by decide) (fun c_3 => ?_) (fun c_3 => ?_)
      · refine lv_iconst (v := 0) hx hb dK_sizesClash_37 (by decide) ?_
        exact W.zret (v := 0) hx hb hr rfl (fun t ht hW => ⟨⟨_, g, rfl, ⟨by simp [szB, c_1, c_2, show (abD (g (57 + a) 4) (g (57 + b) 4) ≤ g (3 + 9 * k) 3) from c_3], rfl⟩, gpost_at hP hK hD ht hW.alike⟩, hS.F ht⟩) hS.2.2 dK_sizesClash_38
      · refine lv_iconst (v := 1) hx hb dK_sizesClash_33 (by decide) ?_
        refine lv_goto (tgt := 38) hx hb dK_sizesClash_34 (by decide) ?_
        exact W.zret (v := 1) hx hb hr rfl (fun t ht hW => ⟨⟨_, g, rfl, ⟨by simp [szB, c_1, c_2, show ¬ (abD (g (57 + a) 4) (g (57 + b) 4) ≤ g (3 + 9 * k) 3) from c_3], rfl⟩, gpost_at hP hK hD ht hW.alike⟩, hS.F ht⟩) hS.2.2 dK_sizesClash_38
set_option maxHeartbeats 4000000 in
set_option maxRecDepth 100000 in
theorem kK_ruleBetween (l : Launch) (D : va_G) (CA : Nat → ClassId) (g : Nat → Nat → Int32) (h : Nat → Nat → Nat) (ad : Nat → Nat) (sz : Nat) (k : Nat) (hk : k < 6) (a b : Nat) (ha : a < h 0 0) (hb9 : b < h 0 0) (ja : Nat) (hja : ja < 16) (eja : g (57 + a) 3 = nI ja) : Met l yK_ruleBetween wK_ruleBetween (rm 1 0 0) (va_Pc [.ref (ad (3 + 9 * k)), .ref (ad (57 + a)), .ref (ad (57 + b))] (gpre D (cty CA) (cw CA g h ad) sz)) (va_Qi (fun r (u : Nat → Nat → Int32) => r = ruI g k ja a b ∧ u = g) (fun u t => gpost D (cty CA) (cw CA u h ad) (cA h ad sz) t) (cA h ad sz)) 0 0 (cA h ad sz) := by
  refine Met.ofW (cc := cK_ruleBetween) (maxL := 3) (ret := (some .int)) (by decide) rfl ?_
  intro p e s m args below meth c s₁ B hml hv
  obtain ⟨rfl, hsz, hP, hK, hD0⟩ := hv
  have hx := B.exec
  have hb := B.bytes
  have hr := B.returns
  have hT : ∀ w ∈ TB, w.before _ s = true := fun w hw => atoms_spec (ws := wK_ruleBetween) B.pre w (List.mem_cons_of_mem _ hw)
  have hown : s.vm.findClass "CountLeast$Kind" = some m.cls := findClass_of_methodNamed B.named
  have hlocks := B.notSynchronized
  subst hsz
  have hD := nA_self (sz := s.heap.size) hD0
  have hS : va_S (cA h ad s.heap.size) s.heap s.heap [] := va_S.rf
  have hP : va_P D vwCl (cw CA g h ad) s.heap := hP
  have hl := lv_entry ([.ref (ad (3 + 9 * k)), .ref (ad (57 + a)), .ref (ad (57 + b))]) (n := 3) (Nat.le_of_ble_eq_true rfl)
  rw [lg_entry_eq]
  generalize (lg_sl ([.ref (ad (3 + 9 * k)), .ref (ad (57 + a)), .ref (ad (57 + b))]) ++ List.replicate (3 - (lg_sl ([.ref (ad (3 + 9 * k)), .ref (ad (57 + a)), .ref (ad (57 + b))])).length) Slot.unset).toArray = ls at hl ⊢
  have hl : lv_has ls 3 [(0, .ref (ad (3 + 9 * k))), (1, .ref (ad (57 + a))), (2, .ref (ad (57 + b)))] := hl
  refine lv_aload_n hx hb dK_ruleBetween_0 rfl (lv_at hl 1 rfl) ?_
  refine va_get (D := D) (ci := 3) (C := RQ) (T := TQ) (N := 9) hx hb hT inQ hown hK hP (57 + a) (cw_Q ha) rfl 3 (by decide) (hT _ wm_244) (fun _ h9 => h9) rfl dK_ruleBetween_1 ?_
  refine lv_aload_n hx hb dK_ruleBetween_4 rfl (lv_at hl 2 rfl) ?_
  refine va_get (D := D) (ci := 3) (C := RQ) (T := TQ) (N := 9) hx hb hT inQ hown hK hP (57 + b) (cw_Q hb9) rfl 3 (by decide) (hT _ wm_244) (fun _ h9 => h9) rfl dK_ruleBetween_5 ?_
  refine lv_icmp_ne (tgt := 22) hx hb dK_ruleBetween_8 (by decide) (fun c_1 => ?_) (fun c_1 => ?_)
  · refine lv_aload_n hx hb dK_ruleBetween_22 rfl (lv_at hl 1 rfl) ?_
    refine va_get (D := D) (ci := 3) (C := RQ) (T := TQ) (N := 9) hx hb hT inQ hown hK hP (57 + a) (cw_Q ha) rfl 6 (by decide) (hT _ wm_251) (fun _ h9 => h9) rfl dK_ruleBetween_23 ?_
    refine lv_aload_n hx hb dK_ruleBetween_26 rfl (lv_at hl 2 rfl) ?_
    refine va_get (D := D) (ci := 3) (C := RQ) (T := TQ) (N := 9) hx hb hT inQ hown hK hP (57 + b) (cw_Q hb9) rfl 7 (by decide) (hT _ wm_254) (fun _ h9 => h9) rfl dK_ruleBetween_27 ?_
    refine lv_icmp_gt (tgt := 44) hx hb dK_ruleBetween_30 (by decide) (fun c_2 => ?_) (fun c_2 => ?_)
    · refine lv_iconst (v := 2) hx hb dK_ruleBetween_44 (by decide) ?_
      exact W.iret (v := 2) hx hb hr (fun t ht hW => ⟨⟨_, g, rfl, ⟨by simp [ruI, agB, c_1, c_2], rfl⟩, gpost_at hP hK hD ht hW.alike⟩, hS.F ht⟩) hS.2.2 dK_ruleBetween_45
    · refine lv_aload_n hx hb dK_ruleBetween_33 rfl (lv_at hl 2 rfl) ?_
      refine va_get (D := D) (ci := 3) (C := RQ) (T := TQ) (N := 9) hx hb hT inQ hown hK hP (57 + b) (cw_Q hb9) rfl 6 (by decide) (hT _ wm_251) (fun _ h9 => h9) rfl dK_ruleBetween_34 ?_
      refine lv_aload_n hx hb dK_ruleBetween_37 rfl (lv_at hl 1 rfl) ?_
      refine va_get (D := D) (ci := 3) (C := RQ) (T := TQ) (N := 9) hx hb hT inQ hown hK hP (57 + a) (cw_Q ha) rfl 7 (by decide) (hT _ wm_254) (fun _ h9 => h9) rfl dK_ruleBetween_38 ?_
      refine lv_icmp_le (tgt := 46) hx hb dK_ruleBetween_41 (by decide) (fun c_3 => ?_) (fun c_3 => ?_)
      · refine lv_aload_n hx hb dK_ruleBetween_46 rfl (lv_at hl 1 rfl) ?_
        refine va_get (D := D) (ci := 3) (C := RQ) (T := TQ) (N := 9) hx hb hT inQ hown hK hP (57 + a) (cw_Q ha) rfl 3 (by decide) (hT _ wm_244) (fun _ h9 => h9) rfl dK_ruleBetween_47 ?_
        refine lv_aload_n hx hb dK_ruleBetween_50 rfl (lv_at hl 2 rfl) ?_
        refine va_get (D := D) (ci := 3) (C := RQ) (T := TQ) (N := 9) hx hb hT inQ hown hK hP (57 + b) (cw_Q hb9) rfl 3 (by decide) (hT _ wm_244) (fun _ h9 => h9) rfl dK_ruleBetween_51 ?_
        refine lv_icmp_ne (tgt := 68) hx hb dK_ruleBetween_54 (by decide) (fun c_4 => ?_) (fun c_4 => absurd c_4 c_1)
        refine lv_iconst (v := 0) hx hb dK_ruleBetween_68 (by decide) ?_
        exact W.iret (v := 0) hx hb hr (fun t ht hW => ⟨⟨_, g, rfl, ⟨by simp [ruI, agB, c_1, c_2, c_3], rfl⟩, gpost_at hP hK hD ht hW.alike⟩, hS.F ht⟩) hS.2.2 dK_ruleBetween_69
      · refine lv_iconst (v := 2) hx hb dK_ruleBetween_44 (by decide) ?_
        exact W.iret (v := 2) hx hb hr (fun t ht hW => ⟨⟨_, g, rfl, ⟨by simp [ruI, agB, c_1, c_2, c_3], rfl⟩, gpost_at hP hK hD ht hW.alike⟩, hS.F ht⟩) hS.2.2 dK_ruleBetween_45
  · refine lv_aload_n hx hb dK_ruleBetween_11 rfl (lv_at hl 0 rfl) ?_
    refine lv_aload_n hx hb dK_ruleBetween_12 rfl (lv_at hl 1 rfl) ?_
    refine lv_aload_n hx hb dK_ruleBetween_13 rfl (lv_at hl 2 rfl) ?_
    refine kVi (n := 2) (D := D) (wd := fun z => cw CA z h ad) (A1 := fun sz => cA h ad sz) (As := [.ref (ad (57 + a)), .ref (ad (57 + b))]) (rest := []) ⟨hx, hb, hml, hown, hT⟩ (kK_sidesClash l D CA g h ad s.heap.size k hk a b ha hb9 ja hja eja) (gi_V wm_341 wm_343 wp_3 wm_2 wm_344) rfl rfl (by decide +kernel) ⟨(Nat.le_of_ble_eq_true rfl), (Nat.le_of_ble_eq_true rfl)⟩ (va_recv hK hP (ci := 1) (q0 := 3 + 9 * k) rfl (cw_K hk)) hK hP hD hS (fun _ h9 => h9) (nA_mono hS.1) rfl hl.1 rfl (Nat.le_of_ble_eq_true rfl) dK_ruleBetween_14 ⟨(Nat.le_of_ble_eq_true rfl), (Nat.le_of_ble_eq_true rfl)⟩ (fun r_5 u_6 H locs w_7 hz hP hD hS => ?_)
    obtain ⟨w_7, hu9⟩ := w_7
    rw [hu9] at hP hD
    refine lv_if_eq (tgt := 22) hx hb dK_ruleBetween_17 (by decide) (fun c_9 => ?_) (fun c_9 => ?_)
    · refine lv_aload_n hx hb dK_ruleBetween_22 rfl (lv_at hl 1 rfl) ?_
      refine va_get (D := D) (ci := 3) (C := RQ) (T := TQ) (N := 9) hx hb hT inQ hown hK hP (57 + a) (cw_Q ha) rfl 6 (by decide) (hT _ wm_251) (fun _ h9 => h9) rfl dK_ruleBetween_23 ?_
      refine lv_aload_n hx hb dK_ruleBetween_26 rfl (lv_at hl 2 rfl) ?_
      refine va_get (D := D) (ci := 3) (C := RQ) (T := TQ) (N := 9) hx hb hT inQ hown hK hP (57 + b) (cw_Q hb9) rfl 7 (by decide) (hT _ wm_254) (fun _ h9 => h9) rfl dK_ruleBetween_27 ?_
      refine lv_icmp_gt (tgt := 44) hx hb dK_ruleBetween_30 (by decide) (fun c_10 => ?_) (fun c_10 => ?_)
      · refine lv_iconst (v := 2) hx hb dK_ruleBetween_44 (by decide) ?_
        exact W.iret (v := 2) hx hb hr (fun t ht hW => ⟨⟨_, g, rfl, ⟨by simp [ruI, agB, c_1, (if01 w_7).mp c_9, c_10], rfl⟩, gpost_at hP hK hD ht hW.alike⟩, hS.F ht⟩) hS.2.2 dK_ruleBetween_45
      · refine lv_aload_n hx hb dK_ruleBetween_33 rfl (lv_at hl 2 rfl) ?_
        refine va_get (D := D) (ci := 3) (C := RQ) (T := TQ) (N := 9) hx hb hT inQ hown hK hP (57 + b) (cw_Q hb9) rfl 6 (by decide) (hT _ wm_251) (fun _ h9 => h9) rfl dK_ruleBetween_34 ?_
        refine lv_aload_n hx hb dK_ruleBetween_37 rfl (lv_at hl 1 rfl) ?_
        refine va_get (D := D) (ci := 3) (C := RQ) (T := TQ) (N := 9) hx hb hT inQ hown hK hP (57 + a) (cw_Q ha) rfl 7 (by decide) (hT _ wm_254) (fun _ h9 => h9) rfl dK_ruleBetween_38 ?_
        refine lv_icmp_le (tgt := 46) hx hb dK_ruleBetween_41 (by decide) (fun c_11 => ?_) (fun c_11 => ?_)
        · refine lv_aload_n hx hb dK_ruleBetween_46 rfl (lv_at hl 1 rfl) ?_
          refine va_get (D := D) (ci := 3) (C := RQ) (T := TQ) (N := 9) hx hb hT inQ hown hK hP (57 + a) (cw_Q ha) rfl 3 (by decide) (hT _ wm_244) (fun _ h9 => h9) rfl dK_ruleBetween_47 ?_
          refine lv_aload_n hx hb dK_ruleBetween_50 rfl (lv_at hl 2 rfl) ?_
          refine va_get (D := D) (ci := 3) (C := RQ) (T := TQ) (N := 9) hx hb hT inQ hown hK hP (57 + b) (cw_Q hb9) rfl 3 (by decide) (hT _ wm_244) (fun _ h9 => h9) rfl dK_ruleBetween_51 ?_
          refine lv_icmp_ne (tgt := 68) hx hb dK_ruleBetween_54 (by decide) (fun c_12 => absurd c_1 c_12) (fun c_12 => ?_)
          refine lv_aload_n hx hb dK_ruleBetween_57 rfl (lv_at hl 0 rfl) ?_
          refine lv_aload_n hx hb dK_ruleBetween_58 rfl (lv_at hl 1 rfl) ?_
          refine lv_aload_n hx hb dK_ruleBetween_59 rfl (lv_at hl 2 rfl) ?_
          refine kVi (n := 2) (D := D) (wd := fun z => cw CA z h ad) (A1 := fun sz => cA h ad sz) (As := [.ref (ad (57 + a)), .ref (ad (57 + b))]) (rest := []) ⟨hx, hb, hml, hown, hT⟩ (kK_sizesClash l D CA g h ad H.size k hk a b ha hb9) (gi_V wm_345 wm_347 wp_4 wm_2 wm_348) rfl rfl (by decide +kernel) ⟨(Nat.le_of_ble_eq_true rfl), (Nat.le_of_ble_eq_true rfl)⟩ (va_recv hK hP (ci := 1) (q0 := 3 + 9 * k) rfl (cw_K hk)) hK hP hD hS (fun _ h9 => h9) (nA_mono hS.1) rfl hl.1 rfl (Nat.le_of_ble_eq_true rfl) dK_ruleBetween_60 ⟨(Nat.le_of_ble_eq_true rfl), (Nat.le_of_ble_eq_true rfl)⟩ (fun r_13 u_14 H locs w_15 hz hP hD hS => ?_)
          obtain ⟨w_15, hu9⟩ := w_15
          rw [hu9] at hP hD
          refine lv_if_eq (tgt := 68) hx hb dK_ruleBetween_63 (by decide) (fun c_17 => ?_) (fun c_17 => ?_)
          · refine lv_iconst (v := 0) hx hb dK_ruleBetween_68 (by decide) ?_
            exact W.iret (v := 0) hx hb hr (fun t ht hW => ⟨⟨_, g, rfl, ⟨by simp [ruI, agB, c_1, (if01 w_7).mp c_9, c_10, c_11, (if01 w_15).mp c_17], rfl⟩, gpost_at hP hK hD ht hW.alike⟩, hS.F ht⟩) hS.2.2 dK_ruleBetween_69
          · refine lv_iconst (v := 3) hx hb dK_ruleBetween_66 (by decide) ?_
            exact W.iret (v := 3) hx hb hr (fun t ht hW => ⟨⟨_, g, rfl, ⟨by simp [ruI, agB, c_1, (if01 w_7).mp c_9, c_10, c_11, if01t w_15 c_17], rfl⟩, gpost_at hP hK hD ht hW.alike⟩, hS.F ht⟩) hS.2.2 dK_ruleBetween_67
        · refine lv_iconst (v := 2) hx hb dK_ruleBetween_44 (by decide) ?_
          exact W.iret (v := 2) hx hb hr (fun t ht hW => ⟨⟨_, g, rfl, ⟨by simp [ruI, agB, c_1, (if01 w_7).mp c_9, c_10, c_11], rfl⟩, gpost_at hP hK hD ht hW.alike⟩, hS.F ht⟩) hS.2.2 dK_ruleBetween_45
    · refine lv_iconst (v := 1) hx hb dK_ruleBetween_20 (by decide) ?_
      exact W.iret (v := 1) hx hb hr (fun t ht hW => ⟨⟨_, g, rfl, ⟨by simp [ruI, agB, c_1, if01t w_7 c_9], rfl⟩, gpost_at hP hK hD ht hW.alike⟩, hS.F ht⟩) hS.2.2 dK_ruleBetween_21
