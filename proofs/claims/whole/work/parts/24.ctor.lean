/-! constructors -/
theorem ra_u {U : State} {c1 c2 : ClassId} {ty : FieldType} (h1 : va_RA U c1 ty) (h2 : va_RA U c2 ty) : c1 = c2 := by
  cases ty with
  | object C =>
    obtain ⟨k1, m1, -, -, -, e1⟩ := h1
    obtain ⟨k2, m2, -, -, -, e2⟩ := h2
    exact Option.some.inj (e1.symm.trans e2)
  | _ => exact Option.some.inj (h1.symm.trans h2)
/-- the set of one cell and the new ones -/
def oA (q sz : Nat) : Nat → Prop := fun x => x = q ∨ sz ≤ x
theorem oA_D {A : Nat → Prop} {q sz : Nat} {e : va_E} (h : va_D A [(q, e)]) : va_D (oA q sz) [(q, e)] := by
  refine ⟨h.1, fun k x hx => ?_⟩
  match k, hx with
  | 0, hx => cases hx; exact Or.inl rfl
  | k + 1, hx => simp at hx
def w999 (i : Nat) : Nat → Int32 := fun j => if j < i then 999 else 0
theorem w999_s (i : Nat) : upd (w999 i) i 999 = w999 (i + 1) := by
  funext j
  by_cases h : j = i
  · subst h; simp [upd, w999]
  · have : j < i ↔ j < i + 1 := by omega
    simp [upd, w999, h, this]
theorem w999_0 : w999 0 = fun _ => 0 := by funext j; simp [w999]
set_option maxHeartbeats 4000000 in
set_option maxRecDepth 100000 in
theorem kP_init (l : Launch) (D : va_G) (CA : Nat → ClassId) (sz q0 : Nat) : Met l yP_init wP_init (rm 0 3 36) (va_Pc [.ref q0] (gpre D (cty CA) [(q0, .inr (2, [.int 0, .int 0, .int 0, .null, .null, .null]))] sz)) (va_Qv (fun (_ : Nat × Nat × Nat) => True) (fun u t => gpost D (cty CA) [(q0, .inr (2, [.int 0, .int 0, .int 0, .ref u.1, .ref u.2.1, .ref u.2.2])), (u.1, .inl (CA 0, aI 12 (fun _ => 0))), (u.2.1, .inl (CA 0, aI 12 (fun _ => 0))), (u.2.2, .inl (CA 0, aI 12 (fun _ => 0)))] (oA q0 sz) t) (oA q0 sz)) 3 36 (oA q0 sz) := by
  refine Met.ofW (cc := cP_init) (maxL := 1) (ret := none) (by decide) rfl ?_
  intro p e s m args below meth c s₁ B hml hv
  obtain ⟨rfl, hsz, hP, hK, hD0⟩ := hv
  have hx := B.exec
  have hb := B.bytes
  have hr := B.returns
  have hT : ∀ w ∈ TB, w.before _ s = true := fun w hw => atoms_spec (ws := wP_init) B.pre w (List.mem_cons_of_mem _ hw)
  have hown : s.vm.findClass "CountLeast$Parting" = some m.cls := findClass_of_methodNamed B.named
  have hlocks := B.notSynchronized
  have hin : meth.name = "<init>" := (name_of_methodNamed B.named B.method).1
  subst hsz
  have hD := oA_D (sz := s.heap.size) hD0
  have hA : ∀ q, s.heap.size ≤ q → oA q0 s.heap.size q := fun _ h => Or.inr h
  have hS : va_S (oA q0 s.heap.size) s.heap s.heap [] := va_S.rf
  have hl := lv_entry ([.ref q0]) (n := 1) (Nat.le_of_ble_eq_true rfl)
  rw [lg_entry_eq]
  generalize (lg_sl ([.ref q0]) ++ List.replicate (1 - (lg_sl ([.ref q0])).length) Slot.unset).toArray = ls at hl ⊢
  have hl : lv_has ls 1 [(0, .ref q0)] := hl
  refine lv_aload_n hx hb dP_init_0 rfl (lv_at hl 0 rfl) ?_
  refine W.objInit hx hb hown (hT _ wm_37) (hT _ wm_20) (hT _ wm_21) rfl (by rw [hml]; exact hl.1) rfl dP_init_1 (Nat.le_of_ble_eq_true rfl) (Nat.le_of_ble_eq_true rfl) ?_
  refine W.eq (g2 := F0 m 4 ls []) rfl ?_
  refine lv_aload_n hx hb dP_init_4 rfl (lv_at hl 0 rfl) ?_
  refine lv_iconst (v := 0) hx hb dP_init_5 (by decide) ?_
  refine va_put (D := D) (ci := 2) (v := .int 0) (ty := .int) (C := RP) (T := TP) (N := 6) hx hb hT inP tyP tyokP nmP hown hK hP hD hS 0 rfl rfl 0 (by decide) (hT _ wm_38) (fun _ h9 => h9) rfl (by decide +kernel) rfl rfl (Nat.le_of_ble_eq_true rfl) dP_init_6 (fun H locs hP hD hS => ?_)
  have hP : va_P D vwCl [(q0, .inr (2, [.int 0, .int 0, .int 0, .null, .null, .null]))] H := hP
  have hD : va_D (oA q0 s.heap.size) [(q0, .inr (2, [.int 0, .int 0, .int 0, .null, .null, .null]))] := hD
  refine lv_aload_n hx hb dP_init_9 rfl (lv_at hl 0 rfl) ?_
  refine lv_iconst (v := 0) hx hb dP_init_10 (by decide) ?_
  refine va_put (D := D) (ci := 2) (v := .int 0) (ty := .int) (C := RP) (T := TP) (N := 6) hx hb hT inP tyP tyokP nmP hown hK hP hD hS 0 rfl rfl 1 (by decide) (hT _ wm_40) (fun _ h9 => h9) rfl (by decide +kernel) rfl rfl (Nat.le_of_ble_eq_true rfl) dP_init_11 (fun H locs hP hD hS => ?_)
  have hP : va_P D vwCl [(q0, .inr (2, [.int 0, .int 0, .int 0, .null, .null, .null]))] H := hP
  have hD : va_D (oA q0 s.heap.size) [(q0, .inr (2, [.int 0, .int 0, .int 0, .null, .null, .null]))] := hD
  refine lv_aload_n hx hb dP_init_14 rfl (lv_at hl 0 rfl) ?_
  refine lv_iconst (v := 0) hx hb dP_init_15 (by decide) ?_
  refine va_put (D := D) (ci := 2) (v := .int 0) (ty := .int) (C := RP) (T := TP) (N := 6) hx hb hT inP tyP tyokP nmP hown hK hP hD hS 0 rfl rfl 2 (by decide) (hT _ wm_41) (fun _ h9 => h9) rfl (by decide +kernel) rfl rfl (Nat.le_of_ble_eq_true rfl) dP_init_16 (fun H locs hP hD hS => ?_)
  have hP : va_P D vwCl [(q0, .inr (2, [.int 0, .int 0, .int 0, .null, .null, .null]))] H := hP
  have hD : va_D (oA q0 s.heap.size) [(q0, .inr (2, [.int 0, .int 0, .int 0, .null, .null, .null]))] := hD
  refine lv_aload_n hx hb dP_init_19 rfl (lv_at hl 0 rfl) ?_
  refine lv_bipush (v := 12) hx hb dP_init_20 (by decide) ?_
  refine va_newa (atype := .int) (a0 := aI 12 (fun _ => 0)) hx hb (hT _ wm_59) (ty := .int) rfl hK hP hD hS hA (fun cA => rfl) (by decide) (by decide) (by decide) (Nat.le_of_ble_eq_true rfl) (Nat.le_of_ble_eq_true rfl) dP_init_22 (fun q_1 cA H hK9 hP hD hS => ?_)
  obtain rfl : cA = CA 0 := ra_u (hK9.2 4 _ rfl).2 (hK.2 0 _ rfl).2
  refine W.widen (k := 1) (n := 12) (Nat.le_refl _) (Nat.le_refl _) ?_
  have hP : va_P D vwCl [(q0, .inr (2, [.int 0, .int 0, .int 0, .null, .null, .null])), (q_1, .inl (CA 0, aI 12 (fun _ => 0)))] H := hP
  have hD : va_D (oA q0 s.heap.size) [(q0, .inr (2, [.int 0, .int 0, .int 0, .null, .null, .null])), (q_1, .inl (CA 0, aI 12 (fun _ => 0)))] := hD
  refine va_putF (D := D) (ci := 2) (v := .ref q_1) (ty := (.array .int)) (C := RP) (T := TP) (N := 6) hx hb hT inP tyP tyokP nmP hown hK hP hD hS 0 rfl rfl 3 (by decide) (hT _ wm_42) (fun _ h9 => h9) rfl hin rfl (by decide +kernel) rfl rfl (Nat.le_of_ble_eq_true rfl) dP_init_24 (fun H locs hP hD hS => ?_)
  have hP : va_P D vwCl [(q0, .inr (2, [.int 0, .int 0, .int 0, .ref q_1, .null, .null])), (q_1, .inl (CA 0, aI 12 (fun _ => 0)))] H := hP
  have hD : va_D (oA q0 s.heap.size) [(q0, .inr (2, [.int 0, .int 0, .int 0, .ref q_1, .null, .null])), (q_1, .inl (CA 0, aI 12 (fun _ => 0)))] := hD
  refine lv_aload_n hx hb dP_init_27 rfl (lv_at hl 0 rfl) ?_
  refine lv_bipush (v := 12) hx hb dP_init_28 (by decide) ?_
  refine va_newa (atype := .int) (a0 := aI 12 (fun _ => 0)) hx hb (hT _ wm_59) (ty := .int) rfl hK hP hD hS hA (fun cA => rfl) (by decide) (by decide) (by decide) (Nat.le_of_ble_eq_true rfl) (Nat.le_of_ble_eq_true rfl) dP_init_30 (fun q_2 cA H hK9 hP hD hS => ?_)
  obtain rfl : cA = CA 0 := ra_u (hK9.2 4 _ rfl).2 (hK.2 0 _ rfl).2
  refine W.widen (k := 2) (n := 24) (Nat.le_refl _) (Nat.le_refl _) ?_
  have hP : va_P D vwCl [(q0, .inr (2, [.int 0, .int 0, .int 0, .ref q_1, .null, .null])), (q_1, .inl (CA 0, aI 12 (fun _ => 0))), (q_2, .inl (CA 0, aI 12 (fun _ => 0)))] H := hP
  have hD : va_D (oA q0 s.heap.size) [(q0, .inr (2, [.int 0, .int 0, .int 0, .ref q_1, .null, .null])), (q_1, .inl (CA 0, aI 12 (fun _ => 0))), (q_2, .inl (CA 0, aI 12 (fun _ => 0)))] := hD
  refine va_putF (D := D) (ci := 2) (v := .ref q_2) (ty := (.array .int)) (C := RP) (T := TP) (N := 6) hx hb hT inP tyP tyokP nmP hown hK hP hD hS 0 rfl rfl 4 (by decide) (hT _ wm_43) (fun _ h9 => h9) rfl hin rfl (by decide +kernel) rfl rfl (Nat.le_of_ble_eq_true rfl) dP_init_32 (fun H locs hP hD hS => ?_)
  have hP : va_P D vwCl [(q0, .inr (2, [.int 0, .int 0, .int 0, .ref q_1, .ref q_2, .null])), (q_1, .inl (CA 0, aI 12 (fun _ => 0))), (q_2, .inl (CA 0, aI 12 (fun _ => 0)))] H := hP
  have hD : va_D (oA q0 s.heap.size) [(q0, .inr (2, [.int 0, .int 0, .int 0, .ref q_1, .ref q_2, .null])), (q_1, .inl (CA 0, aI 12 (fun _ => 0))), (q_2, .inl (CA 0, aI 12 (fun _ => 0)))] := hD
  refine lv_aload_n hx hb dP_init_35 rfl (lv_at hl 0 rfl) ?_
  refine lv_bipush (v := 12) hx hb dP_init_36 (by decide) ?_
  refine va_newa (atype := .int) (a0 := aI 12 (fun _ => 0)) hx hb (hT _ wm_59) (ty := .int) rfl hK hP hD hS hA (fun cA => rfl) (by decide) (by decide) (by decide) (Nat.le_of_ble_eq_true rfl) (Nat.le_of_ble_eq_true rfl) dP_init_38 (fun q_3 cA H hK9 hP hD hS => ?_)
  obtain rfl : cA = CA 0 := ra_u (hK9.2 4 _ rfl).2 (hK.2 0 _ rfl).2
  refine W.widen (k := 3) (n := 36) (Nat.le_refl _) (Nat.le_refl _) ?_
  have hP : va_P D vwCl [(q0, .inr (2, [.int 0, .int 0, .int 0, .ref q_1, .ref q_2, .null])), (q_1, .inl (CA 0, aI 12 (fun _ => 0))), (q_2, .inl (CA 0, aI 12 (fun _ => 0))), (q_3, .inl (CA 0, aI 12 (fun _ => 0)))] H := hP
  have hD : va_D (oA q0 s.heap.size) [(q0, .inr (2, [.int 0, .int 0, .int 0, .ref q_1, .ref q_2, .null])), (q_1, .inl (CA 0, aI 12 (fun _ => 0))), (q_2, .inl (CA 0, aI 12 (fun _ => 0))), (q_3, .inl (CA 0, aI 12 (fun _ => 0)))] := hD
  refine va_putF (D := D) (ci := 2) (v := .ref q_3) (ty := (.array .int)) (C := RP) (T := TP) (N := 6) hx hb hT inP tyP tyokP nmP hown hK hP hD hS 0 rfl rfl 5 (by decide) (hT _ wm_44) (fun _ h9 => h9) rfl hin rfl (by decide +kernel) rfl rfl (Nat.le_of_ble_eq_true rfl) dP_init_40 (fun H locs hP hD hS => ?_)
  have hP : va_P D vwCl [(q0, .inr (2, [.int 0, .int 0, .int 0, .ref q_1, .ref q_2, .ref q_3])), (q_1, .inl (CA 0, aI 12 (fun _ => 0))), (q_2, .inl (CA 0, aI 12 (fun _ => 0))), (q_3, .inl (CA 0, aI 12 (fun _ => 0)))] H := hP
  have hD : va_D (oA q0 s.heap.size) [(q0, .inr (2, [.int 0, .int 0, .int 0, .ref q_1, .ref q_2, .ref q_3])), (q_1, .inl (CA 0, aI 12 (fun _ => 0))), (q_2, .inl (CA 0, aI 12 (fun _ => 0))), (q_3, .inl (CA 0, aI 12 (fun _ => 0)))] := hD
  exact W.vret hx hb hr (fun t ht hW => ⟨⟨(q_1, q_2, q_3), rfl, trivial, gpost_at hP hK hD ht hW.alike⟩, hS.F ht⟩) hS.2.2 dP_init_43
theorem nj2 {A0 A1 : Nat → Prop} {D : va_G} {cl : List vw_C} {wA wB wA' : va_W} {H H1 : Heap} (hP : va_P D cl (wB ++ wA) H) (hD : va_D A0 (wB ++ wA)) (hk : ∀ q : Nat, q < H.size → ¬ A1 q → H1[q]? = H[q]?)
    (hA : ∀ q, A1 q → q < H.size → ∃ (k : Nat) (e : va_E), wA[k]? = some (q, e)) (hP1 : va_P D cl wA' H1) (hD1 : va_D A1 wA') (h10 : ∀ q, A1 q → A0 q) : va_P D cl (wB ++ wA') H1 ∧ va_D A0 (wB ++ wA') := by
  have apart : ∀ (k : Nat) (q : Nat × va_E), wB[k]? = some q → q.1 < H.size ∧ ¬ A1 q.1 := by
    intro k q hq
    have hkl : k < wB.length := (List.getElem?_eq_some_iff.mp hq).1
    have h1 : (wB ++ wA)[k]? = some q := by rw [List.getElem?_append_left hkl]; exact hq
    have hl := (hP _ _ h1).lt
    refine ⟨hl, fun h => ?_⟩
    obtain ⟨k2, e, h2⟩ := hA q.1 h hl
    have h3 : (wB ++ wA)[wB.length + k2]? = some (q.1, e) := by
      rw [List.getElem?_append_right (by omega), show wB.length + k2 - wB.length = k2 by omega]; exact h2
    have := hD.1 _ _ _ _ h1 h3 rfl
    omega
  refine ⟨va_P.app (fun k q hq => ?_) hP1, va_D.app ?_ (hD1.weaken (fun k q _ h => h10 q.1 h)) (fun i j x y hx hy hxy => ?_)⟩
  · have hkl : k < wB.length := (List.getElem?_eq_some_iff.mp hq).1
    have h1 : (wB ++ wA)[k]? = some q := by rw [List.getElem?_append_left hkl]; exact hq
    obtain ⟨g1, g2⟩ := apart k q hq
    exact (hP _ _ h1).kept (hk q.1 g1 g2)
  · refine ⟨fun i j p q hp hq e => ?_, fun k q hq => ?_⟩
    · have h1 : (wB ++ wA)[i]? = some p := by rw [List.getElem?_append_left (List.getElem?_eq_some_iff.mp hp).1]; exact hp
      have h2 : (wB ++ wA)[j]? = some q := by rw [List.getElem?_append_left (List.getElem?_eq_some_iff.mp hq).1]; exact hq
      exact hD.1 _ _ _ _ h1 h2 e
    · have h1 : (wB ++ wA)[k]? = some q := by rw [List.getElem?_append_left (List.getElem?_eq_some_iff.mp hq).1]; exact hq
      exact hD.2 _ _ h1
  · obtain ⟨g1, g2⟩ := apart i x hx
    exact g2 (by rw [hxy]; exact hD1.2 j y hy)
theorem oA_in {q sz : Nat} {e : va_E} : ∀ x, oA q sz x → x < sz → ∃ (k : Nat) (e9 : va_E), [(q, e)][k]? = some (x, e9) := fun x h hl => by
  rcases h with rfl | h
  · exact ⟨0, e, rfl⟩
  · omega
/-- the nine cells of a new kind -/
def kw (CA : Nat → ClassId) (q : Nat) (u : Nat → Nat) : va_W := [(q, .inr (1, [.ref (u 0), .ref (u 1), .ref (u 2), .int 30000, .int 1, .int 1, .int 0, .int 0, .ref (u 3), .ref (u 4)])), (u 0, .inl (CA 1, aI 16 (fun _ => 0))), (u 1, .inl (CA 0, aI 16 (fun _ => 0))), (u 2, .inl (CA 0, aI 16 (w999 16))), (u 3, .inl (CA 3, aR 12 (fun _ => none))), (u 4, .inr (2, [.int 0, .int 0, .int 0, .ref (u 5), .ref (u 6), .ref (u 7)])), (u 5, .inl (CA 0, aI 12 (fun _ => 0))), (u 6, .inl (CA 0, aI 12 (fun _ => 0))), (u 7, .inl (CA 0, aI 12 (fun _ => 0)))]
def nst (U : State) : Prop := va_Nw (.methodLinkNest "CountLeast$Kind" 47 yP_init "CountLeast") U ∧ va_AO "CountLeast$Kind" U ∧ va_AO "CountLeast$Piece" U
theorem nst_warm {s U : State} (hW : s.WarmedH U.vm) (h : nst s) : nst U := ⟨va_Nw.warmM hW h.1, va_AO.moved hW.alike h.2.1, va_AO.moved hW.alike h.2.2⟩
theorem nst_blind {U : State} (fr : JFrame) (mk : MethodId) (a : Array Value) (h : nst U) : nst (U.calling fr mk a) := ⟨va_Nw.same (u := U) (U := U.calling fr mk a) rfl rfl h.1, va_AO.moved (u := U) (U := U.calling fr mk a) (Vm.Alike.refl U.vm) h.2.1, va_AO.moved (u := U) (U := U.calling fr mk a) (Vm.Alike.refl U.vm) h.2.2⟩
set_option maxHeartbeats 4000000 in
set_option maxRecDepth 100000 in
theorem loK_init {p : Program} {l : Launch} {e : Env} {s : State} {m : MethodId} {args : Array Value} {below : List Frame} {meth : Method} {c : Code} {Q : State → Prop} {cells slots : Nat} {D : va_G} {CA : Nat → ClassId} {q0 : Nat} {u : Nat → Nat} {R : Room} (hx : p.tables.exec = Jvm.exec) (hb : c.code = cK_init) (hml : c.maxLocals = 2) (hown : s.vm.findClass "CountLeast$Kind" = some m.cls) (hT : ∀ w ∈ TB, w.before args s = true) (hK : va_K D vwCl (cty CA) s) (kx : ∀ (H : Heap) (locs : List Loc), va_P D vwCl [(q0, .inr (1, [.ref (u 0), .ref (u 1), .ref (u 2), .int 30000, .int 1, .int 1, .int 0, .int 0, .ref (u 3), .ref (u 4)])), (u 0, .inl (CA 1, aI 16 (fun _ => 0))), (u 1, .inl (CA 0, aI 16 (fun _ => 0))), (u 2, .inl (CA 0, aI 16 (w999 16))), (u 3, .inl (CA 3, aR 12 (fun _ => none))), (u 4, .inr (2, [.int 0, .int 0, .int 0, .ref (u 5), .ref (u 6), .ref (u 7)])), (u 5, .inl (CA 0, aI 12 (fun _ => 0))), (u 6, .inl (CA 0, aI 12 (fun _ => 0))), (u 7, .inl (CA 0, aI 12 (fun _ => 0)))] H → va_D (oA q0 s.heap.size) [(q0, .inr (1, [.ref (u 0), .ref (u 1), .ref (u 2), .int 30000, .int 1, .int 1, .int 0, .int 0, .ref (u 3), .ref (u 4)])), (u 0, .inl (CA 1, aI 16 (fun _ => 0))), (u 1, .inl (CA 0, aI 16 (fun _ => 0))), (u 2, .inl (CA 0, aI 16 (w999 16))), (u 3, .inl (CA 3, aR 12 (fun _ => none))), (u 4, .inr (2, [.int 0, .int 0, .int 0, .ref (u 5), .ref (u 6), .ref (u 7)])), (u 5, .inl (CA 0, aI 12 (fun _ => 0))), (u 6, .inl (CA 0, aI 12 (fun _ => 0))), (u 7, .inl (CA 0, aI 12 (fun _ => 0)))] → va_S (oA q0 s.heap.size) s.heap H locs → ∀ ls, lv_has ls 2 [(0, .ref q0)] → W p l e R s m args below meth c H locs cells slots Q (F0 m 98 ls [])) :
    ∀ (n i : Nat), i + n = 16 → ∀ (H : Heap) (locs : List Loc), va_P D vwCl [(q0, .inr (1, [.ref (u 0), .ref (u 1), .ref (u 2), .int 30000, .int 1, .int 1, .int 0, .int 0, .ref (u 3), .ref (u 4)])), (u 0, .inl (CA 1, aI 16 (fun _ => 0))), (u 1, .inl (CA 0, aI 16 (fun _ => 0))), (u 2, .inl (CA 0, aI 16 (w999 i))), (u 3, .inl (CA 3, aR 12 (fun _ => none))), (u 4, .inr (2, [.int 0, .int 0, .int 0, .ref (u 5), .ref (u 6), .ref (u 7)])), (u 5, .inl (CA 0, aI 12 (fun _ => 0))), (u 6, .inl (CA 0, aI 12 (fun _ => 0))), (u 7, .inl (CA 0, aI 12 (fun _ => 0)))] H → va_D (oA q0 s.heap.size) [(q0, .inr (1, [.ref (u 0), .ref (u 1), .ref (u 2), .int 30000, .int 1, .int 1, .int 0, .int 0, .ref (u 3), .ref (u 4)])), (u 0, .inl (CA 1, aI 16 (fun _ => 0))), (u 1, .inl (CA 0, aI 16 (fun _ => 0))), (u 2, .inl (CA 0, aI 16 (w999 i))), (u 3, .inl (CA 3, aR 12 (fun _ => none))), (u 4, .inr (2, [.int 0, .int 0, .int 0, .ref (u 5), .ref (u 6), .ref (u 7)])), (u 5, .inl (CA 0, aI 12 (fun _ => 0))), (u 6, .inl (CA 0, aI 12 (fun _ => 0))), (u 7, .inl (CA 0, aI 12 (fun _ => 0)))] → va_S (oA q0 s.heap.size) s.heap H locs → ∀ ls, lv_has ls 2 [(1, .int (nI i)), (0, .ref q0)] → W p l e R s m args below meth c H locs cells slots Q (F0 m 77 ls []) := by
  intro n
  induction n with
  | zero =>
    intro i hi H locs hP hD hS ls hl
    have hi : i = 16 := by omega
    subst hi
    refine lv_iload_n hx hb dK_init_77 rfl (lv_at hl 0 rfl) ?_
    refine lv_bipush (v := 16) hx hb dK_init_78 (by decide) ?_
    refine lv_icmp_ge (tgt := 98) hx hb dK_init_80 (by decide) (fun c_1 => ?_) (fun c_1 => absurd (by decide) c_1)
    exact kx H locs hP hD hS ls (lv_sub hl [1] rfl)
  | succ n ih =>
    intro i hi H locs hP hD hS ls hl
    refine lv_iload_n hx hb dK_init_77 rfl (lv_at hl 0 rfl) ?_
    refine lv_bipush (v := 16) hx hb dK_init_78 (by decide) ?_
    refine lv_icmp_ge (tgt := 98) hx hb dK_init_80 (by decide) (fun c_1 => absurd c_1 (nI_ge (b := 16) (by omega) (by decide))) (fun c_1 => ?_)
    refine lv_aload_n hx hb dK_init_83 rfl (lv_at hl 1 rfl) ?_
    refine va_get (D := D) (ci := 1) (C := RK) (T := TK) (N := 10) hx hb hT inK hown hK hP 0 rfl rfl 2 (by decide) (hT _ wm_64) (fun _ h9 => h9) rfl dK_init_84 ?_
    refine lv_iload_n hx hb dK_init_87 rfl (lv_at hl 0 rfl) ?_
    refine lv_sipush (v := 999) hx hb dK_init_88 (by decide) ?_
    refine va_iast (D := D) hx hb hK hP hD hS 3 0 rfl rfl (vp_in_nI (by omega) (by decide)) dK_init_91 (fun H locs hP hD hS => ?_)
    rw [nI_clamp (n := i) (by omega)] at hP hD
    have hP : va_P D vwCl [(q0, .inr (1, [.ref (u 0), .ref (u 1), .ref (u 2), .int 30000, .int 1, .int 1, .int 0, .int 0, .ref (u 3), .ref (u 4)])), (u 0, .inl (CA 1, aI 16 (fun _ => 0))), (u 1, .inl (CA 0, aI 16 (fun _ => 0))), (u 2, .inl (CA 0, aI 16 (upd (w999 i) i 999))), (u 3, .inl (CA 3, aR 12 (fun _ => none))), (u 4, .inr (2, [.int 0, .int 0, .int 0, .ref (u 5), .ref (u 6), .ref (u 7)])), (u 5, .inl (CA 0, aI 12 (fun _ => 0))), (u 6, .inl (CA 0, aI 12 (fun _ => 0))), (u 7, .inl (CA 0, aI 12 (fun _ => 0)))] H := hP
    have hD : va_D (oA q0 s.heap.size) [(q0, .inr (1, [.ref (u 0), .ref (u 1), .ref (u 2), .int 30000, .int 1, .int 1, .int 0, .int 0, .ref (u 3), .ref (u 4)])), (u 0, .inl (CA 1, aI 16 (fun _ => 0))), (u 1, .inl (CA 0, aI 16 (fun _ => 0))), (u 2, .inl (CA 0, aI 16 (upd (w999 i) i 999))), (u 3, .inl (CA 3, aR 12 (fun _ => none))), (u 4, .inr (2, [.int 0, .int 0, .int 0, .ref (u 5), .ref (u 6), .ref (u 7)])), (u 5, .inl (CA 0, aI 12 (fun _ => 0))), (u 6, .inl (CA 0, aI 12 (fun _ => 0))), (u 7, .inl (CA 0, aI 12 (fun _ => 0)))] := hD
    refine lv_iinc (v := nI (i + 1)) (lv' := [(1, .int (nI (i + 1))), (0, .ref q0)]) hx hb dK_init_92 hl (k := 0) rfl (nI_1 _) (by decide) rfl (fun ls hl => ?_)
    refine lv_goto (tgt := 77) hx hb dK_init_95 (by decide) ?_
    rw [w999_s] at hP hD
    exact ih (i + 1) (by omega) H locs hP hD hS ls (lv_sub hl [0, 1] rfl)
set_option maxHeartbeats 4000000 in
set_option maxRecDepth 100000 in
theorem kK_init (l : Launch) (D : va_G) (CA : Nat → ClassId) (sz q0 : Nat) : Met l yK_init wK_init (rm 1 8 102) (va_Pc [.ref q0] (fun U => gpre D (cty CA) [(q0, .inr (1, [.null, .null, .null, .int 0, .int 0, .int 0, .int 0, .int 0, .null, .null]))] sz U ∧ nst U)) (va_Qv (fun (_ : Nat → Nat) => True) (fun u t => gpost D (cty CA) (kw CA q0 u) (oA q0 sz) t) (oA q0 sz)) 8 102 (oA q0 sz) := by
  refine Met.ofW (cc := cK_init) (maxL := 2) (ret := none) (by decide) rfl ?_
  intro p e s m args below meth c s₁ B hml hv
  obtain ⟨rfl, ⟨hsz, hP, hK, hD0⟩, hN⟩ := hv
  have hx := B.exec
  have hb := B.bytes
  have hr := B.returns
  have hT : ∀ w ∈ TB, w.before _ s = true := fun w hw => atoms_spec (ws := wK_init) B.pre w (List.mem_cons_of_mem _ hw)
  have hown : s.vm.findClass "CountLeast$Kind" = some m.cls := findClass_of_methodNamed B.named
  have hlocks := B.notSynchronized
  have hin : meth.name = "<init>" := (name_of_methodNamed B.named B.method).1
  subst hsz
  have hOP := hN.2.2
  have hD := oA_D (sz := s.heap.size) hD0
  have hA : ∀ q, s.heap.size ≤ q → oA q0 s.heap.size q := fun _ h => Or.inr h
  have hS : va_S (oA q0 s.heap.size) s.heap s.heap [] := va_S.rf
  have hl := lv_entry ([.ref q0]) (n := 2) (Nat.le_of_ble_eq_true rfl)
  rw [lg_entry_eq]
  generalize (lg_sl ([.ref q0]) ++ List.replicate (2 - (lg_sl ([.ref q0])).length) Slot.unset).toArray = ls at hl ⊢
  have hl : lv_has ls 2 [(0, .ref q0)] := hl
  refine lv_aload_n hx hb dK_init_0 rfl (lv_at hl 0 rfl) ?_
  refine W.objInit hx hb hown (hT _ wm_30) (hT _ wm_20) (hT _ wm_21) rfl (by rw [hml]; exact hl.1) rfl dK_init_1 (Nat.le_of_ble_eq_true rfl) (Nat.le_of_ble_eq_true rfl) ?_
  refine W.eq (g2 := F0 m 4 ls []) rfl ?_
  refine lv_aload_n hx hb dK_init_4 rfl (lv_at hl 0 rfl) ?_
  refine lv_bipush (v := 16) hx hb dK_init_5 (by decide) ?_
  refine va_newa (atype := .boolean) (a0 := aI 16 (fun _ => 0)) hx hb (hT _ wm_58) (ty := .boolean) rfl hK hP hD hS hA (fun cA => rfl) (by decide) (by decide) (by decide) (Nat.le_of_ble_eq_true rfl) (Nat.le_of_ble_eq_true rfl) dK_init_7 (fun q_1 cA H hK9 hP hD hS => ?_)
  obtain rfl : cA = CA 1 := ra_u (hK9.2 4 _ rfl).2 (hK.2 1 _ rfl).2
  refine W.widen (k := 1) (n := 16) (Nat.le_refl _) (Nat.le_refl _) ?_
  have hP : va_P D vwCl [(q0, .inr (1, [.null, .null, .null, .int 0, .int 0, .int 0, .int 0, .int 0, .null, .null])), (q_1, .inl (CA 1, aI 16 (fun _ => 0)))] H := hP
  have hD : va_D (oA q0 s.heap.size) [(q0, .inr (1, [.null, .null, .null, .int 0, .int 0, .int 0, .int 0, .int 0, .null, .null])), (q_1, .inl (CA 1, aI 16 (fun _ => 0)))] := hD
  refine va_putF (D := D) (ci := 1) (v := .ref q_1) (ty := (.array .boolean)) (C := RK) (T := TK) (N := 10) hx hb hT inK tyK tyokK nmK hown hK hP hD hS 0 rfl rfl 0 (by decide) (hT _ wm_60) (fun _ h9 => h9) rfl hin rfl (by decide +kernel) rfl rfl (Nat.le_of_ble_eq_true rfl) dK_init_9 (fun H locs hP hD hS => ?_)
  have hP : va_P D vwCl [(q0, .inr (1, [.ref q_1, .null, .null, .int 0, .int 0, .int 0, .int 0, .int 0, .null, .null])), (q_1, .inl (CA 1, aI 16 (fun _ => 0)))] H := hP
  have hD : va_D (oA q0 s.heap.size) [(q0, .inr (1, [.ref q_1, .null, .null, .int 0, .int 0, .int 0, .int 0, .int 0, .null, .null])), (q_1, .inl (CA 1, aI 16 (fun _ => 0)))] := hD
  refine lv_aload_n hx hb dK_init_12 rfl (lv_at hl 0 rfl) ?_
  refine lv_bipush (v := 16) hx hb dK_init_13 (by decide) ?_
  refine va_newa (atype := .int) (a0 := aI 16 (fun _ => 0)) hx hb (hT _ wm_59) (ty := .int) rfl hK hP hD hS hA (fun cA => rfl) (by decide) (by decide) (by decide) (Nat.le_of_ble_eq_true rfl) (Nat.le_of_ble_eq_true rfl) dK_init_15 (fun q_2 cA H hK9 hP hD hS => ?_)
  obtain rfl : cA = CA 0 := ra_u (hK9.2 4 _ rfl).2 (hK.2 0 _ rfl).2
  refine W.widen (k := 2) (n := 32) (Nat.le_refl _) (Nat.le_refl _) ?_
  have hP : va_P D vwCl [(q0, .inr (1, [.ref q_1, .null, .null, .int 0, .int 0, .int 0, .int 0, .int 0, .null, .null])), (q_1, .inl (CA 1, aI 16 (fun _ => 0))), (q_2, .inl (CA 0, aI 16 (fun _ => 0)))] H := hP
  have hD : va_D (oA q0 s.heap.size) [(q0, .inr (1, [.ref q_1, .null, .null, .int 0, .int 0, .int 0, .int 0, .int 0, .null, .null])), (q_1, .inl (CA 1, aI 16 (fun _ => 0))), (q_2, .inl (CA 0, aI 16 (fun _ => 0)))] := hD
  refine va_putF (D := D) (ci := 1) (v := .ref q_2) (ty := (.array .int)) (C := RK) (T := TK) (N := 10) hx hb hT inK tyK tyokK nmK hown hK hP hD hS 0 rfl rfl 1 (by decide) (hT _ wm_62) (fun _ h9 => h9) rfl hin rfl (by decide +kernel) rfl rfl (Nat.le_of_ble_eq_true rfl) dK_init_17 (fun H locs hP hD hS => ?_)
  have hP : va_P D vwCl [(q0, .inr (1, [.ref q_1, .ref q_2, .null, .int 0, .int 0, .int 0, .int 0, .int 0, .null, .null])), (q_1, .inl (CA 1, aI 16 (fun _ => 0))), (q_2, .inl (CA 0, aI 16 (fun _ => 0)))] H := hP
  have hD : va_D (oA q0 s.heap.size) [(q0, .inr (1, [.ref q_1, .ref q_2, .null, .int 0, .int 0, .int 0, .int 0, .int 0, .null, .null])), (q_1, .inl (CA 1, aI 16 (fun _ => 0))), (q_2, .inl (CA 0, aI 16 (fun _ => 0)))] := hD
  refine lv_aload_n hx hb dK_init_20 rfl (lv_at hl 0 rfl) ?_
  refine lv_bipush (v := 16) hx hb dK_init_21 (by decide) ?_
  refine va_newa (atype := .int) (a0 := aI 16 (fun _ => 0)) hx hb (hT _ wm_59) (ty := .int) rfl hK hP hD hS hA (fun cA => rfl) (by decide) (by decide) (by decide) (Nat.le_of_ble_eq_true rfl) (Nat.le_of_ble_eq_true rfl) dK_init_23 (fun q_3 cA H hK9 hP hD hS => ?_)
  obtain rfl : cA = CA 0 := ra_u (hK9.2 4 _ rfl).2 (hK.2 0 _ rfl).2
  refine W.widen (k := 3) (n := 48) (Nat.le_refl _) (Nat.le_refl _) ?_
  have hP : va_P D vwCl [(q0, .inr (1, [.ref q_1, .ref q_2, .null, .int 0, .int 0, .int 0, .int 0, .int 0, .null, .null])), (q_1, .inl (CA 1, aI 16 (fun _ => 0))), (q_2, .inl (CA 0, aI 16 (fun _ => 0))), (q_3, .inl (CA 0, aI 16 (fun _ => 0)))] H := hP
  have hD : va_D (oA q0 s.heap.size) [(q0, .inr (1, [.ref q_1, .ref q_2, .null, .int 0, .int 0, .int 0, .int 0, .int 0, .null, .null])), (q_1, .inl (CA 1, aI 16 (fun _ => 0))), (q_2, .inl (CA 0, aI 16 (fun _ => 0))), (q_3, .inl (CA 0, aI 16 (fun _ => 0)))] := hD
  refine va_putF (D := D) (ci := 1) (v := .ref q_3) (ty := (.array .int)) (C := RK) (T := TK) (N := 10) hx hb hT inK tyK tyokK nmK hown hK hP hD hS 0 rfl rfl 2 (by decide) (hT _ wm_64) (fun _ h9 => h9) rfl hin rfl (by decide +kernel) rfl rfl (Nat.le_of_ble_eq_true rfl) dK_init_25 (fun H locs hP hD hS => ?_)
  have hP : va_P D vwCl [(q0, .inr (1, [.ref q_1, .ref q_2, .ref q_3, .int 0, .int 0, .int 0, .int 0, .int 0, .null, .null])), (q_1, .inl (CA 1, aI 16 (fun _ => 0))), (q_2, .inl (CA 0, aI 16 (fun _ => 0))), (q_3, .inl (CA 0, aI 16 (fun _ => 0)))] H := hP
  have hD : va_D (oA q0 s.heap.size) [(q0, .inr (1, [.ref q_1, .ref q_2, .ref q_3, .int 0, .int 0, .int 0, .int 0, .int 0, .null, .null])), (q_1, .inl (CA 1, aI 16 (fun _ => 0))), (q_2, .inl (CA 0, aI 16 (fun _ => 0))), (q_3, .inl (CA 0, aI 16 (fun _ => 0)))] := hD
  refine lv_aload_n hx hb dK_init_28 rfl (lv_at hl 0 rfl) ?_
  refine lv_sipush (v := 30000) hx hb dK_init_29 (by decide) ?_
  refine va_put (D := D) (ci := 1) (v := .int 30000) (ty := .int) (C := RK) (T := TK) (N := 10) hx hb hT inK tyK tyokK nmK hown hK hP hD hS 0 rfl rfl 3 (by decide) (hT _ wm_66) (fun _ h9 => h9) rfl (by decide +kernel) rfl rfl (Nat.le_of_ble_eq_true rfl) dK_init_32 (fun H locs hP hD hS => ?_)
  have hP : va_P D vwCl [(q0, .inr (1, [.ref q_1, .ref q_2, .ref q_3, .int 30000, .int 0, .int 0, .int 0, .int 0, .null, .null])), (q_1, .inl (CA 1, aI 16 (fun _ => 0))), (q_2, .inl (CA 0, aI 16 (fun _ => 0))), (q_3, .inl (CA 0, aI 16 (fun _ => 0)))] H := hP
  have hD : va_D (oA q0 s.heap.size) [(q0, .inr (1, [.ref q_1, .ref q_2, .ref q_3, .int 30000, .int 0, .int 0, .int 0, .int 0, .null, .null])), (q_1, .inl (CA 1, aI 16 (fun _ => 0))), (q_2, .inl (CA 0, aI 16 (fun _ => 0))), (q_3, .inl (CA 0, aI 16 (fun _ => 0)))] := hD
  refine lv_aload_n hx hb dK_init_35 rfl (lv_at hl 0 rfl) ?_
  refine lv_iconst (v := 1) hx hb dK_init_36 (by decide) ?_
  refine va_put (D := D) (ci := 1) (v := .int 1) (ty := .int) (C := RK) (T := TK) (N := 10) hx hb hT inK tyK tyokK nmK hown hK hP hD hS 0 rfl rfl 4 (by decide) (hT _ wm_68) (fun _ h9 => h9) rfl (by decide +kernel) rfl rfl (Nat.le_of_ble_eq_true rfl) dK_init_37 (fun H locs hP hD hS => ?_)
  have hP : va_P D vwCl [(q0, .inr (1, [.ref q_1, .ref q_2, .ref q_3, .int 30000, .int 1, .int 0, .int 0, .int 0, .null, .null])), (q_1, .inl (CA 1, aI 16 (fun _ => 0))), (q_2, .inl (CA 0, aI 16 (fun _ => 0))), (q_3, .inl (CA 0, aI 16 (fun _ => 0)))] H := hP
  have hD : va_D (oA q0 s.heap.size) [(q0, .inr (1, [.ref q_1, .ref q_2, .ref q_3, .int 30000, .int 1, .int 0, .int 0, .int 0, .null, .null])), (q_1, .inl (CA 1, aI 16 (fun _ => 0))), (q_2, .inl (CA 0, aI 16 (fun _ => 0))), (q_3, .inl (CA 0, aI 16 (fun _ => 0)))] := hD
  refine lv_aload_n hx hb dK_init_40 rfl (lv_at hl 0 rfl) ?_
  refine lv_iconst (v := 1) hx hb dK_init_41 (by decide) ?_
  refine va_put (D := D) (ci := 1) (v := .int 1) (ty := .int) (C := RK) (T := TK) (N := 10) hx hb hT inK tyK tyokK nmK hown hK hP hD hS 0 rfl rfl 5 (by decide) (hT _ wm_70) (fun _ h9 => h9) rfl (by decide +kernel) rfl rfl (Nat.le_of_ble_eq_true rfl) dK_init_42 (fun H locs hP hD hS => ?_)
  have hP : va_P D vwCl [(q0, .inr (1, [.ref q_1, .ref q_2, .ref q_3, .int 30000, .int 1, .int 1, .int 0, .int 0, .null, .null])), (q_1, .inl (CA 1, aI 16 (fun _ => 0))), (q_2, .inl (CA 0, aI 16 (fun _ => 0))), (q_3, .inl (CA 0, aI 16 (fun _ => 0)))] H := hP
  have hD : va_D (oA q0 s.heap.size) [(q0, .inr (1, [.ref q_1, .ref q_2, .ref q_3, .int 30000, .int 1, .int 1, .int 0, .int 0, .null, .null])), (q_1, .inl (CA 1, aI 16 (fun _ => 0))), (q_2, .inl (CA 0, aI 16 (fun _ => 0))), (q_3, .inl (CA 0, aI 16 (fun _ => 0)))] := hD
  refine lv_aload_n hx hb dK_init_45 rfl (lv_at hl 0 rfl) ?_
  refine lv_iconst (v := 0) hx hb dK_init_46 (by decide) ?_
  refine va_put (D := D) (ci := 1) (v := .int 0) (ty := .int) (C := RK) (T := TK) (N := 10) hx hb hT inK tyK tyokK nmK hown hK hP hD hS 0 rfl rfl 6 (by decide) (hT _ wm_73) (fun _ h9 => h9) rfl (by decide +kernel) rfl rfl (Nat.le_of_ble_eq_true rfl) dK_init_47 (fun H locs hP hD hS => ?_)
  have hP : va_P D vwCl [(q0, .inr (1, [.ref q_1, .ref q_2, .ref q_3, .int 30000, .int 1, .int 1, .int 0, .int 0, .null, .null])), (q_1, .inl (CA 1, aI 16 (fun _ => 0))), (q_2, .inl (CA 0, aI 16 (fun _ => 0))), (q_3, .inl (CA 0, aI 16 (fun _ => 0)))] H := hP
  have hD : va_D (oA q0 s.heap.size) [(q0, .inr (1, [.ref q_1, .ref q_2, .ref q_3, .int 30000, .int 1, .int 1, .int 0, .int 0, .null, .null])), (q_1, .inl (CA 1, aI 16 (fun _ => 0))), (q_2, .inl (CA 0, aI 16 (fun _ => 0))), (q_3, .inl (CA 0, aI 16 (fun _ => 0)))] := hD
  refine lv_aload_n hx hb dK_init_50 rfl (lv_at hl 0 rfl) ?_
  refine lv_iconst (v := 0) hx hb dK_init_51 (by decide) ?_
  refine va_put (D := D) (ci := 1) (v := .int 0) (ty := .boolean) (C := RK) (T := TK) (N := 10) hx hb hT inK tyK tyokK nmK hown hK hP hD hS 0 rfl rfl 7 (by decide) (hT _ wm_75) (fun _ h9 => h9) rfl (by decide +kernel) rfl rfl (Nat.le_of_ble_eq_true rfl) dK_init_52 (fun H locs hP hD hS => ?_)
  have hP : va_P D vwCl [(q0, .inr (1, [.ref q_1, .ref q_2, .ref q_3, .int 30000, .int 1, .int 1, .int 0, .int 0, .null, .null])), (q_1, .inl (CA 1, aI 16 (fun _ => 0))), (q_2, .inl (CA 0, aI 16 (fun _ => 0))), (q_3, .inl (CA 0, aI 16 (fun _ => 0)))] H := hP
  have hD : va_D (oA q0 s.heap.size) [(q0, .inr (1, [.ref q_1, .ref q_2, .ref q_3, .int 30000, .int 1, .int 1, .int 0, .int 0, .null, .null])), (q_1, .inl (CA 1, aI 16 (fun _ => 0))), (q_2, .inl (CA 0, aI 16 (fun _ => 0))), (q_3, .inl (CA 0, aI 16 (fun _ => 0)))] := hD
  refine lv_aload_n hx hb dK_init_55 rfl (lv_at hl 0 rfl) ?_
  refine lv_bipush (v := 12) hx hb dK_init_56 (by decide) ?_
  refine va_newq (own := "CountLeast$Kind") (C := "CountLeast$Piece") hx hb hown (hT _ wm_31) hOP hK hP hD hS hA (N' := 12) (by decide) (by decide) (by decide) (Nat.le_of_ble_eq_true rfl) (Nat.le_of_ble_eq_true rfl) dK_init_58 (fun q_4 cA H hK9 hP hD hS => ?_)
  obtain rfl : cA = CA 3 := ra_u (hK9.2 4 _ rfl).2 (hK.2 3 _ rfl).2
  refine W.widen (k := 4) (n := 60) (Nat.le_refl _) (Nat.le_refl _) ?_
  have hP : va_P D vwCl [(q0, .inr (1, [.ref q_1, .ref q_2, .ref q_3, .int 30000, .int 1, .int 1, .int 0, .int 0, .null, .null])), (q_1, .inl (CA 1, aI 16 (fun _ => 0))), (q_2, .inl (CA 0, aI 16 (fun _ => 0))), (q_3, .inl (CA 0, aI 16 (fun _ => 0))), (q_4, .inl (CA 3, aR 12 (fun _ => none)))] H := hP
  have hD : va_D (oA q0 s.heap.size) [(q0, .inr (1, [.ref q_1, .ref q_2, .ref q_3, .int 30000, .int 1, .int 1, .int 0, .int 0, .null, .null])), (q_1, .inl (CA 1, aI 16 (fun _ => 0))), (q_2, .inl (CA 0, aI 16 (fun _ => 0))), (q_3, .inl (CA 0, aI 16 (fun _ => 0))), (q_4, .inl (CA 3, aR 12 (fun _ => none)))] := hD
  refine va_putF (D := D) (ci := 1) (v := .ref q_4) (ty := (.array (.object "CountLeast$Piece"))) (C := RK) (T := TK) (N := 10) hx hb hT inK tyK tyokK nmK hown hK hP hD hS 0 rfl rfl 8 (by decide) (hT _ wm_77) (fun _ h9 => h9) rfl hin rfl (by decide +kernel) rfl rfl (Nat.le_of_ble_eq_true rfl) dK_init_61 (fun H locs hP hD hS => ?_)
  have hP : va_P D vwCl [(q0, .inr (1, [.ref q_1, .ref q_2, .ref q_3, .int 30000, .int 1, .int 1, .int 0, .int 0, .ref q_4, .null])), (q_1, .inl (CA 1, aI 16 (fun _ => 0))), (q_2, .inl (CA 0, aI 16 (fun _ => 0))), (q_3, .inl (CA 0, aI 16 (fun _ => 0))), (q_4, .inl (CA 3, aR 12 (fun _ => none)))] H := hP
  have hD : va_D (oA q0 s.heap.size) [(q0, .inr (1, [.ref q_1, .ref q_2, .ref q_3, .int 30000, .int 1, .int 1, .int 0, .int 0, .ref q_4, .null])), (q_1, .inl (CA 1, aI 16 (fun _ => 0))), (q_2, .inl (CA 0, aI 16 (fun _ => 0))), (q_3, .inl (CA 0, aI 16 (fun _ => 0))), (q_4, .inl (CA 3, aR 12 (fun _ => none)))] := hD
  refine lv_aload_n hx hb dK_init_64 rfl (lv_at hl 0 rfl) ?_
  refine va_new (ci := 2) (fs := [.int 0, .int 0, .int 0, .null, .null, .null]) (own := "CountLeast$Kind") (C := RP) (T := TP) (N := 6) hx hb hT inP tyP tyokP hown (hT _ wm_32) (hT _ wm_33) (hT _ wm_3) hK hP hD hS hA rfl (fun j hj => by rcases (show j = 0 ∨ j = 1 ∨ j = 2 ∨ j = 3 ∨ j = 4 ∨ j = 5 by omega) with rfl | rfl | rfl | rfl | rfl | rfl <;> rfl) (Nat.le_of_ble_eq_true rfl) (Nat.le_of_ble_eq_true rfl) dK_init_65 (fun q_5 H hP hD hS => ?_)
  refine W.widen (k := 5) (n := 66) (Nat.le_refl _) (Nat.le_refl _) ?_
  have hP : va_P D vwCl [(q0, .inr (1, [.ref q_1, .ref q_2, .ref q_3, .int 30000, .int 1, .int 1, .int 0, .int 0, .ref q_4, .null])), (q_1, .inl (CA 1, aI 16 (fun _ => 0))), (q_2, .inl (CA 0, aI 16 (fun _ => 0))), (q_3, .inl (CA 0, aI 16 (fun _ => 0))), (q_4, .inl (CA 3, aR 12 (fun _ => none))), (q_5, .inr (2, [.int 0, .int 0, .int 0, .null, .null, .null]))] H := hP
  have hD : va_D (oA q0 s.heap.size) [(q0, .inr (1, [.ref q_1, .ref q_2, .ref q_3, .int 30000, .int 1, .int 1, .int 0, .int 0, .ref q_4, .null])), (q_1, .inl (CA 1, aI 16 (fun _ => 0))), (q_2, .inl (CA 0, aI 16 (fun _ => 0))), (q_3, .inl (CA 0, aI 16 (fun _ => 0))), (q_4, .inl (CA 3, aR 12 (fun _ => none))), (q_5, .inr (2, [.int 0, .int 0, .int 0, .null, .null, .null]))] := hD
  refine lv_dup hx hb dK_init_68 rfl ?_
  have hFA : ∀ x, oA q_5 H.size x → oA q0 s.heap.size x := fun x hx9 => hx9.elim (fun e9 => by rw [e9]; exact hD.2 5 _ rfl) (fun e9 => Or.inr (Nat.le_trans hS.1 e9))
  refine va_callv (va_runIN (host := "CountLeast") (As := []) (rest := [.ref q_5, .ref q0]) ⟨hx, hb, hml, hown, hT⟩ (kP_init l D CA H.size q_5) ⟨va_cnB 0 hT (gi_cons wm_36 gi_TB) rfl rfl rfl hN.1 (hT _ wm_3) (by decide +kernel) ⟨(Nat.le_of_ble_eq_true rfl), (Nat.le_of_ble_eq_true rfl)⟩, rfl, hT _ wm_35⟩ ⟨fun a U fr mk q => ⟨q.1, gpre_blind fr mk a q.2⟩, fun U hU hW9 => ⟨rfl, gpre_at (hP.sub (ws' := [(q_5, .inr (2, [.int 0, .int 0, .int 0, .null, .null, .null]))]) [5] rfl) hK (hD.sub (ws' := [(q_5, .inr (2, [.int 0, .int 0, .int 0, .null, .null, .null]))]) [5] (by decide) rfl) hU hW9⟩⟩ rfl rfl hl.1 rfl (lv_room (Nat.le_of_ble_eq_true rfl)) dK_init_69 ⟨(Nat.le_of_ble_eq_true rfl), (Nat.le_of_ble_eq_true rfl)⟩) hS (fun x _ hx9 => hFA x hx9) hFA (fun u9 t9 H1 locs ht9 hvm9 _ hB9 hz9 hk9 hS => ?_)
  obtain ⟨a9, b9, d9⟩ := u9
  obtain ⟨hP1, -, hD1⟩ := hB9
  rw [ht9] at hP1
  obtain ⟨hP, hD⟩ := nj2 (wB := [(q0, .inr (1, [.ref q_1, .ref q_2, .ref q_3, .int 30000, .int 1, .int 1, .int 0, .int 0, .ref q_4, .null])), (q_1, .inl (CA 1, aI 16 (fun _ => 0))), (q_2, .inl (CA 0, aI 16 (fun _ => 0))), (q_3, .inl (CA 0, aI 16 (fun _ => 0))), (q_4, .inl (CA 3, aR 12 (fun _ => none)))]) (wA := [(q_5, .inr (2, [.int 0, .int 0, .int 0, .null, .null, .null]))]) hP hD hk9 (oA_in (e := _)) hP1 hD1 hFA
  generalize H1 = H at hP hS ⊢
  refine W.widen (k := 8) (n := 102) (Nat.le_refl _) (Nat.le_refl _) ?_
  have hP : va_P D vwCl [(q0, .inr (1, [.ref q_1, .ref q_2, .ref q_3, .int 30000, .int 1, .int 1, .int 0, .int 0, .ref q_4, .null])), (q_1, .inl (CA 1, aI 16 (fun _ => 0))), (q_2, .inl (CA 0, aI 16 (fun _ => 0))), (q_3, .inl (CA 0, aI 16 (fun _ => 0))), (q_4, .inl (CA 3, aR 12 (fun _ => none))), (q_5, .inr (2, [.int 0, .int 0, .int 0, .ref a9, .ref b9, .ref d9])), (a9, .inl (CA 0, aI 12 (fun _ => 0))), (b9, .inl (CA 0, aI 12 (fun _ => 0))), (d9, .inl (CA 0, aI 12 (fun _ => 0)))] H := hP
  have hD : va_D (oA q0 s.heap.size) [(q0, .inr (1, [.ref q_1, .ref q_2, .ref q_3, .int 30000, .int 1, .int 1, .int 0, .int 0, .ref q_4, .null])), (q_1, .inl (CA 1, aI 16 (fun _ => 0))), (q_2, .inl (CA 0, aI 16 (fun _ => 0))), (q_3, .inl (CA 0, aI 16 (fun _ => 0))), (q_4, .inl (CA 3, aR 12 (fun _ => none))), (q_5, .inr (2, [.int 0, .int 0, .int 0, .ref a9, .ref b9, .ref d9])), (a9, .inl (CA 0, aI 12 (fun _ => 0))), (b9, .inl (CA 0, aI 12 (fun _ => 0))), (d9, .inl (CA 0, aI 12 (fun _ => 0)))] := hD
  refine va_putF (D := D) (ci := 1) (v := .ref q_5) (ty := (.object "CountLeast$Parting")) (C := RK) (T := TK) (N := 10) hx hb hT inK tyK tyokK nmK hown hK hP hD hS 0 rfl rfl 9 (by decide) (hT _ wm_78) (fun _ h9 => h9) rfl hin rfl (by decide +kernel) rfl rfl (Nat.le_of_ble_eq_true rfl) dK_init_72 (fun H locs hP hD hS => ?_)
  have hP : va_P D vwCl [(q0, .inr (1, [.ref q_1, .ref q_2, .ref q_3, .int 30000, .int 1, .int 1, .int 0, .int 0, .ref q_4, .ref q_5])), (q_1, .inl (CA 1, aI 16 (fun _ => 0))), (q_2, .inl (CA 0, aI 16 (fun _ => 0))), (q_3, .inl (CA 0, aI 16 (fun _ => 0))), (q_4, .inl (CA 3, aR 12 (fun _ => none))), (q_5, .inr (2, [.int 0, .int 0, .int 0, .ref a9, .ref b9, .ref d9])), (a9, .inl (CA 0, aI 12 (fun _ => 0))), (b9, .inl (CA 0, aI 12 (fun _ => 0))), (d9, .inl (CA 0, aI 12 (fun _ => 0)))] H := hP
  have hD : va_D (oA q0 s.heap.size) [(q0, .inr (1, [.ref q_1, .ref q_2, .ref q_3, .int 30000, .int 1, .int 1, .int 0, .int 0, .ref q_4, .ref q_5])), (q_1, .inl (CA 1, aI 16 (fun _ => 0))), (q_2, .inl (CA 0, aI 16 (fun _ => 0))), (q_3, .inl (CA 0, aI 16 (fun _ => 0))), (q_4, .inl (CA 3, aR 12 (fun _ => none))), (q_5, .inr (2, [.int 0, .int 0, .int 0, .ref a9, .ref b9, .ref d9])), (a9, .inl (CA 0, aI 12 (fun _ => 0))), (b9, .inl (CA 0, aI 12 (fun _ => 0))), (d9, .inl (CA 0, aI 12 (fun _ => 0)))] := hD
  refine lv_iconst (v := 0) hx hb dK_init_75 (by decide) ?_
  refine lv_istore_n (lv' := [(1, .int 0), (0, .ref q0)]) hx hb dK_init_76 rfl hl (by decide) rfl (fun ls hl => ?_)
  have hP : va_P D vwCl [(q0, .inr (1, [.ref q_1, .ref q_2, .ref q_3, .int 30000, .int 1, .int 1, .int 0, .int 0, .ref q_4, .ref q_5])), (q_1, .inl (CA 1, aI 16 (fun _ => 0))), (q_2, .inl (CA 0, aI 16 (fun _ => 0))), (q_3, .inl (CA 0, aI 16 (w999 0))), (q_4, .inl (CA 3, aR 12 (fun _ => none))), (q_5, .inr (2, [.int 0, .int 0, .int 0, .ref a9, .ref b9, .ref d9])), (a9, .inl (CA 0, aI 12 (fun _ => 0))), (b9, .inl (CA 0, aI 12 (fun _ => 0))), (d9, .inl (CA 0, aI 12 (fun _ => 0)))] H := by rw [w999_0]; exact hP
  have hD : va_D (oA q0 s.heap.size) [(q0, .inr (1, [.ref q_1, .ref q_2, .ref q_3, .int 30000, .int 1, .int 1, .int 0, .int 0, .ref q_4, .ref q_5])), (q_1, .inl (CA 1, aI 16 (fun _ => 0))), (q_2, .inl (CA 0, aI 16 (fun _ => 0))), (q_3, .inl (CA 0, aI 16 (w999 0))), (q_4, .inl (CA 3, aR 12 (fun _ => none))), (q_5, .inr (2, [.int 0, .int 0, .int 0, .ref a9, .ref b9, .ref d9])), (a9, .inl (CA 0, aI 12 (fun _ => 0))), (b9, .inl (CA 0, aI 12 (fun _ => 0))), (d9, .inl (CA 0, aI 12 (fun _ => 0)))] := by rw [w999_0]; exact hD
  refine loK_init (u := fun n => [q_1, q_2, q_3, q_4, q_5, a9, b9, d9].getD n 0) hx hb hml hown hT hK (fun H locs hP hD hS ls hl => ?_) 16 0 (by omega) H locs hP hD hS ls (lv_sub hl [0, 1] rfl)
  exact W.vret hx hb hr (fun t ht hW => ⟨⟨(fun n => [q_1, q_2, q_3, q_4, q_5, a9, b9, d9].getD n 0), rfl, trivial, gpost_at hP hK hD ht hW.alike⟩, hS.F ht⟩) hS.2.2 dK_init_98
