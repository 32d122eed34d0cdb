/-! the law's calls: the class's world beside the array of one long -/
abbrev oc (CL : ClassId) (f : Nat → Int64) : va_E := .inl (CL, 1, .inr (.inl f))
abbrev tyL (CA : Nat → ClassId) : List (ClassId × FieldType) := [(CA 0, .int), (CA 1, .boolean), (CA 2, .object "CountLeast$Kind"), (CA 3, .object "CountLeast$Piece"), (CA 4, .long)]
theorem K_L {D : va_G} {CA : Nat → ClassId} {s : State} (h : va_K D vwCl (tyL CA) s) : va_K D vwCl (cty CA) s := by
  refine ⟨h.1, fun k q hq => h.2 k q ?_⟩
  match k, hq with
  | 0, hq => exact hq
  | 1, hq => exact hq
  | 2, hq => exact hq
  | 3, hq => exact hq
  | k + 4, hq => simp at hq
def lA (h : Nat → Nat → Nat) (ad : Nat → Nat) (qo sz : Nat) : Nat → Prop := fun q => q = qo ∨ cA h ad sz q
theorem P_r {D : va_G} {cl : List vw_C} {wA wB : va_W} {H : Heap} (hP : va_P D cl (wB ++ wA) H) : va_P D cl wA H := fun k q hq => hP (wB.length + k) q (by
  rw [List.getElem?_append_right (by omega), show wB.length + k - wB.length = k by omega]; exact hq)
theorem D_r {A : Nat → Prop} {wA wB : va_W} (hD : va_D A (wB ++ wA)) : va_D A wA := by
  have e : ∀ (k : Nat) (q : Nat × va_E), wA[k]? = some q → (wB ++ wA)[wB.length + k]? = some q := fun k q hq => by
    rw [List.getElem?_append_right (by omega), show wB.length + k - wB.length = k by omega]; exact hq
  refine ⟨fun i j p q hp hq h9 => ?_, fun k q hq => hD.2 _ q (e k q hq)⟩
  have := hD.1 _ _ p q (e i p hp) (e j q hq) h9
  omega
theorem P_l {D : va_G} {cl : List vw_C} {wA wB : va_W} {H : Heap} (hP : va_P D cl (wA ++ wB) H) : va_P D cl wA H := fun k q hq => hP k q (by
  rw [List.getElem?_append_left (List.getElem?_eq_some_iff.mp hq).1]; exact hq)
theorem D_l {A : Nat → Prop} {wA wB : va_W} (hD : va_D A (wA ++ wB)) : va_D A wA := by
  have e : ∀ (k : Nat) (q : Nat × va_E), wA[k]? = some q → (wA ++ wB)[k]? = some q := fun k q hq => by
    rw [List.getElem?_append_left (List.getElem?_eq_some_iff.mp hq).1]; exact hq
  exact ⟨fun i j p q hp hq h9 => hD.1 _ _ p q (e i p hp) (e j q hq) h9, fun k q hq => hD.2 _ q (e k q hq)⟩
/-- the cells that a numbered world may write, below a size, are its own -/
theorem nA_in {N sz : Nat} {ad : Nat → Nat} {c : Nat → va_E} : ∀ q, nA N ad sz q → q < sz → ∃ (k : Nat) (e : va_E), (nw N ad c)[k]? = some (q, e) := by
  intro q h hl
  rcases h with ⟨i, hi, rfl⟩ | h
  · exact ⟨i, c i, nw_get hi⟩
  · omega
def xn (U : State) : Prop := va_Nc xE2 xE1 U ∧ va_Nc xE3 xE1 U ∧ va_Nc xE3 xE2 U
theorem xn_blind {U : State} (fr : JFrame) (mk : MethodId) (a : Array Value) (h : xn U) : xn (U.calling fr mk a) := ⟨va_Nc.moved (u := U) (U := U.calling fr mk a) (Vm.Alike.refl U.vm) h.1, va_Nc.moved (u := U) (U := U.calling fr mk a) (Vm.Alike.refl U.vm) h.2.1, va_Nc.moved (u := U) (U := U.calling fr mk a) (Vm.Alike.refl U.vm) h.2.2⟩
theorem xn_at {s U : State} (h : xn s) (hW : s.WarmedH U.vm) : xn U := ⟨va_Nc.moved hW.alike h.1, va_Nc.moved hW.alike h.2.1, va_Nc.moved hW.alike h.2.2⟩
def w4 (b1 b2 b3 : Prop) (r : Int32) (X M : Prop) : Prop := (r = 1 ∧ b1 ∧ X) ∨ (r = 2 ∧ ¬ b1 ∧ b2 ∧ X) ∨ (r = 3 ∧ ¬ b1 ∧ ¬ b2 ∧ b3 ∧ X) ∨ (r = 0 ∧ M)
section KL
variable {p : Program} {l : Launch} {e : Env} {R : Room} {s : State} {m : MethodId} {args : Array Value} {below : List Frame} {meth : Method} {c : Code} {H : Heap} {locs : List Loc} {cells slots : Nat} {Q : State → Prop}
variable {cc : ByteArray} {nL : Nat} {own : String} {D : va_G} {CA : Nat → ClassId} {A0 A1 : Nat → Prop} {pc : Nat} {ls : Array Slot} {rest st0 : List Value}
variable {σ : Type} {wB : va_W} {wd : σ → va_W} {wx : (Nat → Nat → Int32) → va_W} {g0 : Nat → Nat → Int32} {y : MethodName} {C : String} {index maxL mc ms n b : Nat} {bytes : ByteArray} {ret : Option FieldType} {rc : Room} {As : List Value} {sa : Nat → Nat} {te : String → Prop}
/-- a call within a try: an int comes back, or something is thrown -/
theorem kLi {post : Int32 → σ → Prop} (S : CallFix p m c cc nL s args TB own)
    (hM : vx_Met l y (.code y bytes maxL ret :: TB) rc (va_Pc (.ref b :: As) (fun U => gpre D (cty CA) (wx g0) H.size U ∧ xz A1 sa U U.heap)) (va_Qi post (fun u t => gpost D (cty CA) (wd u) A1 t) A1) (vx_X (fun u : Nat → Nat → Int32 => u = g0) (fun E u t => te E ∧ gpost D (cty CA) (wx u) A1 t) A1) mc ms A1)
    (hw : GoodIn TB (wsV own index C y (.code y bytes maxL ret :: TB))) (hrc : rc.cells = mc) (hrs : rc.slots = ms) (hd : y.cls = C ∧ y.cls ≠ "java/lang/invoke/MethodHandle" ∧ y.cls ≠ "java/lang/invoke/VarHandle" ∧ (parseMethodDescriptor y.desc).map (fun d => d.parameters.length) = some n) (hR : rc.frames + 1 ≤ R.frames ∧ 8 + (maxL + 11) + rc.locals ≤ R.locals)
    (hrv : ∃ cellB : Cell, H[b]? = some cellB ∧ cellB.vm.isStatics = false ∧ s.vm.findClass C = some cellB.cls) (hZ : xz A0 sa s s.heap)
    (hK : va_K D vwCl (tyL CA) s) (hP : va_P D vwCl (wB ++ wx g0) H) (hD : va_D A0 (wB ++ wx g0)) (hS : va_S A0 s.heap H locs) (hA : ∀ q, A1 q → A0 q) (hin : ∀ q, A1 q → q < H.size → ∃ (k : Nat) (e : va_E), (wx g0)[k]? = some (q, e))
    (hn : As.length = n) (hsize : ls.size = nL) (hst : st0 = As.reverse ++ .ref b :: rest) (hW : (rest.map fun v => v.category).sum ≤ 8) (hdg : decode cc pc = .ok (.invokevirtual index, 3)) (hf : cells + mc ≤ R.cells ∧ slots + ms ≤ R.slots)
    (kx : ∀ (E : String) (ce : Cell) (q9 : Addr) (H1 : Heap) (locs1 : List Loc), te E → va_P D vwCl (wB ++ wx g0) H1 → va_D A0 (wB ++ wx g0) → va_S A0 s.heap H1 locs1 → H1[q9]? = some ce → ce.vm = .none → s.vm.findClass E = some ce.cls → vx_W p l e R s m args below meth c H1 locs1 (cells + mc) (slots + ms) Q (F0 m pc ls rest) q9)
    (kk : ∀ (r : Int32) (u : σ) (H1 : Heap) (locs1 : List Loc), post r u → va_P D vwCl (wB ++ wd u) H1 → va_D A0 (wB ++ wd u) → va_S A0 s.heap H1 locs1 → W p l e R s m args below meth c H1 locs1 (cells + mc) (slots + ms) Q (F0 m (pc + 3) ls (.int r :: rest))) :
    W p l e R s m args below meth c H locs cells slots Q (F0 m pc ls st0) := by
  refine vx_calli (vx_runV (As := As) (rest := rest) S hM (cwV n S.2.2.2.2 hw rfl hrc hrs hd hR) ⟨fun a U fr mk q => ⟨q.1, gpre_blind fr mk a q.2.1, xz_blind fr mk a q.2.2⟩, hrv, fun U hU hW9 => ⟨rfl, gpre_at (P_r hP) (K_L hK) (D_r hD) hU hW9, xz_at hZ hS hA hU hW9⟩⟩ rfl hn hsize hst (lv_room hW) hdg hf) hS (fun q _ h => hA q h) hA (fun q _ h => hA q h) (fun E ce q9 u t H1 locs1 ht hvm hu hbad hz1 hk1 hS1 hce hcv hcl => ?_) (fun r u t H1 locs1 ht hvm hpo hB hz1 hk1 hS1 => ?_)
  · subst hu
    obtain ⟨hbad, hP1, hK1, hD1⟩ := hbad
    rw [ht] at hP1
    obtain ⟨hP2, hD2⟩ := nj2 hP hD hk1 hin hP1 hD1 hA
    exact kx E ce q9 H1 locs1 hbad hP2 hD2 hS1 hce hcv hcl
  · obtain ⟨hP1, hK1, hD1⟩ := hB
    rw [ht] at hP1
    obtain ⟨hP2, hD2⟩ := nj2 hP hD hk1 hin hP1 hD1 hA
    exact kk r u H1 locs1 hpo hP2 hD2 hS1
/-- the same, nothing comes back -/
theorem kLv {post : σ → Prop} (S : CallFix p m c cc nL s args TB own)
    (hM : vx_Met l y (.code y bytes maxL ret :: TB) rc (va_Pc (.ref b :: As) (fun U => gpre D (cty CA) (wx g0) H.size U ∧ xz A1 sa U U.heap)) (va_Qv post (fun u t => gpost D (cty CA) (wd u) A1 t) A1) (vx_X (fun u : Nat → Nat → Int32 => u = g0) (fun E u t => te E ∧ gpost D (cty CA) (wx u) A1 t) A1) mc ms A1)
    (hw : GoodIn TB (wsV own index C y (.code y bytes maxL ret :: TB))) (hrc : rc.cells = mc) (hrs : rc.slots = ms) (hd : y.cls = C ∧ y.cls ≠ "java/lang/invoke/MethodHandle" ∧ y.cls ≠ "java/lang/invoke/VarHandle" ∧ (parseMethodDescriptor y.desc).map (fun d => d.parameters.length) = some n) (hR : rc.frames + 1 ≤ R.frames ∧ 8 + (maxL + 11) + rc.locals ≤ R.locals)
    (hrv : ∃ cellB : Cell, H[b]? = some cellB ∧ cellB.vm.isStatics = false ∧ s.vm.findClass C = some cellB.cls) (hZ : xz A0 sa s s.heap)
    (hK : va_K D vwCl (tyL CA) s) (hP : va_P D vwCl (wB ++ wx g0) H) (hD : va_D A0 (wB ++ wx g0)) (hS : va_S A0 s.heap H locs) (hA : ∀ q, A1 q → A0 q) (hin : ∀ q, A1 q → q < H.size → ∃ (k : Nat) (e : va_E), (wx g0)[k]? = some (q, e))
    (hn : As.length = n) (hsize : ls.size = nL) (hst : st0 = As.reverse ++ .ref b :: rest) (hW : (rest.map fun v => v.category).sum ≤ 8) (hdg : decode cc pc = .ok (.invokevirtual index, 3)) (hf : cells + mc ≤ R.cells ∧ slots + ms ≤ R.slots)
    (kx : ∀ (E : String) (ce : Cell) (q9 : Addr) (H1 : Heap) (locs1 : List Loc), te E → va_P D vwCl (wB ++ wx g0) H1 → va_D A0 (wB ++ wx g0) → va_S A0 s.heap H1 locs1 → H1[q9]? = some ce → ce.vm = .none → s.vm.findClass E = some ce.cls → vx_W p l e R s m args below meth c H1 locs1 (cells + mc) (slots + ms) Q (F0 m pc ls rest) q9)
    (kk : ∀ (u : σ) (H1 : Heap) (locs1 : List Loc), post u → va_P D vwCl (wB ++ wd u) H1 → va_D A0 (wB ++ wd u) → va_S A0 s.heap H1 locs1 → W p l e R s m args below meth c H1 locs1 (cells + mc) (slots + ms) Q (F0 m (pc + 3) ls rest)) :
    W p l e R s m args below meth c H locs cells slots Q (F0 m pc ls st0) := by
  refine vx_callv (vx_runV (As := As) (rest := rest) S hM (cwV n S.2.2.2.2 hw rfl hrc hrs hd hR) ⟨fun a U fr mk q => ⟨q.1, gpre_blind fr mk a q.2.1, xz_blind fr mk a q.2.2⟩, hrv, fun U hU hW9 => ⟨rfl, gpre_at (P_r hP) (K_L hK) (D_r hD) hU hW9, xz_at hZ hS hA hU hW9⟩⟩ rfl hn hsize hst (lv_room hW) hdg hf) hS (fun q _ h => hA q h) hA (fun q _ h => hA q h) (fun E ce q9 u t H1 locs1 ht hvm hu hbad hz1 hk1 hS1 hce hcv hcl => ?_) (fun u t H1 locs1 ht hvm hpo hB hz1 hk1 hS1 => ?_)
  · subst hu
    obtain ⟨hbad, hP1, hK1, hD1⟩ := hbad
    rw [ht] at hP1
    obtain ⟨hP2, hD2⟩ := nj2 hP hD hk1 hin hP1 hD1 hA
    exact kx E ce q9 H1 locs1 hbad hP2 hD2 hS1 hce hcv hcl
  · obtain ⟨hP1, hK1, hD1⟩ := hB
    rw [ht] at hP1
    obtain ⟨hP2, hD2⟩ := nj2 hP hD hk1 hin hP1 hD1 hA
    exact kk u H1 locs1 hpo hP2 hD2 hS1
end KL
/-- the castings of the three to themselves -/
theorem xc1 {args : Array Value} {s : State} (h : xw s) : (Cond.castable xE1 xE1).before args s = true := va_Nw.use (xw_on _ (by decide +kernel)) (h _ (by decide +kernel))
theorem xc2 {args : Array Value} {s : State} (h : xw s) : (Cond.castable xE2 xE2).before args s = true := va_Nw.use (xw_on _ (by decide +kernel)) (h _ (by decide +kernel))
theorem xc3 {args : Array Value} {s : State} (h : xw s) : (Cond.castable xE3 xE3).before args s = true := va_Nw.use (xw_on _ (by decide +kernel)) (h _ (by decide +kernel))
