/-! the law: its world, its calls -/
abbrev WD (CA : Nat → ClassId) (g : Nat → Nat → Int32) (h : Nat → Nat → Nat) (ad : Nat → Nat) (f : Nat → Int64) (mg : Nat → Nat → Int32) (am : Nat → Nat) (qo : Nat) : va_W := ([(qo, oc (CA 4) f)] ++ cw CA g h ad) ++ mw CA mg am
def LwS (D : va_G) (CA : Nat → ClassId) (qo xo mo sz : Nat) (H : Heap) : Prop := ∃ (g mg : Nat → Nat → Int32) (h : Nat → Nat → Nat) (jp pz ad am : Nat → Nat) (f : Nat → Int64), SR g mg h jp pz ∧ ad 0 = xo ∧ am 0 = mo ∧ va_P D vwCl (WD CA g h ad f mg am qo) H ∧ va_D (fun q => sz ≤ q) (WD CA g h ad f mg am qo)
theorem lA_in {CA : Nat → ClassId} {g : Nat → Nat → Int32} {h : Nat → Nat → Nat} {ad : Nat → Nat} {qo sz : Nat} {e : va_E} : ∀ q, lA h ad qo sz q → q < sz → ∃ (k : Nat) (e9 : va_E), ([(qo, e)] ++ cw CA g h ad)[k]? = some (q, e9) := by
  intro q hq hl
  rcases hq with rfl | hq
  · exact ⟨0, e, rfl⟩
  · obtain ⟨k, e9, h9⟩ := nA_in (c := cc CA g h ad) q hq hl
    exact ⟨k + 1, e9, h9⟩
theorem lA_A {CA : Nat → ClassId} {g mg : Nat → Nat → Int32} {h : Nat → Nat → Nat} {ad am : Nat → Nat} {f : Nat → Int64} {qo sz s0 : Nat} (hD : va_D (fun q => s0 ≤ q) (WD CA g h ad f mg am qo)) (hz : s0 ≤ sz) : ∀ q, lA h ad qo sz q → s0 ≤ q := by
  intro q hq
  rcases hq with rfl | ⟨i, hi, rfl⟩ | hq
  · exact hD.2 0 _ rfl
  · have h1 : ([(qo, oc (CA 4) f)] ++ cw CA g h ad)[i + 1]? = some (ad i, cc CA g h ad i) := nw_get hi
    exact (D_l hD).2 (i + 1) _ h1
  · exact Nat.le_trans hz hq
theorem mA_A {CA : Nat → ClassId} {g mg : Nat → Nat → Int32} {h : Nat → Nat → Nat} {ad am : Nat → Nat} {f : Nat → Int64} {qo sz s0 : Nat} (hD : va_D (fun q => s0 ≤ q) (WD CA g h ad f mg am qo)) (hz : s0 ≤ sz) : ∀ q, mA am sz q → s0 ≤ q := by
  intro q hq
  rcases hq with ⟨i, hi, rfl⟩ | hq
  · have h1 : (mw CA mg am)[i]? = some (am i, mc CA mg am i) := nw_get hi
    exact (D_r hD).2 i _ h1
  · exact Nat.le_trans hz hq
section KW
variable {p : Program} {l : Launch} {e : Env} {R : Room} {s : State} {m : MethodId} {args : Array Value} {below : List Frame} {meth : Method} {c : Code} {H : Heap} {locs : List Loc} {cells slots : Nat} {Q : State → Prop}
variable {cc : ByteArray} {nL : Nat} {own : String} {D : va_G} {CA : Nat → ClassId} {A0 A1 : Nat → Prop} {pc : Nat} {ls : Array Slot} {rest st0 : List Value}
variable {σ : Type} {wA wB : va_W} {wd : σ → va_W} {y : MethodName} {C : String} {index maxL mc ms n b : Nat} {bytes : ByteArray} {ret : Option FieldType} {hh : List (Nat × Nat × Nat × Nat)} {rc : Room} {As : List Value} {sa : Nat → Nat}
/-- a call of one of the law's own that catch -/
theorem kWr {post : Int32 → σ → Prop} (S : CallFix p m c cc nL s args TB own)
    (hM : Met l y (.codeWith y bytes maxL ret hh :: TB) rc (va_Pc As (fun U => gpre D (tyL CA) wA H.size U ∧ xz A1 sa U U.heap ∧ xn U)) (va_Qi post (fun u t => gpost D (tyL CA) (wd u) A1 t) A1) mc ms A1)
    (hw : GoodIn TB (va_wsS own index y (.codeWith y bytes maxL ret hh :: TB))) (hrc : rc.cells = mc) (hrs : rc.slots = ms) (hd : y.cls ≠ "java/lang/invoke/MethodHandle" ∧ y.cls ≠ "java/lang/invoke/VarHandle" ∧ (parseMethodDescriptor y.desc).map (fun d => d.parameters.length) = some n) (hR : rc.frames + 1 ≤ R.frames ∧ 8 + (maxL + 11) + rc.locals ≤ R.locals)
    (hZ : xz A0 sa s s.heap) (hN : xn s) (hK : va_K D vwCl (tyL CA) s) (hP : va_P D vwCl (wA ++ wB) H) (hD : va_D A0 (wA ++ wB)) (hS : va_S A0 s.heap H locs) (hA : ∀ q, A1 q → A0 q) (hin : ∀ q, A1 q → q < H.size → ∃ (k : Nat) (e : va_E), wA[k]? = some (q, e))
    (hn : As.length = n) (hsize : ls.size = nL) (hst : st0 = As.reverse ++ rest) (hW : (rest.map fun v => v.category).sum ≤ 8) (hdg : decode cc pc = .ok (.invokestatic index, 3)) (hf : cells + mc ≤ R.cells ∧ slots + ms ≤ R.slots)
    (kk : ∀ (r : Int32) (u : σ) (H1 : Heap) (locs1 : List Loc), post r u → va_P D vwCl (wd u ++ wB) H1 → va_D A0 (wd u ++ wB) → va_S A0 s.heap H1 locs1 → W p l e R s m args below meth c H1 locs1 (cells + mc) (slots + ms) Q (F0 m (pc + 3) ls (.int r :: rest))) :
    W p l e R s m args below meth c H locs cells slots Q (F0 m pc ls st0) := by
  refine va_calli (vx_runSW (As := As) (rest := rest) S hM (vx_cwSW n S.2.2.2.2 hw rfl hrc hrs hd hR) ⟨fun a U fr mk q => ⟨q.1, gpre_blind fr mk a q.2.1, xz_blind fr mk a q.2.2.1, xn_blind fr mk a q.2.2.2⟩, fun U hU hW9 => ⟨rfl, gpre_at (P_l hP) hK (D_l hD) hU hW9, xz_at hZ hS hA hU hW9, xn_at hN hW9⟩⟩ rfl hn hsize hst (lv_room hW) hdg hf) hS (fun q _ h => hA q h) hA (fun r u t H1 locs1 ht hvm hpo hB hz1 hk1 hS1 => ?_)
  obtain ⟨hP1, hK1, hD1⟩ := hB
  rw [ht] at hP1
  obtain ⟨hP2, hD2⟩ := nj hP hD hk1 hin hP1 hD1 hA
  exact kk r u H1 locs1 hpo hP2 hD2 hS1
/-- a call of the model that answers an int -/
theorem kRi {post : Int32 → σ → Prop} (S : CallFix p m c cc nL s args TB own)
    (hM : Met l y (.code y bytes maxL ret :: TB) rc (va_Pc (.ref b :: As) (gpre D (cty CA) wA H.size)) (va_Qi post (fun u t => gpost D (cty CA) (wd u) A1 t) A1) mc ms A1)
    (hw : GoodIn TB (wsV own index C y (.code y bytes maxL ret :: TB))) (hrc : rc.cells = mc) (hrs : rc.slots = ms) (hd : y.cls = C ∧ y.cls ≠ "java/lang/invoke/MethodHandle" ∧ y.cls ≠ "java/lang/invoke/VarHandle" ∧ (parseMethodDescriptor y.desc).map (fun d => d.parameters.length) = some n) (hR : rc.frames + 1 ≤ R.frames ∧ 8 + (maxL + 11) + rc.locals ≤ R.locals)
    (hrv : ∃ cellB : Cell, H[b]? = some cellB ∧ cellB.vm.isStatics = false ∧ s.vm.findClass C = some cellB.cls) (hK : va_K D vwCl (tyL CA) s) (hP : va_P D vwCl (wB ++ wA) H) (hD : va_D A0 (wB ++ wA)) (hS : va_S A0 s.heap H locs) (hA : ∀ q, A1 q → A0 q) (hin : ∀ q, A1 q → q < H.size → ∃ (k : Nat) (e : va_E), wA[k]? = some (q, e))
    (hn : As.length = n) (hsize : ls.size = nL) (hst : st0 = As.reverse ++ .ref b :: rest) (hW : (rest.map fun v => v.category).sum ≤ 8) (hdg : decode cc pc = .ok (.invokevirtual index, 3)) (hf : cells + mc ≤ R.cells ∧ slots + ms ≤ R.slots)
    (kk : ∀ (r : Int32) (u : σ) (H1 : Heap) (locs1 : List Loc), post r u → va_P D vwCl (wB ++ wd u) H1 → va_D A0 (wB ++ wd u) → va_S A0 s.heap H1 locs1 → W p l e R s m args below meth c H1 locs1 (cells + mc) (slots + ms) Q (F0 m (pc + 3) ls (.int r :: rest))) :
    W p l e R s m args below meth c H locs cells slots Q (F0 m pc ls st0) := by
  refine va_calli (va_runV (As := As) (rest := rest) S hM (cwV n S.2.2.2.2 hw rfl hrc hrs hd hR) ⟨fun a U fr mk q => ⟨q.1, gpre_blind fr mk a q.2⟩, hrv, fun U hU hW9 => ⟨rfl, gpre_at (P_r hP) (K_L hK) (D_r hD) hU hW9⟩⟩ rfl hn hsize hst (lv_room hW) hdg hf) hS (fun q _ h => hA q h) hA (fun r u t H1 locs1 ht hvm hpo hB hz1 hk1 hS1 => ?_)
  obtain ⟨hP1, hK1, hD1⟩ := hB
  rw [ht] at hP1
  obtain ⟨hP2, hD2⟩ := nj2 hP hD hk1 hin hP1 hD1 hA
  exact kk r u H1 locs1 hpo hP2 hD2 hS1
theorem kRv {post : σ → Prop} (S : CallFix p m c cc nL s args TB own)
    (hM : Met l y (.code y bytes maxL ret :: TB) rc (va_Pc (.ref b :: As) (gpre D (cty CA) wA H.size)) (va_Qv post (fun u t => gpost D (cty CA) (wd u) A1 t) A1) mc ms A1)
    (hw : GoodIn TB (wsV own index C y (.code y bytes maxL ret :: TB))) (hrc : rc.cells = mc) (hrs : rc.slots = ms) (hd : y.cls = C ∧ y.cls ≠ "java/lang/invoke/MethodHandle" ∧ y.cls ≠ "java/lang/invoke/VarHandle" ∧ (parseMethodDescriptor y.desc).map (fun d => d.parameters.length) = some n) (hR : rc.frames + 1 ≤ R.frames ∧ 8 + (maxL + 11) + rc.locals ≤ R.locals)
    (hrv : ∃ cellB : Cell, H[b]? = some cellB ∧ cellB.vm.isStatics = false ∧ s.vm.findClass C = some cellB.cls) (hK : va_K D vwCl (tyL CA) s) (hP : va_P D vwCl (wB ++ wA) H) (hD : va_D A0 (wB ++ wA)) (hS : va_S A0 s.heap H locs) (hA : ∀ q, A1 q → A0 q) (hin : ∀ q, A1 q → q < H.size → ∃ (k : Nat) (e : va_E), wA[k]? = some (q, e))
    (hn : As.length = n) (hsize : ls.size = nL) (hst : st0 = As.reverse ++ .ref b :: rest) (hW : (rest.map fun v => v.category).sum ≤ 8) (hdg : decode cc pc = .ok (.invokevirtual index, 3)) (hf : cells + mc ≤ R.cells ∧ slots + ms ≤ R.slots)
    (kk : ∀ (u : σ) (H1 : Heap) (locs1 : List Loc), post u → va_P D vwCl (wB ++ wd u) H1 → va_D A0 (wB ++ wd u) → va_S A0 s.heap H1 locs1 → W p l e R s m args below meth c H1 locs1 (cells + mc) (slots + ms) Q (F0 m (pc + 3) ls rest)) :
    W p l e R s m args below meth c H locs cells slots Q (F0 m pc ls st0) := by
  refine va_callv (va_runV (As := As) (rest := rest) S hM (cwV n S.2.2.2.2 hw rfl hrc hrs hd hR) ⟨fun a U fr mk q => ⟨q.1, gpre_blind fr mk a q.2⟩, hrv, fun U hU hW9 => ⟨rfl, gpre_at (P_r hP) (K_L hK) (D_r hD) hU hW9⟩⟩ rfl hn hsize hst (lv_room hW) hdg hf) hS (fun q _ h => hA q h) hA (fun u t H1 locs1 ht hvm hpo hB hz1 hk1 hS1 => ?_)
  obtain ⟨hP1, hK1, hD1⟩ := hB
  rw [ht] at hP1
  obtain ⟨hP2, hD2⟩ := nj2 hP hD hk1 hin hP1 hD1 hA
  exact kk u H1 locs1 hpo hP2 hD2 hS1
end KW
theorem lcmp0 (x : Int64) : lg_cmp x x = 0 := by simp [lg_cmp]
