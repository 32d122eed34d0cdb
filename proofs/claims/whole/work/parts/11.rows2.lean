/-! calls that may throw, in a numbered world -/
theorem ff0 {s t : State} (ht : t.heap = s.heap) : va_F (fun _ => False) s t := ⟨by rw [ht]; exact Nat.le_refl _, fun q _ _ => by rw [ht]⟩
section KX
variable {p : Program} {l : Launch} {e : Env} {R : Room} {s : State} {m : MethodId} {args : Array Value} {below : List Frame} {meth : Method} {c : Code} {H : Heap} {locs : List Loc} {cells slots : Nat} {Q : State → Prop}
variable {cc : ByteArray} {nL : Nat} {own : String} {D : va_G} {tys : List (ClassId × FieldType)} {A0 : Nat → Prop} {A1 : Nat → Nat → Prop} {pc : Nat} {ls : Array Slot} {rest st0 : List Value}
variable {σ : Type} {w0 : va_W} {wd : σ → va_W} {y : MethodName} {C : String} {index maxL mc ms n b : Nat} {bytes : ByteArray} {ret : Option FieldType} {rc : Room} {As : List Value} {sa : Nat → Nat}
theorem xout {te : String → Prop} {σ0 : σ} {E : String} {t : State} (hK : va_K D vwCl tys s) (hP : va_P D vwCl (wd σ0) H) (hD : va_D A0 (wd σ0)) (hS : va_S A0 s.heap H locs) (ha : s.vm.Alike t.vm) (h1 : H.size ≤ t.heap.size) (h2 : ∀ q : Nat, q < H.size → t.heap[q]? = H[q]?) (hte : te E) :
    vx_X (fun u : σ => u = σ0) (fun E u t => te E ∧ gpost D tys (wd u) A0 t) A0 E s t :=
  ⟨σ0, rfl, ⟨hte, hP.kept (fun k q hq => h2 q.1 (hP k q hq).lt), va_K.moved ha hK, hD⟩, Nat.le_trans hS.1 h1, fun q a b => (h2 q (Nat.lt_of_lt_of_le a hS.1)).trans (hS.2.1 q a b)⟩
theorem vx_callr {S SX : Type} {A1 : Nat → Prop} {H0 : Heap} {a : Array Value} {free : Addr → Prop} {post : S → Prop} {px : SX → Prop} {B : S → Nat → State → Prop} {BX : String → SX → State → Prop} {AX : Nat → Prop} (hr : vx_Run p l e R s m args below meth c H locs cells slots mc ms (F0 m pc ls st0) rest (va_Qr post B A1 a) (vx_X px BX AX) free) (hS : va_S A0 H0 H locs) (hA : ∀ q, q < H.size → A1 q → A0 q) (hf : ∀ q, free q → A0 q) (hAX : ∀ q, q < H.size → AX q → A0 q)
    (kx : ∀ (E : String) (ce : Cell) (q9 : Addr) (u : SX) (t : State) (H1 : Heap) (locs1 : List Loc), t.heap = H1 → s.vm.Alike t.vm → px u → BX E u t → H.size ≤ H1.size → (∀ q : Nat, q < H.size → ¬ AX q → H1[q]? = H[q]?) → va_S A0 H0 H1 locs1 → H1[q9]? = some ce → ce.vm = .none → s.vm.findClass E = some ce.cls → vx_W p l e R s m args below meth c H1 locs1 (cells + mc) (slots + ms) Q (F0 m pc ls rest) q9)
    (kk : ∀ (u : S) (ra : Nat) (t : State) (H1 : Heap) (locs1 : List Loc), t.heap = H1 → s.vm.Alike t.vm → post u → B u ra t → H.size ≤ H1.size → (∀ q : Nat, q < H.size → ¬ A1 q → H1[q]? = H[q]?) → va_S A0 H0 H1 locs1 → W p l e R s m args below meth c H1 locs1 (cells + mc) (slots + ms) Q (F0 m (pc + 3) ls (.ref ra :: rest))) : W p l e R s m args below meth c H locs cells slots Q (F0 m pc ls st0) := by
  intro T hT X
  rcases hr T hT X with ⟨v, st₀, t, T', L, h0, X', hL, e1, e2, ⟨⟨u, ra, hv, hp, hb⟩, hF⟩, st⟩ | ⟨q, st₀, t, T', L, E, ce, h0, X', hL, e1, e2, ⟨u, hp, hb, hF⟩, hce, hcv, hcl, st⟩
  · cases hv
    obtain ⟨k1, k2, k3⟩ := vx_keep h0 e1 hS hA hf hL hF
    obtain ⟨t2, a1, b1⟩ := kk u ra t T'.heap (locs ++ L) e1.symm (by rw [← e2]; exact X'.warmed.alike) hp hb k1 k2 k3 T' rfl X'
    exact ⟨t2, st t2 a1, b1⟩
  · obtain ⟨k1, k2, k3⟩ := vx_keep h0 e1 hS hAX hf hL hF
    obtain ⟨t2, a1, b1⟩ := kx E ce q u t T'.heap (locs ++ L) e1.symm (by rw [← e2]; exact X'.warmed.alike) hp hb k1 k2 k3 (by rw [e1]; exact hce) hcv hcl T' rfl X'
    exact ⟨t2, st.trans a1, b1⟩
/-- a virtual call that gives a reference or throws, the world the same, in a method without a table -/
theorem kVx {pa : Nat → Prop} {bad te : String → Prop} {Qc : Array Value → State → Outcome → State → Prop} {mc0 ms0 : Nat} {free : Addr → Prop} {σ0 : σ} (S : CallFix p m c cc nL s args TB own)
    (hM : vx_Met l y (.code y bytes maxL ret :: TB) rc (va_Pc (.ref b :: As) (fun U => gpre D tys (wd σ0) H.size U ∧ xz (A1 H.size) sa U U.heap)) (va_Qr (fun u : σ => u = σ0) (fun u a t => pa a ∧ gpost D tys (wd u) (A1 H.size) t) (A1 H.size)) (vx_X (fun u : σ => u = σ0) (fun E u t => bad E ∧ gpost D tys (wd u) (A1 H.size) t) (A1 H.size)) mc ms (A1 H.size))
    (hw : GoodIn TB (wsV own index C y (.code y bytes maxL ret :: TB))) (hrc : rc.cells = mc) (hrs : rc.slots = ms) (hd : y.cls = C ∧ y.cls ≠ "java/lang/invoke/MethodHandle" ∧ y.cls ≠ "java/lang/invoke/VarHandle" ∧ (parseMethodDescriptor y.desc).map (fun d => d.parameters.length) = some n) (hR : rc.frames + 1 ≤ R.frames ∧ 8 + (maxL + 11) + rc.locals ≤ R.locals)
    (hrv : ∃ cellB : Cell, H[b]? = some cellB ∧ cellB.vm.isStatics = false ∧ s.vm.findClass C = some cellB.cls) (hlocks : meth.locks = false) (hno : ∀ x ∈ c.exceptionTable.toList, False) (hZ : xz A0 sa s s.heap) (hfr : ∀ q, A0 q → free q)
    (hK : va_K D vwCl tys s) (hP : va_P D vwCl (wd σ0) H) (hD : va_D A0 (wd σ0)) (hS : va_S A0 s.heap H locs) (hAA : ∀ q, A1 s.heap.size q → A0 q) (hAm : ∀ q, A1 H.size q → A1 s.heap.size q) (hte : ∀ E, bad E → te E)
    (hn : As.length = n) (hsize : ls.size = nL) (hst : st0 = As.reverse ++ .ref b :: rest) (hW : (rest.map fun v => v.category).sum ≤ 8) (hdg : decode cc pc = .ok (.invokevirtual index, 3)) (hf : cells + mc ≤ R.cells ∧ slots + ms ≤ R.slots) (hmc : cells + mc ≤ mc0) (hms : slots + ms ≤ ms0)
    (kk : ∀ (a : Nat) (H1 : Heap) (locs1 : List Loc), pa a → H.size ≤ H1.size → va_P D vwCl (wd σ0) H1 → va_S A0 s.heap H1 locs1 → W p l e R s m args below meth c H1 locs1 (cells + mc) (slots + ms) (vx_MQ below Qc (vx_X (fun u : σ => u = σ0) (fun E u t => te E ∧ gpost D tys (wd u) A0 t) A0) args s mc0 ms0 free) (F0 m (pc + 3) ls (.ref a :: rest))) :
    W p l e R s m args below meth c H locs cells slots (vx_MQ below Qc (vx_X (fun u : σ => u = σ0) (fun E u t => te E ∧ gpost D tys (wd u) A0 t) A0) args s mc0 ms0 free) (F0 m pc ls st0) := by
  have hA : ∀ q, A1 H.size q → A0 q := fun q h => hAA q (hAm q h)
  refine vx_callr (vx_runV (As := As) (rest := rest) S hM (cwV n S.2.2.2.2 hw rfl hrc hrs hd hR) ⟨fun a U fr mk q => ⟨q.1, gpre_blind fr mk a q.2.1, xz_blind fr mk a q.2.2⟩, hrv, fun U hU hW9 => ⟨rfl, gpre_at hP hK hD hU hW9, xz_at hZ hS hA hU hW9⟩⟩ rfl hn hsize hst (lv_room hW) hdg hf) hS (fun q _ h => hA q h) hA (fun q _ h => hA q h) (fun E ce q9 u t H1 locs1 ht hvm hu hbad hz1 hk1 hS1 hce hcv hcl => ?_) (fun u a t H1 locs1 ht hvm hu hB hz1 hk1 hS1 => ?_)
  · subst hu
    obtain ⟨hbad, hP1, hK1, hD1⟩ := hbad
    rw [ht] at hP1
    refine vx_out (fun x hx => (hno x hx).elim) hlocks hce hcv hcl (fun t2 ht2 ha2 => ?_) (fun z hz => hfr _ (hS1.2.2 z hz)) hmc hms
    exact ⟨u, rfl, ⟨hte E hbad, gpost_at hP1 hK hD ht2 ha2⟩, hS1.F ht2⟩
  · subst hu
    obtain ⟨hpa, hP1, hK1, hD1⟩ := hB
    rw [ht] at hP1
    exact kk a H1 locs1 hpa hz1 hP1 hS1
end KX
