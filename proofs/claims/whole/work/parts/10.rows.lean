/-! rooms by levels; worlds at a call -/
def rm (d c s : Nat) : Room := { frames := 6 + d, cells := c, slots := s, locals := 90 + 30 * d }
def gpre (D : va_G) (tys : List (ClassId × FieldType)) (w : va_W) (sz : Nat) (U : State) : Prop := U.heap.size = sz ∧ va_P D vwCl w U.heap ∧ va_K D vwCl tys U ∧ va_D (fun _ => True) w
def gpost (D : va_G) (tys : List (ClassId × FieldType)) (w : va_W) (A : Nat → Prop) (t : State) : Prop := va_P D vwCl w t.heap ∧ va_K D vwCl tys t ∧ va_D A w
theorem gpre_blind {D : va_G} {tys : List (ClassId × FieldType)} {w : va_W} {sz : Nat} {U : State} (fr : JFrame) (mk : MethodId) (a : Array Value) (q : gpre D tys w sz U) : gpre D tys w sz (U.calling fr mk a) := by
  obtain ⟨q1, qP, qK, qD⟩ := q
  exact ⟨q1, qP, va_K.moved (u := U) (U := U.calling fr mk a) (Vm.Alike.refl U.vm) qK, qD⟩
theorem gpre_at {D : va_G} {tys : List (ClassId × FieldType)} {w : va_W} {s U : State} {H : Heap} {A : Nat → Prop} (hP : va_P D vwCl w H) (hK : va_K D vwCl tys s) (hD : va_D A w) (hU : U.heap = H) (hW : s.WarmedH U.vm) : gpre D tys w H.size U :=
  ⟨by rw [hU], by rw [hU]; exact hP, va_K.moved hW.alike hK, hD.weaken (fun _ _ _ _ => trivial)⟩
theorem gpost_at {D : va_G} {tys : List (ClassId × FieldType)} {w : va_W} {s t : State} {H : Heap} {A : Nat → Prop} (hP : va_P D vwCl w H) (hK : va_K D vwCl tys s) (hD : va_D A w) (ht : t.heap = H) (hW : s.vm.Alike t.vm) : gpost D tys w A t :=
  ⟨by rw [ht]; exact hP, va_K.moved hW hK, hD⟩
/-! what a throw asks beside the words: two statics of Throwable, words that no reader of steady words carries, the texts -/
def xwl : List Cond := [.castable "java/lang/IndexOutOfBoundsException" "java/lang/IndexOutOfBoundsException", .castable "java/lang/IllegalArgumentException" "java/lang/IllegalArgumentException", .castable "java/lang/IllegalStateException" "java/lang/IllegalStateException", .declares ⟨"java/lang/RuntimeException", "<init>", "()V"⟩, .declares ⟨"java/lang/RuntimeException", "<init>", "(Ljava/lang/String;)V"⟩, .declares ⟨"java/lang/Exception", "<init>", "()V"⟩, .declares ⟨"java/lang/Exception", "<init>", "(Ljava/lang/String;)V"⟩, .declares ⟨"java/lang/Throwable", "<init>", "()V"⟩, .declares ⟨"java/lang/Throwable", "<init>", "(Ljava/lang/String;)V"⟩]
def xw (U : State) : Prop := ∀ w ∈ xwl, va_Nw w U
theorem xw_warm {s U : State} (hW : s.WarmedH U.vm) (h : xw s) : xw U := by
  intro w hw
  have h1 := h w hw
  simp only [xwl, List.mem_cons, List.not_mem_nil, or_false] at hw
  rcases hw with rfl | rfl | rfl | rfl | rfl | rfl | rfl | rfl | rfl
  · exact va_Nw.warmC hW h1
  · exact va_Nw.warmC hW h1
  · exact va_Nw.warmC hW h1
  · exact va_Nw.warmD hW h1
  · exact va_Nw.warmD hW h1
  · exact va_Nw.warmD hW h1
  · exact va_Nw.warmD hW h1
  · exact va_Nw.warmD hW h1
  · exact va_Nw.warmD hW h1
theorem xw_on : ∀ w ∈ xwl, w.onTables = true := by decide +kernel
theorem xw_same {U V : State} (h : U.vm = V.vm) (hx : xw U) : xw V := fun w hw => va_Nw.same (xw_on w hw) h (hx w hw)
def xs (sa : Nat → Nat) (U : State) : Prop := vk_R "CountLeast" 154 "no such kind" (sa 0) U ∧ vk_R "CountLeast" 158 "no such part, wear or place" (sa 1) U ∧ vk_R "CountLeast" 160 "out of its range" (sa 2) U ∧ vk_R "CountLeast" 43 "the kind has twelve pieces" (sa 3) U ∧ vk_R "CountLeast" 156 "no such piece" (sa 4) U ∧ vk_R "CountLeast" 95 "not two pieces of one kind" (sa 5) U ∧ vk_R "CountLeast" 120 "no such place" (sa 6) U
theorem xs_warm {sa : Nat → Nat} {s U : State} (hW : s.WarmedH U.vm) (h : xs sa s) : xs sa U := by
  obtain ⟨a, b, c, d, e, f, i⟩ := h
  exact ⟨vk_R.warm hW a, vk_R.warm hW b, vk_R.warm hW c, vk_R.warm hW d, vk_R.warm hW e, vk_R.warm hW f, vk_R.warm hW i⟩
theorem xs_same {sa : Nat → Nat} {U V : State} (hv : V.vm = U.vm) (h : xs sa U) : xs sa V := by
  obtain ⟨a, b, c, d, e, f, i⟩ := h
  exact ⟨vk_R.same hv a, vk_R.same hv b, vk_R.same hv c, vk_R.same hv d, vk_R.same hv e, vk_R.same hv f, vk_R.same hv i⟩
def xz (A : Nat → Prop) (sa : Nat → Nat) (U : State) (H : Heap) : Prop := vx_Zq Bundle.tN "UNASSIGNED_STACK" Bundle.steD A U H ∧ vx_Zq Bundle.tN "SUPPRESSED_SENTINEL" Bundle.listD A U H ∧ xw U ∧ xs sa U
theorem xz_at {A B : Nat → Prop} {sa : Nat → Nat} {s U : State} {H : Heap} {locs : List Loc} (h : xz A sa s s.heap) (hS : va_S A s.heap H locs) (hAB : ∀ q, B q → A q) (hU : U.heap = H) (hW : s.WarmedH U.vm) : xz B sa U U.heap := by
  obtain ⟨h1, h2, h3, h4⟩ := h
  subst hU
  exact ⟨vx_Zq.narrow (vx_Zq.moved hW.alike (h1.kept hS.2.1)) hAB, vx_Zq.narrow (vx_Zq.moved hW.alike (h2.kept hS.2.1)) hAB, xw_warm hW h3, xs_warm hW h4⟩
theorem xz_blind {A : Nat → Prop} {sa : Nat → Nat} {U : State} (fr : JFrame) (mk : MethodId) (a : Array Value) (h : xz A sa U U.heap) : xz A sa (U.calling fr mk a) (U.calling fr mk a).heap := by
  obtain ⟨h1, h2, h3, h4⟩ := h
  exact ⟨vx_Zq.moved (u := U) (U := U.calling fr mk a) (Vm.Alike.refl U.vm) h1, vx_Zq.moved (u := U) (U := U.calling fr mk a) (Vm.Alike.refl U.vm) h2, xw_same (U := U) (V := U.calling fr mk a) rfl h3, xs_same (U := U) (V := U.calling fr mk a) rfl h4⟩
/-- the throws' words -/
theorem xat_in {L : List Cond} (h1 : ∀ w ∈ L.filter goodWord, w ∈ lw_tbl) (h2 : ∀ w ∈ L.filter (fun w => !goodWord w), w ∈ xwl) {args : Array Value} {s : State} (hT : ∀ w ∈ TB, w.before args s = true) (hx : xw s) : ∀ w ∈ L, w.before args s = true :=
  vx_hat (fun w hw => hT w (List.mem_filter.mpr ⟨h1 w hw, (List.mem_filter.mp hw).2⟩)) h2 (fun w hw => va_Nw.use (xw_on w hw) (hx w hw))
abbrev xE1 : String := "java/lang/IndexOutOfBoundsException"
abbrev xE2 : String := "java/lang/IllegalArgumentException"
abbrev xE3 : String := "java/lang/IllegalStateException"
abbrev xnm : List String := ["java/lang/RuntimeException", "java/lang/Exception"]
theorem xa1 : ∀ w ∈ (vx_atS "CountLeast" 122 xE1 xnm).filter goodWord, w ∈ lw_tbl := by decide +kernel
theorem xa2 : ∀ w ∈ (vx_atS "CountLeast" 97 xE2 xnm).filter goodWord, w ∈ lw_tbl := by decide +kernel
theorem xa3 : ∀ w ∈ (vx_atS "CountLeast" 45 xE3 xnm).filter goodWord, w ∈ lw_tbl := by decide +kernel
theorem xb1 : ∀ w ∈ (vx_atS "CountLeast" 122 xE1 xnm).filter (fun w => !goodWord w), w ∈ xwl := by decide +kernel
theorem xb2 : ∀ w ∈ (vx_atS "CountLeast" 97 xE2 xnm).filter (fun w => !goodWord w), w ∈ xwl := by decide +kernel
theorem xb3 : ∀ w ∈ (vx_atS "CountLeast" 45 xE3 xnm).filter (fun w => !goodWord w), w ∈ xwl := by decide +kernel
theorem xg1 : ∀ w ∈ Cond.classLink "CountLeast" 118 xE1 :: Cond.initialized xE1 :: vx_atS "CountLeast" 122 xE1 xnm, vx_ot w = true := by decide +kernel
theorem xg2 : ∀ w ∈ Cond.classLink "CountLeast" 93 xE2 :: Cond.initialized xE2 :: vx_atS "CountLeast" 97 xE2 xnm, vx_ot w = true := by decide +kernel
theorem xg3 : ∀ w ∈ Cond.classLink "CountLeast" 41 xE3 :: Cond.initialized xE3 :: vx_atS "CountLeast" 45 xE3 xnm, vx_ot w = true := by decide +kernel
section XT
variable {p : Program} {l : Launch} {e : Env} {R : Room} {s : State} {m : MethodId} {args : Array Value} {below : List Frame} {meth : Method} {c : Code} {H : Heap} {locs : List Loc} {cells slots : Nat}
variable {cc : ByteArray} {pc : Nat} {ls : Array Slot} {rest : List Value} {A : Nat → Prop} {sa : Nat → Nat} {free : Addr → Prop} {Qc : Array Value → State → Outcome → State → Prop} {XC : String → State → State → Prop}
theorem xt1 {is q mc ms nL : Nat} {text : String} (hx : p.tables.exec = Jvm.exec) (hb : c.code = cc) (hl : l.stackTraces = false) (hown : s.vm.findClass RC = some m.cls) (hT : ∀ w ∈ TB, w.before args s = true) (hZ : xz A sa s s.heap) (hstr : vk_R "CountLeast" is text q s) (hS : va_S A s.heap H locs) (hml : c.maxLocals = nL) (hsz : ls.size = nL)
    (d0 : decode cc pc = .ok (.new 118, 3)) (d3 : decode cc (pc + 3) = .ok (.dup, 1)) (d4 : decode cc (pc + 4) = .ok (.ldc is, 2)) (d6 : decode cc (pc + 6) = .ok (.invokespecial 122, 3)) (d9 : decode cc (pc + 9) = .ok (.athrow, 1)) (hno : ∀ x ∈ c.exceptionTable.toList, False)
    (hR1 : 5 < R.frames) (hR2 : (rest.map fun v => v.category).sum + 82 ≤ R.locals) (hR3 : cells + 1 ≤ R.cells) (hR4 : slots + 6 ≤ R.slots) (hlocks : meth.locks = false) (hX : ∀ t : State, s.vm.Alike t.vm → H.size ≤ t.heap.size → (∀ q : Nat, q < H.size → t.heap[q]? = H[q]?) → XC xE1 s t) (hf : ∀ z ∈ locs, free z.base) (hc : cells + 1 ≤ mc) (hs : slots + 6 ≤ ms) :
    W p l e R s m args below meth c H locs cells slots (vx_MQ below Qc XC args s mc ms free) (F0 m pc ls rest) :=
  vx_throwS hx hb hl (own := "CountLeast") (cls := xE1) (names := xnm) (ik := 118) (ic := 122) (is := is) (text := text) (sa := q) (A := A) hown (by decide +kernel) (by decide +kernel) (hT _ wm_124) (hT _ wm_8) hstr (xat_in xa1 xb1 hT hZ.2.2.1) xg1 hZ.1 hZ.2.1 hS (hsz.trans hml.symm) d0 d3 d4 d6 d9 (fun x hx => (hno x hx).elim) hR1 hR2 hR3 hR4 hlocks hX hf hc hs
theorem xt2 {is q mc ms nL : Nat} {text : String} (hx : p.tables.exec = Jvm.exec) (hb : c.code = cc) (hl : l.stackTraces = false) (hown : s.vm.findClass RC = some m.cls) (hT : ∀ w ∈ TB, w.before args s = true) (hZ : xz A sa s s.heap) (hstr : vk_R "CountLeast" is text q s) (hS : va_S A s.heap H locs) (hml : c.maxLocals = nL) (hsz : ls.size = nL)
    (d0 : decode cc pc = .ok (.new 93, 3)) (d3 : decode cc (pc + 3) = .ok (.dup, 1)) (d4 : decode cc (pc + 4) = .ok (.ldc is, 2)) (d6 : decode cc (pc + 6) = .ok (.invokespecial 97, 3)) (d9 : decode cc (pc + 9) = .ok (.athrow, 1)) (hno : ∀ x ∈ c.exceptionTable.toList, False)
    (hR1 : 5 < R.frames) (hR2 : (rest.map fun v => v.category).sum + 82 ≤ R.locals) (hR3 : cells + 1 ≤ R.cells) (hR4 : slots + 6 ≤ R.slots) (hlocks : meth.locks = false) (hX : ∀ t : State, s.vm.Alike t.vm → H.size ≤ t.heap.size → (∀ q : Nat, q < H.size → t.heap[q]? = H[q]?) → XC xE2 s t) (hf : ∀ z ∈ locs, free z.base) (hc : cells + 1 ≤ mc) (hs : slots + 6 ≤ ms) :
    W p l e R s m args below meth c H locs cells slots (vx_MQ below Qc XC args s mc ms free) (F0 m pc ls rest) :=
  vx_throwS hx hb hl (own := "CountLeast") (cls := xE2) (names := xnm) (ik := 93) (ic := 97) (is := is) (text := text) (sa := q) (A := A) hown (by decide +kernel) (by decide +kernel) (hT _ wm_199) (hT _ wm_9) hstr (xat_in xa2 xb2 hT hZ.2.2.1) xg2 hZ.1 hZ.2.1 hS (hsz.trans hml.symm) d0 d3 d4 d6 d9 (fun x hx => (hno x hx).elim) hR1 hR2 hR3 hR4 hlocks hX hf hc hs
theorem xt3 {is q mc ms nL : Nat} {text : String} (hx : p.tables.exec = Jvm.exec) (hb : c.code = cc) (hl : l.stackTraces = false) (hown : s.vm.findClass RC = some m.cls) (hT : ∀ w ∈ TB, w.before args s = true) (hZ : xz A sa s s.heap) (hstr : vk_R "CountLeast" is text q s) (hS : va_S A s.heap H locs) (hml : c.maxLocals = nL) (hsz : ls.size = nL)
    (d0 : decode cc pc = .ok (.new 41, 3)) (d3 : decode cc (pc + 3) = .ok (.dup, 1)) (d4 : decode cc (pc + 4) = .ok (.ldc is, 2)) (d6 : decode cc (pc + 6) = .ok (.invokespecial 45, 3)) (d9 : decode cc (pc + 9) = .ok (.athrow, 1)) (hno : ∀ x ∈ c.exceptionTable.toList, False)
    (hR1 : 5 < R.frames) (hR2 : (rest.map fun v => v.category).sum + 82 ≤ R.locals) (hR3 : cells + 1 ≤ R.cells) (hR4 : slots + 6 ≤ R.slots) (hlocks : meth.locks = false) (hX : ∀ t : State, s.vm.Alike t.vm → H.size ≤ t.heap.size → (∀ q : Nat, q < H.size → t.heap[q]? = H[q]?) → XC xE3 s t) (hf : ∀ z ∈ locs, free z.base) (hc : cells + 1 ≤ mc) (hs : slots + 6 ≤ ms) :
    W p l e R s m args below meth c H locs cells slots (vx_MQ below Qc XC args s mc ms free) (F0 m pc ls rest) :=
  vx_throwS hx hb hl (own := "CountLeast") (cls := xE3) (names := xnm) (ik := 41) (ic := 45) (is := is) (text := text) (sa := q) (A := A) hown (by decide +kernel) (by decide +kernel) (hT _ wm_215) (hT _ wm_10) hstr (xat_in xa3 xb3 hT hZ.2.2.1) xg3 hZ.1 hZ.2.1 hS (hsz.trans hml.symm) d0 d3 d4 d6 d9 (fun x hx => (hno x hx).elim) hR1 hR2 hR3 hR4 hlocks hX hf hc hs
end XT
/-! calls -/
theorem gi_cons {a : Cond} {ws : List Cond} (h1 : a ∈ TB) (h2 : GoodIn TB ws) : GoodIn TB (a :: ws) := fun w hw => (List.mem_cons.mp hw).elim (fun e => by rw [e]; exact ⟨h1, good_of_word (List.mem_filter.mp h1).2⟩) (h2 w)
theorem gi_TB : GoodIn TB TB := fun w hw => ⟨hw, good_of_word (List.mem_filter.mp hw).2⟩
theorem gi_V {own C : String} {idx : Nat} {y : MethodName} {a : Cond} (h1 : Cond.methodLink own idx y ∈ TB) (h2 : Cond.instanceMethod y ∈ TB) (h3 : Cond.selects C y y ∈ TB) (h4 : Cond.initialized C ∈ TB) (h5 : a ∈ TB) : GoodIn TB (wsV own idx C y (a :: TB)) := gi_cons h1 (gi_cons h2 (gi_cons h3 (gi_cons h4 (gi_cons h5 gi_TB))))
theorem gi_S {own : String} {idx : Nat} {y : MethodName} {a : Cond} (h1 : Cond.methodLink own idx y ∈ TB) (h2 : Cond.static y ∈ TB) (h3 : Cond.initialized y.cls ∈ TB) (h5 : a ∈ TB) : GoodIn TB (va_wsS own idx y (a :: TB)) := gi_cons h1 (gi_cons h2 (gi_cons h3 (gi_cons h5 gi_TB)))
section KC
variable {p : Program} {l : Launch} {e : Env} {R : Room} {s : State} {m : MethodId} {args : Array Value} {below : List Frame} {meth : Method} {c : Code} {H : Heap} {locs : List Loc} {cells slots : Nat} {Q : State → Prop}
variable {cc : ByteArray} {nL : Nat} {own : String} {D : va_G} {tys : List (ClassId × FieldType)} {A0 : Nat → Prop} {A1 : Nat → Nat → Prop} {pc : Nat} {ls : Array Slot} {rest st0 : List Value}
variable {σ : Type} {w0 : va_W} {wd : σ → va_W} {y : MethodName} {C : String} {index maxL mc ms n b : Nat} {bytes : ByteArray} {ret : Option FieldType} {rc : Room} {As : List Value}
/-- a virtual call in a numbered world, an int comes back -/
theorem kVi {post : Int32 → σ → Prop} (S : CallFix p m c cc nL s args TB own) (hM : Met l y (.code y bytes maxL ret :: TB) rc (va_Pc (.ref b :: As) (gpre D tys w0 H.size)) (va_Qi post (fun u t => gpost D tys (wd u) (A1 H.size) t) (A1 H.size)) mc ms (A1 H.size))
    (hw : GoodIn TB (wsV own index C y (.code y bytes maxL ret :: TB))) (hrc : rc.cells = mc) (hrs : rc.slots = ms) (hd : y.cls = C ∧ y.cls ≠ "java/lang/invoke/MethodHandle" ∧ y.cls ≠ "java/lang/invoke/VarHandle" ∧ (parseMethodDescriptor y.desc).map (fun d => d.parameters.length) = some n) (hR : rc.frames + 1 ≤ R.frames ∧ 8 + (maxL + 11) + rc.locals ≤ R.locals)
    (hrv : ∃ cellB : Cell, H[b]? = some cellB ∧ cellB.vm.isStatics = false ∧ s.vm.findClass C = some cellB.cls) (hK : va_K D vwCl tys s) (hP : va_P D vwCl w0 H) (hD : va_D A0 w0) (hS : va_S A0 s.heap H locs) (hAA : ∀ q, A1 s.heap.size q → A0 q) (hAm : ∀ q, A1 H.size q → A1 s.heap.size q)
    (hn : As.length = n) (hsize : ls.size = nL) (hst : st0 = As.reverse ++ .ref b :: rest) (hW : (rest.map fun v => v.category).sum ≤ 8) (hdg : decode cc pc = .ok (.invokevirtual index, 3)) (hf : cells + mc ≤ R.cells ∧ slots + ms ≤ R.slots)
    (kk : ∀ (r : Int32) (u : σ) (H1 : Heap) (locs1 : List Loc), post r u → H.size ≤ H1.size → va_P D vwCl (wd u) H1 → va_D A0 (wd u) → va_S A0 s.heap H1 locs1 → W p l e R s m args below meth c H1 locs1 (cells + mc) (slots + ms) Q (F0 m (pc + 3) ls (.int r :: rest))) : W p l e R s m args below meth c H locs cells slots Q (F0 m pc ls st0) := by
  have hA : ∀ q, A1 H.size q → A0 q := fun q h => hAA q (hAm q h)
  refine va_calli (va_runV (As := As) (rest := rest) S hM (cwV n S.2.2.2.2 hw rfl hrc hrs hd hR) ⟨fun a U fr mk q => ⟨q.1, gpre_blind fr mk a q.2⟩, hrv, fun U hU hW9 => ⟨rfl, gpre_at hP hK hD hU hW9⟩⟩ rfl hn hsize hst (lv_room hW) hdg hf) hS (fun q _ h => hA q h) hA (fun r u t H1 locs1 ht hvm hpo hB hz1 hk1 hS1 => ?_)
  obtain ⟨hP1, hK1, hD1⟩ := hB
  rw [ht] at hP1
  exact kk r u H1 locs1 hpo hz1 hP1 (hD1.weaken (fun _ q _ h => hA q.1 h)) hS1
/-- nothing comes back -/
theorem kVv {post : σ → Prop} (S : CallFix p m c cc nL s args TB own) (hM : Met l y (.code y bytes maxL ret :: TB) rc (va_Pc (.ref b :: As) (gpre D tys w0 H.size)) (va_Qv post (fun u t => gpost D tys (wd u) (A1 H.size) t) (A1 H.size)) mc ms (A1 H.size))
    (hw : GoodIn TB (wsV own index C y (.code y bytes maxL ret :: TB))) (hrc : rc.cells = mc) (hrs : rc.slots = ms) (hd : y.cls = C ∧ y.cls ≠ "java/lang/invoke/MethodHandle" ∧ y.cls ≠ "java/lang/invoke/VarHandle" ∧ (parseMethodDescriptor y.desc).map (fun d => d.parameters.length) = some n) (hR : rc.frames + 1 ≤ R.frames ∧ 8 + (maxL + 11) + rc.locals ≤ R.locals)
    (hrv : ∃ cellB : Cell, H[b]? = some cellB ∧ cellB.vm.isStatics = false ∧ s.vm.findClass C = some cellB.cls) (hK : va_K D vwCl tys s) (hP : va_P D vwCl w0 H) (hD : va_D A0 w0) (hS : va_S A0 s.heap H locs) (hAA : ∀ q, A1 s.heap.size q → A0 q) (hAm : ∀ q, A1 H.size q → A1 s.heap.size q)
    (hn : As.length = n) (hsize : ls.size = nL) (hst : st0 = As.reverse ++ .ref b :: rest) (hW : (rest.map fun v => v.category).sum ≤ 8) (hdg : decode cc pc = .ok (.invokevirtual index, 3)) (hf : cells + mc ≤ R.cells ∧ slots + ms ≤ R.slots)
    (kk : ∀ (u : σ) (H1 : Heap) (locs1 : List Loc), post u → H.size ≤ H1.size → va_P D vwCl (wd u) H1 → va_D A0 (wd u) → va_S A0 s.heap H1 locs1 → W p l e R s m args below meth c H1 locs1 (cells + mc) (slots + ms) Q (F0 m (pc + 3) ls rest)) : W p l e R s m args below meth c H locs cells slots Q (F0 m pc ls st0) := by
  have hA : ∀ q, A1 H.size q → A0 q := fun q h => hAA q (hAm q h)
  refine va_callv (va_runV (As := As) (rest := rest) S hM (cwV n S.2.2.2.2 hw rfl hrc hrs hd hR) ⟨fun a U fr mk q => ⟨q.1, gpre_blind fr mk a q.2⟩, hrv, fun U hU hW9 => ⟨rfl, gpre_at hP hK hD hU hW9⟩⟩ rfl hn hsize hst (lv_room hW) hdg hf) hS (fun q _ h => hA q h) hA (fun u t H1 locs1 ht hvm hpo hB hz1 hk1 hS1 => ?_)
  obtain ⟨hP1, hK1, hD1⟩ := hB
  rw [ht] at hP1
  exact kk u H1 locs1 hpo hz1 hP1 (hD1.weaken (fun _ q _ h => hA q.1 h)) hS1
/-- a reference comes back -/
theorem kVr {post : σ → Prop} {pa : σ → Nat → Prop} (S : CallFix p m c cc nL s args TB own) (hM : Met l y (.code y bytes maxL ret :: TB) rc (va_Pc (.ref b :: As) (gpre D tys w0 H.size)) (va_Qr post (fun u a t => pa u a ∧ gpost D tys (wd u) (A1 H.size) t) (A1 H.size)) mc ms (A1 H.size))
    (hw : GoodIn TB (wsV own index C y (.code y bytes maxL ret :: TB))) (hrc : rc.cells = mc) (hrs : rc.slots = ms) (hd : y.cls = C ∧ y.cls ≠ "java/lang/invoke/MethodHandle" ∧ y.cls ≠ "java/lang/invoke/VarHandle" ∧ (parseMethodDescriptor y.desc).map (fun d => d.parameters.length) = some n) (hR : rc.frames + 1 ≤ R.frames ∧ 8 + (maxL + 11) + rc.locals ≤ R.locals)
    (hrv : ∃ cellB : Cell, H[b]? = some cellB ∧ cellB.vm.isStatics = false ∧ s.vm.findClass C = some cellB.cls) (hK : va_K D vwCl tys s) (hP : va_P D vwCl w0 H) (hD : va_D A0 w0) (hS : va_S A0 s.heap H locs) (hAA : ∀ q, A1 s.heap.size q → A0 q) (hAm : ∀ q, A1 H.size q → A1 s.heap.size q)
    (hn : As.length = n) (hsize : ls.size = nL) (hst : st0 = As.reverse ++ .ref b :: rest) (hW : (rest.map fun v => v.category).sum ≤ 8) (hdg : decode cc pc = .ok (.invokevirtual index, 3)) (hf : cells + mc ≤ R.cells ∧ slots + ms ≤ R.slots)
    (kk : ∀ (u : σ) (a : Nat) (H1 : Heap) (locs1 : List Loc), post u → pa u a → H.size ≤ H1.size → va_P D vwCl (wd u) H1 → va_D A0 (wd u) → va_S A0 s.heap H1 locs1 → W p l e R s m args below meth c H1 locs1 (cells + mc) (slots + ms) Q (F0 m (pc + 3) ls (.ref a :: rest))) : W p l e R s m args below meth c H locs cells slots Q (F0 m pc ls st0) := by
  have hA : ∀ q, A1 H.size q → A0 q := fun q h => hAA q (hAm q h)
  refine va_callr (va_runV (As := As) (rest := rest) S hM (cwV n S.2.2.2.2 hw rfl hrc hrs hd hR) ⟨fun a U fr mk q => ⟨q.1, gpre_blind fr mk a q.2⟩, hrv, fun U hU hW9 => ⟨rfl, gpre_at hP hK hD hU hW9⟩⟩ rfl hn hsize hst (lv_room hW) hdg hf) hS (fun q _ h => hA q h) hA (fun u a t H1 locs1 ht hvm hpo hB hz1 hk1 hS1 => ?_)
  obtain ⟨hpa, hP1, hK1, hD1⟩ := hB
  rw [ht] at hP1
  exact kk u a H1 locs1 hpo hpa hz1 hP1 (hD1.weaken (fun _ q _ h => hA q.1 h)) hS1
/-- a static function of numbers: the heap stays -/
theorem kSi {f : Int32 → Prop} (S : CallFix p m c cc nL s args TB own) (hM : Met l y (.code y bytes maxL ret :: TB) rc (va_Pc As (fun _ => True)) (va_Qi (fun r (_ : Unit) => f r) (fun _ _ => True) (fun _ => False)) 0 0 (fun _ => False))
    (hw : GoodIn TB (va_wsS own index y (.code y bytes maxL ret :: TB))) (hrc : rc.cells = 0) (hrs : rc.slots = 0) (hd : y.cls ≠ "java/lang/invoke/MethodHandle" ∧ y.cls ≠ "java/lang/invoke/VarHandle" ∧ (parseMethodDescriptor y.desc).map (fun d => d.parameters.length) = some n) (hR : rc.frames + 1 ≤ R.frames ∧ 8 + (maxL + 11) + rc.locals ≤ R.locals)
    (hP : va_P D vwCl w0 H) (hS : va_S A0 s.heap H locs) (hn : As.length = n) (hsize : ls.size = nL) (hst : st0 = As.reverse ++ rest) (hW : (rest.map fun v => v.category).sum ≤ 8) (hdg : decode cc pc = .ok (.invokestatic index, 3)) (hf : cells + 0 ≤ R.cells ∧ slots + 0 ≤ R.slots)
    (kk : ∀ (r : Int32) (H1 : Heap) (locs1 : List Loc), f r → H.size ≤ H1.size → va_P D vwCl w0 H1 → va_S A0 s.heap H1 locs1 → W p l e R s m args below meth c H1 locs1 cells slots Q (F0 m (pc + 3) ls (.int r :: rest))) : W p l e R s m args below meth c H locs cells slots Q (F0 m pc ls st0) := by
  refine va_calli (va_runS (As := As) (rest := rest) S hM (va_cwS n S.2.2.2.2 hw rfl hrc hrs hd hR) ⟨fun a U fr mk q => ⟨q.1, trivial⟩, fun U hU hW9 => ⟨rfl, trivial⟩⟩ rfl hn hsize hst (lv_room hW) hdg hf) hS (fun q _ h => h.elim) (fun q h => h.elim) (fun r u t H1 locs1 ht hvm hpo hB hz1 hk1 hS1 => ?_)
  exact kk r H1 locs1 hpo hz1 (hP.kept (fun k q hq => hk1 q.1 (hP k q hq).lt (fun h => h))) hS1
/-- a static check that may throw, in a method without a table: the heap's old cells stay -/
theorem kSx {ok : Prop} {bad te : String → Prop} {sa : Nat → Nat} {Qc : Array Value → State → Outcome → State → Prop} {mc0 ms0 : Nat} {free : Addr → Prop} {σ0 : σ} (hl : c.maxLocals = nL) (S : CallFix p m c cc nL s args TB own)
    (hM : vx_Met l y (.code y bytes maxL ret :: TB) rc (va_Pc As (fun U => xz (fun q => H.size ≤ q) sa U U.heap)) (va_Qv (fun (_ : Unit) => ok) (fun _ _ => True) (fun _ => False)) (vx_X (fun (_ : Unit) => True) (fun E _ _ => bad E) (fun _ => False)) 1 6 (fun q => H.size ≤ q))
    (hw : GoodIn TB (va_wsS own index y (.code y bytes maxL ret :: TB))) (hrc : rc.cells = 1) (hrs : rc.slots = 6) (hd : y.cls ≠ "java/lang/invoke/MethodHandle" ∧ y.cls ≠ "java/lang/invoke/VarHandle" ∧ (parseMethodDescriptor y.desc).map (fun d => d.parameters.length) = some n) (hR : rc.frames + 1 ≤ R.frames ∧ 8 + (maxL + 11) + rc.locals ≤ R.locals)
    (hlocks : meth.locks = false) (hno : ∀ x ∈ c.exceptionTable.toList, False) (hZ : xz A0 sa s s.heap) (hA0 : ∀ q, s.heap.size ≤ q → A0 q) (hfr : ∀ q, A0 q → free q)
    (hK : va_K D vwCl tys s) (hP : va_P D vwCl (wd σ0) H) (hD : va_D A0 (wd σ0)) (hS : va_S A0 s.heap H locs) (hte : ∀ E, bad E → te E)
    (hn : As.length = n) (hsize : ls.size = nL) (hst : st0 = As.reverse ++ rest) (hW : (rest.map fun v => v.category).sum ≤ 8) (hdg : decode cc pc = .ok (.invokestatic index, 3)) (hf : cells + 1 ≤ R.cells ∧ slots + 6 ≤ R.slots) (hmc : cells + 1 ≤ mc0) (hms : slots + 6 ≤ ms0)
    (kk : ∀ (H1 : Heap) (locs1 : List Loc), ok → H.size ≤ H1.size → va_P D vwCl (wd σ0) H1 → va_S A0 s.heap H1 locs1 → W p l e R s m args below meth c H1 locs1 (cells + 1) (slots + 6) (vx_MQ below Qc (vx_X (fun u : σ => u = σ0) (fun E u t => te E ∧ gpost D tys (wd u) A0 t) A0) args s mc0 ms0 free) (F0 m (pc + 3) ls rest)) :
    W p l e R s m args below meth c H locs cells slots (vx_MQ below Qc (vx_X (fun u : σ => u = σ0) (fun E u t => te E ∧ gpost D tys (wd u) A0 t) A0) args s mc0 ms0 free) (F0 m pc ls st0) := by
  refine vx_callv (vx_runS (As := As) (rest := rest) S hM (va_cwS n S.2.2.2.2 hw rfl hrc hrs hd hR) ⟨fun a U fr mk q => ⟨q.1, xz_blind fr mk a q.2⟩, fun U hU hW9 => ⟨rfl, xz_at hZ hS (fun q h => hA0 q (Nat.le_trans hS.1 h)) hU hW9⟩⟩ rfl hn hsize hst (lv_room hW) hdg hf) hS (fun q _ h => h.elim) (fun q h => hA0 q (Nat.le_trans hS.1 h)) (fun q _ h => h.elim) (fun E ce q9 u t H1 locs1 ht hvm _ hbad hz1 hk1 hS1 hce hcv hcl => ?_) (fun u t H1 locs1 ht hvm hpo _ hz1 hk1 hS1 => ?_)
  · have hP1 : va_P D vwCl (wd σ0) H1 := hP.kept (fun k q hq => hk1 q.1 (hP k q hq).lt (fun h => h))
    refine vx_out (fun x hx => (hno x hx).elim) hlocks hce hcv hcl (fun t2 ht2 ha2 => ?_) (fun z hz => hfr _ (hS1.2.2 z hz)) hmc hms
    exact ⟨σ0, rfl, ⟨hte E hbad, gpost_at hP1 hK hD ht2 ha2⟩, hS1.F ht2⟩
  · exact kk H1 locs1 hpo hz1 (hP.kept (fun k q hq => hk1 q.1 (hP k q hq).lt (fun h => h))) hS1
end KC
