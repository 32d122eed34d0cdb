section
-- ===== PART A: goes FIRST, ahead of the names: the tables' words, and 'selects' of the private methods out of them =====
/-- a private method of a class that the tables say can be made, by its rows of tables_1 -/
def lw_okq (q : MethodName × Nat) : Prop := (q.1.cls ≠ "java/lang/invoke/MethodHandle" ∧ q.1.cls ≠ "java/lang/invoke/VarHandle") ∧ Cond.instantiable q.1.cls q.2 ∈ tables_1 ∧ Cond.privateMethod q.1 ∈ tables_1 ∧ Cond.instanceMethod q.1 ∈ tables_1
theorem lw_p0 : lw_okq (⟨"CountLeast", "kindAt", "(I)LCountLeast$Kind;"⟩, 3) := ⟨⟨by decide +kernel, by decide +kernel⟩, List.mem_of_getElem? (i := 15) (by decide +kernel), List.mem_of_getElem? (i := 121) (by decide +kernel), List.mem_of_getElem? (i := 122) (by decide +kernel)⟩
theorem lw_p1 : lw_okq (⟨"java/lang/Throwable", "fillInStackTrace", "(I)Ljava/lang/Throwable;"⟩, 6) := ⟨⟨by decide +kernel, by decide +kernel⟩, List.mem_of_getElem? (i := 163) (by decide +kernel), List.mem_of_getElem? (i := 161) (by decide +kernel), List.mem_of_getElem? (i := 162) (by decide +kernel)⟩
theorem lw_p2 : lw_okq (⟨"CountLeast", "pieceAt", "(I)LCountLeast$Piece;"⟩, 3) := ⟨⟨by decide +kernel, by decide +kernel⟩, List.mem_of_getElem? (i := 15) (by decide +kernel), List.mem_of_getElem? (i := 311) (by decide +kernel), List.mem_of_getElem? (i := 312) (by decide +kernel)⟩
theorem lw_p3 : lw_okq (⟨"CountLeast$Kind", "sidesClash", "(LCountLeast$Piece;LCountLeast$Piece;)Z"⟩, 10) := ⟨⟨by decide +kernel, by decide +kernel⟩, List.mem_of_getElem? (i := 26) (by decide +kernel), List.mem_of_getElem? (i := 342) (by decide +kernel), List.mem_of_getElem? (i := 343) (by decide +kernel)⟩
theorem lw_p4 : lw_okq (⟨"CountLeast$Kind", "sizesClash", "(LCountLeast$Piece;LCountLeast$Piece;)Z"⟩, 10) := ⟨⟨by decide +kernel, by decide +kernel⟩, List.mem_of_getElem? (i := 26) (by decide +kernel), List.mem_of_getElem? (i := 346) (by decide +kernel), List.mem_of_getElem? (i := 347) (by decide +kernel)⟩
theorem lw_p5 : lw_okq (⟨"CountLeast$Kind", "markFoes", "()V"⟩, 10) := ⟨⟨by decide +kernel, by decide +kernel⟩, List.mem_of_getElem? (i := 26) (by decide +kernel), List.mem_of_getElem? (i := 374) (by decide +kernel), List.mem_of_getElem? (i := 375) (by decide +kernel)⟩
theorem lw_p6 : lw_okq (⟨"CountLeast$Parting", "growFoes", "(III)V"⟩, 6) := ⟨⟨by decide +kernel, by decide +kernel⟩, List.mem_of_getElem? (i := 33) (by decide +kernel), List.mem_of_getElem? (i := 387) (by decide +kernel), List.mem_of_getElem? (i := 388) (by decide +kernel)⟩
theorem lw_p7 : lw_okq (⟨"CountLeast$Parting", "fill", "(II)Z"⟩, 6) := ⟨⟨by decide +kernel, by decide +kernel⟩, List.mem_of_getElem? (i := 33) (by decide +kernel), List.mem_of_getElem? (i := 397) (by decide +kernel), List.mem_of_getElem? (i := 398) (by decide +kernel)⟩
theorem lw_p8 : lw_okq (⟨"CountLeastModel", "throwing", "(ZZZ)Z"⟩, 21) := ⟨⟨by decide +kernel, by decide +kernel⟩, List.mem_of_getElem? (i := 494) (by decide +kernel), List.mem_of_getElem? (i := 578) (by decide +kernel), List.mem_of_getElem? (i := 579) (by decide +kernel)⟩
theorem lw_p9 : lw_okq (⟨"CountLeastModel", "isPiece", "(I)Z"⟩, 21) := ⟨⟨by decide +kernel, by decide +kernel⟩, List.mem_of_getElem? (i := 494) (by decide +kernel), List.mem_of_getElem? (i := 598) (by decide +kernel), List.mem_of_getElem? (i := 599) (by decide +kernel)⟩
theorem lw_p10 : lw_okq (⟨"CountLeastModel", "rule", "(II)I"⟩, 21) := ⟨⟨by decide +kernel, by decide +kernel⟩, List.mem_of_getElem? (i := 494) (by decide +kernel), List.mem_of_getElem? (i := 614) (by decide +kernel), List.mem_of_getElem? (i := 615) (by decide +kernel)⟩
theorem lw_p11 : lw_okq (⟨"CountLeastModel", "part", "(I)I"⟩, 21) := ⟨⟨by decide +kernel, by decide +kernel⟩, List.mem_of_getElem? (i := 494) (by decide +kernel), List.mem_of_getElem? (i := 622) (by decide +kernel), List.mem_of_getElem? (i := 623) (by decide +kernel)⟩
theorem lw_p12 : lw_okq (⟨"CountLeastModel", "parts", "(II)Z"⟩, 21) := ⟨⟨by decide +kernel, by decide +kernel⟩, List.mem_of_getElem? (i := 494) (by decide +kernel), List.mem_of_getElem? (i := 626) (by decide +kernel), List.mem_of_getElem? (i := 627) (by decide +kernel)⟩
theorem lw_p13 : lw_okq (⟨"CountLeastModel", "fits", "(III)Z"⟩, 21) := ⟨⟨by decide +kernel, by decide +kernel⟩, List.mem_of_getElem? (i := 494) (by decide +kernel), List.mem_of_getElem? (i := 630) (by decide +kernel), List.mem_of_getElem? (i := 631) (by decide +kernel)⟩
theorem lw_p14 : lw_okq (⟨"CountLeastModel", "clashes", "(III)Z"⟩, 21) := ⟨⟨by decide +kernel, by decide +kernel⟩, List.mem_of_getElem? (i := 494) (by decide +kernel), List.mem_of_getElem? (i := 634) (by decide +kernel), List.mem_of_getElem? (i := 635) (by decide +kernel)⟩
theorem lw_p15 : lw_okq (⟨"CountLeastModel", "greatest", "(I)I"⟩, 21) := ⟨⟨by decide +kernel, by decide +kernel⟩, List.mem_of_getElem? (i := 494) (by decide +kernel), List.mem_of_getElem? (i := 646) (by decide +kernel), List.mem_of_getElem? (i := 647) (by decide +kernel)⟩
def lw_privs_1 : List (MethodName × Nat) := [(⟨"CountLeast", "kindAt", "(I)LCountLeast$Kind;"⟩, 3), (⟨"java/lang/Throwable", "fillInStackTrace", "(I)Ljava/lang/Throwable;"⟩, 6), (⟨"CountLeast", "pieceAt", "(I)LCountLeast$Piece;"⟩, 3), (⟨"CountLeast$Kind", "sidesClash", "(LCountLeast$Piece;LCountLeast$Piece;)Z"⟩, 10), (⟨"CountLeast$Kind", "sizesClash", "(LCountLeast$Piece;LCountLeast$Piece;)Z"⟩, 10), (⟨"CountLeast$Kind", "markFoes", "()V"⟩, 10), (⟨"CountLeast$Parting", "growFoes", "(III)V"⟩, 6), (⟨"CountLeast$Parting", "fill", "(II)Z"⟩, 6), (⟨"CountLeastModel", "throwing", "(ZZZ)Z"⟩, 21), (⟨"CountLeastModel", "isPiece", "(I)Z"⟩, 21), (⟨"CountLeastModel", "rule", "(II)I"⟩, 21), (⟨"CountLeastModel", "part", "(I)I"⟩, 21), (⟨"CountLeastModel", "parts", "(II)Z"⟩, 21), (⟨"CountLeastModel", "fits", "(III)Z"⟩, 21), (⟨"CountLeastModel", "clashes", "(III)Z"⟩, 21), (⟨"CountLeastModel", "greatest", "(I)I"⟩, 21)]
theorem lw_r1 : ∀ q ∈ lw_privs_1, lw_okq q := List.forall_mem_cons.mpr ⟨lw_p0, List.forall_mem_cons.mpr ⟨lw_p1, List.forall_mem_cons.mpr ⟨lw_p2, List.forall_mem_cons.mpr ⟨lw_p3, List.forall_mem_cons.mpr ⟨lw_p4, List.forall_mem_cons.mpr ⟨lw_p5, List.forall_mem_cons.mpr ⟨lw_p6, List.forall_mem_cons.mpr ⟨lw_p7, List.forall_mem_cons.mpr ⟨lw_p8, List.forall_mem_cons.mpr ⟨lw_p9, List.forall_mem_cons.mpr ⟨lw_p10, List.forall_mem_cons.mpr ⟨lw_p11, List.forall_mem_cons.mpr ⟨lw_p12, List.forall_mem_cons.mpr ⟨lw_p13, List.forall_mem_cons.mpr ⟨lw_p14, List.forall_mem_cons.mpr ⟨lw_p15, fun _ h => absurd h List.not_mem_nil⟩⟩⟩⟩⟩⟩⟩⟩⟩⟩⟩⟩⟩⟩⟩⟩
theorem lw_p16 : lw_okq (⟨"CountLeastModel", "isClashing", "(II)Z"⟩, 21) := ⟨⟨by decide +kernel, by decide +kernel⟩, List.mem_of_getElem? (i := 494) (by decide +kernel), List.mem_of_getElem? (i := 653) (by decide +kernel), List.mem_of_getElem? (i := 654) (by decide +kernel)⟩
theorem lw_p17 : lw_okq (⟨"CountLeastModel", "lessen", "(II)V"⟩, 21) := ⟨⟨by decide +kernel, by decide +kernel⟩, List.mem_of_getElem? (i := 494) (by decide +kernel), List.mem_of_getElem? (i := 670) (by decide +kernel), List.mem_of_getElem? (i := 671) (by decide +kernel)⟩
def lw_privs_2 : List (MethodName × Nat) := [(⟨"CountLeastModel", "isClashing", "(II)Z"⟩, 21), (⟨"CountLeastModel", "lessen", "(II)V"⟩, 21)]
theorem lw_r2 : ∀ q ∈ lw_privs_2, lw_okq q := List.forall_mem_cons.mpr ⟨lw_p16, List.forall_mem_cons.mpr ⟨lw_p17, fun _ h => absurd h List.not_mem_nil⟩⟩
def lw_privs : List (MethodName × Nat) := lw_privs_1 ++ (lw_privs_2)
def lw_tbl : List Cond := k2_sels lw_privs ++ tables_1
theorem lw_privs_ok : ∀ q ∈ lw_privs, lw_okq q := by
  show ∀ q ∈ lw_privs_1 ++ (lw_privs_2), lw_okq q
  exact List.forall_mem_append.mpr ⟨lw_r1, lw_r2⟩
end
section
/-! ===== BEGIN words of one list among another's, by their places ===== -/
theorem goodIn_r {big : List Cond} (ws : List Cond) (ps : List Nat) (hp : ws = ps.filterMap (fun i => big[i]?)) (h : ws.all goodWord = true) : GoodIn big ws := by
  intro w hw
  have h1 := List.all_eq_true.mp h w hw
  rw [hp] at hw
  obtain ⟨i, -, hi⟩ := List.mem_filterMap.mp hw
  have hm : w ∈ big := by first | exact List.mem_of_getElem? hi | exact List.getElem?_mem hi
  exact ⟨hm, good_of_word h1⟩
theorem goodIn_app {big a b : List Cond} (ha : GoodIn big a) (hb : GoodIn big b) : GoodIn big (a ++ b) := fun w h => (List.mem_append.mp h).elim (ha w) (hb w)
theorem goodIn_ca {big a b : List Cond} {c : Cond} (ha : GoodIn big (c :: a)) (hb : GoodIn big b) : GoodIn big (c :: (a ++ b)) := fun w h => (List.mem_cons.mp h).elim (fun e => ha w (List.mem_cons.mpr (Or.inl e))) (fun h => (List.mem_append.mp h).elim (fun h => ha w (List.mem_cons.mpr (Or.inr h))) (hb w))
theorem goodIn_sub {big ws : List Cond} (hm : ∀ w ∈ ws, w ∈ big) (h : ws.all goodWord = true) : GoodIn big ws := fun w hw => ⟨hm w hw, good_of_word (List.all_eq_true.mp h w hw)⟩
/-! ===== END ===== -/

/-! ===== BEGIN exceptions that leave a method, and their catching by the caller (launches without stack traces) ===== -/
section VXA
/-! The laws vx_back, vx_callV, vx_callS, vx_callSW, vx_throw0, vx_throwS follow proofs of the library, with one case more: JvmDerived/Free/Laws.lean (Back.of_free), Shelf42/LK1.lean (callV, callS), Shelf/KitTraced.lean (throwNew0V, throwNewS). -/
/-- where a method has thrown q: the class by its name, the cell, what was written, the world -/
def vx_T (XC : String → State → State → Prop) (st : State) (q : Addr) (t : State) (mc ms : Nat) (free : Addr → Prop) : Prop :=
  ∃ (E : String) (ce : Cell) (L : List Loc), XC E st t ∧ t.heap[q]? = some ce ∧ ce.vm = .none ∧ st.vm.findClass E = some ce.cls ∧ st.WarmedH t.vm ∧ st.sameButNew ({ t with vm := st.vm } : State) L mc ms ∧ ∀ z ∈ L, free z.base
def vx_Q (Qc : Array Value → State → Outcome → State → Prop) (XC : String → State → State → Prop) (mc ms : Nat) (free : Addr → Prop) : Array Value → State → Outcome → State → Prop := fun a st o t =>
  (Qc a st o t ∧ ∃ L, FrameEnd st o t L mc ms ∧ ∀ q ∈ L, free q.base) ∨ ∃ q, o = .threw q ∧ vx_T XC st q t mc ms free
/-- a callee that returns or throws -/
def vx_Met (l : Launch) (y : MethodName) (ws : List Cond) (rm : Room) (Pc : Array Value → State → Prop) (Qc : Array Value → State → Outcome → State → Prop) (XC : String → State → State → Prop) (mc ms : Nat) (free : Addr → Prop) : Prop :=
  MetFree l y (headSpec ws rm) Pc (fun _ _ _ _ _ => True) (vx_Q Qc XC mc ms free)
def vx_Post (XC : String → State → State → Prop) (mc ms : Nat) (free : Addr → Prop) : Pt → Array Value → Addr → Pt → Prop := fun A a q B =>
  ∃ (g : JFrame) (mk : MethodId) (t : State) (L : List Loc) (E : String) (ce : Cell), B.U.heap = t.heap ∧ B.U.vm = t.vm ∧ XC E (A.U.calling g mk a) t ∧ t.heap[q]? = some ce ∧ ce.vm = .none ∧ A.U.vm.findClass E = some ce.cls ∧ B.locs = A.locs ++ L ∧ (∀ z ∈ L, free z.base) ∧ B.cells = A.cells + mc ∧ B.slots = A.slots + ms
def vx_Back (l : Launch) (R : Room) (p : Program) (e : Env) (below : List Frame) (s : State) (sargs : Array Value) (y : MethodName) (len W9 : Nat)
    (Pre : Pt → Array Value → Prop) (Post : Pt → Array Value → Option Value → Pt → Prop) (PostX : Pt → Array Value → Addr → Pt → Prop) : Prop :=
  ∀ (m : MethodId) (meth : Method) (c : Code) (A : Pt) (g : JFrame) (ig : Instr) (mk : MethodId) (a : Array Value),
    Stand p l e R s m sargs below meth c A.U A.locs A.cells A.slots → g.method = m → g.locals.size = c.maxLocals → decode c.code g.pc = .ok (ig, len) →
    2 * g.monitorRoom + (g.stack.map fun v => v.category).sum ≤ W9 → A.U.methodNamed? y = some mk → Pre A a →
    (∃ (v : Option Value) (B : Pt), Stand p l e R s m sargs below meth c B.U B.locs B.cells B.slots ∧ Post A a v B ∧
      Steps p.tables e below (doInvoke e (A.U.setTop g) [] mk a).1 (B.U.setTop { g with pc := g.pc + len, stack := v.toList ++ g.stack })) ∨
    (∃ (q : Addr) (B : Pt), Stand p l e R s m sargs below meth c B.U B.locs B.cells B.slots ∧ PostX A a q B ∧
      Steps p.tables e below (doInvoke e (A.U.setTop g) [] mk a).1 ((B.U.setTop g).pushFrame (.throwing q)))
section Payer
variable {l : Launch} {R : Room} {p : Program} {e : Env} {below : List Frame} {s : State} {sargs : Array Value} {y : MethodName} {len W9 : Nat}
theorem vx_back {ws : List Cond} {rm : Room} {Pc : Array Value → State → Prop} {Qc : Array Value → State → Outcome → State → Prop} {XC : String → State → State → Prop} {mc ms : Nat} {free : Addr → Prop} {bytes : ByteArray} {maxL : Nat} {ret : Option FieldType}
    (hM : vx_Met l y ws rm Pc Qc XC mc ms free) (hblind : FrameBlind Pc) (hrc : rm.cells = mc) (hrs : rm.slots = ms)
    (hframes : rm.frames + 1 ≤ R.frames) (hlocals : W9 + (maxL + 11) + rm.locals ≤ R.locals)
    (hws : ∀ w ∈ ws, ∀ a' U, s.WarmedH U.vm → w.before a' U = true) (hcode : Cond.code y bytes maxL ret ∈ ws) (hinit : ∀ a' U, s.WarmedH U.vm → (Cond.initialized y.cls).before a' U = true) :
    vx_Back l R p e below s sargs y len W9 (PreOf R mc ms Pc) (PostOf Qc mc ms free) (vx_Post XC mc ms free) := by
  intro m meth c A g ig mk a X hg hsize hdg hW hn hp
  have h1 : (headSpec ws rm).pre.before a A.U = true := atoms_intro fun w hw => hws w hw _ _ X.warmed
  have h2 : (Cond.code y bytes maxL ret).before a A.U = true := hws _ hcode _ _ X.warmed
  have h3 : (Cond.initialized y.cls).before a A.U = true := hinit _ _ X.warmed
  have h4 : A.cells + (headSpec ws rm).room.cells ≤ R.cells := by rw [show (headSpec ws rm).room.cells = mc from hrc]; exact hp.1
  have h5 : A.slots + (headSpec ws rm).room.slots ≤ R.slots := by rw [show (headSpec ws rm).room.slots = ms from hrs]; exact hp.2.1
  have hPc : Pc a (A.U.calling g mk a) := hblind _ _ _ _ hp.2.2
  obtain ⟨U, Ls, c0, s0⟩ := A
  dsimp only [Pt.U, Pt.locs, Pt.cells, Pt.slots] at h1 h2 h3 h4 h5 X hn hPc ⊢
  obtain ⟨methY, cY, hmY, hcY, -, hlY, -, -, -, -⟩ := Cond.code_spec hn h2
  obtain ⟨kY, hkY, -⟩ := className_of_methodNamed hn
  have hinitY : kY.init = .initialized := Cond.initialized_spec (findClass_of_methodNamed hn) hkY h3
  have h : At U g.method c below := by rw [hg]; exact X.here
  have hlocals9 : W9 + (maxL + 11) + (headSpec ws rm).room.locals ≤ R.locals := hlocals
  have happ : (headSpec ws rm).appliesLoose y e.platform (U.calling g mk a) = true :=
    Spec.appliesLoose_calling (g := g) h hdg hn hkY hinitY
      (X.room_calling (g := g) (R' := (headSpec ws rm).room) hsize hmY hcY hframes (by rw [hlY]; omega) h4 h5) h1
  obtain ⟨mid, hmid⟩ := h.above
  have hfr : (U.setTop g).frames = (.java g :: mid) ++ below := by rw [State.frames_setTop' g h.top, hmid]; rfl
  obtain ⟨o, s₂, hsteps, -, hend, hq⟩ := Steps.callFree hM p X.admits X.cas X.clock (acts := []) hfr happ hPc trivial
  have hq' : vx_Q Qc XC mc ms free a (U.calling g mk a) o s₂ := hq
  rw [State.frames_setTop' g h.top] at hend
  obtain ⟨g₀, hg0⟩ := Option.isSome_iff_exists.mp h.top
  obtain ⟨r, hr⟩ := State.topJava?_eq_some.mp hg0
  have hr' : (({ U with heap := s₂.heap, slotsUsed := s₂.slotsUsed } : State).setVm s₂.vm).frames = .java g₀ :: r := hr
  rcases hq' with ⟨hqc, L, hfe, hL⟩ | ⟨q, rfl, E, ce, L, hx, hce, hcv, hcl, hW₂, hsm, hL⟩
  · obtain ⟨⟨v, rfl⟩, hW₂, e2, q2, q3, q4, q5, q6⟩ := id hfe
    have e3 : s₂ = ({ (U.calling g mk a).setFrames s₂.frames with heap := s₂.heap, slotsUsed := s₂.slotsUsed } : State).setVm s₂.vm := by
      have : s₂ = ({ s₂ with vm := (U.calling g mk a).vm } : State).setVm s₂.vm := rfl
      rw [e2] at this
      exact this
    obtain ⟨c₂, i₂, len₂, hc₂, hd₂, hf₂⟩ := hend
    have hW' : U.WarmedH s₂.vm := hW₂
    have hcc : c₂ = c := by
      have h1 : s₂.code? g.method = U.code? g.method := by
        rw [State.code?_eq, State.code?_eq, hW'.alike.method?]
      exact Option.some.inj (hc₂.symm.trans (h1.trans h.code))
    subst hcc
    have hlen : len₂ = len := by rw [hdg] at hd₂; cases hd₂; rfl
    subst hlen
    have hs₂ : s₂ = (({ U with heap := s₂.heap, slotsUsed := s₂.slotsUsed } : State).setVm s₂.vm).setTop { g with pc := g.pc + len₂, stack := v.toList ++ g.stack } := by
      refine e3.trans ?_
      rw [hf₂, State.calling_eq h.top, State.setFrames_setFrames, State.setTop_of_frames _ hr', hr]
      rfl
    have hsame : U.sameButNew ({ U with heap := s₂.heap, slotsUsed := s₂.slotsUsed } : State) L mc ms := by
      refine ⟨?_, q2, q3, q4, q5, q6⟩
      obtain ⟨t, ht, -⟩ := State.frames_cons hr
      show ({ U with heap := s₂.heap, slotsUsed := s₂.slotsUsed } : State) = { U.setFrames U.frames with heap := s₂.heap, slotsUsed := s₂.slotsUsed }
      rw [State.setFrames_self ht]
    subst hg
    refine Or.inl ⟨v, ⟨(({ U with heap := s₂.heap, slotsUsed := s₂.slotsUsed } : State).setVm s₂.vm), Ls ++ L, c0 + mc, s0 + ms⟩,
      ⟨X.admits, X.cas, X.clock, X.frames, X.room, X.hears, X.method, X.code, (X.here.setHeapUsed s₂.heap s₂.slotsUsed).setVm hW'.alike, X.tail, State.WarmedH.trans X.warmed hW', X.limits, X.bytes, X.same.trans (hsame.setVm s.vm)⟩,
      ⟨g, mk, s₂, L, rfl, rfl, hqc, rfl, hL, rfl, rfl⟩, ?_⟩
    show Steps p.tables e below _ ((({ U with heap := s₂.heap, slotsUsed := s₂.slotsUsed } : State).setVm s₂.vm).setTop { g with pc := g.pc + len₂, stack := v.toList ++ g.stack })
    rw [← hs₂]
    exact hsteps
  · obtain ⟨e2, q2, q3, q4, q5, q6⟩ := id hsm
    have e3 : s₂ = ({ (U.calling g mk a).setFrames s₂.frames with heap := s₂.heap, slotsUsed := s₂.slotsUsed } : State).setVm s₂.vm := by
      have : s₂ = ({ s₂ with vm := (U.calling g mk a).vm } : State).setVm s₂.vm := rfl
      rw [e2] at this
      exact this
    have hf₂ : s₂.frames = .throwing q :: .java g :: U.frames.tail := hend
    have hW' : U.WarmedH s₂.vm := hW₂
    have hs₂ : s₂ = ((({ U with heap := s₂.heap, slotsUsed := s₂.slotsUsed } : State).setVm s₂.vm).setTop g).pushFrame (.throwing q) := by
      refine e3.trans ?_
      rw [hf₂, State.calling_eq h.top, State.setFrames_setFrames, State.pushFrame, State.frames_setTop _ hr', State.setTop_of_frames _ hr', State.setFrames_setFrames, hr]
      rfl
    have hsame : U.sameButNew ({ U with heap := s₂.heap, slotsUsed := s₂.slotsUsed } : State) L mc ms := by
      refine ⟨?_, q2, q3, q4, q5, q6⟩
      obtain ⟨t, ht, -⟩ := State.frames_cons hr
      show ({ U with heap := s₂.heap, slotsUsed := s₂.slotsUsed } : State) = { U.setFrames U.frames with heap := s₂.heap, slotsUsed := s₂.slotsUsed }
      rw [State.setFrames_self ht]
    subst hg
    refine Or.inr ⟨q, ⟨(({ U with heap := s₂.heap, slotsUsed := s₂.slotsUsed } : State).setVm s₂.vm), Ls ++ L, c0 + mc, s0 + ms⟩,
      ⟨X.admits, X.cas, X.clock, X.frames, X.room, X.hears, X.method, X.code, (X.here.setHeapUsed s₂.heap s₂.slotsUsed).setVm hW'.alike, X.tail, State.WarmedH.trans X.warmed hW', X.limits, X.bytes, X.same.trans (hsame.setVm s.vm)⟩,
      ⟨g, mk, s₂, L, E, ce, rfl, rfl, hx, hce, hcv, hcl, rfl, hL, rfl, rfl⟩, ?_⟩
    show Steps p.tables e below _ (((({ U with heap := s₂.heap, slotsUsed := s₂.slotsUsed } : State).setVm s₂.vm).setTop g).pushFrame (.throwing q))
    rw [← hs₂]
    exact hsteps
end Payer
section Calls
variable {p : Program} {l : Launch} {e : Env} {R : Room} {s : State} {m : MethodId} {args : Array Value} {below : List Frame} {meth : Method} {c : Code} {T : State} {locs : List Loc} {cells slots : Nat}
theorem vx_callV (X : Stand p l e R s m args below meth c T locs cells slots) (hexec : p.tables.exec = Jvm.exec) {own C : String} {index : Nat} {y : MethodName} {bytes : ByteArray} {maxL : Nat} {ret : Option FieldType}
    (hown : s.vm.findClass own = some m.cls) (hlink : (Cond.methodLink own index y).before args s = true) (hinst : (Cond.instanceMethod y).before args s = true) (hsel : (Cond.selects C y y).before args s = true)
    (hcode : (Cond.code y bytes maxL ret).before args s = true) (hy : y.cls ≠ "java/lang/invoke/MethodHandle" ∧ y.cls ≠ "java/lang/invoke/VarHandle")
    {W9 : Nat} {Pre : Pt → Array Value → Prop} {Post : Pt → Array Value → Option Value → Pt → Prop} {PostX : Pt → Array Value → Addr → Pt → Prop} (hK : vx_Back l R p e below s args y 3 W9 Pre Post PostX)
    {b : Addr} {cellB : Cell} (hcell : T.heap[b]? = some cellB) (hobj : cellB.vm.isStatics = false) (hcls : s.vm.findClass C = some cellB.cls)
    {g : JFrame} (hg : g.method = m) (hsize : g.locals.size = c.maxLocals) {argsL rest : List Value} (hlen : ∀ sig, parseMethodDescriptor y.desc = some sig → argsL.length = sig.parameters.length)
    (hstack : g.stack = argsL.reverse ++ .ref b :: rest) (hW : 2 * g.monitorRoom + (rest.map fun v => v.category).sum ≤ W9) (hdg : decode c.code g.pc = .ok (.invokevirtual index, 3))
    (hpre : ∀ vm₁, s.WarmedH vm₁ → Pre ⟨T.setVm vm₁, locs, cells, slots⟩ (Value.ref b :: argsL).toArray) :
    (∃ (v : Option Value) (vm₁ : Vm) (B : Pt), s.WarmedH vm₁ ∧ Stand p l e R s m args below meth c B.U B.locs B.cells B.slots ∧ Post ⟨T.setVm vm₁, locs, cells, slots⟩ (Value.ref b :: argsL).toArray v B ∧
      ∀ target, Steps p.tables e below (B.U.setTop { g with pc := g.pc + 3, stack := v.toList ++ rest }) target → Steps p.tables e below (T.setTop g) target) ∨
    (∃ (q : Addr) (vm₁ : Vm) (B : Pt), s.WarmedH vm₁ ∧ Stand p l e R s m args below meth c B.U B.locs B.cells B.slots ∧ PostX ⟨T.setVm vm₁, locs, cells, slots⟩ (Value.ref b :: argsL).toArray q B ∧
      Steps p.tables e below (T.setTop g) ((B.U.setTop { g with stack := rest }).pushFrame (.throwing q))) := by
  obtain ⟨mk, methM, hnamed, hmethM, hstM, habM⟩ := Cond.instanceMethod_spec hinst
  obtain ⟨methM', cM, hmethM', -, -, -, -, -, -, hsigM⟩ := Cond.code_spec hnamed hcode
  cases hmethM.symm.trans hmethM'
  obtain ⟨c2, r2, m2, q1, q2, q3, q4, kP, hkP, hkPi⟩ := Cond.selects_spec hsel
  cases hcls.symm.trans q1
  cases (State.methodFound?_of_named hnamed hy).symm.trans q2
  cases hnamed.symm.trans q3
  have hselP : selectMethod e.platform s.vm cellB.cls mk = .method mk := by rw [Launch.admits_selectMethod X.admits]; exact q4
  obtain ⟨vm₁, X₁, hstep₁⟩ := X.invokevirtual hexec hown hlink hnamed hmethM hstM hkP hkPi hy (a := b) (cell := cellB) hcell
    (fun z h => by rw [h] at hobj; cases hobj) hselP hmethM habM hkP hkPi (g := g) hg (argsL := argsL) (rest := rest) (hlen _ hsigM) hstack hdg
  rcases hK m meth c ⟨T.setVm vm₁, locs, cells, slots⟩ { g with stack := rest } (.invokevirtual index) mk (Value.ref b :: argsL).toArray X₁ hg hsize hdg hW (X₁.named hnamed) (hpre vm₁ X₁.warmed) with ⟨v, B, X', hpost, hsteps⟩ | ⟨q, B, X', hpost, hsteps⟩
  · exact Or.inl ⟨v, vm₁, B, X₁.warmed, X', hpost, fun target h => hstep₁ _ fun acts => by rw [doInvoke_state]; exact hsteps.trans h⟩
  · exact Or.inr ⟨q, vm₁, B, X₁.warmed, X', hpost, hstep₁ _ fun acts => by rw [doInvoke_state]; exact hsteps⟩
theorem vx_callS (X : Stand p l e R s m args below meth c T locs cells slots) (hexec : p.tables.exec = Jvm.exec) {own : String} {index : Nat} {y : MethodName} {bytes : ByteArray} {maxL : Nat} {ret : Option FieldType}
    (hown : s.vm.findClass own = some m.cls) (hlink : (Cond.methodLink own index y).before args s = true) (hstat : (Cond.static y).before args s = true) (hinit : (Cond.initialized y.cls).before args s = true)
    (hcode : (Cond.code y bytes maxL ret).before args s = true) (hy : y.cls ≠ "java/lang/invoke/MethodHandle" ∧ y.cls ≠ "java/lang/invoke/VarHandle")
    {W9 : Nat} {Pre : Pt → Array Value → Prop} {Post : Pt → Array Value → Option Value → Pt → Prop} {PostX : Pt → Array Value → Addr → Pt → Prop} (hK : vx_Back l R p e below s args y 3 W9 Pre Post PostX)
    {g : JFrame} (hg : g.method = m) (hsize : g.locals.size = c.maxLocals) {argsL rest : List Value} (hlen : ∀ sig, parseMethodDescriptor y.desc = some sig → argsL.length = sig.parameters.length)
    (hstack : g.stack = argsL.reverse ++ rest) (hW : 2 * g.monitorRoom + (rest.map fun v => v.category).sum ≤ W9) (hdg : decode c.code g.pc = .ok (.invokestatic index, 3))
    (hpre : ∀ vm₁, s.WarmedH vm₁ → Pre ⟨T.setVm vm₁, locs, cells, slots⟩ argsL.toArray) :
    (∃ (v : Option Value) (vm₁ : Vm) (B : Pt), s.WarmedH vm₁ ∧ Stand p l e R s m args below meth c B.U B.locs B.cells B.slots ∧ Post ⟨T.setVm vm₁, locs, cells, slots⟩ argsL.toArray v B ∧
      ∀ target, Steps p.tables e below (B.U.setTop { g with pc := g.pc + 3, stack := v.toList ++ rest }) target → Steps p.tables e below (T.setTop g) target) ∨
    (∃ (q : Addr) (vm₁ : Vm) (B : Pt), s.WarmedH vm₁ ∧ Stand p l e R s m args below meth c B.U B.locs B.cells B.slots ∧ PostX ⟨T.setVm vm₁, locs, cells, slots⟩ argsL.toArray q B ∧
      Steps p.tables e below (T.setTop g) ((B.U.setTop { g with stack := rest }).pushFrame (.throwing q))) := by
  obtain ⟨mk, hnamed⟩ := Cond.code_named hcode
  obtain ⟨methM, cM, hmethM, -, -, -, -, -, -, hsigM⟩ := Cond.code_spec hnamed hcode
  have hstatic : methM.isStatic = true := Cond.static_spec hnamed hmethM hstat
  obtain ⟨kP, hkP, -⟩ := className_of_methodNamed hnamed
  have hinitP : kP.init = .initialized := Cond.initialized_spec (findClass_of_methodNamed hnamed) hkP hinit
  obtain ⟨vm₁, X₁, hstep₁⟩ := X.invokestatic hexec hown hlink hnamed hmethM hstatic hkP hinitP hy (g := g) hg (argsL := argsL) (rest := rest) (hlen _ hsigM) hstack hdg
  rcases hK m meth c ⟨T.setVm vm₁, locs, cells, slots⟩ { g with stack := rest } (.invokestatic index) mk argsL.toArray X₁ hg hsize hdg hW (X₁.named hnamed) (hpre vm₁ X₁.warmed) with ⟨v, B, X', hpost, hsteps⟩ | ⟨q, B, X', hpost, hsteps⟩
  · exact Or.inl ⟨v, vm₁, B, X₁.warmed, X', hpost, fun target h => hstep₁ _ fun acts => by rw [doInvoke_state]; exact hsteps.trans h⟩
  · exact Or.inr ⟨q, vm₁, B, X₁.warmed, X', hpost, hstep₁ _ fun acts => by rw [doInvoke_state]; exact hsteps⟩
end Calls
theorem vx_cls {s : State} {T : State} {vm₁ : Vm} {E : String} {k : ClassId} (hW : s.WarmedH vm₁) (h : (T.setVm vm₁).vm.findClass E = some k) : s.vm.findClass E = some k := by
  have h1 : vm₁.findClass E = some k := h
  rw [hW.alike.findClass] at h1
  exact h1
/-- the method's frame g, with q thrown over it -/
def vx_W (p : Program) (l : Launch) (e : Env) (R : Room) (s : State) (m : MethodId) (args : Array Value) (below : List Frame) (meth : Method) (c : Code) (H : Heap) (locs : List Loc) (cells slots : Nat) (Q : State → Prop) (g : JFrame) (q : Addr) : Prop :=
  ∀ T : State, T.heap = H → Stand p l e R s m args below meth c T locs cells slots → ∃ t, Steps p.tables e below ((T.setTop g).pushFrame (.throwing q)) t ∧ Q t
def vx_Run (p : Program) (l : Launch) (e : Env) (R : Room) (s : State) (m : MethodId) (args : Array Value) (below : List Frame) (meth : Method) (c : Code) (H : Heap) (locs : List Loc) (cells slots mc ms : Nat) (g : JFrame) (rest : List Value) (Qa : State → Outcome → State → Prop) (XC : String → State → State → Prop) (free : Addr → Prop) : Prop :=
  ∀ T : State, T.heap = H → Stand p l e R s m args below meth c T locs cells slots →
    (∃ (v : Option Value) (st₀ t T' : State) (L : List Loc), st₀.heap = H ∧ Stand p l e R s m args below meth c T' (locs ++ L) (cells + mc) (slots + ms) ∧ (∀ q ∈ L, free q.base) ∧ T'.heap = t.heap ∧ T'.vm = t.vm ∧ Qa st₀ (.returned v) t ∧
      Goes p e below T g T' { g with pc := g.pc + 3, stack := v.toList ++ rest }) ∨
    (∃ (q : Addr) (st₀ t T' : State) (L : List Loc) (E : String) (ce : Cell), st₀.heap = H ∧ Stand p l e R s m args below meth c T' (locs ++ L) (cells + mc) (slots + ms) ∧ (∀ z ∈ L, free z.base) ∧ T'.heap = t.heap ∧ T'.vm = t.vm ∧ XC E st₀ t ∧ t.heap[q]? = some ce ∧ ce.vm = .none ∧ s.vm.findClass E = some ce.cls ∧
      Steps p.tables e below (T.setTop g) ((T'.setTop { g with stack := rest }).pushFrame (.throwing q)))
def vx_X {S : Type} (px : S → Prop) (B : String → S → State → Prop) (A : Nat → Prop) : String → State → State → Prop := fun E st t => ∃ u : S, px u ∧ B E u t ∧ va_F A st t
section Runs
variable {p : Program} {l : Launch} {e : Env} {R : Room} {s : State} {m : MethodId} {args : Array Value} {below : List Frame} {meth : Method} {c : Code} {H : Heap} {locs : List Loc} {cells slots : Nat}
variable {y : MethodName} {bytes cc : ByteArray} {maxL nL mc ms n index : Nat} {ret : Option FieldType} {ws : List Cond} {rm : Room} {Pc : Array Value → State → Prop} {Qc : Array Value → State → Outcome → State → Prop} {XC : String → State → State → Prop} {free : Addr → Prop} {Ts : List Cond} {own C : String} {b : Addr} {As rest : List Value} {g : JFrame}
theorem vx_callBack (cb : CallB R s args own index y bytes maxL ret ws rm mc ms n) (hM : vx_Met l y ws rm Pc Qc XC mc ms free) (hbl : FrameBlind Pc) : vx_Back l R p e below s args y 3 8 (PreOf R mc ms Pc) (PostOf Qc mc ms free) (vx_Post XC mc ms free) := by
  obtain ⟨hrc, hrs, hfr, hlo, hws, hcw, -, hini, -⟩ := cb
  exact vx_back (bytes := bytes) (maxL := maxL) (ret := ret) hM hbl hrc hrs hfr hlo hws hcw (fun a' U hW => word_at hW (Or.inl (by first | rfl | simp [Cond.onTables, Cond.keeps, Cond.steady])) hini)
theorem vx_runV (S : CallFix p m c cc nL s args Ts own) (hM : vx_Met l y ws rm Pc Qc XC mc ms free) (cw : CallW R s args own C index y bytes maxL ret ws rm mc ms n) (hp : PreV s H C b Pc As)
    (hg : g.method = m) (hn : As.length = n) (hsize : g.locals.size = nL) (hstack : g.stack = As.reverse ++ .ref b :: rest) (hW : 2 * g.monitorRoom + (rest.map fun v => v.category).sum ≤ 8) (hdg : decode cc g.pc = .ok (.invokevirtual index, 3)) (hf : cells + mc ≤ R.cells ∧ slots + ms ≤ R.slots) :
    vx_Run p l e R s m args below meth c H locs cells slots mc ms g rest (Qc (Value.ref b :: As).toArray) XC free := by
  have hK : vx_Back l R p e below s args y 3 8 (PreOf R mc ms Pc) (PostOf Qc mc ms free) (vx_Post XC mc ms free) := vx_callBack cw.1 hM hp.1
  obtain ⟨⟨-, -, -, -, -, -, hcode, -, hy, hlen, hl⟩, hin, hse⟩ := cw
  obtain ⟨hx, hb, hml, ho, -⟩ := S
  obtain ⟨-, ⟨cellB, hcB, hoB, hclB⟩, hPc⟩ := hp
  intro T hT X
  rcases vx_callV X hx (C := C) (bytes := bytes) (maxL := maxL) (ret := ret) ho hl hin hse hcode hy hK (by rw [hT]; exact hcB) hoB hclB hg (hsize.trans hml.symm) (argsL := As) (rest := rest) (fun sig h => hn.trans (hlen sig h)) hstack hW (by rw [hb]; exact hdg)
    (fun vm₁ hW₁ => ⟨hf.1, hf.2, hPc (T.setVm vm₁) hT hW₁⟩) with ⟨v, vm₁, ⟨U', l2, c2, s2⟩, hW₁, X', ⟨g', mk, t, L, e1, e2, hq, h1, hL, h2, h3⟩, st⟩ | ⟨q, vm₁, ⟨U', l2, c2, s2⟩, hW₁, X', ⟨g', mk, t, L, E, ce, e1, e2, hq, hce, hcv, hcl, h1, hL, h2, h3⟩, st⟩
  · dsimp only [Pt.U, Pt.locs, Pt.cells, Pt.slots] at X' e1 e2 h1 h2 h3 st
    subst h1; subst h2; subst h3
    exact Or.inl ⟨v, (T.setVm vm₁).calling g' mk (Value.ref b :: As).toArray, t, U', L, hT, X', hL, e1, e2, hq, st⟩
  · dsimp only [Pt.U, Pt.locs, Pt.cells, Pt.slots] at X' e1 e2 h1 h2 h3 st hcl
    subst h1; subst h2; subst h3
    exact Or.inr ⟨q, (T.setVm vm₁).calling g' mk (Value.ref b :: As).toArray, t, U', L, E, ce, hT, X', hL, e1, e2, hq, hce, hcv, vx_cls hW₁ hcl, st⟩
theorem vx_runS (S : CallFix p m c cc nL s args Ts own) (hM : vx_Met l y ws rm Pc Qc XC mc ms free) (cw : CallB R s args own index y bytes maxL ret ws rm mc ms n ∧ (Cond.static y).before args s = true) (hp : PreS s H Pc As)
    (hg : g.method = m) (hn : As.length = n) (hsize : g.locals.size = nL) (hstack : g.stack = As.reverse ++ rest) (hW : 2 * g.monitorRoom + (rest.map fun v => v.category).sum ≤ 8) (hdg : decode cc g.pc = .ok (.invokestatic index, 3)) (hf : cells + mc ≤ R.cells ∧ slots + ms ≤ R.slots) :
    vx_Run p l e R s m args below meth c H locs cells slots mc ms g rest (Qc As.toArray) XC free := by
  have hK : vx_Back l R p e below s args y 3 8 (PreOf R mc ms Pc) (PostOf Qc mc ms free) (vx_Post XC mc ms free) := vx_callBack cw.1 hM hp.1
  obtain ⟨⟨-, -, -, -, -, -, hcode, hini, hy, hlen, hl⟩, hstt⟩ := cw
  obtain ⟨hx, hb, hml, ho, -⟩ := S
  intro T hT X
  rcases vx_callS X hx (bytes := bytes) (maxL := maxL) (ret := ret) ho hl hstt hini hcode hy hK hg (hsize.trans hml.symm) (argsL := As) (rest := rest) (fun sig h => hn.trans (hlen sig h)) hstack hW (by rw [hb]; exact hdg)
    (fun vm₁ hW₁ => ⟨hf.1, hf.2, hp.2 (T.setVm vm₁) hT hW₁⟩) with ⟨v, vm₁, ⟨U', l2, c2, s2⟩, hW₁, X', ⟨g', mk, t, L, e1, e2, hq, h1, hL, h2, h3⟩, st⟩ | ⟨q, vm₁, ⟨U', l2, c2, s2⟩, hW₁, X', ⟨g', mk, t, L, E, ce, e1, e2, hq, hce, hcv, hcl, h1, hL, h2, h3⟩, st⟩
  · dsimp only [Pt.U, Pt.locs, Pt.cells, Pt.slots] at X' e1 e2 h1 h2 h3 st
    subst h1; subst h2; subst h3
    exact Or.inl ⟨v, (T.setVm vm₁).calling g' mk As.toArray, t, U', L, hT, X', hL, e1, e2, hq, st⟩
  · dsimp only [Pt.U, Pt.locs, Pt.cells, Pt.slots] at X' e1 e2 h1 h2 h3 st hcl
    subst h1; subst h2; subst h3
    exact Or.inr ⟨q, (T.setVm vm₁).calling g' mk As.toArray, t, U', L, E, ce, hT, X', hL, e1, e2, hq, hce, hcv, vx_cls hW₁ hcl, st⟩
end Runs
section Rows
variable {p : Program} {l : Launch} {e : Env} {R : Room} {s : State} {m : MethodId} {args : Array Value} {below : List Frame} {meth : Method} {c : Code} {H : Heap} {locs : List Loc} {cells slots : Nat} {Q : State → Prop}
variable {mc ms : Nat} {free : Addr → Prop} {A0 A1 : Nat → Prop} {H0 : Heap} {a : Array Value} {pc : Nat} {ls : Array Slot} {st0 rest : List Value}
theorem vx_keep {st₀ t T' : State} {L : List Loc} (h0 : st₀.heap = H) (e1 : T'.heap = t.heap) (hS : va_S A0 H0 H locs) (hA : ∀ q, q < H.size → A1 q → A0 q) (hf : ∀ q, free q → A0 q) (hL : ∀ q ∈ L, free q.base) (hF : va_F A1 st₀ t) :
    H.size ≤ T'.heap.size ∧ (∀ q : Nat, q < H.size → ¬ A1 q → T'.heap[q]? = H[q]?) ∧ va_S A0 H0 T'.heap (locs ++ L) := by
  obtain ⟨hz, hk⟩ := hF
  rw [h0] at hz hk
  exact ⟨by rw [e1]; exact hz, fun q h1 h2 => by rw [e1]; exact hk q h1 h2,
    ⟨Nat.le_trans hS.1 (by rw [e1]; exact hz), fun q h1 h2 => by rw [e1, hk q (Nat.lt_of_lt_of_le h1 hS.1) (fun z => h2 (hA q (Nat.lt_of_lt_of_le h1 hS.1) z))]; exact hS.2.1 q h1 h2, fun q hq => by
      rcases List.mem_append.mp hq with h | h
      · exact hS.2.2 q h
      · exact hf _ (hL q h)⟩⟩
theorem vx_calli {S SX : Type} {post : Int32 → S → Prop} {px : SX → Prop} {B : S → State → Prop} {BX : String → SX → State → Prop} {AX : Nat → Prop} (hr : vx_Run p l e R s m args below meth c H locs cells slots mc ms (F0 m pc ls st0) rest (va_Qi post B A1 a) (vx_X px BX AX) free) (hS : va_S A0 H0 H locs) (hA : ∀ q, q < H.size → A1 q → A0 q) (hf : ∀ q, free q → A0 q) (hAX : ∀ q, q < H.size → AX q → A0 q)
    (kx : ∀ (E : String) (ce : Cell) (q9 : Addr) (u : SX) (t : State) (H1 : Heap) (locs1 : List Loc), t.heap = H1 → s.vm.Alike t.vm → px u → BX E u t → H.size ≤ H1.size → (∀ q : Nat, q < H.size → ¬ AX q → H1[q]? = H[q]?) → va_S A0 H0 H1 locs1 → H1[q9]? = some ce → ce.vm = .none → s.vm.findClass E = some ce.cls → vx_W p l e R s m args below meth c H1 locs1 (cells + mc) (slots + ms) Q (F0 m pc ls rest) q9)
    (kk : ∀ (r : Int32) (u : S) (t : State) (H1 : Heap) (locs1 : List Loc), t.heap = H1 → s.vm.Alike t.vm → post r u → B u t → H.size ≤ H1.size → (∀ q : Nat, q < H.size → ¬ A1 q → H1[q]? = H[q]?) → va_S A0 H0 H1 locs1 → W p l e R s m args below meth c H1 locs1 (cells + mc) (slots + ms) Q (F0 m (pc + 3) ls (.int r :: rest))) : W p l e R s m args below meth c H locs cells slots Q (F0 m pc ls st0) := by
  intro T hT X
  rcases hr T hT X with ⟨v, st₀, t, T', L, h0, X', hL, e1, e2, ⟨⟨r, u, hv, hp, hb⟩, hF⟩, st⟩ | ⟨q, st₀, t, T', L, E, ce, h0, X', hL, e1, e2, ⟨u, hp, hb, hF⟩, hce, hcv, hcl, st⟩
  · cases hv
    obtain ⟨k1, k2, k3⟩ := vx_keep h0 e1 hS hA hf hL hF
    obtain ⟨t2, a1, b1⟩ := kk r u t T'.heap (locs ++ L) e1.symm (by rw [← e2]; exact X'.warmed.alike) hp hb k1 k2 k3 T' rfl X'
    exact ⟨t2, st t2 a1, b1⟩
  · obtain ⟨k1, k2, k3⟩ := vx_keep h0 e1 hS hAX hf hL hF
    obtain ⟨t2, a1, b1⟩ := kx E ce q u t T'.heap (locs ++ L) e1.symm (by rw [← e2]; exact X'.warmed.alike) hp hb k1 k2 k3 (by rw [e1]; exact hce) hcv hcl T' rfl X'
    exact ⟨t2, st.trans a1, b1⟩
theorem vx_calll {S SX : Type} {post : Int64 → S → Prop} {px : SX → Prop} {B : S → State → Prop} {BX : String → SX → State → Prop} {AX : Nat → Prop} (hr : vx_Run p l e R s m args below meth c H locs cells slots mc ms (F0 m pc ls st0) rest (va_Ql post B A1 a) (vx_X px BX AX) free) (hS : va_S A0 H0 H locs) (hA : ∀ q, q < H.size → A1 q → A0 q) (hf : ∀ q, free q → A0 q) (hAX : ∀ q, q < H.size → AX q → A0 q)
    (kx : ∀ (E : String) (ce : Cell) (q9 : Addr) (u : SX) (t : State) (H1 : Heap) (locs1 : List Loc), t.heap = H1 → s.vm.Alike t.vm → px u → BX E u t → H.size ≤ H1.size → (∀ q : Nat, q < H.size → ¬ AX q → H1[q]? = H[q]?) → va_S A0 H0 H1 locs1 → H1[q9]? = some ce → ce.vm = .none → s.vm.findClass E = some ce.cls → vx_W p l e R s m args below meth c H1 locs1 (cells + mc) (slots + ms) Q (F0 m pc ls rest) q9)
    (kk : ∀ (r : Int64) (u : S) (t : State) (H1 : Heap) (locs1 : List Loc), t.heap = H1 → s.vm.Alike t.vm → post r u → B u t → H.size ≤ H1.size → (∀ q : Nat, q < H.size → ¬ A1 q → H1[q]? = H[q]?) → va_S A0 H0 H1 locs1 → W p l e R s m args below meth c H1 locs1 (cells + mc) (slots + ms) Q (F0 m (pc + 3) ls (.long r :: rest))) : W p l e R s m args below meth c H locs cells slots Q (F0 m pc ls st0) := by
  intro T hT X
  rcases hr T hT X with ⟨v, st₀, t, T', L, h0, X', hL, e1, e2, ⟨⟨r, u, hv, hp, hb⟩, hF⟩, st⟩ | ⟨q, st₀, t, T', L, E, ce, h0, X', hL, e1, e2, ⟨u, hp, hb, hF⟩, hce, hcv, hcl, st⟩
  · cases hv
    obtain ⟨k1, k2, k3⟩ := vx_keep h0 e1 hS hA hf hL hF
    obtain ⟨t2, a1, b1⟩ := kk r u t T'.heap (locs ++ L) e1.symm (by rw [← e2]; exact X'.warmed.alike) hp hb k1 k2 k3 T' rfl X'
    exact ⟨t2, st t2 a1, b1⟩
  · obtain ⟨k1, k2, k3⟩ := vx_keep h0 e1 hS hAX hf hL hF
    obtain ⟨t2, a1, b1⟩ := kx E ce q u t T'.heap (locs ++ L) e1.symm (by rw [← e2]; exact X'.warmed.alike) hp hb k1 k2 k3 (by rw [e1]; exact hce) hcv hcl T' rfl X'
    exact ⟨t2, st.trans a1, b1⟩
theorem vx_callf {S SX : Type} {post : UInt32 → S → Prop} {px : SX → Prop} {B : S → State → Prop} {BX : String → SX → State → Prop} {AX : Nat → Prop} (hr : vx_Run p l e R s m args below meth c H locs cells slots mc ms (F0 m pc ls st0) rest (va_Qf post B A1 a) (vx_X px BX AX) free) (hS : va_S A0 H0 H locs) (hA : ∀ q, q < H.size → A1 q → A0 q) (hf : ∀ q, free q → A0 q) (hAX : ∀ q, q < H.size → AX q → A0 q)
    (kx : ∀ (E : String) (ce : Cell) (q9 : Addr) (u : SX) (t : State) (H1 : Heap) (locs1 : List Loc), t.heap = H1 → s.vm.Alike t.vm → px u → BX E u t → H.size ≤ H1.size → (∀ q : Nat, q < H.size → ¬ AX q → H1[q]? = H[q]?) → va_S A0 H0 H1 locs1 → H1[q9]? = some ce → ce.vm = .none → s.vm.findClass E = some ce.cls → vx_W p l e R s m args below meth c H1 locs1 (cells + mc) (slots + ms) Q (F0 m pc ls rest) q9)
    (kk : ∀ (r : UInt32) (u : S) (t : State) (H1 : Heap) (locs1 : List Loc), t.heap = H1 → s.vm.Alike t.vm → post r u → B u t → H.size ≤ H1.size → (∀ q : Nat, q < H.size → ¬ A1 q → H1[q]? = H[q]?) → va_S A0 H0 H1 locs1 → W p l e R s m args below meth c H1 locs1 (cells + mc) (slots + ms) Q (F0 m (pc + 3) ls (.float r :: rest))) : W p l e R s m args below meth c H locs cells slots Q (F0 m pc ls st0) := by
  intro T hT X
  rcases hr T hT X with ⟨v, st₀, t, T', L, h0, X', hL, e1, e2, ⟨⟨r, u, hv, hp, hb⟩, hF⟩, st⟩ | ⟨q, st₀, t, T', L, E, ce, h0, X', hL, e1, e2, ⟨u, hp, hb, hF⟩, hce, hcv, hcl, st⟩
  · cases hv
    obtain ⟨k1, k2, k3⟩ := vx_keep h0 e1 hS hA hf hL hF
    obtain ⟨t2, a1, b1⟩ := kk r u t T'.heap (locs ++ L) e1.symm (by rw [← e2]; exact X'.warmed.alike) hp hb k1 k2 k3 T' rfl X'
    exact ⟨t2, st t2 a1, b1⟩
  · obtain ⟨k1, k2, k3⟩ := vx_keep h0 e1 hS hAX hf hL hF
    obtain ⟨t2, a1, b1⟩ := kx E ce q u t T'.heap (locs ++ L) e1.symm (by rw [← e2]; exact X'.warmed.alike) hp hb k1 k2 k3 (by rw [e1]; exact hce) hcv hcl T' rfl X'
    exact ⟨t2, st.trans a1, b1⟩
theorem vx_calld {S SX : Type} {post : UInt64 → S → Prop} {px : SX → Prop} {B : S → State → Prop} {BX : String → SX → State → Prop} {AX : Nat → Prop} (hr : vx_Run p l e R s m args below meth c H locs cells slots mc ms (F0 m pc ls st0) rest (va_Qd post B A1 a) (vx_X px BX AX) free) (hS : va_S A0 H0 H locs) (hA : ∀ q, q < H.size → A1 q → A0 q) (hf : ∀ q, free q → A0 q) (hAX : ∀ q, q < H.size → AX q → A0 q)
    (kx : ∀ (E : String) (ce : Cell) (q9 : Addr) (u : SX) (t : State) (H1 : Heap) (locs1 : List Loc), t.heap = H1 → s.vm.Alike t.vm → px u → BX E u t → H.size ≤ H1.size → (∀ q : Nat, q < H.size → ¬ AX q → H1[q]? = H[q]?) → va_S A0 H0 H1 locs1 → H1[q9]? = some ce → ce.vm = .none → s.vm.findClass E = some ce.cls → vx_W p l e R s m args below meth c H1 locs1 (cells + mc) (slots + ms) Q (F0 m pc ls rest) q9)
    (kk : ∀ (r : UInt64) (u : S) (t : State) (H1 : Heap) (locs1 : List Loc), t.heap = H1 → s.vm.Alike t.vm → post r u → B u t → H.size ≤ H1.size → (∀ q : Nat, q < H.size → ¬ A1 q → H1[q]? = H[q]?) → va_S A0 H0 H1 locs1 → W p l e R s m args below meth c H1 locs1 (cells + mc) (slots + ms) Q (F0 m (pc + 3) ls (.double r :: rest))) : W p l e R s m args below meth c H locs cells slots Q (F0 m pc ls st0) := by
  intro T hT X
  rcases hr T hT X with ⟨v, st₀, t, T', L, h0, X', hL, e1, e2, ⟨⟨r, u, hv, hp, hb⟩, hF⟩, st⟩ | ⟨q, st₀, t, T', L, E, ce, h0, X', hL, e1, e2, ⟨u, hp, hb, hF⟩, hce, hcv, hcl, st⟩
  · cases hv
    obtain ⟨k1, k2, k3⟩ := vx_keep h0 e1 hS hA hf hL hF
    obtain ⟨t2, a1, b1⟩ := kk r u t T'.heap (locs ++ L) e1.symm (by rw [← e2]; exact X'.warmed.alike) hp hb k1 k2 k3 T' rfl X'
    exact ⟨t2, st t2 a1, b1⟩
  · obtain ⟨k1, k2, k3⟩ := vx_keep h0 e1 hS hAX hf hL hF
    obtain ⟨t2, a1, b1⟩ := kx E ce q u t T'.heap (locs ++ L) e1.symm (by rw [← e2]; exact X'.warmed.alike) hp hb k1 k2 k3 (by rw [e1]; exact hce) hcv hcl T' rfl X'
    exact ⟨t2, st.trans a1, b1⟩
theorem vx_callv {S SX : Type} {post : S → Prop} {px : SX → Prop} {B : S → State → Prop} {BX : String → SX → State → Prop} {AX : Nat → Prop} (hr : vx_Run p l e R s m args below meth c H locs cells slots mc ms (F0 m pc ls st0) rest (va_Qv post B A1 a) (vx_X px BX AX) free) (hS : va_S A0 H0 H locs) (hA : ∀ q, q < H.size → A1 q → A0 q) (hf : ∀ q, free q → A0 q) (hAX : ∀ q, q < H.size → AX q → A0 q)
    (kx : ∀ (E : String) (ce : Cell) (q9 : Addr) (u : SX) (t : State) (H1 : Heap) (locs1 : List Loc), t.heap = H1 → s.vm.Alike t.vm → px u → BX E u t → H.size ≤ H1.size → (∀ q : Nat, q < H.size → ¬ AX q → H1[q]? = H[q]?) → va_S A0 H0 H1 locs1 → H1[q9]? = some ce → ce.vm = .none → s.vm.findClass E = some ce.cls → vx_W p l e R s m args below meth c H1 locs1 (cells + mc) (slots + ms) Q (F0 m pc ls rest) q9)
    (kk : ∀ (u : S) (t : State) (H1 : Heap) (locs1 : List Loc), t.heap = H1 → s.vm.Alike t.vm → post u → B u t → H.size ≤ H1.size → (∀ q : Nat, q < H.size → ¬ A1 q → H1[q]? = H[q]?) → va_S A0 H0 H1 locs1 → W p l e R s m args below meth c H1 locs1 (cells + mc) (slots + ms) Q (F0 m (pc + 3) ls (rest))) : W p l e R s m args below meth c H locs cells slots Q (F0 m pc ls st0) := by
  intro T hT X
  rcases hr T hT X with ⟨v, st₀, t, T', L, h0, X', hL, e1, e2, ⟨⟨u, hv, hp, hb⟩, hF⟩, st⟩ | ⟨q, st₀, t, T', L, E, ce, h0, X', hL, e1, e2, ⟨u, hp, hb, hF⟩, hce, hcv, hcl, st⟩
  · cases hv
    obtain ⟨k1, k2, k3⟩ := vx_keep h0 e1 hS hA hf hL hF
    obtain ⟨t2, a1, b1⟩ := kk u t T'.heap (locs ++ L) e1.symm (by rw [← e2]; exact X'.warmed.alike) hp hb k1 k2 k3 T' rfl X'
    exact ⟨t2, st t2 a1, b1⟩
  · obtain ⟨k1, k2, k3⟩ := vx_keep h0 e1 hS hAX hf hL hF
    obtain ⟨t2, a1, b1⟩ := kx E ce q u t T'.heap (locs ++ L) e1.symm (by rw [← e2]; exact X'.warmed.alike) hp hb k1 k2 k3 (by rw [e1]; exact hce) hcv hcl T' rfl X'
    exact ⟨t2, st.trans a1, b1⟩
/-- caught by the row x of this method's table; the rows ahead don't take it -/
theorem vx_catch {own name : String} {E : String} {ce : Cell} {q : Addr} (hown : s.vm.findClass own = some m.cls) (pre : List ExceptionTableEntry) (x : ExceptionTableEntry) (suf : List ExceptionTableEntry) (hsplit : c.exceptionTable.toList = pre ++ x :: suf)
    (hpass : ∀ z ∈ pre, covers z pc = false ∨ (z.catchType ≠ 0 ∧ ∃ nm : String, (Cond.classLink own z.catchType nm).before args s = true ∧ va_Nc E nm s)) (hx : covers x pc = true) (h0 : x.catchType ≠ 0)
    (hlink : (Cond.classLink own x.catchType name).before args s = true) (hcast : (Cond.castable E name).before args s = true) (hcell : H[q]? = some ce) (hv : ce.vm = .none) (hcl : s.vm.findClass E = some ce.cls)
    (kk : W p l e R s m args below meth c H locs cells slots Q (F0 m x.handlerPc ls [.ref q])) : vx_W p l e R s m args below meth c H locs cells slots Q (F0 m pc ls rest) q := by
  intro T hT X
  have hpl : e.platform.magicAccessors = ({} : Platform).magicAccessors := by rw [X.admits.platform]
  obtain ⟨c3, c4, hc3, hc4, hasg⟩ := Cond.castable_spec hcast
  cases Option.some.inj (hc3.symm.trans hcl)
  obtain ⟨c5, hc5, hcl5⟩ := Cond.classLink_spec hown hlink e.platform hpl
  cases Option.some.inj (hc4.symm.trans hc5)
  obtain ⟨vm', X', st⟩ := X.thenCaughtThrough q (g := F0 m pc ls rest) rfl (Steps.refl _) (by rw [hT]; exact hcell) (by rw [hv]; rfl) (by obtain ⟨k9, h9, -⟩ := Vm.findClass_spec hcl; exact ⟨k9, h9⟩) pre x suf hsplit
    (fun z hz => by
      rcases hpass z hz with h | ⟨hz0, nm, hl1, hn1⟩
      · exact Or.inl h
      · obtain ⟨c6, hc6, hcl6⟩ := Cond.classLink_spec hown hl1 e.platform hpl
        obtain ⟨a8, b8, h1, h2, h3⟩ := hn1
        cases Option.some.inj (h1.symm.trans hcl)
        cases Option.some.inj (h2.symm.trans hc6)
        exact Or.inr ⟨hz0, _, hcl6, h3⟩) hx (Or.inr ⟨h0, c4, hcl5, hasg⟩)
  obtain ⟨t, a1, b1⟩ := kk (T.setVm vm') hT X'
  exact ⟨t, st.trans a1, b1⟩
end Rows
section Ends
variable {p : Program} {l : Launch} {e : Env} {R : Room} {s : State} {m : MethodId} {args : Array Value} {below : List Frame} {meth : Method} {c : Code} {H : Heap} {locs : List Loc} {cells slots : Nat} {Q : State → Prop}
variable {mc ms : Nat} {free : Addr → Prop} {A0 A1 : Nat → Prop} {H0 : Heap} {a : Array Value} {ls : Array Slot} {st0 rest : List Value}
variable {Qc : Array Value → State → Outcome → State → Prop} {XC : String → State → State → Prop}
/-- what a body that may throw owes at its end -/
def vx_MQ (below : List Frame) (Qc : Array Value → State → Outcome → State → Prop) (XC : String → State → State → Prop) (a : Array Value) (s : State) (mc ms : Nat) (free : Addr → Prop) : State → Prop := fun t =>
  ∃ o, t.status = .running ∧ Ended t below o ∧ vx_Q Qc XC mc ms free a s o t
theorem vx_ret {g : JFrame} {mc ms : Nat} (k : W p l e R s m args below meth c H locs cells slots (MQ below Qc args s mc ms free) g) : W p l e R s m args below meth c H locs cells slots (vx_MQ below Qc XC args s mc ms free) g := by
  intro T hT X
  obtain ⟨t, a1, o, b1, b2, b3, b4⟩ := k T hT X
  exact ⟨t, a1, o, b1, b2, Or.inl ⟨b3, b4⟩⟩
/-- not caught here: it goes on to the caller -/
theorem vx_widen {g : JFrame} {q : Addr} {k n : Nat} (h1 : cells ≤ k) (h2 : slots ≤ n) (kk : vx_W p l e R s m args below meth c H locs k n Q g q) : vx_W p l e R s m args below meth c H locs cells slots Q g q := fun T hT X => kk T hT (stand_widen X h1 h2)
theorem vx_out {pc : Nat} {E : String} {ce : Cell} {q : Addr} {mc ms : Nat} (hout : ∀ x ∈ c.exceptionTable.toList, covers x pc = false) (hlocks : meth.locks = false) (hcell : H[q]? = some ce) (hv : ce.vm = .none) (hcl : s.vm.findClass E = some ce.cls)
    (hx : ∀ t : State, t.heap = H → s.vm.Alike t.vm → XC E s t) (hf : ∀ z ∈ locs, free z.base) (hc : cells ≤ mc) (hs : slots ≤ ms) :
    vx_W p l e R s m args below meth c H locs cells slots (vx_MQ below Qc XC args s mc ms free) (F0 m pc ls rest) q := by
  intro T hT X
  obtain ⟨st1, hrun, hend, hW, hsm⟩ := X.leaveThrown q (g := F0 m pc ls rest) rfl rfl rfl hout hlocks
  have hcell9 : (T.setFrames (.throwing q :: below)).heap[q]? = some ce := by
    show T.heap[q]? = some ce
    rw [hT]; exact hcell
  exact ⟨_, st1, .threw q, hrun, hend, Or.inr ⟨q, rfl, E, ce, locs, hx _ hT hW.alike, hcell9, hv, hcl, hW, hsm.mono hc hs, hf⟩⟩
theorem vx_frame {U : State} {k n : Nat} (h : s.sameButNew ({ U with vm := s.vm } : State) locs k n) : s.heap.size ≤ U.heap.size ∧ ∀ q : Nat, q < s.heap.size → (∀ z ∈ locs, z.base ≠ q) → U.heap[q]? = s.heap[q]? := by
  obtain ⟨-, h2, -, -, -, h6⟩ := h
  refine ⟨h2, fun q hq hz => ?_⟩
  obtain ⟨c9, e1, e2, e3, e4⟩ := h6 q _ (Array.getElem?_eq_getElem hq)
  have hs : c9.slots = (s.heap[q]).slots := Array.ext_getElem? fun i => e4 i fun hm => hz _ hm rfl
  have h9 : c9 = s.heap[q] := by
    rw [hs] at e2
    exact e2
  have e5 : U.heap[q]? = some c9 := e1
  rw [e5, h9, Array.getElem?_eq_getElem hq]
/-- the words of a throw but the four that speak of the heap -/
def vx_no (w : Cond) : Bool := decide (w ≠ .isRef (.static Bundle.tN "UNASSIGNED_STACK" Bundle.steD)) && decide (w ≠ .isRef (.static Bundle.tN "SUPPRESSED_SENTINEL" Bundle.listD)) && decide (w ≠ .laysStatic Bundle.tN "UNASSIGNED_STACK" Bundle.steD) && decide (w ≠ .laysStatic Bundle.tN "SUPPRESSED_SENTINEL" Bundle.listD)
def vx_at0 (own : String) (ic : Nat) (X : String) (names : List String) : List Cond := (Bundle.ownAtoms0 own ic X names).filter vx_no
def vx_atS (own : String) (ic : Nat) (X : String) (names : List String) : List Cond := (Bundle.ownAtoms own ic X names).filter vx_no
/-- a word that the tables alone decide, or a good one -/
def vx_ot (w : Cond) : Bool := w.onTables || goodWord w
theorem vx_ot_at {args a' : Array Value} {s U : State} {w : Cond} (hW : s.WarmedH U.vm) (hvm : s.vm = U.vm) (hg : vx_ot w = true) (h : w.before args s = true) : w.before a' U = true := by
  simp only [vx_ot, Bool.or_eq_true] at hg
  rcases hg with hg | hg
  · exact va_tabs hg hvm h
  · exact word_at hW (good_of_word hg) h
/-- a list's words: the good ones out of the method's own list, the others by premises of their own -/
theorem vx_hat {args : Array Value} {s : State} {L B : List Cond} (h1 : ∀ w ∈ L.filter goodWord, w.before args s = true) (h2 : ∀ w ∈ L.filter (fun w => !goodWord w), w ∈ B) (h3 : ∀ w ∈ B, w.before args s = true) : ∀ w ∈ L, w.before args s = true := by
  intro w hw
  by_cases g : goodWord w = true
  · exact h1 w (List.mem_filter.mpr ⟨hw, g⟩)
  · refine h3 w (h2 w (List.mem_filter.mpr ⟨hw, ?_⟩))
    show (!goodWord w) = true
    cases hgw : goodWord w
    · rfl
    · exact absurd hgw g
theorem vx_c {args : Array Value} {s : State} {w : Cond} {B : List Cond} (h : w.before args s = true) (t : ∀ w ∈ B, w.before args s = true) : ∀ w' ∈ w :: B, w'.before args s = true := fun w' h' => (List.mem_cons.mp h').elim (fun e => by rw [e]; exact h) (t w')
theorem vx_n {args : Array Value} {s : State} : ∀ w ∈ ([] : List Cond), w.before args s = true := fun _ h => nomatch h
theorem vx_own {args : Array Value} {s : State} {L : List Cond} (h1 : ∀ w ∈ L.filter vx_no, w.before args s = true)
    (hU : (Cond.isRef (.static Bundle.tN "UNASSIGNED_STACK" Bundle.steD)).before args s = true) (hN : (Cond.isRef (.static Bundle.tN "SUPPRESSED_SENTINEL" Bundle.listD)).before args s = true)
    (lU : (Cond.laysStatic Bundle.tN "UNASSIGNED_STACK" Bundle.steD).before args s = true) (lN : (Cond.laysStatic Bundle.tN "SUPPRESSED_SENTINEL" Bundle.listD).before args s = true) : ∀ w ∈ L, w.before args s = true := by
  intro w hw
  by_cases e1 : w = .isRef (.static Bundle.tN "UNASSIGNED_STACK" Bundle.steD)
  · rw [e1]; exact hU
  · by_cases e2 : w = .isRef (.static Bundle.tN "SUPPRESSED_SENTINEL" Bundle.listD)
    · rw [e2]; exact hN
    · by_cases e3 : w = .laysStatic Bundle.tN "UNASSIGNED_STACK" Bundle.steD
      · rw [e3]; exact lU
      · by_cases e4 : w = .laysStatic Bundle.tN "SUPPRESSED_SENTINEL" Bundle.listD
        · rw [e4]; exact lN
        · exact h1 w (List.mem_filter.mpr ⟨hw, by unfold vx_no; rw [decide_eq_true e1, decide_eq_true e2, decide_eq_true e3, decide_eq_true e4]; rfl⟩)
/-- where a static field lies, its class's statics cell in H -/
def vx_L (C n d : String) (A : Nat → Prop) (U : State) (H : Heap) : Prop := ∃ (c : ClassId) (k : Class) (i : Nat) (f : Field) (a : Nat) (cell : Cell), U.vm.findClass C = some c ∧ U.fieldFound? C n d = some (c, k, i, f) ∧ f.isStatic = true ∧ k.statics = some a ∧ H[a]? = some cell ∧ cell.vm.isStatics = true ∧ cell.cls = c ∧ f.slot < cell.slots.size ∧ k.staticTypes[f.slot]? = some f.type ∧ ¬ A a
theorem vx_L.moved {C n d : String} {A : Nat → Prop} {u U : State} {H : Heap} (hvm : u.vm.Alike U.vm) (h : vx_L C n d A u H) : vx_L C n d A U H := by
  obtain ⟨c, k, i, f, a, cell, h1, h2, h3, h4, h5, h6, h7, h8, h9, h10⟩ := h
  obtain ⟨k', hi', he⟩ := State.fieldFound?_setVm hvm h2
  exact ⟨c, k', i, f, a, cell, by rw [hvm.findClass]; exact h1, hi', h3, by rw [he]; exact h4, h5, h6, h7, h8, by rw [he]; exact h9, h10⟩
theorem vx_L.kept {C n d : String} {A : Nat → Prop} {U : State} {H H1 : Heap} (h : vx_L C n d A U H) (hq : ∀ a : Nat, a < H.size → ¬ A a → H1[a]? = H[a]?) : vx_L C n d A U H1 := by
  obtain ⟨c, k, i, f, a, cell, h1, h2, h3, h4, h5, h6, h7, h8, h9, h10⟩ := h
  exact ⟨c, k, i, f, a, cell, h1, h2, h3, h4, by rw [hq a (Array.getElem?_eq_some_iff.mp h5).1 h10]; exact h5, h6, h7, h8, h9, h10⟩
theorem vx_L.narrow {C n d : String} {A B : Nat → Prop} {U : State} {H : Heap} (h : vx_L C n d A U H) (hAB : ∀ q, B q → A q) : vx_L C n d B U H := by
  obtain ⟨c, k, i, f, a, cell, h1, h2, h3, h4, h5, h6, h7, h8, h9, h10⟩ := h
  exact ⟨c, k, i, f, a, cell, h1, h2, h3, h4, h5, h6, h7, h8, h9, fun z => h10 (hAB _ z)⟩
theorem vx_L.word {C n d : String} {A : Nat → Prop} {s : State} {args : Array Value} (h : vx_L C n d A s s.heap) : (Cond.laysStatic C n d).before args s = true := by
  obtain ⟨c, k, i, f, a, cell, h1, h2, h3, h4, h5, h6, h7, h8, h9, -⟩ := h
  show (Cond.laysStatic C n d).holds args s none s [] = true
  exact Cond.laysStatic_of h1 h2 h3 h4 h5 h6 h7 h8 h9
/-- .. and what it holds: null or some reference -/
def vx_Zq (C n d : String) (A : Nat → Prop) (U : State) (H : Heap) : Prop := va_Zq C n d A U H ∧ vx_L C n d A U H
theorem vx_Zq.moved {C n d : String} {A : Nat → Prop} {u U : State} {H : Heap} (hvm : u.vm.Alike U.vm) (h : vx_Zq C n d A u H) : vx_Zq C n d A U H := ⟨va_Zq.moved hvm h.1, vx_L.moved hvm h.2⟩
theorem vx_Zq.kept {C n d : String} {A : Nat → Prop} {U : State} {H H1 : Heap} (h : vx_Zq C n d A U H) (hq : ∀ a : Nat, a < H.size → ¬ A a → H1[a]? = H[a]?) : vx_Zq C n d A U H1 := ⟨va_Zq.kept h.1 hq, vx_L.kept h.2 hq⟩
theorem vx_Zq.narrow {C n d : String} {A B : Nat → Prop} {U : State} {H : Heap} (h : vx_Zq C n d A U H) (hAB : ∀ q, B q → A q) : vx_Zq C n d B U H := ⟨va_Zq.narrow h.1 hAB, vx_L.narrow h.2 hAB⟩
theorem vx_Zqof {args : Array Value} {s : State} {C n d : String} {A : Nat → Prop} (hl : (Cond.laysStatic C n d).before args s = true) (hini : (Cond.initialized C).before args s = true) (h : (Cond.isRef (.static C n d)).before args s = true) (hA : ∀ a : Nat, a < s.heap.size → ¬ A a) : vx_Zq C n d A s s.heap := by
  refine ⟨va_Zqof hl hini h hA, ?_⟩
  obtain ⟨c, k, i, f, a, cell, h1, h2, h3, h4, h5, h6, h7, h8, h9⟩ := Cond.laysStatic_spec hl
  exact ⟨c, k, i, f, a, cell, h1, h2, h3, h4, h5, h6, h7, h8, h9, hA a (Array.getElem?_eq_some_iff.mp h5).1⟩
theorem vx_isRef {C n d : String} {v : Value} {A : Nat → Prop} {s : State} {args : Array Value} (h : va_Z C n d v A s s.heap) (hv : v.isRef = true) : (Cond.isRef (.static C n d)).before args s = true := by
  obtain ⟨cf, kf, fi, f, a, cell, h1, h2, h3, h4, h5, h6, h7, -⟩ := h
  have he : (Term.static C n d).eval args s none [] s = some v := by
    simp [Term.eval, State.fieldNamed?, h1, h2, h4, h5, h6, h7]
  simp only [Cond.before, Cond.holds, Cond.value, he]
  cases v <;> simp_all [Value.isRef]
theorem vx_isRefq {C n d : String} {A : Nat → Prop} {s : State} {args : Array Value} (h : va_Zq C n d A s s.heap) : (Cond.isRef (.static C n d)).before args s = true := by
  rcases h with h | ⟨t, h⟩
  · exact vx_isRef h rfl
  · exact vx_isRef h rfl
/-- the same frame, seen from here: as if the method were called anew in this heap -/
theorem vx_rebase {T : State} (X : Stand p l e R s m args below meth c T locs cells slots) {R' : Room} (hf : R'.frames ≤ R.frames) (hl : R'.locals ≤ R.locals) (hc : cells + R'.cells ≤ R.cells) (hs : slots + R'.slots ≤ R.slots) :
    Stand p l e R' ((T.setVm s.vm).setFrames (.invoking m args :: below)) m args below meth c T [] 0 0 := by
  have htop : (T.setVm s.vm).topJava?.isSome := X.here.top
  have hF : ((T.setVm s.vm).setFrames (.invoking m args :: below)).frames = .invoking m args :: below := State.frames_setFrames _ (State.cur_lt_of_top htop)
  obtain ⟨g₀, hg0⟩ := Option.isSome_iff_exists.mp htop
  obtain ⟨r, hr⟩ := State.topJava?_eq_some.mp hg0
  have hl9 : e.platform.stackLimits (T.setVm s.vm).me = e.platform.stackLimits s.me := X.limits
  have hb9 : (T.setVm s.vm).me.stackBytes = s.me.stackBytes := X.bytes
  refine ⟨X.admits, X.cas, X.clock, hF, ?_, X.hears, X.method, X.code, X.here, X.tail, X.warmed, ?_, ?_, ?_⟩
  · have h := X.room
    have hU : ((T.setVm s.vm).setFrames (.invoking m args :: below)).localsInUse = s.localsInUse := by
      rw [State.localsInUse_invoking hF (meth := meth) (c := c) X.method X.code, State.localsInUse_invoking X.frames X.method X.code]
    simp only [State.hasRoom, Bool.and_eq_true, decide_eq_true_eq] at h ⊢
    obtain ⟨⟨⟨⟨h1, h2, h3, h4, h5, h6⟩, h7⟩, h8⟩, h9⟩ := h
    rw [X.frames, List.length_cons] at h2 h3
    have q1 := X.heapSize
    have q2 := X.used
    simp only [hF, hU, List.length_cons, State.stackLimits_setFrames, State.stackBytes_setFrames, hl9, hb9]
    refine ⟨⟨⟨⟨by omega, by omega, by omega, by omega, by omega, h6⟩, ?_⟩, ?_⟩, X.book⟩
    · show T.heap.size + R'.cells ≤ e.platform.maxCells
      omega
    · show T.slotsUsed + R'.slots ≤ e.platform.maxSlots
      omega
  · rw [State.stackLimits_setFrames]; rfl
  · rw [State.stackBytes_setFrames]; rfl
  · refine ⟨?_, Nat.le_refl _, Nat.le_refl _, ?_, ?_, fun a c9 h9 => ⟨c9, h9, rfl, rfl, fun _ _ => rfl⟩⟩
    · obtain ⟨t, ht, -⟩ := State.frames_cons hr
      show T.setVm s.vm = { ((T.setVm s.vm).setFrames (.invoking m args :: below)).setFrames (T.setVm s.vm).frames with heap := T.heap, slotsUsed := T.slotsUsed }
      rw [State.setFrames_setFrames, State.setFrames_self ht]
      rfl
    · show T.slotsUsed = T.slotsUsed + ((T.heap.toList.drop T.heap.size).map (·.slots.size)).sum
      rw [List.drop_eq_nil_of_le (Nat.le_of_eq Array.length_toList)]
      rfl
    · show ((T.heap.toList.drop T.heap.size).map (·.slots.size)).sum ≤ 0
      rw [List.drop_eq_nil_of_le (Nat.le_of_eq Array.length_toList)]
      exact Nat.le_refl _
/-- 'throw new E()': new; dup; invokespecial; athrow -/
theorem vx_throw0 {cc : ByteArray} {pc : Nat} (hexec : p.tables.exec = Jvm.exec) (hb : c.code = cc) (hl : l.stackTraces = false) {own cls : String} {names : List String} {ik ic mc ms : Nat} {A : Nat → Prop}
    (hown : s.vm.findClass own = some m.cls) (hcls : Bundle.fit cls = true) (hnames : ∀ n ∈ names, Bundle.fit n = true)
    (hk : (Cond.classLink own ik cls).before args s = true) (hini : (Cond.initialized cls).before args s = true) (hat : ∀ w ∈ vx_at0 own ic cls names, w.before args s = true)
    (hgood : ∀ w ∈ Cond.classLink own ik cls :: Cond.initialized cls :: vx_at0 own ic cls names, vx_ot w = true)
    (hU : vx_Zq Bundle.tN "UNASSIGNED_STACK" Bundle.steD A s s.heap) (hN : vx_Zq Bundle.tN "SUPPRESSED_SENTINEL" Bundle.listD A s s.heap) (hS : va_S A s.heap H locs) (hsize : ls.size = c.maxLocals)
    (d0 : decode cc pc = .ok (.new ik, 3)) (d3 : decode cc (pc + 3) = .ok (.dup, 1)) (d4 : decode cc (pc + 4) = .ok (.invokespecial ic, 3)) (d7 : decode cc (pc + 7) = .ok (.athrow, 1))
    (hout : ∀ x ∈ c.exceptionTable.toList, covers x (pc + 7) = false)
    (hRframes : names.length + 3 < R.frames) (hRlocals : (rest.map fun v => v.category).sum + (13 * (names.length + 1) + 42) ≤ R.locals) (hRcells : cells + 1 ≤ R.cells) (hRslots : slots + 6 ≤ R.slots) (hlocks : meth.locks = false)
    (hx : ∀ t : State, s.vm.Alike t.vm → H.size ≤ t.heap.size → (∀ q : Nat, q < H.size → t.heap[q]? = H[q]?) → XC cls s t)
    (hf : ∀ z ∈ locs, free z.base) (hc : cells + 1 ≤ mc) (hs : slots + 6 ≤ ms) :
    W p l e R s m args below meth c H locs cells slots (vx_MQ below Qc XC args s mc ms free) (F0 m pc ls rest) := by
  intro T hT X
  have htr : e.platform.stackTraces = false := (show e.platform.stackTraces = l.stackTraces by rw [X.admits.platform]).trans hl
  have Y := vx_rebase X (R' := { frames := R.frames, locals := R.locals, cells := 1, slots := 6 }) (Nat.le_refl _) (Nat.le_refl _) hRcells hRslots
  obtain ⟨s', hA⟩ : ∃ z, z = (T.setVm s.vm).setFrames (.invoking m args :: below) := ⟨_, rfl⟩
  rw [← hA] at Y
  have hvm : s'.vm = s.vm := by rw [hA]; rfl
  have hhp : s'.heap = H := by rw [hA]; exact hT
  have hW0 : s.WarmedH s'.vm := by rw [hvm]; exact State.WarmedH.refl s
  have hat' : ∀ w ∈ vx_at0 own ic cls names, w.before args s' = true := fun w hw => vx_ot_at hW0 hvm.symm (hgood w (List.mem_cons_of_mem _ (List.mem_cons_of_mem _ hw))) (hat w hw)
  have hk' : (Cond.classLink own ik cls).before args s' = true := vx_ot_at hW0 hvm.symm (hgood _ List.mem_cons_self) hk
  have hini' : (Cond.initialized cls).before args s' = true := vx_ot_at hW0 hvm.symm (hgood _ (List.mem_cons_of_mem _ List.mem_cons_self)) hini
  have hU' : vx_Zq Bundle.tN "UNASSIGNED_STACK" Bundle.steD A s' s'.heap := by rw [hhp]; exact vx_Zq.moved hW0.alike (hU.kept hS.2.1)
  have hN' : vx_Zq Bundle.tN "SUPPRESSED_SENTINEL" Bundle.listD A s' s'.heap := by rw [hhp]; exact vx_Zq.moved hW0.alike (hN.kept hS.2.1)
  have h : ∀ w ∈ Bundle.ownAtoms0 own ic cls names, w.before args s' = true := vx_own hat' (vx_isRefq hU'.1) (vx_isRefq hN'.1) hU'.2.word hN'.2.word
  have hown' : s'.vm.findClass own = some m.cls := by rw [hvm]; exact hown
  have hins : (Cond.instantiable cls 6).before args s' = true := h _ (by simp [Bundle.ownAtoms0])
  obtain ⟨vm₁, cX, kX, hfX, hkX, -, -, X₁, st1⟩ := Y.newCold hexec (own := own) (C := cls) (index := ik) (n := 6) hown' hk' hins hini'
    (g := F0 m pc ls rest) rfl (by rw [hb]; exact d0) (Nat.le_refl _) (Nat.le_refl _)
  generalize hT1 : (T.setVm vm₁).pushCell { cls := cX, slots := kX.instanceTypes.map defaultValue, vm := .none } = T1 at X₁ st1
  have hcat : (Value.ref T.heap.size).category = 1 := rfl
  have hcellA : T1.heap[T.heap.size]? = some (freshCell cX kX) := by rw [← hT1]; exact State.heap_pushCell_size _ _
  have d3' : decode c.code (pc + 3) = .ok (.dup, 1) := by rw [hb]; exact d3
  obtain ⟨U, hsteps, hrun, hend, hW, hsame, ce, hce, hO⟩ := X₁.ctorThrow0 hexec htr (own := own) (cls := cls) (names := names) (ic := ic) hown' hcls hnames h (fun x hx => nomatch hx) hfX hkX hcellA (by rw [hhp, hT]; exact Nat.le_refl _)
    (g := { method := m, pc := pc + 4, locals := ls, stack := .ref T.heap.size :: .ref T.heap.size :: rest, locked := none }) rfl hsize rfl rfl (rest := rest) rfl
    (by rw [hb]; exact d4) (by rw [hb]; exact d7) hout hRframes (by simp only [List.map_cons, List.sum_cons, hcat]; omega) hlocks
  obtain ⟨f1, f2⟩ := vx_frame hsame
  rw [hhp] at f1 f2
  have hWs : s.WarmedH U.vm := State.WarmedH.trans hW0 hW
  have hcl : s.vm.findClass cls = some ce.cls := by
    have h9 := hO.cls
    rw [hvm] at h9
    exact h9
  have hall : s.sameButNew ({ U with vm := s.vm } : State) locs mc ms := by
    subst hA
    obtain ⟨e1, e2⟩ := hsame
    rw [State.setFrames_setFrames] at e1
    have h2 : (T.setVm s.vm).sameButNew ({ U with vm := s.vm } : State) [] (0 + 1) (0 + 6) := ⟨e1, e2⟩
    have h3 := X.same.trans h2
    rw [List.append_nil] at h3
    exact h3.mono hc hs
  refine ⟨U, ?_, .threw T.heap.size, hrun, hend, Or.inr ⟨T.heap.size, rfl, cls, ce, locs, hx U hWs.alike f1 (fun q hq => f2 q hq (fun z hz => nomatch hz)), hce, hO.vm, hcl, hWs, hall, hf⟩⟩
  refine st1 _ ?_
  show Steps p.tables e below (T1.setTop { method := m, pc := pc + 3, locals := ls, stack := .ref T.heap.size :: rest, locked := none }) _
  jvm_step X₁.here [X₁.here.top, hexec, d3', Value.category]
  exact hsteps
/-- 'throw new E("text")': new; dup; ldc; invokespecial; athrow -/
theorem vx_throwS {cc : ByteArray} {pc : Nat} (hexec : p.tables.exec = Jvm.exec) (hb : c.code = cc) (hl : l.stackTraces = false) {own cls text : String} {names : List String} {ik is ic mc ms sa : Nat} {A : Nat → Prop}
    (hown : s.vm.findClass own = some m.cls) (hcls : Bundle.fit cls = true) (hnames : ∀ n ∈ names, Bundle.fit n = true)
    (hk : (Cond.classLink own ik cls).before args s = true) (hini : (Cond.initialized cls).before args s = true) (hstr : vk_R own is text sa s) (hat : ∀ w ∈ vx_atS own ic cls names, w.before args s = true)
    (hgood : ∀ w ∈ Cond.classLink own ik cls :: Cond.initialized cls :: vx_atS own ic cls names, vx_ot w = true)
    (hU : vx_Zq Bundle.tN "UNASSIGNED_STACK" Bundle.steD A s s.heap) (hN : vx_Zq Bundle.tN "SUPPRESSED_SENTINEL" Bundle.listD A s s.heap) (hS : va_S A s.heap H locs) (hsize : ls.size = c.maxLocals)
    (d0 : decode cc pc = .ok (.new ik, 3)) (d3 : decode cc (pc + 3) = .ok (.dup, 1)) (d4 : decode cc (pc + 4) = .ok (.ldc is, 2)) (d6 : decode cc (pc + 6) = .ok (.invokespecial ic, 3)) (d9 : decode cc (pc + 9) = .ok (.athrow, 1))
    (hout : ∀ x ∈ c.exceptionTable.toList, covers x (pc + 9) = false)
    (hRframes : names.length + 3 < R.frames) (hRlocals : (rest.map fun v => v.category).sum + (13 * (names.length + 1) + 43) ≤ R.locals) (hRcells : cells + 1 ≤ R.cells) (hRslots : slots + 6 ≤ R.slots) (hlocks : meth.locks = false)
    (hx : ∀ t : State, s.vm.Alike t.vm → H.size ≤ t.heap.size → (∀ q : Nat, q < H.size → t.heap[q]? = H[q]?) → XC cls s t)
    (hf : ∀ z ∈ locs, free z.base) (hc : cells + 1 ≤ mc) (hs : slots + 6 ≤ ms) :
    W p l e R s m args below meth c H locs cells slots (vx_MQ below Qc XC args s mc ms free) (F0 m pc ls rest) := by
  intro T hT X
  have htr : e.platform.stackTraces = false := (show e.platform.stackTraces = l.stackTraces by rw [X.admits.platform]).trans hl
  have Y := vx_rebase X (R' := { frames := R.frames, locals := R.locals, cells := 1, slots := 6 }) (Nat.le_refl _) (Nat.le_refl _) hRcells hRslots
  obtain ⟨s', hA⟩ : ∃ z, z = (T.setVm s.vm).setFrames (.invoking m args :: below) := ⟨_, rfl⟩
  rw [← hA] at Y
  have hvm : s'.vm = s.vm := by rw [hA]; rfl
  have hhp : s'.heap = H := by rw [hA]; exact hT
  have hW0 : s.WarmedH s'.vm := by rw [hvm]; exact State.WarmedH.refl s
  have hat' : ∀ w ∈ vx_atS own ic cls names, w.before args s' = true := fun w hw => vx_ot_at hW0 hvm.symm (hgood w (List.mem_cons_of_mem _ (List.mem_cons_of_mem _ hw))) (hat w hw)
  have hk' : (Cond.classLink own ik cls).before args s' = true := vx_ot_at hW0 hvm.symm (hgood _ List.mem_cons_self) hk
  have hini' : (Cond.initialized cls).before args s' = true := vx_ot_at hW0 hvm.symm (hgood _ (List.mem_cons_of_mem _ List.mem_cons_self)) hini
  have hU' : vx_Zq Bundle.tN "UNASSIGNED_STACK" Bundle.steD A s' s'.heap := by rw [hhp]; exact vx_Zq.moved hW0.alike (hU.kept hS.2.1)
  have hN' : vx_Zq Bundle.tN "SUPPRESSED_SENTINEL" Bundle.listD A s' s'.heap := by rw [hhp]; exact vx_Zq.moved hW0.alike (hN.kept hS.2.1)
  have h : ∀ w ∈ Bundle.ownAtoms own ic cls names, w.before args s' = true := vx_own hat' (vx_isRefq hU'.1) (vx_isRefq hN'.1) hU'.2.word hN'.2.word
  have hown' : s'.vm.findClass own = some m.cls := by rw [hvm]; exact hown
  have hins : (Cond.instantiable cls 6).before args s' = true := h _ (by simp [Bundle.ownAtoms])
  obtain ⟨vm₁, cX, kX, hfX, hkX, -, -, X₁, st1⟩ := Y.newCold hexec (own := own) (C := cls) (index := ik) (n := 6) hown' hk' hins hini'
    (g := F0 m pc ls rest) rfl (by rw [hb]; exact d0) (Nat.le_refl _) (Nat.le_refl _)
  generalize hT1 : (T.setVm vm₁).pushCell { cls := cX, slots := kX.instanceTypes.map defaultValue, vm := .none } = T1 at X₁ st1
  have hcat : (Value.ref T.heap.size).category = 1 := rfl
  have hcellA : T1.heap[T.heap.size]? = some (freshCell cX kX) := by rw [← hT1]; exact State.heap_pushCell_size _ _
  have d3' : decode c.code (pc + 3) = .ok (.dup, 1) := by rw [hb]; exact d3
  have d4' : decode c.code (pc + 4) = .ok (.ldc is, 2) := by rw [hb]; exact d4
  have hstr' : vk_R own is text sa s' := vk_R.warm hW0 hstr
  obtain ⟨U, hsteps, hrun, hend, hW, hsame, ce, hce, hO⟩ := X₁.ctorThrowS hexec htr (own := own) (cls := cls) (names := names) (ic := ic) hown' hcls hnames h (fun x hx => nomatch hx) hfX hkX hcellA (by rw [hhp, hT]; exact Nat.le_refl _) (msg := .ref sa) rfl
    (g := { method := m, pc := pc + 6, locals := ls, stack := .ref sa :: .ref T.heap.size :: .ref T.heap.size :: rest, locked := none }) rfl hsize rfl rfl (rest := rest) rfl
    (by rw [hb]; exact d6) (by rw [hb]; exact d9) hout hRframes (by simp only [List.map_cons, List.sum_cons, hcat]; omega) hlocks
  obtain ⟨f1, f2⟩ := vx_frame hsame
  rw [hhp] at f1 f2
  have hWs : s.WarmedH U.vm := State.WarmedH.trans hW0 hW
  have hcl : s.vm.findClass cls = some ce.cls := by
    have h9 := hO.cls
    rw [hvm] at h9
    exact h9
  have hall : s.sameButNew ({ U with vm := s.vm } : State) locs mc ms := by
    subst hA
    obtain ⟨e1, e2⟩ := hsame
    rw [State.setFrames_setFrames] at e1
    have h2 : (T.setVm s.vm).sameButNew ({ U with vm := s.vm } : State) [] (0 + 1) (0 + 6) := ⟨e1, e2⟩
    have h3 := X.same.trans h2
    rw [List.append_nil] at h3
    exact h3.mono hc hs
  refine ⟨U, ?_, .threw T.heap.size, hrun, hend, Or.inr ⟨T.heap.size, rfl, cls, ce, locs, hx U hWs.alike f1 (fun q hq => f2 q hq (fun z hz => nomatch hz)), hce, hO.vm, hcl, hWs, hall, hf⟩⟩
  refine st1 _ ?_
  show Steps p.tables e below (T1.setTop { method := m, pc := pc + 3, locals := ls, stack := .ref T.heap.size :: rest, locked := none }) _
  jvm_step X₁.here [X₁.here.top, hexec, d3', Value.category]
  exact X₁.ldcString hexec (own := own) (text := text) (index := is) (a := sa) hown' hstr'.1 hstr'.2
    (g := { method := m, pc := pc + 4, locals := ls, stack := .ref T.heap.size :: .ref T.heap.size :: rest, locked := none }) rfl d4' _ hsteps
/-- 'throw new E("text")', the text by a wide index -/
theorem vx_throwSW {cc : ByteArray} {pc : Nat} (hexec : p.tables.exec = Jvm.exec) (hb : c.code = cc) (hl : l.stackTraces = false) {own cls text : String} {names : List String} {ik is ic mc ms sa : Nat} {A : Nat → Prop}
    (hown : s.vm.findClass own = some m.cls) (hcls : Bundle.fit cls = true) (hnames : ∀ n ∈ names, Bundle.fit n = true)
    (hk : (Cond.classLink own ik cls).before args s = true) (hini : (Cond.initialized cls).before args s = true) (hstr : vk_R own is text sa s) (hat : ∀ w ∈ vx_atS own ic cls names, w.before args s = true)
    (hgood : ∀ w ∈ Cond.classLink own ik cls :: Cond.initialized cls :: vx_atS own ic cls names, vx_ot w = true)
    (hU : vx_Zq Bundle.tN "UNASSIGNED_STACK" Bundle.steD A s s.heap) (hN : vx_Zq Bundle.tN "SUPPRESSED_SENTINEL" Bundle.listD A s s.heap) (hS : va_S A s.heap H locs) (hsize : ls.size = c.maxLocals)
    (d0 : decode cc pc = .ok (.new ik, 3)) (d3 : decode cc (pc + 3) = .ok (.dup, 1)) (d4 : decode cc (pc + 4) = .ok (.ldc_w is, 3)) (d7 : decode cc (pc + 7) = .ok (.invokespecial ic, 3)) (d10 : decode cc (pc + 10) = .ok (.athrow, 1))
    (hout : ∀ x ∈ c.exceptionTable.toList, covers x (pc + 10) = false)
    (hRframes : names.length + 3 < R.frames) (hRlocals : (rest.map fun v => v.category).sum + (13 * (names.length + 1) + 43) ≤ R.locals) (hRcells : cells + 1 ≤ R.cells) (hRslots : slots + 6 ≤ R.slots) (hlocks : meth.locks = false)
    (hx : ∀ t : State, s.vm.Alike t.vm → H.size ≤ t.heap.size → (∀ q : Nat, q < H.size → t.heap[q]? = H[q]?) → XC cls s t)
    (hf : ∀ z ∈ locs, free z.base) (hc : cells + 1 ≤ mc) (hs : slots + 6 ≤ ms) :
    W p l e R s m args below meth c H locs cells slots (vx_MQ below Qc XC args s mc ms free) (F0 m pc ls rest) := by
  intro T hT X
  have htr : e.platform.stackTraces = false := (show e.platform.stackTraces = l.stackTraces by rw [X.admits.platform]).trans hl
  have Y := vx_rebase X (R' := { frames := R.frames, locals := R.locals, cells := 1, slots := 6 }) (Nat.le_refl _) (Nat.le_refl _) hRcells hRslots
  obtain ⟨s', hA⟩ : ∃ z, z = (T.setVm s.vm).setFrames (.invoking m args :: below) := ⟨_, rfl⟩
  rw [← hA] at Y
  have hvm : s'.vm = s.vm := by rw [hA]; rfl
  have hhp : s'.heap = H := by rw [hA]; exact hT
  have hW0 : s.WarmedH s'.vm := by rw [hvm]; exact State.WarmedH.refl s
  have hat' : ∀ w ∈ vx_atS own ic cls names, w.before args s' = true := fun w hw => vx_ot_at hW0 hvm.symm (hgood w (List.mem_cons_of_mem _ (List.mem_cons_of_mem _ hw))) (hat w hw)
  have hk' : (Cond.classLink own ik cls).before args s' = true := vx_ot_at hW0 hvm.symm (hgood _ List.mem_cons_self) hk
  have hini' : (Cond.initialized cls).before args s' = true := vx_ot_at hW0 hvm.symm (hgood _ (List.mem_cons_of_mem _ List.mem_cons_self)) hini
  have hU' : vx_Zq Bundle.tN "UNASSIGNED_STACK" Bundle.steD A s' s'.heap := by rw [hhp]; exact vx_Zq.moved hW0.alike (hU.kept hS.2.1)
  have hN' : vx_Zq Bundle.tN "SUPPRESSED_SENTINEL" Bundle.listD A s' s'.heap := by rw [hhp]; exact vx_Zq.moved hW0.alike (hN.kept hS.2.1)
  have h : ∀ w ∈ Bundle.ownAtoms own ic cls names, w.before args s' = true := vx_own hat' (vx_isRefq hU'.1) (vx_isRefq hN'.1) hU'.2.word hN'.2.word
  have hown' : s'.vm.findClass own = some m.cls := by rw [hvm]; exact hown
  have hins : (Cond.instantiable cls 6).before args s' = true := h _ (by simp [Bundle.ownAtoms])
  obtain ⟨vm₁, cX, kX, hfX, hkX, -, -, X₁, st1⟩ := Y.newCold hexec (own := own) (C := cls) (index := ik) (n := 6) hown' hk' hins hini'
    (g := F0 m pc ls rest) rfl (by rw [hb]; exact d0) (Nat.le_refl _) (Nat.le_refl _)
  generalize hT1 : (T.setVm vm₁).pushCell { cls := cX, slots := kX.instanceTypes.map defaultValue, vm := .none } = T1 at X₁ st1
  have hcat : (Value.ref T.heap.size).category = 1 := rfl
  have hcellA : T1.heap[T.heap.size]? = some (freshCell cX kX) := by rw [← hT1]; exact State.heap_pushCell_size _ _
  have d3' : decode c.code (pc + 3) = .ok (.dup, 1) := by rw [hb]; exact d3
  have d4' : decode c.code (pc + 4) = .ok (.ldc_w is, 3) := by rw [hb]; exact d4
  have hstr' : vk_R own is text sa s' := vk_R.warm hW0 hstr
  obtain ⟨U, hsteps, hrun, hend, hW, hsame, ce, hce, hO⟩ := X₁.ctorThrowS hexec htr (own := own) (cls := cls) (names := names) (ic := ic) hown' hcls hnames h (fun x hx => nomatch hx) hfX hkX hcellA (by rw [hhp, hT]; exact Nat.le_refl _) (msg := .ref sa) rfl
    (g := { method := m, pc := pc + 7, locals := ls, stack := .ref sa :: .ref T.heap.size :: .ref T.heap.size :: rest, locked := none }) rfl hsize rfl rfl (rest := rest) rfl
    (by rw [hb]; exact d7) (by rw [hb]; exact d10) hout hRframes (by simp only [List.map_cons, List.sum_cons, hcat]; omega) hlocks
  obtain ⟨f1, f2⟩ := vx_frame hsame
  rw [hhp] at f1 f2
  have hWs : s.WarmedH U.vm := State.WarmedH.trans hW0 hW
  have hcl : s.vm.findClass cls = some ce.cls := by
    have h9 := hO.cls
    rw [hvm] at h9
    exact h9
  have hall : s.sameButNew ({ U with vm := s.vm } : State) locs mc ms := by
    subst hA
    obtain ⟨e1, e2⟩ := hsame
    rw [State.setFrames_setFrames] at e1
    have h2 : (T.setVm s.vm).sameButNew ({ U with vm := s.vm } : State) [] (0 + 1) (0 + 6) := ⟨e1, e2⟩
    have h3 := X.same.trans h2
    rw [List.append_nil] at h3
    exact h3.mono hc hs
  refine ⟨U, ?_, .threw T.heap.size, hrun, hend, Or.inr ⟨T.heap.size, rfl, cls, ce, locs, hx U hWs.alike f1 (fun q hq => f2 q hq (fun z hz => nomatch hz)), hce, hO.vm, hcl, hWs, hall, hf⟩⟩
  refine st1 _ ?_
  show Steps p.tables e below (T1.setTop { method := m, pc := pc + 3, locals := ls, stack := .ref T.heap.size :: rest, locked := none }) _
  jvm_step X₁.here [X₁.here.top, hexec, d3', Value.category]
  exact X₁.ldcStringW hexec (own := own) (text := text) (index := is) (a := sa) hown' hstr'.1 hstr'.2
    (g := { method := m, pc := pc + 4, locals := ls, stack := .ref T.heap.size :: .ref T.heap.size :: rest, locked := none }) rfl d4' _ hsteps
end Ends
section Bodies
variable {l : Launch}
theorem vx_ofW {y : MethodName} {ws ws' : List Cond} {rm : Room} {Pc : Array Value → State → Prop} {Qc : Array Value → State → Outcome → State → Prop} {XC : String → State → State → Prop} {mc ms : Nat} {free : Addr → Prop} {cc : ByteArray} {maxL : Nat} {ret : Option FieldType}
    (hy : plainName y.cls = true) (hw : ws = Cond.code y cc maxL ret :: ws')
    (body : ∀ p e s m args below meth c s₁, BodyLoose p l y (headSpec ws rm) cc maxL ret e s m args below meth c s₁ → c.maxLocals = maxL → (∀ x ∈ c.exceptionTable.toList, False) → Pc args s →
      W p l e (headSpec ws rm).room s m args below meth c s.heap [] 0 0 (vx_MQ below Qc XC args s mc ms free) (entryFrame m args maxL)) : vx_Met l y ws rm Pc Qc XC mc ms free := by
  refine MetFree.of_bodyS (code := cc) (maxLocals := maxL) (ret := ret) hy ?_ ?_
  · intro args s m h hn
    obtain ⟨meth, c, h1, h2, h3, h4, h5, h6, -, -⟩ := Cond.code_spec hn (atoms_spec (ws := ws) h _ (by rw [hw]; exact List.mem_cons_self))
    exact ⟨meth, c, h1, h2, h3, h4, h5, h6⟩
  · intro p e s m args below meth c s₁ B hml hP _
    have hh0 : s₁.heap = s.heap := by rw [B.state]; rfl
    have ht : ∀ x ∈ c.exceptionTable.toList, False := by
      obtain ⟨meth9, c9, h1, h2, -, -, -, -, h7, -⟩ := Cond.code_spec B.named (atoms_spec (ws := ws) B.pre _ (by rw [hw]; exact List.mem_cons_self))
      cases Option.some.inj (h1.symm.trans B.method)
      cases Option.some.inj (h2.symm.trans (Stand.of_body B).code)
      intro x hx
      rw [Array.isEmpty_iff.mp h7] at hx
      cases hx
    obtain ⟨t, a1, o, b1, b2, b3⟩ := body p e s m args below meth c s₁ B hml ht hP s₁ hh0 (Stand.of_body B)
    exact ⟨t, o, a1, b1, b2, b3⟩
/-- the table of a body with handlers -/
theorem vx_table {p : Program} {x y : MethodName} {S : Spec} {cc bytes : ByteArray} {maxL maxL' : Nat} {ret ret' : Option FieldType} {e : Env} {s s₁ : State} {m : MethodId} {args : Array Value} {below : List Frame} {meth : Method} {c : Code} {hh : List (Nat × Nat × Nat × Nat)}
    (B : BodyLoose p l y S cc maxL ret e s m args below meth c s₁) (h : (Cond.codeWith y bytes maxL' ret' hh).before args s = true) : c.exceptionTable.toList = tableOf hh := by
  obtain ⟨m9, meth9, c9, hn9, h1, h2, -, -, h6, -⟩ := Cond.codeWith_spec h
  cases Option.some.inj (hn9.symm.trans B.named)
  cases Option.some.inj (h1.symm.trans B.method)
  cases Option.some.inj (h2.symm.trans (Stand.of_body B).code)
  rw [← h6, table_eq]
end Bodies
end VXA
/-! ===== END ===== -/
/-! ===== BEGIN a static call of a method with an exception table ===== -/
section VXS
variable {p : Program} {l : Launch} {e : Env} {R : Room} {s : State} {m : MethodId} {args : Array Value} {below : List Frame} {meth : Method} {c : Code} {T : State} {H : Heap} {locs : List Loc} {cells slots : Nat}
abbrev vx_CSW (R : Room) (s : State) (args : Array Value) (own : String) (index : Nat) (y : MethodName) (bytes : ByteArray) (maxL : Nat) (ret : Option FieldType) (hh : List (Nat × Nat × Nat × Nat)) (ws : List Cond) (rm : Room) (mc ms n : Nat) : Prop :=
  (rm.cells = mc ∧ rm.slots = ms ∧ rm.frames + 1 ≤ R.frames ∧ 8 + (maxL + 11) + rm.locals ≤ R.locals ∧ (∀ w ∈ ws, ∀ (a' : Array Value) (U : State), s.WarmedH U.vm → w.before a' U = true) ∧ Cond.codeWith y bytes maxL ret hh ∈ ws) ∧
  (Cond.codeWith y bytes maxL ret hh).before args s = true ∧ (Cond.initialized y.cls).before args s = true ∧ (y.cls ≠ "java/lang/invoke/MethodHandle" ∧ y.cls ≠ "java/lang/invoke/VarHandle") ∧
  (∀ sig, parseMethodDescriptor y.desc = some sig → n = sig.parameters.length) ∧ (Cond.methodLink own index y).before args s = true ∧ (Cond.static y).before args s = true
theorem vx_cwSW {own : String} {index maxL mc ms : Nat} {y : MethodName} {bytes : ByteArray} {ret : Option FieldType} {hh : List (Nat × Nat × Nat × Nat)} {Ts ws ws' : List Cond} {rm : Room} (n : Nat) (ht : ∀ w ∈ Ts, w.before args s = true) (hT : GoodIn Ts (va_wsS own index y ws)) (hw : ws = Cond.codeWith y bytes maxL ret hh :: ws') (hrc : rm.cells = mc) (hrs : rm.slots = ms)
    (hd : y.cls ≠ "java/lang/invoke/MethodHandle" ∧ y.cls ≠ "java/lang/invoke/VarHandle" ∧ (parseMethodDescriptor y.desc).map (fun d => d.parameters.length) = some n) (hR : rm.frames + 1 ≤ R.frames ∧ 8 + (maxL + 11) + rm.locals ≤ R.locals) :
    vx_CSW R s args own index y bytes maxL ret hh ws rm mc ms n := by
  have ok : ∀ w ∈ va_wsS own index y ws, w.before args s = true := fun w h => ht w (hT w h).1
  have hG : GoodIn Ts ws := fun w h => hT w (by unfold va_wsS; exact List.mem_append_right _ h)
  have hc : Cond.codeWith y bytes maxL ret hh ∈ ws := by rw [hw]; exact List.mem_cons_self
  refine ⟨⟨hrc, hrs, hR.1, hR.2, pay_in ht hG, hc⟩, ht _ (hG _ hc).1, ok _ (by simp [va_wsS]), ⟨hd.1, hd.2.1⟩, fun sig h => ?_, ok _ (by simp [va_wsS]), ok _ (by simp [va_wsS])⟩
  have h2 := hd.2.2
  rw [h] at h2
  exact (Option.some.inj h2).symm
theorem vx_callSW (X : Stand p l e R s m args below meth c T locs cells slots) (hexec : p.tables.exec = Jvm.exec) {own : String} {index : Nat} {y : MethodName} {bytes : ByteArray} {maxL : Nat} {ret : Option FieldType} {hh : List (Nat × Nat × Nat × Nat)}
    (hown : s.vm.findClass own = some m.cls) (hlink : (Cond.methodLink own index y).before args s = true) (hstat : (Cond.static y).before args s = true) (hinit : (Cond.initialized y.cls).before args s = true)
    (hcode : (Cond.codeWith y bytes maxL ret hh).before args s = true) (hy : y.cls ≠ "java/lang/invoke/MethodHandle" ∧ y.cls ≠ "java/lang/invoke/VarHandle")
    {W9 : Nat} {Pre : Pt → Array Value → Prop} {Post : Pt → Array Value → Option Value → Pt → Prop} (hK : Back l R p e below s args y 3 W9 Pre Post)
    {g : JFrame} (hg : g.method = m) (hsize : g.locals.size = c.maxLocals) {argsL rest : List Value} (hlen : ∀ sig, parseMethodDescriptor y.desc = some sig → argsL.length = sig.parameters.length)
    (hstack : g.stack = argsL.reverse ++ rest) (hW : 2 * g.monitorRoom + (rest.map fun v => v.category).sum ≤ W9) (hdg : decode c.code g.pc = .ok (.invokestatic index, 3))
    (hpre : ∀ vm₁, s.WarmedH vm₁ → Pre ⟨T.setVm vm₁, locs, cells, slots⟩ argsL.toArray) :
    ∃ (v : Option Value) (vm₁ : Vm) (B : Pt), s.WarmedH vm₁ ∧ Stand p l e R s m args below meth c B.U B.locs B.cells B.slots ∧ Post ⟨T.setVm vm₁, locs, cells, slots⟩ argsL.toArray v B ∧
      ∀ target, Steps p.tables e below (B.U.setTop { g with pc := g.pc + 3, stack := v.toList ++ rest }) target → Steps p.tables e below (T.setTop g) target := by
  obtain ⟨mk, methM, cM, hnamed, hmethM, -, -, -, -, -, -, hsigM⟩ := Cond.codeWith_spec hcode
  have hstatic : methM.isStatic = true := Cond.static_spec hnamed hmethM hstat
  obtain ⟨kP, hkP, -⟩ := className_of_methodNamed hnamed
  have hinitP : kP.init = .initialized := Cond.initialized_spec (findClass_of_methodNamed hnamed) hkP hinit
  obtain ⟨vm₁, X₁, hstep₁⟩ := X.invokestatic hexec hown hlink hnamed hmethM hstatic hkP hinitP hy (g := g) hg (argsL := argsL) (rest := rest) (hlen _ hsigM) hstack hdg
  obtain ⟨v, B, X', hpost, hsteps⟩ := hK m meth c ⟨T.setVm vm₁, locs, cells, slots⟩ { g with stack := rest } (.invokestatic index) mk argsL.toArray X₁ hg hsize hdg hW (X₁.named hnamed) (hpre vm₁ X₁.warmed)
  exact ⟨v, vm₁, B, X₁.warmed, X', hpost, fun target h => hstep₁ _ fun acts => by rw [doInvoke_state]; exact hsteps.trans h⟩
theorem vx_runSW {y : MethodName} {bytes cc : ByteArray} {maxL nL mc ms n index : Nat} {ret : Option FieldType} {hh : List (Nat × Nat × Nat × Nat)} {ws : List Cond} {rm : Room} {Pc : Array Value → State → Prop} {Qc : Array Value → State → Outcome → State → Prop} {free : Addr → Prop} {Ts : List Cond} {own : String} {As rest : List Value} {g : JFrame}
    (S : CallFix p m c cc nL s args Ts own) (hM : Met l y ws rm Pc Qc mc ms free) (cw : vx_CSW R s args own index y bytes maxL ret hh ws rm mc ms n) (hp : PreS s H Pc As)
    (hg : g.method = m) (hn : As.length = n) (hsize : g.locals.size = nL) (hstack : g.stack = As.reverse ++ rest) (hW : 2 * g.monitorRoom + (rest.map fun v => v.category).sum ≤ 8) (hdg : decode cc g.pc = .ok (.invokestatic index, 3)) (hf : cells + mc ≤ R.cells ∧ slots + ms ≤ R.slots) :
    va_Run p l e R s m args below meth c H locs cells slots mc ms g rest (Qc As.toArray) (free) := by
  obtain ⟨⟨hrc, hrs, hfr, hlo, hws, hcw⟩, hcode, hini, hy, hlen, hl, hstt⟩ := cw
  have hK : Back l R p e below s args y 3 8 (PreOf R mc ms Pc) (PostOf Qc mc ms free) := va_backW (hh := hh) (bytes := bytes) (maxL := maxL) (ret := ret) hM hp.1 hrc hrs hfr hlo hws hcw (fun a' U hW => word_at hW (Or.inl (by first | rfl | simp [Cond.onTables, Cond.keeps, Cond.steady])) hini)
  obtain ⟨hx, hb, hml, ho, -⟩ := S
  intro T hT X
  obtain ⟨v, vm₁, ⟨U', l2, c2, s2⟩, hW₁, X', ⟨g', mk, t, L, e1, e2, hq, h1, hL, h2, h3⟩, st⟩ := vx_callSW X hx (hh := hh) (bytes := bytes) (maxL := maxL) (ret := ret) ho hl hstt hini hcode hy hK hg (hsize.trans hml.symm) (argsL := As) (rest := rest) (fun sig h => hn.trans (hlen sig h)) hstack hW (by rw [hb]; exact hdg)
    (fun vm₁ hW₁ => ⟨hf.1, hf.2, hp.2 (T.setVm vm₁) hT hW₁⟩)
  dsimp only [Pt.U, Pt.locs, Pt.cells, Pt.slots] at X' e1 e2 h1 h2 h3 st
  subst h1; subst h2; subst h3
  exact ⟨v, (T.setVm vm₁).calling g' mk As.toArray, t, U', L, hT, X', hL, e1, e2, hq, st⟩
/-- not caught here, past rows that name other classes: it goes on to the caller -/
theorem vx_outP {p : Program} {l : Launch} {e : Env} {R : Room} {s : State} {m : MethodId} {args : Array Value} {below : List Frame} {meth : Method} {c : Code} {H : Heap} {locs : List Loc} {cells slots : Nat} {free : Addr → Prop} {ls : Array Slot} {rest : List Value} {Qc : Array Value → State → Outcome → State → Prop} {XC : String → State → State → Prop}
    {pc : Nat} {own E : String} {ce : Cell} {q : Addr} {mc ms : Nat} (hown : s.vm.findClass own = some m.cls) (hlocks : meth.locks = false)
    (hpass : ∀ z ∈ c.exceptionTable.toList, covers z pc = false ∨ (z.catchType ≠ 0 ∧ ∃ nm : String, (Cond.classLink own z.catchType nm).before args s = true ∧ va_Nc E nm s)) (hcell : H[q]? = some ce) (hv : ce.vm = .none) (hcl : s.vm.findClass E = some ce.cls)
    (hx : ∀ t : State, t.heap = H → s.vm.Alike t.vm → XC E s t) (hf : ∀ z ∈ locs, free z.base) (hc : cells ≤ mc) (hs : slots ≤ ms) :
    vx_W p l e R s m args below meth c H locs cells slots (vx_MQ below Qc XC args s mc ms free) (F0 m pc ls rest) q := by
  intro T hT X
  have hpl : e.platform.magicAccessors = ({} : Platform).magicAccessors := by rw [X.admits.platform]
  obtain ⟨vm', hW', X', st⟩ := X.outThrough hlocks q (g := F0 m pc ls rest) rfl rfl rfl (cell := ce) (by rw [hT]; exact hcell) (by rw [hv]; rfl)
    (by obtain ⟨k9, h9, -⟩ := Vm.findClass_spec hcl; exact ⟨k9, h9⟩) (fun z hz => by
      rcases hpass z hz with h | ⟨hz0, nm, hl1, hn1⟩
      · exact Or.inl h
      · obtain ⟨c6, hc6, hcl6⟩ := Cond.classLink_spec hown hl1 e.platform hpl
        obtain ⟨a8, b8, h1, h2, h3⟩ := hn1
        cases Option.some.inj (h1.symm.trans hcl)
        cases Option.some.inj (h2.symm.trans hc6)
        exact Or.inr ⟨hz0, _, hcl6, h3⟩)
  obtain ⟨g₀, hfr⟩ := X'.frames_eq
  have hcell9 : ((T.setVm vm').setFrames (.throwing q :: below)).heap[q]? = some ce := by
    show T.heap[q]? = some ce
    rw [hT]; exact hcell
  have hend : Ended ((T.setVm vm').setFrames (.throwing q :: below)) below (.threw q) := State.frames_setFrames _ (State.cur_lt_of_frames hfr)
  refine ⟨(T.setVm vm').setFrames (.throwing q :: below), ?_, .threw q, X'.here.running, hend, Or.inr ⟨q, rfl, E, ce, locs, hx _ hT (X'.ends _).1.alike, hcell9, hv, hcl, (X'.ends _).1, (X'.ends _).2.mono hc hs, hf⟩⟩
  rw [X.pushThrowing_eq]
  exact st
/-- a thing of a world lies in the heap -/
theorem vx_lt {D : va_G} {cl : List vw_C} {ws : va_W} {H1 : Heap} (h : va_P D cl ws H1) {k : Nat} {q : Nat × va_E} (hk : ws[k]? = some q) : q.1 < H1.size := (h k q hk).lt
end VXS
/-! ===== END ===== -/
/-! ===== BEGIN methods with a table of their own: called by a name, returning or throwing ===== -/
section VXH
/-! vx_backW, vx_callVX, vx_callSX, vx_callVW, vx_runVW, vx_runVX, vx_runSX, vx_ofWH follow the same proofs as their sisters above (Free/Laws.lean, Shelf42/LK1.lean); vx_outP calls Shelf42/NT130.lean (outThrough). -/
section
variable {l : Launch} {R : Room} {p : Program} {e : Env} {below : List Frame} {s : State} {sargs : Array Value} {y : MethodName} {len W9 : Nat}
theorem vx_backW {ws : List Cond} {rm : Room} {Pc : Array Value → State → Prop} {Qc : Array Value → State → Outcome → State → Prop} {XC : String → State → State → Prop} {mc ms : Nat} {free : Addr → Prop} {bytes : ByteArray} {maxL : Nat} {ret : Option FieldType} {hh : List (Nat × Nat × Nat × Nat)}
    (hM : vx_Met l y ws rm Pc Qc XC mc ms free) (hblind : FrameBlind Pc) (hrc : rm.cells = mc) (hrs : rm.slots = ms)
    (hframes : rm.frames + 1 ≤ R.frames) (hlocals : W9 + (maxL + 11) + rm.locals ≤ R.locals)
    (hws : ∀ w ∈ ws, ∀ a' U, s.WarmedH U.vm → w.before a' U = true) (hcode : Cond.codeWith y bytes maxL ret hh ∈ ws) (hinit : ∀ a' U, s.WarmedH U.vm → (Cond.initialized y.cls).before a' U = true) :
    vx_Back l R p e below s sargs y len W9 (PreOf R mc ms Pc) (PostOf Qc mc ms free) (vx_Post XC mc ms free) := by
  intro m meth c A g ig mk a X hg hsize hdg hW hn hp
  have h1 : (headSpec ws rm).pre.before a A.U = true := atoms_intro fun w hw => hws w hw _ _ X.warmed
  have h2 : (Cond.codeWith y bytes maxL ret hh).before a A.U = true := hws _ hcode _ _ X.warmed
  have h3 : (Cond.initialized y.cls).before a A.U = true := hinit _ _ X.warmed
  have h4 : A.cells + (headSpec ws rm).room.cells ≤ R.cells := by rw [show (headSpec ws rm).room.cells = mc from hrc]; exact hp.1
  have h5 : A.slots + (headSpec ws rm).room.slots ≤ R.slots := by rw [show (headSpec ws rm).room.slots = ms from hrs]; exact hp.2.1
  have hPc : Pc a (A.U.calling g mk a) := hblind _ _ _ _ hp.2.2
  obtain ⟨U, Ls, c0, s0⟩ := A
  dsimp only [Pt.U, Pt.locs, Pt.cells, Pt.slots] at h1 h2 h3 h4 h5 X hn hPc ⊢
  obtain ⟨m9, methY, cY, hn9, hmY, hcY, -, hlY, -⟩ := Cond.codeWith_spec h2
  cases Option.some.inj (hn9.symm.trans hn)
  obtain ⟨kY, hkY, -⟩ := className_of_methodNamed hn
  have hinitY : kY.init = .initialized := Cond.initialized_spec (findClass_of_methodNamed hn) hkY h3
  have h : At U g.method c below := by rw [hg]; exact X.here
  have hlocals9 : W9 + (maxL + 11) + (headSpec ws rm).room.locals ≤ R.locals := hlocals
  have happ : (headSpec ws rm).appliesLoose y e.platform (U.calling g mk a) = true :=
    Spec.appliesLoose_calling (g := g) h hdg hn hkY hinitY
      (X.room_calling (g := g) (R' := (headSpec ws rm).room) hsize hmY hcY hframes (by rw [hlY]; omega) h4 h5) h1
  obtain ⟨mid, hmid⟩ := h.above
  have hfr : (U.setTop g).frames = (.java g :: mid) ++ below := by rw [State.frames_setTop' g h.top, hmid]; rfl
  obtain ⟨o, s₂, hsteps, -, hend, hq⟩ := Steps.callFree hM p X.admits X.cas X.clock (acts := []) hfr happ hPc trivial
  have hq' : vx_Q Qc XC mc ms free a (U.calling g mk a) o s₂ := hq
  rw [State.frames_setTop' g h.top] at hend
  obtain ⟨g₀, hg0⟩ := Option.isSome_iff_exists.mp h.top
  obtain ⟨r, hr⟩ := State.topJava?_eq_some.mp hg0
  have hr' : (({ U with heap := s₂.heap, slotsUsed := s₂.slotsUsed } : State).setVm s₂.vm).frames = .java g₀ :: r := hr
  rcases hq' with ⟨hqc, L, hfe, hL⟩ | ⟨q, rfl, E, ce, L, hx, hce, hcv, hcl, hW₂, hsm, hL⟩
  · obtain ⟨⟨v, rfl⟩, hW₂, e2, q2, q3, q4, q5, q6⟩ := id hfe
    have e3 : s₂ = ({ (U.calling g mk a).setFrames s₂.frames with heap := s₂.heap, slotsUsed := s₂.slotsUsed } : State).setVm s₂.vm := by
      have : s₂ = ({ s₂ with vm := (U.calling g mk a).vm } : State).setVm s₂.vm := rfl
      rw [e2] at this
      exact this
    obtain ⟨c₂, i₂, len₂, hc₂, hd₂, hf₂⟩ := hend
    have hW' : U.WarmedH s₂.vm := hW₂
    have hcc : c₂ = c := by
      have h1 : s₂.code? g.method = U.code? g.method := by
        rw [State.code?_eq, State.code?_eq, hW'.alike.method?]
      exact Option.some.inj (hc₂.symm.trans (h1.trans h.code))
    subst hcc
    have hlen : len₂ = len := by rw [hdg] at hd₂; cases hd₂; rfl
    subst hlen
    have hs₂ : s₂ = (({ U with heap := s₂.heap, slotsUsed := s₂.slotsUsed } : State).setVm s₂.vm).setTop { g with pc := g.pc + len₂, stack := v.toList ++ g.stack } := by
      refine e3.trans ?_
      rw [hf₂, State.calling_eq h.top, State.setFrames_setFrames, State.setTop_of_frames _ hr', hr]
      rfl
    have hsame : U.sameButNew ({ U with heap := s₂.heap, slotsUsed := s₂.slotsUsed } : State) L mc ms := by
      refine ⟨?_, q2, q3, q4, q5, q6⟩
      obtain ⟨t, ht, -⟩ := State.frames_cons hr
      show ({ U with heap := s₂.heap, slotsUsed := s₂.slotsUsed } : State) = { U.setFrames U.frames with heap := s₂.heap, slotsUsed := s₂.slotsUsed }
      rw [State.setFrames_self ht]
    subst hg
    refine Or.inl ⟨v, ⟨(({ U with heap := s₂.heap, slotsUsed := s₂.slotsUsed } : State).setVm s₂.vm), Ls ++ L, c0 + mc, s0 + ms⟩,
      ⟨X.admits, X.cas, X.clock, X.frames, X.room, X.hears, X.method, X.code, (X.here.setHeapUsed s₂.heap s₂.slotsUsed).setVm hW'.alike, X.tail, State.WarmedH.trans X.warmed hW', X.limits, X.bytes, X.same.trans (hsame.setVm s.vm)⟩,
      ⟨g, mk, s₂, L, rfl, rfl, hqc, rfl, hL, rfl, rfl⟩, ?_⟩
    show Steps p.tables e below _ ((({ U with heap := s₂.heap, slotsUsed := s₂.slotsUsed } : State).setVm s₂.vm).setTop { g with pc := g.pc + len₂, stack := v.toList ++ g.stack })
    rw [← hs₂]
    exact hsteps
  · obtain ⟨e2, q2, q3, q4, q5, q6⟩ := id hsm
    have e3 : s₂ = ({ (U.calling g mk a).setFrames s₂.frames with heap := s₂.heap, slotsUsed := s₂.slotsUsed } : State).setVm s₂.vm := by
      have : s₂ = ({ s₂ with vm := (U.calling g mk a).vm } : State).setVm s₂.vm := rfl
      rw [e2] at this
      exact this
    have hf₂ : s₂.frames = .throwing q :: .java g :: U.frames.tail := hend
    have hW' : U.WarmedH s₂.vm := hW₂
    have hs₂ : s₂ = ((({ U with heap := s₂.heap, slotsUsed := s₂.slotsUsed } : State).setVm s₂.vm).setTop g).pushFrame (.throwing q) := by
      refine e3.trans ?_
      rw [hf₂, State.calling_eq h.top, State.setFrames_setFrames, State.pushFrame, State.frames_setTop _ hr', State.setTop_of_frames _ hr', State.setFrames_setFrames, hr]
      rfl
    have hsame : U.sameButNew ({ U with heap := s₂.heap, slotsUsed := s₂.slotsUsed } : State) L mc ms := by
      refine ⟨?_, q2, q3, q4, q5, q6⟩
      obtain ⟨t, ht, -⟩ := State.frames_cons hr
      show ({ U with heap := s₂.heap, slotsUsed := s₂.slotsUsed } : State) = { U.setFrames U.frames with heap := s₂.heap, slotsUsed := s₂.slotsUsed }
      rw [State.setFrames_self ht]
    subst hg
    refine Or.inr ⟨q, ⟨(({ U with heap := s₂.heap, slotsUsed := s₂.slotsUsed } : State).setVm s₂.vm), Ls ++ L, c0 + mc, s0 + ms⟩,
      ⟨X.admits, X.cas, X.clock, X.frames, X.room, X.hears, X.method, X.code, (X.here.setHeapUsed s₂.heap s₂.slotsUsed).setVm hW'.alike, X.tail, State.WarmedH.trans X.warmed hW', X.limits, X.bytes, X.same.trans (hsame.setVm s.vm)⟩,
      ⟨g, mk, s₂, L, E, ce, rfl, rfl, hx, hce, hcv, hcl, rfl, hL, rfl, rfl⟩, ?_⟩
    show Steps p.tables e below _ (((({ U with heap := s₂.heap, slotsUsed := s₂.slotsUsed } : State).setVm s₂.vm).setTop g).pushFrame (.throwing q))
    rw [← hs₂]
    exact hsteps
end
variable {p : Program} {l : Launch} {e : Env} {R : Room} {s : State} {m : MethodId} {args : Array Value} {below : List Frame} {meth : Method} {c : Code} {T : State} {H : Heap} {locs : List Loc} {cells slots : Nat}
theorem vx_callVX (X : Stand p l e R s m args below meth c T locs cells slots) (hexec : p.tables.exec = Jvm.exec) {own C : String} {index : Nat} {y : MethodName} {bytes : ByteArray} {maxL : Nat} {ret : Option FieldType} {hh : List (Nat × Nat × Nat × Nat)}
    (hown : s.vm.findClass own = some m.cls) (hlink : (Cond.methodLink own index y).before args s = true) (hinst : (Cond.instanceMethod y).before args s = true) (hsel : (Cond.selects C y y).before args s = true)
    (hcode : (Cond.codeWith y bytes maxL ret hh).before args s = true) (hy : y.cls ≠ "java/lang/invoke/MethodHandle" ∧ y.cls ≠ "java/lang/invoke/VarHandle")
    {W9 : Nat} {Pre : Pt → Array Value → Prop} {Post : Pt → Array Value → Option Value → Pt → Prop} {PostX : Pt → Array Value → Addr → Pt → Prop} (hK : vx_Back l R p e below s args y 3 W9 Pre Post PostX)
    {b : Addr} {cellB : Cell} (hcell : T.heap[b]? = some cellB) (hobj : cellB.vm.isStatics = false) (hcls : s.vm.findClass C = some cellB.cls)
    {g : JFrame} (hg : g.method = m) (hsize : g.locals.size = c.maxLocals) {argsL rest : List Value} (hlen : ∀ sig, parseMethodDescriptor y.desc = some sig → argsL.length = sig.parameters.length)
    (hstack : g.stack = argsL.reverse ++ .ref b :: rest) (hW : 2 * g.monitorRoom + (rest.map fun v => v.category).sum ≤ W9) (hdg : decode c.code g.pc = .ok (.invokevirtual index, 3))
    (hpre : ∀ vm₁, s.WarmedH vm₁ → Pre ⟨T.setVm vm₁, locs, cells, slots⟩ (Value.ref b :: argsL).toArray) :
    (∃ (v : Option Value) (vm₁ : Vm) (B : Pt), s.WarmedH vm₁ ∧ Stand p l e R s m args below meth c B.U B.locs B.cells B.slots ∧ Post ⟨T.setVm vm₁, locs, cells, slots⟩ (Value.ref b :: argsL).toArray v B ∧
      ∀ target, Steps p.tables e below (B.U.setTop { g with pc := g.pc + 3, stack := v.toList ++ rest }) target → Steps p.tables e below (T.setTop g) target) ∨
    (∃ (q : Addr) (vm₁ : Vm) (B : Pt), s.WarmedH vm₁ ∧ Stand p l e R s m args below meth c B.U B.locs B.cells B.slots ∧ PostX ⟨T.setVm vm₁, locs, cells, slots⟩ (Value.ref b :: argsL).toArray q B ∧
      Steps p.tables e below (T.setTop g) ((B.U.setTop { g with stack := rest }).pushFrame (.throwing q))) := by
  obtain ⟨mk, methM, hnamed, hmethM, hstM, habM⟩ := Cond.instanceMethod_spec hinst
  obtain ⟨m8, methM', cM, hn8, hmethM', -, -, -, -, -, -, hsigM⟩ := Cond.codeWith_spec hcode
  cases Option.some.inj (hn8.symm.trans hnamed)
  cases hmethM.symm.trans hmethM'
  obtain ⟨c2, r2, m2, q1, q2, q3, q4, kP, hkP, hkPi⟩ := Cond.selects_spec hsel
  cases hcls.symm.trans q1
  cases (State.methodFound?_of_named hnamed hy).symm.trans q2
  cases hnamed.symm.trans q3
  have hselP : selectMethod e.platform s.vm cellB.cls mk = .method mk := by rw [Launch.admits_selectMethod X.admits]; exact q4
  obtain ⟨vm₁, X₁, hstep₁⟩ := X.invokevirtual hexec hown hlink hnamed hmethM hstM hkP hkPi hy (a := b) (cell := cellB) hcell
    (fun z h => by rw [h] at hobj; cases hobj) hselP hmethM habM hkP hkPi (g := g) hg (argsL := argsL) (rest := rest) (hlen _ hsigM) hstack hdg
  rcases hK m meth c ⟨T.setVm vm₁, locs, cells, slots⟩ { g with stack := rest } (.invokevirtual index) mk (Value.ref b :: argsL).toArray X₁ hg hsize hdg hW (X₁.named hnamed) (hpre vm₁ X₁.warmed) with ⟨v, B, X', hpost, hsteps⟩ | ⟨q, B, X', hpost, hsteps⟩
  · exact Or.inl ⟨v, vm₁, B, X₁.warmed, X', hpost, fun target h => hstep₁ _ fun acts => by rw [doInvoke_state]; exact hsteps.trans h⟩
  · exact Or.inr ⟨q, vm₁, B, X₁.warmed, X', hpost, hstep₁ _ fun acts => by rw [doInvoke_state]; exact hsteps⟩
theorem vx_callSX (X : Stand p l e R s m args below meth c T locs cells slots) (hexec : p.tables.exec = Jvm.exec) {own : String} {index : Nat} {y : MethodName} {bytes : ByteArray} {maxL : Nat} {ret : Option FieldType} {hh : List (Nat × Nat × Nat × Nat)}
    (hown : s.vm.findClass own = some m.cls) (hlink : (Cond.methodLink own index y).before args s = true) (hstat : (Cond.static y).before args s = true) (hinit : (Cond.initialized y.cls).before args s = true)
    (hcode : (Cond.codeWith y bytes maxL ret hh).before args s = true) (hy : y.cls ≠ "java/lang/invoke/MethodHandle" ∧ y.cls ≠ "java/lang/invoke/VarHandle")
    {W9 : Nat} {Pre : Pt → Array Value → Prop} {Post : Pt → Array Value → Option Value → Pt → Prop} {PostX : Pt → Array Value → Addr → Pt → Prop} (hK : vx_Back l R p e below s args y 3 W9 Pre Post PostX)
    {g : JFrame} (hg : g.method = m) (hsize : g.locals.size = c.maxLocals) {argsL rest : List Value} (hlen : ∀ sig, parseMethodDescriptor y.desc = some sig → argsL.length = sig.parameters.length)
    (hstack : g.stack = argsL.reverse ++ rest) (hW : 2 * g.monitorRoom + (rest.map fun v => v.category).sum ≤ W9) (hdg : decode c.code g.pc = .ok (.invokestatic index, 3))
    (hpre : ∀ vm₁, s.WarmedH vm₁ → Pre ⟨T.setVm vm₁, locs, cells, slots⟩ argsL.toArray) :
    (∃ (v : Option Value) (vm₁ : Vm) (B : Pt), s.WarmedH vm₁ ∧ Stand p l e R s m args below meth c B.U B.locs B.cells B.slots ∧ Post ⟨T.setVm vm₁, locs, cells, slots⟩ argsL.toArray v B ∧
      ∀ target, Steps p.tables e below (B.U.setTop { g with pc := g.pc + 3, stack := v.toList ++ rest }) target → Steps p.tables e below (T.setTop g) target) ∨
    (∃ (q : Addr) (vm₁ : Vm) (B : Pt), s.WarmedH vm₁ ∧ Stand p l e R s m args below meth c B.U B.locs B.cells B.slots ∧ PostX ⟨T.setVm vm₁, locs, cells, slots⟩ argsL.toArray q B ∧
      Steps p.tables e below (T.setTop g) ((B.U.setTop { g with stack := rest }).pushFrame (.throwing q))) := by
  obtain ⟨mk, methM, cM, hnamed, hmethM, -, -, -, -, -, -, hsigM⟩ := Cond.codeWith_spec hcode
  have hstatic : methM.isStatic = true := Cond.static_spec hnamed hmethM hstat
  obtain ⟨kP, hkP, -⟩ := className_of_methodNamed hnamed
  have hinitP : kP.init = .initialized := Cond.initialized_spec (findClass_of_methodNamed hnamed) hkP hinit
  obtain ⟨vm₁, X₁, hstep₁⟩ := X.invokestatic hexec hown hlink hnamed hmethM hstatic hkP hinitP hy (g := g) hg (argsL := argsL) (rest := rest) (hlen _ hsigM) hstack hdg
  rcases hK m meth c ⟨T.setVm vm₁, locs, cells, slots⟩ { g with stack := rest } (.invokestatic index) mk argsL.toArray X₁ hg hsize hdg hW (X₁.named hnamed) (hpre vm₁ X₁.warmed) with ⟨v, B, X', hpost, hsteps⟩ | ⟨q, B, X', hpost, hsteps⟩
  · exact Or.inl ⟨v, vm₁, B, X₁.warmed, X', hpost, fun target h => hstep₁ _ fun acts => by rw [doInvoke_state]; exact hsteps.trans h⟩
  · exact Or.inr ⟨q, vm₁, B, X₁.warmed, X', hpost, hstep₁ _ fun acts => by rw [doInvoke_state]; exact hsteps⟩
theorem vx_callVW (X : Stand p l e R s m args below meth c T locs cells slots) (hexec : p.tables.exec = Jvm.exec) {own C : String} {index : Nat} {y : MethodName} {bytes : ByteArray} {maxL : Nat} {ret : Option FieldType} {hh : List (Nat × Nat × Nat × Nat)}
    (hown : s.vm.findClass own = some m.cls) (hlink : (Cond.methodLink own index y).before args s = true) (hinst : (Cond.instanceMethod y).before args s = true) (hsel : (Cond.selects C y y).before args s = true)
    (hcode : (Cond.codeWith y bytes maxL ret hh).before args s = true) (hy : y.cls ≠ "java/lang/invoke/MethodHandle" ∧ y.cls ≠ "java/lang/invoke/VarHandle")
    {W9 : Nat} {Pre : Pt → Array Value → Prop} {Post : Pt → Array Value → Option Value → Pt → Prop} (hK : Back l R p e below s args y 3 W9 Pre Post)
    {b : Addr} {cellB : Cell} (hcell : T.heap[b]? = some cellB) (hobj : cellB.vm.isStatics = false) (hcls : s.vm.findClass C = some cellB.cls)
    {g : JFrame} (hg : g.method = m) (hsize : g.locals.size = c.maxLocals) {argsL rest : List Value} (hlen : ∀ sig, parseMethodDescriptor y.desc = some sig → argsL.length = sig.parameters.length)
    (hstack : g.stack = argsL.reverse ++ .ref b :: rest) (hW : 2 * g.monitorRoom + (rest.map fun v => v.category).sum ≤ W9) (hdg : decode c.code g.pc = .ok (.invokevirtual index, 3))
    (hpre : ∀ vm₁, s.WarmedH vm₁ → Pre ⟨T.setVm vm₁, locs, cells, slots⟩ (Value.ref b :: argsL).toArray) :
    ∃ (v : Option Value) (vm₁ : Vm) (B : Pt), s.WarmedH vm₁ ∧ Stand p l e R s m args below meth c B.U B.locs B.cells B.slots ∧ Post ⟨T.setVm vm₁, locs, cells, slots⟩ (Value.ref b :: argsL).toArray v B ∧
      ∀ target, Steps p.tables e below (B.U.setTop { g with pc := g.pc + 3, stack := v.toList ++ rest }) target → Steps p.tables e below (T.setTop g) target := by
  obtain ⟨mk, methM, hnamed, hmethM, hstM, habM⟩ := Cond.instanceMethod_spec hinst
  obtain ⟨m8, methM', cM, hn8, hmethM', -, -, -, -, -, -, hsigM⟩ := Cond.codeWith_spec hcode
  cases Option.some.inj (hn8.symm.trans hnamed)
  cases hmethM.symm.trans hmethM'
  obtain ⟨c2, r2, m2, q1, q2, q3, q4, kP, hkP, hkPi⟩ := Cond.selects_spec hsel
  cases hcls.symm.trans q1
  cases (State.methodFound?_of_named hnamed hy).symm.trans q2
  cases hnamed.symm.trans q3
  have hselP : selectMethod e.platform s.vm cellB.cls mk = .method mk := by rw [Launch.admits_selectMethod X.admits]; exact q4
  obtain ⟨vm₁, X₁, hstep₁⟩ := X.invokevirtual hexec hown hlink hnamed hmethM hstM hkP hkPi hy (a := b) (cell := cellB) hcell
    (fun z h => by rw [h] at hobj; cases hobj) hselP hmethM habM hkP hkPi (g := g) hg (argsL := argsL) (rest := rest) (hlen _ hsigM) hstack hdg
  obtain ⟨v, B, X', hpost, hsteps⟩ := hK m meth c ⟨T.setVm vm₁, locs, cells, slots⟩ { g with stack := rest } (.invokevirtual index) mk (Value.ref b :: argsL).toArray X₁ hg hsize hdg hW (X₁.named hnamed) (hpre vm₁ X₁.warmed)
  exact ⟨v, vm₁, B, X₁.warmed, X', hpost, fun target h => hstep₁ _ fun acts => by rw [doInvoke_state]; exact hsteps.trans h⟩
abbrev vx_CVW (R : Room) (s : State) (args : Array Value) (own C : String) (index : Nat) (y : MethodName) (bytes : ByteArray) (maxL : Nat) (ret : Option FieldType) (hh : List (Nat × Nat × Nat × Nat)) (ws : List Cond) (rm : Room) (mc ms n : Nat) : Prop :=
  (rm.cells = mc ∧ rm.slots = ms ∧ rm.frames + 1 ≤ R.frames ∧ 8 + (maxL + 11) + rm.locals ≤ R.locals ∧ (∀ w ∈ ws, ∀ (a' : Array Value) (U : State), s.WarmedH U.vm → w.before a' U = true) ∧ Cond.codeWith y bytes maxL ret hh ∈ ws) ∧
  (Cond.codeWith y bytes maxL ret hh).before args s = true ∧ (Cond.initialized y.cls).before args s = true ∧ (y.cls ≠ "java/lang/invoke/MethodHandle" ∧ y.cls ≠ "java/lang/invoke/VarHandle") ∧
  (∀ sig, parseMethodDescriptor y.desc = some sig → n = sig.parameters.length) ∧ (Cond.methodLink own index y).before args s = true ∧ (Cond.instanceMethod y).before args s = true ∧ (Cond.selects C y y).before args s = true
theorem vx_cwVW {own C : String} {index maxL mc ms : Nat} {y : MethodName} {bytes : ByteArray} {ret : Option FieldType} {hh : List (Nat × Nat × Nat × Nat)} {Ts ws ws' : List Cond} {rm : Room} (n : Nat) (ht : ∀ w ∈ Ts, w.before args s = true) (hT : GoodIn Ts (wsV own index C y ws)) (hw : ws = Cond.codeWith y bytes maxL ret hh :: ws') (hrc : rm.cells = mc) (hrs : rm.slots = ms)
    (hd : y.cls = C ∧ y.cls ≠ "java/lang/invoke/MethodHandle" ∧ y.cls ≠ "java/lang/invoke/VarHandle" ∧ (parseMethodDescriptor y.desc).map (fun d => d.parameters.length) = some n) (hR : rm.frames + 1 ≤ R.frames ∧ 8 + (maxL + 11) + rm.locals ≤ R.locals) :
    vx_CVW R s args own C index y bytes maxL ret hh ws rm mc ms n := by
  obtain ⟨hC, hd⟩ := hd
  subst hC
  have ok : ∀ w ∈ wsV own index y.cls y ws, w.before args s = true := fun w h => ht w (hT w h).1
  have hG : GoodIn Ts ws := fun w h => hT w (by unfold wsV; exact List.mem_append_right _ h)
  have hc : Cond.codeWith y bytes maxL ret hh ∈ ws := by rw [hw]; exact List.mem_cons_self
  refine ⟨⟨hrc, hrs, hR.1, hR.2, pay_in ht hG, hc⟩, ht _ (hG _ hc).1, ok _ (by simp [wsV]), ⟨hd.1, hd.2.1⟩, fun sig h => ?_, ok _ (by simp [wsV]), ok _ (by simp [wsV]), ok _ (by simp [wsV])⟩
  have h2 := hd.2.2
  rw [h] at h2
  exact (Option.some.inj h2).symm
theorem vx_runVW {y : MethodName} {bytes cc : ByteArray} {maxL nL mc ms n index : Nat} {ret : Option FieldType} {hh : List (Nat × Nat × Nat × Nat)} {ws : List Cond} {rm : Room} {Pc : Array Value → State → Prop} {Qc : Array Value → State → Outcome → State → Prop} {free : Addr → Prop} {Ts : List Cond} {own C : String} {b : Addr} {As rest : List Value} {g : JFrame}
    (S : CallFix p m c cc nL s args Ts own) (hM : Met l y ws rm Pc Qc mc ms free) (cw : vx_CVW R s args own C index y bytes maxL ret hh ws rm mc ms n) (hp : PreV s H C b Pc As)
    (hg : g.method = m) (hn : As.length = n) (hsize : g.locals.size = nL) (hstack : g.stack = As.reverse ++ .ref b :: rest) (hW : 2 * g.monitorRoom + (rest.map fun v => v.category).sum ≤ 8) (hdg : decode cc g.pc = .ok (.invokevirtual index, 3)) (hf : cells + mc ≤ R.cells ∧ slots + ms ≤ R.slots) :
    va_Run p l e R s m args below meth c H locs cells slots mc ms g rest (Qc (Value.ref b :: As).toArray) free := by
  obtain ⟨⟨hrc, hrs, hfr, hlo, hws, hcw⟩, hcode, hini, hy, hlen, hl, hin, hse⟩ := cw
  have hK : Back l R p e below s args y 3 8 (PreOf R mc ms Pc) (PostOf Qc mc ms free) := va_backW (hh := hh) (bytes := bytes) (maxL := maxL) (ret := ret) hM hp.1 hrc hrs hfr hlo hws hcw (fun a' U hW => word_at hW (Or.inl (by first | rfl | simp [Cond.onTables, Cond.keeps, Cond.steady])) hini)
  obtain ⟨hx, hb, hml, ho, -⟩ := S
  obtain ⟨-, ⟨cellB, hcB, hoB, hclB⟩, hPc⟩ := hp
  intro T hT X
  obtain ⟨v, vm₁, ⟨U', l2, c2, s2⟩, hW₁, X', ⟨g', mk, t, L, e1, e2, hq, h1, hL, h2, h3⟩, st⟩ := vx_callVW X hx (C := C) (hh := hh) (bytes := bytes) (maxL := maxL) (ret := ret) ho hl hin hse hcode hy hK (by rw [hT]; exact hcB) hoB hclB hg (hsize.trans hml.symm) (argsL := As) (rest := rest) (fun sig h => hn.trans (hlen sig h)) hstack hW (by rw [hb]; exact hdg)
    (fun vm₁ hW₁ => ⟨hf.1, hf.2, hPc (T.setVm vm₁) hT hW₁⟩)
  dsimp only [Pt.U, Pt.locs, Pt.cells, Pt.slots] at X' e1 e2 h1 h2 h3 st
  subst h1; subst h2; subst h3
  exact ⟨v, (T.setVm vm₁).calling g' mk (Value.ref b :: As).toArray, t, U', L, hT, X', hL, e1, e2, hq, st⟩
section
variable {y : MethodName} {bytes cc : ByteArray} {maxL nL mc ms n index : Nat} {ret : Option FieldType} {ws : List Cond} {rm : Room} {Pc : Array Value → State → Prop} {Qc : Array Value → State → Outcome → State → Prop} {XC : String → State → State → Prop} {free : Addr → Prop} {Ts : List Cond} {own C : String} {b : Addr} {As rest : List Value} {g : JFrame}
theorem vx_runVX {hh : List (Nat × Nat × Nat × Nat)} (S : CallFix p m c cc nL s args Ts own) (hM : vx_Met l y ws rm Pc Qc XC mc ms free) (cw : vx_CVW R s args own C index y bytes maxL ret hh ws rm mc ms n) (hp : PreV s H C b Pc As)
    (hg : g.method = m) (hn : As.length = n) (hsize : g.locals.size = nL) (hstack : g.stack = As.reverse ++ .ref b :: rest) (hW : 2 * g.monitorRoom + (rest.map fun v => v.category).sum ≤ 8) (hdg : decode cc g.pc = .ok (.invokevirtual index, 3)) (hf : cells + mc ≤ R.cells ∧ slots + ms ≤ R.slots) :
    vx_Run p l e R s m args below meth c H locs cells slots mc ms g rest (Qc (Value.ref b :: As).toArray) XC free := by
  obtain ⟨⟨hrc, hrs, hfr, hlo, hws, hcw⟩, hcode, hini, hy, hlen, hl, hin, hse⟩ := cw
  have hK : vx_Back l R p e below s args y 3 8 (PreOf R mc ms Pc) (PostOf Qc mc ms free) (vx_Post XC mc ms free) := vx_backW (hh := hh) (bytes := bytes) (maxL := maxL) (ret := ret) hM hp.1 hrc hrs hfr hlo hws hcw (fun a' U hW => word_at hW (Or.inl (by first | rfl | simp [Cond.onTables, Cond.keeps, Cond.steady])) hini)
  obtain ⟨hx, hb, hml, ho, -⟩ := S
  obtain ⟨-, ⟨cellB, hcB, hoB, hclB⟩, hPc⟩ := hp
  intro T hT X
  rcases vx_callVX X hx (C := C) (hh := hh) (bytes := bytes) (maxL := maxL) (ret := ret) ho hl hin hse hcode hy hK (by rw [hT]; exact hcB) hoB hclB hg (hsize.trans hml.symm) (argsL := As) (rest := rest) (fun sig h => hn.trans (hlen sig h)) hstack hW (by rw [hb]; exact hdg)
    (fun vm₁ hW₁ => ⟨hf.1, hf.2, hPc (T.setVm vm₁) hT hW₁⟩) with ⟨v, vm₁, ⟨U', l2, c2, s2⟩, hW₁, X', ⟨g', mk, t, L, e1, e2, hq, h1, hL, h2, h3⟩, st⟩ | ⟨q, vm₁, ⟨U', l2, c2, s2⟩, hW₁, X', ⟨g', mk, t, L, E, ce, e1, e2, hq, hce, hcv, hcl, h1, hL, h2, h3⟩, st⟩
  · dsimp only [Pt.U, Pt.locs, Pt.cells, Pt.slots] at X' e1 e2 h1 h2 h3 st
    subst h1; subst h2; subst h3
    exact Or.inl ⟨v, (T.setVm vm₁).calling g' mk (Value.ref b :: As).toArray, t, U', L, hT, X', hL, e1, e2, hq, st⟩
  · dsimp only [Pt.U, Pt.locs, Pt.cells, Pt.slots] at X' e1 e2 h1 h2 h3 st hcl
    subst h1; subst h2; subst h3
    exact Or.inr ⟨q, (T.setVm vm₁).calling g' mk (Value.ref b :: As).toArray, t, U', L, E, ce, hT, X', hL, e1, e2, hq, hce, hcv, vx_cls hW₁ hcl, st⟩
theorem vx_runSX {hh : List (Nat × Nat × Nat × Nat)} (S : CallFix p m c cc nL s args Ts own) (hM : vx_Met l y ws rm Pc Qc XC mc ms free) (cw : vx_CSW R s args own index y bytes maxL ret hh ws rm mc ms n) (hp : PreS s H Pc As)
    (hg : g.method = m) (hn : As.length = n) (hsize : g.locals.size = nL) (hstack : g.stack = As.reverse ++ rest) (hW : 2 * g.monitorRoom + (rest.map fun v => v.category).sum ≤ 8) (hdg : decode cc g.pc = .ok (.invokestatic index, 3)) (hf : cells + mc ≤ R.cells ∧ slots + ms ≤ R.slots) :
    vx_Run p l e R s m args below meth c H locs cells slots mc ms g rest (Qc As.toArray) XC free := by
  obtain ⟨⟨hrc, hrs, hfr, hlo, hws, hcw⟩, hcode, hini, hy, hlen, hl, hstt⟩ := cw
  have hK : vx_Back l R p e below s args y 3 8 (PreOf R mc ms Pc) (PostOf Qc mc ms free) (vx_Post XC mc ms free) := vx_backW (hh := hh) (bytes := bytes) (maxL := maxL) (ret := ret) hM hp.1 hrc hrs hfr hlo hws hcw (fun a' U hW => word_at hW (Or.inl (by first | rfl | simp [Cond.onTables, Cond.keeps, Cond.steady])) hini)
  obtain ⟨hx, hb, hml, ho, -⟩ := S
  intro T hT X
  rcases vx_callSX X hx (hh := hh) (bytes := bytes) (maxL := maxL) (ret := ret) ho hl hstt hini hcode hy hK hg (hsize.trans hml.symm) (argsL := As) (rest := rest) (fun sig h => hn.trans (hlen sig h)) hstack hW (by rw [hb]; exact hdg)
    (fun vm₁ hW₁ => ⟨hf.1, hf.2, hp.2 (T.setVm vm₁) hT hW₁⟩) with ⟨v, vm₁, ⟨U', l2, c2, s2⟩, hW₁, X', ⟨g', mk, t, L, e1, e2, hq, h1, hL, h2, h3⟩, st⟩ | ⟨q, vm₁, ⟨U', l2, c2, s2⟩, hW₁, X', ⟨g', mk, t, L, E, ce, e1, e2, hq, hce, hcv, hcl, h1, hL, h2, h3⟩, st⟩
  · dsimp only [Pt.U, Pt.locs, Pt.cells, Pt.slots] at X' e1 e2 h1 h2 h3 st
    subst h1; subst h2; subst h3
    exact Or.inl ⟨v, (T.setVm vm₁).calling g' mk As.toArray, t, U', L, hT, X', hL, e1, e2, hq, st⟩
  · dsimp only [Pt.U, Pt.locs, Pt.cells, Pt.slots] at X' e1 e2 h1 h2 h3 st hcl
    subst h1; subst h2; subst h3
    exact Or.inr ⟨q, (T.setVm vm₁).calling g' mk As.toArray, t, U', L, E, ce, hT, X', hL, e1, e2, hq, hce, hcv, vx_cls hW₁ hcl, st⟩
end
end VXH
theorem vx_ofWH {l : Launch} {y : MethodName} {ws ws' : List Cond} {rm : Room} {Pc : Array Value → State → Prop} {Qc : Array Value → State → Outcome → State → Prop} {XC : String → State → State → Prop} {mc ms : Nat} {free : Addr → Prop} {cc : ByteArray} {maxL : Nat} {ret : Option FieldType} {hh : List (Nat × Nat × Nat × Nat)}
    (hy : plainName y.cls = true) (hw : ws = Cond.codeWith y cc maxL ret hh :: ws')
    (body : ∀ p e s m args below meth c s₁, BodyLoose p l y (headSpec ws rm) cc maxL ret e s m args below meth c s₁ → c.maxLocals = maxL → Pc args s →
      W p l e (headSpec ws rm).room s m args below meth c s.heap [] 0 0 (vx_MQ below Qc XC args s mc ms free) (entryFrame m args maxL)) : vx_Met l y ws rm Pc Qc XC mc ms free := by
  refine MetFree.of_bodyS (code := cc) (maxLocals := maxL) (ret := ret) hy ?_ ?_
  · intro args s m h hn
    obtain ⟨m9, meth, c, hn9, h1, h2, h3, h4, -, h5, h6, -⟩ := Cond.codeWith_spec (atoms_spec (ws := ws) h _ (by rw [hw]; exact List.mem_cons_self))
    cases hn.symm.trans hn9
    exact ⟨meth, c, h1, h2, h3, h4, h5, h6⟩
  · intro p e s m args below meth c s₁ B hml hP _
    have hh0 : s₁.heap = s.heap := by rw [B.state]; rfl
    obtain ⟨t, a1, o, b1, b2, b3⟩ := body p e s m args below meth c s₁ B hml hP s₁ hh0 (Stand.of_body B)
    exact ⟨t, o, a1, b1, b2, b3⟩
/-! ===== END ===== -/
end
section
/-- the words of the tables that stay true whatever is resolved -/
def TB : List Cond := lw_tbl.filter goodWord
theorem tb_i {w : Cond} (i : Nat) (h : lw_tbl[i]? = some w) (g : goodWord w = true) : w ∈ TB := List.mem_filter.mpr ⟨List.mem_of_getElem? h, g⟩
def RC : String := "CountLeast"
def TC : u_T := fun k => match k with
  | 0 => ("CountLeast", "kinds", "[LCountLeast$Kind;", true)
  | 1 => ("CountLeast", "found", "[LCountLeast$Piece;", true)
  | _ => ("CountLeast", "foundCount", "I", false)
def tyC : Nat → FieldType := fun k => match k with
  | 0 => .array (.object "CountLeast$Kind")
  | 1 => .array (.object "CountLeast$Piece")
  | _ => .int
theorem nmC : ∀ a, a < 3 → ∀ b, b < 3 → a ≠ b → (TC a).2.1 ≠ (TC b).2.1 := by decide +kernel
theorem tyokC : ∀ k, k < 3 → parseFieldDescriptor (TC k).2.2.1 = some (tyC k) := by decide +kernel
def RK : String := "CountLeast$Kind"
def TK : u_T := fun k => match k with
  | 0 => ("CountLeast$Kind", "oneAlone", "[Z", true)
  | 1 => ("CountLeast$Kind", "wearFrom", "[I", true)
  | 2 => ("CountLeast$Kind", "wearTo", "[I", true)
  | 3 => ("CountLeast$Kind", "sizeBound", "I", false)
  | 4 => ("CountLeast$Kind", "factorAbove", "I", false)
  | 5 => ("CountLeast$Kind", "factorBelow", "I", false)
  | 6 => ("CountLeast$Kind", "count", "I", false)
  | 7 => ("CountLeast$Kind", "stale", "Z", false)
  | 8 => ("CountLeast$Kind", "own", "[LCountLeast$Piece;", true)
  | _ => ("CountLeast$Kind", "parting", "LCountLeast$Parting;", true)
def tyK : Nat → FieldType := fun k => match k with
  | 0 => .array .boolean
  | 1 => .array .int
  | 2 => .array .int
  | 3 => .int
  | 4 => .int
  | 5 => .int
  | 6 => .int
  | 7 => .boolean
  | 8 => .array (.object "CountLeast$Piece")
  | _ => .object "CountLeast$Parting"
theorem nmK : ∀ a, a < 10 → ∀ b, b < 10 → a ≠ b → (TK a).2.1 ≠ (TK b).2.1 := by decide +kernel
theorem tyokK : ∀ k, k < 10 → parseFieldDescriptor (TK k).2.2.1 = some (tyK k) := by decide +kernel
def RP : String := "CountLeast$Parting"
def TP : u_T := fun k => match k with
  | 0 => ("CountLeast$Parting", "fewest", "I", false)
  | 1 => ("CountLeast$Parting", "count", "I", false)
  | 2 => ("CountLeast$Parting", "greatest", "I", false)
  | 3 => ("CountLeast$Parting", "foesOf", "[I", true)
  | 4 => ("CountLeast$Parting", "setOf", "[I", true)
  | _ => ("CountLeast$Parting", "inSet", "[I", true)
def tyP : Nat → FieldType := fun k => match k with
  | 0 => .int
  | 1 => .int
  | 2 => .int
  | 3 => .array .int
  | 4 => .array .int
  | _ => .array .int
theorem nmP : ∀ a, a < 6 → ∀ b, b < 6 → a ≠ b → (TP a).2.1 ≠ (TP b).2.1 := by decide +kernel
theorem tyokP : ∀ k, k < 6 → parseFieldDescriptor (TP k).2.2.1 = some (tyP k) := by decide +kernel
def RQ : String := "CountLeast$Piece"
def TQ : u_T := fun k => match k with
  | 0 => ("CountLeast$Piece", "kind", "LCountLeast$Kind;", true)
  | 1 => ("CountLeast$Piece", "number", "I", true)
  | 2 => ("CountLeast$Piece", "place", "I", true)
  | 3 => ("CountLeast$Piece", "part", "I", true)
  | 4 => ("CountLeast$Piece", "size", "I", true)
  | 5 => ("CountLeast$Piece", "side", "I", false)
  | 6 => ("CountLeast$Piece", "from", "I", false)
  | 7 => ("CountLeast$Piece", "to", "I", false)
  | _ => ("CountLeast$Piece", "grams", "I", false)
def tyQ : Nat → FieldType := fun k => match k with
  | 0 => .object "CountLeast$Kind"
  | 1 => .int
  | 2 => .int
  | 3 => .int
  | 4 => .int
  | 5 => .int
  | 6 => .int
  | 7 => .int
  | _ => .int
theorem nmQ : ∀ a, a < 9 → ∀ b, b < 9 → a ≠ b → (TQ a).2.1 ≠ (TQ b).2.1 := by decide +kernel
theorem tyokQ : ∀ k, k < 9 → parseFieldDescriptor (TQ k).2.2.1 = some (tyQ k) := by decide +kernel
def RM : String := "CountLeastModel"
def TM : u_T := fun k => match k with
  | 0 => ("CountLeastModel", "thrown", "I", false)
  | 1 => ("CountLeastModel", "many", "I", false)
  | 2 => ("CountLeastModel", "kind", "[I", true)
  | 3 => ("CountLeastModel", "part", "[I", true)
  | 4 => ("CountLeastModel", "side", "[I", true)
  | 5 => ("CountLeastModel", "size", "[I", true)
  | 6 => ("CountLeastModel", "from", "[I", true)
  | 7 => ("CountLeastModel", "to", "[I", true)
  | 8 => ("CountLeastModel", "grams", "[I", true)
  | 9 => ("CountLeastModel", "counts", "[I", true)
  | 10 => ("CountLeastModel", "rows", "[I", true)
  | 11 => ("CountLeastModel", "alone", "[Z", true)
  | 12 => ("CountLeastModel", "bounds", "[I", true)
  | 13 => ("CountLeastModel", "wearFrom", "[I", true)
  | 14 => ("CountLeastModel", "wearTo", "[I", true)
  | 15 => ("CountLeastModel", "above", "[I", true)
  | 16 => ("CountLeastModel", "below", "[I", true)
  | 17 => ("CountLeastModel", "animals", "[I", true)
  | 18 => ("CountLeastModel", "before", "[I", true)
  | 19 => ("CountLeastModel", "over", "I", false)
  | _ => ("CountLeastModel", "under", "I", false)
def tyM : Nat → FieldType := fun k => match k with
  | 0 => .int
  | 1 => .int
  | 2 => .array .int
  | 3 => .array .int
  | 4 => .array .int
  | 5 => .array .int
  | 6 => .array .int
  | 7 => .array .int
  | 8 => .array .int
  | 9 => .array .int
  | 10 => .array .int
  | 11 => .array .boolean
  | 12 => .array .int
  | 13 => .array .int
  | 14 => .array .int
  | 15 => .array .int
  | 16 => .array .int
  | 17 => .array .int
  | 18 => .array .int
  | 19 => .int
  | _ => .int
theorem nmM : ∀ a, a < 21 → ∀ b, b < 21 → a ≠ b → (TM a).2.1 ≠ (TM b).2.1 := by decide +kernel
theorem tyokM : ∀ k, k < 21 → parseFieldDescriptor (TM k).2.2.1 = some (tyM k) := by decide +kernel
def RL : String := "CountLeastLaw"
abbrev vwCl : List vw_C := [(RC, TC, 3), (RK, TK, 10), (RP, TP, 6), (RQ, TQ, 9), (RM, TM, 21)]
abbrev cC_init : ByteArray := prog_1_method_1_code
def yC_init : MethodName := ⟨"CountLeast", "<init>", "()V"⟩
abbrev wC_init : List Cond := .code yC_init cC_init 2 none :: TB
abbrev cC_piece : ByteArray := prog_1_method_2_code
def yC_piece : MethodName := ⟨"CountLeast", "piece", "(IIII)I"⟩
abbrev wC_piece : List Cond := .code yC_piece cC_piece 7 (some .int) :: TB
abbrev cC_single : ByteArray := prog_1_method_3_code
def yC_single : MethodName := ⟨"CountLeast", "single", "(IIZ)Z"⟩
abbrev wC_single : List Cond := .code yC_single cC_single 6 (some .boolean) :: TB
abbrev cC_bound : ByteArray := prog_1_method_4_code
def yC_bound : MethodName := ⟨"CountLeast", "bound", "(II)I"⟩
abbrev wC_bound : List Cond := .code yC_bound cC_bound 5 (some .int) :: TB
abbrev cC_table : ByteArray := prog_1_method_5_code
def yC_table : MethodName := ⟨"CountLeast", "table", "(IIII)V"⟩
abbrev wC_table : List Cond := .code yC_table cC_table 6 none :: TB
abbrev cC_worn : ByteArray := prog_1_method_6_code
def yC_worn : MethodName := ⟨"CountLeast", "worn", "(II)V"⟩
abbrev wC_worn : List Cond := .code yC_worn cC_worn 4 none :: TB
abbrev cC_aged : ByteArray := prog_1_method_7_code
def yC_aged : MethodName := ⟨"CountLeast", "aged", "(II)I"⟩
abbrev wC_aged : List Cond := .code yC_aged cC_aged 4 (some .int) :: TB
abbrev cC_unsure : ByteArray := prog_1_method_8_code
def yC_unsure : MethodName := ⟨"CountLeast", "unsure", "(I)Z"⟩
abbrev wC_unsure : List Cond := .code yC_unsure cC_unsure 4 (some .boolean) :: TB
abbrev cC_clash : ByteArray := prog_1_method_9_code
def yC_clash : MethodName := ⟨"CountLeast", "clash", "(II)I"⟩
abbrev wC_clash : List Cond := .code yC_clash cC_clash 5 (some .int) :: TB
abbrev cC_least : ByteArray := prog_1_method_10_code
def yC_least : MethodName := ⟨"CountLeast", "least", "(I)I"⟩
abbrev wC_least : List Cond := .code yC_least cC_least 2 (some .int) :: TB
abbrev cC_animal : ByteArray := prog_1_method_11_code
def yC_animal : MethodName := ⟨"CountLeast", "animal", "(I)I"⟩
abbrev wC_animal : List Cond := .code yC_animal cC_animal 3 (some .int) :: TB
abbrev cC_clashing : ByteArray := prog_1_method_12_code
def yC_clashing : MethodName := ⟨"CountLeast", "clashing", "(II)I"⟩
abbrev wC_clashing : List Cond := .code yC_clashing cC_clashing 4 (some .int) :: TB
abbrev cC_weight : ByteArray := prog_1_method_13_code
def yC_weight : MethodName := ⟨"CountLeast", "weight", "(II)I"⟩
abbrev wC_weight : List Cond := .code yC_weight cC_weight 5 (some .int) :: TB
abbrev cC_sum : ByteArray := prog_1_method_14_code
def yC_sum : MethodName := ⟨"CountLeast", "sum", "(I)I"⟩
abbrev wC_sum : List Cond := .code yC_sum cC_sum 2 (some .int) :: TB
abbrev cC_share : ByteArray := prog_1_method_15_code
def yC_share : MethodName := ⟨"CountLeast", "share", "(II)I"⟩
abbrev wC_share : List Cond := .code yC_share cC_share 6 (some .int) :: TB
abbrev cC_sieve : ByteArray := prog_1_method_16_code
def yC_sieve : MethodName := ⟨"CountLeast", "sieve", "(III)V"⟩
abbrev wC_sieve : List Cond := .code yC_sieve cC_sieve 5 none :: TB
abbrev cC_scaled : ByteArray := prog_1_method_17_code
def yC_scaled : MethodName := ⟨"CountLeast", "scaled", "(II)I"⟩
abbrev wC_scaled : List Cond := .code yC_scaled cC_scaled 7 (some .int) :: TB
abbrev cC_diverse : ByteArray := prog_1_method_18_code
def yC_diverse : MethodName := ⟨"CountLeast", "diverse", "(I)I"⟩
abbrev wC_diverse : List Cond := .code yC_diverse cC_diverse 4 (some .int) :: TB
abbrev cC_pieces : ByteArray := prog_1_method_19_code
def yC_pieces : MethodName := ⟨"CountLeast", "pieces", "(I)I"⟩
abbrev wC_pieces : List Cond := .code yC_pieces cC_pieces 2 (some .int) :: TB
abbrev cC_kindAt : ByteArray := prog_1_method_20_code
def yC_kindAt : MethodName := ⟨"CountLeast", "kindAt", "(I)LCountLeast$Kind;"⟩
abbrev wC_kindAt : List Cond := .code yC_kindAt cC_kindAt 2 (some (.object "CountLeast$Kind")) :: TB
abbrev cC_pieceAt : ByteArray := prog_1_method_21_code
def yC_pieceAt : MethodName := ⟨"CountLeast", "pieceAt", "(I)LCountLeast$Piece;"⟩
abbrev wC_pieceAt : List Cond := .code yC_pieceAt cC_pieceAt 2 (some (.object "CountLeast$Piece")) :: TB
abbrev cC_checkIndex : ByteArray := prog_1_method_22_code
def yC_checkIndex : MethodName := ⟨"CountLeast", "checkIndex", "(II)V"⟩
abbrev wC_checkIndex : List Cond := .code yC_checkIndex cC_checkIndex 2 none :: TB
abbrev cC_checkRange : ByteArray := prog_1_method_23_code
def yC_checkRange : MethodName := ⟨"CountLeast", "checkRange", "(III)V"⟩
abbrev wC_checkRange : List Cond := .code yC_checkRange cC_checkRange 3 none :: TB
abbrev cC_orderedPairs : ByteArray := prog_1_method_24_code
def yC_orderedPairs : MethodName := ⟨"CountLeast", "orderedPairs", "(I)I"⟩
abbrev wC_orderedPairs : List Cond := .code yC_orderedPairs cC_orderedPairs 1 (some .int) :: TB
abbrev cC_quotient : ByteArray := prog_1_method_25_code
def yC_quotient : MethodName := ⟨"CountLeast", "quotient", "(II)I"⟩
abbrev wC_quotient : List Cond := .code yC_quotient cC_quotient 2 (some .int) :: TB
abbrev cC_lessened : ByteArray := prog_1_method_26_code
def yC_lessened : MethodName := ⟨"CountLeast", "lessened", "(III)I"⟩
abbrev wC_lessened : List Cond := .code yC_lessened cC_lessened 3 (some .int) :: TB
abbrev cC_commonDivisor : ByteArray := prog_1_method_27_code
def yC_commonDivisor : MethodName := ⟨"CountLeast", "commonDivisor", "(II)I"⟩
abbrev wC_commonDivisor : List Cond := .code yC_commonDivisor cC_commonDivisor 6 (some .int) :: TB
abbrev cM_init : ByteArray := prog_6_method_1_code
def yM_init : MethodName := ⟨"CountLeastModel", "<init>", "()V"⟩
abbrev wM_init : List Cond := .code yM_init cM_init 2 none :: TB
abbrev cM_thrown : ByteArray := prog_6_method_2_code
def yM_thrown : MethodName := ⟨"CountLeastModel", "thrown", "()I"⟩
abbrev wM_thrown : List Cond := .code yM_thrown cM_thrown 1 (some .int) :: TB
abbrev cM_throwing : ByteArray := prog_6_method_3_code
def yM_throwing : MethodName := ⟨"CountLeastModel", "throwing", "(ZZZ)Z"⟩
abbrev wM_throwing : List Cond := .code yM_throwing cM_throwing 4 (some .boolean) :: TB
abbrev cM_in : ByteArray := prog_6_method_4_code
def yM_in : MethodName := ⟨"CountLeastModel", "in", "(III)Z"⟩
abbrev wM_in : List Cond := .code yM_in cM_in 3 (some .boolean) :: TB
abbrev cM_isKind : ByteArray := prog_6_method_5_code
def yM_isKind : MethodName := ⟨"CountLeastModel", "isKind", "(I)Z"⟩
abbrev wM_isKind : List Cond := .code yM_isKind cM_isKind 1 (some .boolean) :: TB
abbrev cM_isPiece : ByteArray := prog_6_method_6_code
def yM_isPiece : MethodName := ⟨"CountLeastModel", "isPiece", "(I)Z"⟩
abbrev wM_isPiece : List Cond := .code yM_isPiece cM_isPiece 2 (some .boolean) :: TB
abbrev cM_piece : ByteArray := prog_6_method_7_code
def yM_piece : MethodName := ⟨"CountLeastModel", "piece", "(IIII)I"⟩
abbrev wM_piece : List Cond := .code yM_piece cM_piece 6 (some .int) :: TB
abbrev cM_single : ByteArray := prog_6_method_8_code
def yM_single : MethodName := ⟨"CountLeastModel", "single", "(IIZ)Z"⟩
abbrev wM_single : List Cond := .code yM_single cM_single 5 (some .boolean) :: TB
abbrev cM_bound : ByteArray := prog_6_method_9_code
def yM_bound : MethodName := ⟨"CountLeastModel", "bound", "(II)I"⟩
abbrev wM_bound : List Cond := .code yM_bound cM_bound 4 (some .int) :: TB
abbrev cM_table : ByteArray := prog_6_method_10_code
def yM_table : MethodName := ⟨"CountLeastModel", "table", "(IIII)V"⟩
abbrev wM_table : List Cond := .code yM_table cM_table 5 none :: TB
abbrev cM_worn : ByteArray := prog_6_method_11_code
def yM_worn : MethodName := ⟨"CountLeastModel", "worn", "(II)V"⟩
abbrev wM_worn : List Cond := .code yM_worn cM_worn 3 none :: TB
abbrev cM_aged : ByteArray := prog_6_method_12_code
def yM_aged : MethodName := ⟨"CountLeastModel", "aged", "(II)I"⟩
abbrev wM_aged : List Cond := .code yM_aged cM_aged 3 (some .int) :: TB
abbrev cM_unsure : ByteArray := prog_6_method_13_code
def yM_unsure : MethodName := ⟨"CountLeastModel", "unsure", "(I)Z"⟩
abbrev wM_unsure : List Cond := .code yM_unsure cM_unsure 3 (some .boolean) :: TB
abbrev cM_rule : ByteArray := prog_6_method_14_code
def yM_rule : MethodName := ⟨"CountLeastModel", "rule", "(II)I"⟩
abbrev wM_rule : List Cond := .code yM_rule cM_rule 5 (some .int) :: TB
abbrev cM_clash : ByteArray := prog_6_method_15_code
def yM_clash : MethodName := ⟨"CountLeastModel", "clash", "(II)I"⟩
abbrev wM_clash : List Cond := .code yM_clash cM_clash 4 (some .int) :: TB
abbrev cM_clashes : ByteArray := prog_6_method_16_code
def yM_clashes : MethodName := ⟨"CountLeastModel", "clashes", "(III)Z"⟩
abbrev wM_clashes : List Cond := .code yM_clashes cM_clashes 4 (some .boolean) :: TB
abbrev cM_fits : ByteArray := prog_6_method_17_code
def yM_fits : MethodName := ⟨"CountLeastModel", "fits", "(III)Z"⟩
abbrev wM_fits : List Cond := .code yM_fits cM_fits 6 (some .boolean) :: TB
abbrev cM_parts : ByteArray := prog_6_method_18_code
def yM_parts : MethodName := ⟨"CountLeastModel", "parts", "(II)Z"⟩
abbrev wM_parts : List Cond := .code yM_parts cM_parts 8 (some .boolean) :: TB
abbrev cM_part : ByteArray := prog_6_method_19_code
def yM_part : MethodName := ⟨"CountLeastModel", "part", "(I)I"⟩
abbrev wM_part : List Cond := .code yM_part cM_part 3 (some .int) :: TB
abbrev cM_least : ByteArray := prog_6_method_20_code
def yM_least : MethodName := ⟨"CountLeastModel", "least", "(I)I"⟩
abbrev wM_least : List Cond := .code yM_least cM_least 2 (some .int) :: TB
abbrev cM_animal : ByteArray := prog_6_method_21_code
def yM_animal : MethodName := ⟨"CountLeastModel", "animal", "(I)I"⟩
abbrev wM_animal : List Cond := .code yM_animal cM_animal 4 (some .int) :: TB
abbrev cM_isClashing : ByteArray := prog_6_method_22_code
def yM_isClashing : MethodName := ⟨"CountLeastModel", "isClashing", "(II)Z"⟩
abbrev wM_isClashing : List Cond := .code yM_isClashing cM_isClashing 6 (some .boolean) :: TB
abbrev cM_sizeOf : ByteArray := prog_6_method_23_code
def yM_sizeOf : MethodName := ⟨"CountLeastModel", "sizeOf", "(I)I"⟩
abbrev wM_sizeOf : List Cond := .code yM_sizeOf cM_sizeOf 3 (some .int) :: TB
abbrev cM_greatest : ByteArray := prog_6_method_24_code
def yM_greatest : MethodName := ⟨"CountLeastModel", "greatest", "(I)I"⟩
abbrev wM_greatest : List Cond := .code yM_greatest cM_greatest 8 (some .int) :: TB
abbrev cM_clashing : ByteArray := prog_6_method_25_code
def yM_clashing : MethodName := ⟨"CountLeastModel", "clashing", "(II)I"⟩
abbrev wM_clashing : List Cond := .code yM_clashing cM_clashing 6 (some .int) :: TB
abbrev cM_weight : ByteArray := prog_6_method_26_code
def yM_weight : MethodName := ⟨"CountLeastModel", "weight", "(II)I"⟩
abbrev wM_weight : List Cond := .code yM_weight cM_weight 4 (some .int) :: TB
abbrev cM_sum : ByteArray := prog_6_method_27_code
def yM_sum : MethodName := ⟨"CountLeastModel", "sum", "(I)I"⟩
abbrev wM_sum : List Cond := .code yM_sum cM_sum 4 (some .int) :: TB
abbrev cM_lessen : ByteArray := prog_6_method_28_code
def yM_lessen : MethodName := ⟨"CountLeastModel", "lessen", "(II)V"⟩
abbrev wM_lessen : List Cond := .code yM_lessen cM_lessen 4 none :: TB
abbrev cM_share : ByteArray := prog_6_method_29_code
def yM_share : MethodName := ⟨"CountLeastModel", "share", "(II)I"⟩
abbrev wM_share : List Cond := .code yM_share cM_share 5 (some .int) :: TB
abbrev cM_sieve : ByteArray := prog_6_method_30_code
def yM_sieve : MethodName := ⟨"CountLeastModel", "sieve", "(III)V"⟩
abbrev wM_sieve : List Cond := .code yM_sieve cM_sieve 4 none :: TB
abbrev cM_scaled : ByteArray := prog_6_method_31_code
def yM_scaled : MethodName := ⟨"CountLeastModel", "scaled", "(II)I"⟩
abbrev wM_scaled : List Cond := .code yM_scaled cM_scaled 4 (some .int) :: TB
abbrev cM_diverse : ByteArray := prog_6_method_32_code
def yM_diverse : MethodName := ⟨"CountLeastModel", "diverse", "(I)I"⟩
abbrev wM_diverse : List Cond := .code yM_diverse cM_diverse 5 (some .int) :: TB
abbrev cM_pieces : ByteArray := prog_6_method_33_code
def yM_pieces : MethodName := ⟨"CountLeastModel", "pieces", "(I)I"⟩
abbrev wM_pieces : List Cond := .code yM_pieces cM_pieces 2 (some .int) :: TB
abbrev cK_init : ByteArray := prog_2_method_1_code
def yK_init : MethodName := ⟨"CountLeast$Kind", "<init>", "()V"⟩
abbrev wK_init : List Cond := .code yK_init cK_init 2 none :: TB
abbrev cK_take : ByteArray := prog_2_method_2_code
def yK_take : MethodName := ⟨"CountLeast$Kind", "take", "(LCountLeast$Piece;)V"⟩
abbrev wK_take : List Cond := .code yK_take cK_take 2 none :: TB
abbrev cK_numberAt : ByteArray := prog_2_method_3_code
def yK_numberAt : MethodName := ⟨"CountLeast$Kind", "numberAt", "(I)I"⟩
abbrev wK_numberAt : List Cond := .code yK_numberAt cK_numberAt 2 (some .int) :: TB
abbrev cK_gramsTogether : ByteArray := prog_2_method_4_code
def yK_gramsTogether : MethodName := ⟨"CountLeast$Kind", "gramsTogether", "()I"⟩
abbrev wK_gramsTogether : List Cond := .code yK_gramsTogether cK_gramsTogether 3 (some .int) :: TB
abbrev cK_ruleBetween : ByteArray := prog_2_method_5_code
def yK_ruleBetween : MethodName := ⟨"CountLeast$Kind", "ruleBetween", "(LCountLeast$Piece;LCountLeast$Piece;)I"⟩
abbrev wK_ruleBetween : List Cond := .code yK_ruleBetween cK_ruleBetween 3 (some .int) :: TB
abbrev cK_sidesClash : ByteArray := prog_2_method_6_code
def yK_sidesClash : MethodName := ⟨"CountLeast$Kind", "sidesClash", "(LCountLeast$Piece;LCountLeast$Piece;)Z"⟩
abbrev wK_sidesClash : List Cond := .code yK_sidesClash cK_sidesClash 3 (some .boolean) :: TB
abbrev cK_sizesClash : ByteArray := prog_2_method_7_code
def yK_sizesClash : MethodName := ⟨"CountLeast$Kind", "sizesClash", "(LCountLeast$Piece;LCountLeast$Piece;)Z"⟩
abbrev wK_sizesClash : List Cond := .code yK_sizesClash cK_sizesClash 3 (some .boolean) :: TB
abbrev cK_parted : ByteArray := prog_2_method_8_code
def yK_parted : MethodName := ⟨"CountLeast$Kind", "parted", "()LCountLeast$Parting;"⟩
abbrev wK_parted : List Cond := .code yK_parted cK_parted 1 (some (.object "CountLeast$Parting")) :: TB
abbrev cK_markFoes : ByteArray := prog_2_method_9_code
def yK_markFoes : MethodName := ⟨"CountLeast$Kind", "markFoes", "()V"⟩
abbrev wK_markFoes : List Cond := .code yK_markFoes cK_markFoes 3 none :: TB
abbrev cP_init : ByteArray := prog_3_method_1_code
def yP_init : MethodName := ⟨"CountLeast$Parting", "<init>", "()V"⟩
abbrev wP_init : List Cond := .code yP_init cP_init 1 none :: TB
abbrev cP_begin : ByteArray := prog_3_method_2_code
def yP_begin : MethodName := ⟨"CountLeast$Parting", "begin", "(I)V"⟩
abbrev wP_begin : List Cond := .code yP_begin cP_begin 3 none :: TB
abbrev cP_setApart : ByteArray := prog_3_method_3_code
def yP_setApart : MethodName := ⟨"CountLeast$Parting", "setApart", "(II)V"⟩
abbrev wP_setApart : List Cond := .code yP_setApart cP_setApart 3 none :: TB
abbrev cP_search : ByteArray := prog_3_method_4_code
def yP_search : MethodName := ⟨"CountLeast$Parting", "search", "()V"⟩
abbrev wP_search : List Cond := .code yP_search cP_search 2 none :: TB
abbrev cP_setOf : ByteArray := prog_3_method_5_code
def yP_setOf : MethodName := ⟨"CountLeast$Parting", "setOf", "(I)I"⟩
abbrev wP_setOf : List Cond := .code yP_setOf cP_setOf 2 (some .int) :: TB
abbrev cP_placeOfFoe : ByteArray := prog_3_method_6_code
def yP_placeOfFoe : MethodName := ⟨"CountLeast$Parting", "placeOfFoe", "(I)I"⟩
abbrev wP_placeOfFoe : List Cond := .code yP_placeOfFoe cP_placeOfFoe 4 (some .int) :: TB
abbrev cP_growFoes : ByteArray := prog_3_method_7_code
def yP_growFoes : MethodName := ⟨"CountLeast$Parting", "growFoes", "(III)V"⟩
abbrev wP_growFoes : List Cond := .code yP_growFoes cP_growFoes 7 none :: TB
abbrev cP_fill : ByteArray := prog_3_method_8_code
def yP_fill : MethodName := ⟨"CountLeast$Parting", "fill", "(II)Z"⟩
abbrev wP_fill : List Cond := .code yP_fill cP_fill 6 (some .boolean) :: TB
abbrev cQ_init : ByteArray := prog_4_method_1_code
def yQ_init : MethodName := ⟨"CountLeast$Piece", "<init>", "(LCountLeast$Kind;IIII)V"⟩
abbrev wQ_init : List Cond := .code yQ_init cQ_init 6 none :: TB
abbrev cL_piece : ByteArray := method_3_code
def yL_piece : MethodName := ⟨"CountLeastLaw", "piece", "(LCountLeast;IIII[J)I"⟩
abbrev wL_piece : List Cond := .codeWith yL_piece cL_piece 7 (some .int) [(0, 14, 17, 13), (0, 14, 21, 15), (0, 14, 25, 17)] :: TB
abbrev cL_single : ByteArray := method_4_code
def yL_single : MethodName := ⟨"CountLeastLaw", "single", "(LCountLeast;IIZ[J)I"⟩
abbrev wL_single : List Cond := .codeWith yL_single cL_single 6 (some .int) [(0, 19, 22, 13)] :: TB
abbrev cL_bound : ByteArray := method_5_code
def yL_bound : MethodName := ⟨"CountLeastLaw", "bound", "(LCountLeast;II[J)I"⟩
abbrev wL_bound : List Cond := .codeWith yL_bound cL_bound 5 (some .int) [(0, 10, 13, 13), (0, 10, 17, 15)] :: TB
abbrev cL_table : ByteArray := method_6_code
def yL_table : MethodName := ⟨"CountLeastLaw", "table", "(LCountLeast;IIII)I"⟩
abbrev wL_table : List Cond := .codeWith yL_table cL_table 6 (some .int) [(0, 9, 12, 13), (0, 9, 16, 15)] :: TB
abbrev cL_worn : ByteArray := method_7_code
def yL_worn : MethodName := ⟨"CountLeastLaw", "worn", "(LCountLeast;II)I"⟩
abbrev wL_worn : List Cond := .codeWith yL_worn cL_worn 4 (some .int) [(0, 6, 9, 13)] :: TB
abbrev cL_aged : ByteArray := method_8_code
def yL_aged : MethodName := ⟨"CountLeastLaw", "aged", "(LCountLeast;II[J)I"⟩
abbrev wL_aged : List Cond := .codeWith yL_aged cL_aged 5 (some .int) [(0, 10, 13, 13)] :: TB
abbrev cL_unsure : ByteArray := method_9_code
def yL_unsure : MethodName := ⟨"CountLeastLaw", "unsure", "(LCountLeast;I[J)I"⟩
abbrev wL_unsure : List Cond := .codeWith yL_unsure cL_unsure 4 (some .int) [(0, 16, 19, 13)] :: TB
abbrev cL_clash : ByteArray := method_10_code
def yL_clash : MethodName := ⟨"CountLeastLaw", "clash", "(LCountLeast;II[J)I"⟩
abbrev wL_clash : List Cond := .codeWith yL_clash cL_clash 5 (some .int) [(0, 10, 13, 13), (0, 10, 17, 15)] :: TB
abbrev cL_least : ByteArray := method_11_code
def yL_least : MethodName := ⟨"CountLeastLaw", "least", "(LCountLeast;I[J)I"⟩
abbrev wL_least : List Cond := .codeWith yL_least cL_least 4 (some .int) [(0, 9, 12, 13)] :: TB
abbrev cL_animal : ByteArray := method_12_code
def yL_animal : MethodName := ⟨"CountLeastLaw", "animal", "(LCountLeast;I[J)I"⟩
abbrev wL_animal : List Cond := .codeWith yL_animal cL_animal 4 (some .int) [(0, 9, 12, 13)] :: TB
abbrev cL_clashing : ByteArray := method_13_code
def yL_clashing : MethodName := ⟨"CountLeastLaw", "clashing", "(LCountLeast;II[J)I"⟩
abbrev wL_clashing : List Cond := .codeWith yL_clashing cL_clashing 5 (some .int) [(0, 10, 13, 13)] :: TB
abbrev cL_weight : ByteArray := method_14_code
def yL_weight : MethodName := ⟨"CountLeastLaw", "weight", "(LCountLeast;II[J)I"⟩
abbrev wL_weight : List Cond := .codeWith yL_weight cL_weight 5 (some .int) [(0, 10, 13, 13), (0, 10, 17, 15)] :: TB
abbrev cL_sum : ByteArray := method_15_code
def yL_sum : MethodName := ⟨"CountLeastLaw", "sum", "(LCountLeast;I[J)I"⟩
abbrev wL_sum : List Cond := .codeWith yL_sum cL_sum 4 (some .int) [(0, 9, 12, 13)] :: TB
abbrev cL_share : ByteArray := method_16_code
def yL_share : MethodName := ⟨"CountLeastLaw", "share", "(LCountLeast;II[J)I"⟩
abbrev wL_share : List Cond := .codeWith yL_share cL_share 5 (some .int) [(0, 10, 13, 13)] :: TB
abbrev cL_sieve : ByteArray := method_17_code
def yL_sieve : MethodName := ⟨"CountLeastLaw", "sieve", "(LCountLeast;III)I"⟩
abbrev wL_sieve : List Cond := .codeWith yL_sieve cL_sieve 5 (some .int) [(0, 7, 10, 13), (0, 7, 14, 15)] :: TB
abbrev cL_scaled : ByteArray := method_18_code
def yL_scaled : MethodName := ⟨"CountLeastLaw", "scaled", "(LCountLeast;II[J)I"⟩
abbrev wL_scaled : List Cond := .codeWith yL_scaled cL_scaled 5 (some .int) [(0, 10, 13, 13)] :: TB
abbrev cL_diverse : ByteArray := method_19_code
def yL_diverse : MethodName := ⟨"CountLeastLaw", "diverse", "(LCountLeast;I[J)I"⟩
abbrev wL_diverse : List Cond := .codeWith yL_diverse cL_diverse 4 (some .int) [(0, 9, 12, 13)] :: TB
abbrev cL_pieces : ByteArray := method_20_code
def yL_pieces : MethodName := ⟨"CountLeastLaw", "pieces", "(LCountLeast;I[J)I"⟩
abbrev wL_pieces : List Cond := .codeWith yL_pieces cL_pieces 4 (some .int) [(0, 9, 12, 13)] :: TB
abbrev cL_law : ByteArray := code
def yL_law : MethodName := ⟨"CountLeastLaw", "law", "([I)Z"⟩
abbrev cI_bitCount : ByteArray := prog_11_method_49_code
def yI_bitCount : MethodName := ⟨"java/lang/Integer", "bitCount", "(I)I"⟩
abbrev wI_bitCount : List Cond := .code yI_bitCount cI_bitCount 1 (some .int) :: TB
end
section
theorem wm_0 : (.initialized "CountLeastLaw" : Cond) ∈ TB := tb_i 18 (by rfl) (by rfl)
theorem wm_1 : (.initialized "CountLeast" : Cond) ∈ TB := tb_i 19 (by rfl) (by rfl)
theorem wm_2 : (.initialized "CountLeast$Kind" : Cond) ∈ TB := tb_i 20 (by rfl) (by rfl)
theorem wm_3 : (.initialized "CountLeast$Parting" : Cond) ∈ TB := tb_i 21 (by rfl) (by rfl)
theorem wm_4 : (.initialized "CountLeastModel" : Cond) ∈ TB := tb_i 22 (by rfl) (by rfl)
theorem wm_5 : (.initialized "java/lang/Throwable" : Cond) ∈ TB := tb_i 23 (by rfl) (by rfl)
theorem wm_6 : (.initialized "java/lang/Exception" : Cond) ∈ TB := tb_i 24 (by rfl) (by rfl)
theorem wm_7 : (.initialized "java/lang/RuntimeException" : Cond) ∈ TB := tb_i 25 (by rfl) (by rfl)
theorem wm_8 : (.initialized "java/lang/IndexOutOfBoundsException" : Cond) ∈ TB := tb_i 26 (by rfl) (by rfl)
theorem wm_9 : (.initialized "java/lang/IllegalArgumentException" : Cond) ∈ TB := tb_i 27 (by rfl) (by rfl)
theorem wm_10 : (.initialized "java/lang/IllegalStateException" : Cond) ∈ TB := tb_i 28 (by rfl) (by rfl)
theorem wm_11 : (.initialized "CountLeast$Piece" : Cond) ∈ TB := tb_i 29 (by rfl) (by rfl)
theorem wm_12 : (.initialized "java/lang/Math" : Cond) ∈ TB := tb_i 30 (by rfl) (by rfl)
theorem wm_13 : (.initialized "java/lang/Integer" : Cond) ∈ TB := tb_i 31 (by rfl) (by rfl)
theorem wm_14 : (.classLink "CountLeastLaw" 8 "CountLeast" : Cond) ∈ TB := tb_i 32 (by rfl) (by rfl)
theorem wm_15 : (.instantiable "CountLeast" 3 : Cond) ∈ TB := tb_i 33 (by rfl) (by rfl)
theorem wm_16 : (.methodLink "CountLeastLaw" 77 ⟨"CountLeast", "<init>", "()V"⟩ : Cond) ∈ TB := tb_i 34 (by rfl) (by rfl)
theorem wm_17 : (.instanceMethod ⟨"CountLeast", "<init>", "()V"⟩ : Cond) ∈ TB := tb_i 35 (by rfl) (by rfl)
theorem wm_18 : (.code ⟨"CountLeast", "<init>", "()V"⟩ prog_1_method_1_code 2 none : Cond) ∈ TB := tb_i 36 (by rfl) (by rfl)
theorem wm_19 : (.methodLink "CountLeast" 1 ⟨"java/lang/Object", "<init>", "()V"⟩ : Cond) ∈ TB := tb_i 37 (by rfl) (by rfl)
theorem wm_20 : (.instanceMethod ⟨"java/lang/Object", "<init>", "()V"⟩ : Cond) ∈ TB := tb_i 38 (by rfl) (by rfl)
theorem wm_21 : (.code ⟨"java/lang/Object", "<init>", "()V"⟩ object_method_1_code 1 none : Cond) ∈ TB := tb_i 39 (by rfl) (by rfl)
theorem wm_22 : (.classLink "CountLeast" 9 "CountLeast$Kind" : Cond) ∈ TB := tb_i 40 (by rfl) (by rfl)
theorem wm_24 : (.classLink "CountLeast" 15 "CountLeast$Piece" : Cond) ∈ TB := tb_i 42 (by rfl) (by rfl)
theorem wm_26 : (.instantiable "CountLeast$Kind" 10 : Cond) ∈ TB := tb_i 44 (by rfl) (by rfl)
theorem wm_27 : (.methodLink "CountLeast" 25 ⟨"CountLeast$Kind", "<init>", "()V"⟩ : Cond) ∈ TB := tb_i 45 (by rfl) (by rfl)
theorem wm_28 : (.instanceMethod ⟨"CountLeast$Kind", "<init>", "()V"⟩ : Cond) ∈ TB := tb_i 46 (by rfl) (by rfl)
theorem wm_29 : (.code ⟨"CountLeast$Kind", "<init>", "()V"⟩ prog_2_method_1_code 2 none : Cond) ∈ TB := tb_i 47 (by rfl) (by rfl)
theorem wm_30 : (.methodLink "CountLeast$Kind" 3 ⟨"java/lang/Object", "<init>", "()V"⟩ : Cond) ∈ TB := tb_i 48 (by rfl) (by rfl)
theorem wm_31 : (.classLink "CountLeast$Kind" 39 "CountLeast$Piece" : Cond) ∈ TB := tb_i 49 (by rfl) (by rfl)
theorem wm_32 : (.classLink "CountLeast$Kind" 45 "CountLeast$Parting" : Cond) ∈ TB := tb_i 50 (by rfl) (by rfl)
theorem wm_33 : (.instantiable "CountLeast$Parting" 6 : Cond) ∈ TB := tb_i 51 (by rfl) (by rfl)
theorem wm_35 : (.instanceMethod ⟨"CountLeast$Parting", "<init>", "()V"⟩ : Cond) ∈ TB := tb_i 53 (by rfl) (by rfl)
theorem wm_36 : (.code ⟨"CountLeast$Parting", "<init>", "()V"⟩ prog_3_method_1_code 1 none : Cond) ∈ TB := tb_i 54 (by rfl) (by rfl)
theorem wm_37 : (.methodLink "CountLeast$Parting" 3 ⟨"java/lang/Object", "<init>", "()V"⟩ : Cond) ∈ TB := tb_i 55 (by rfl) (by rfl)
theorem wm_38 : (.fieldLink "CountLeast$Parting" 9 "CountLeast$Parting" "fewest" "I" : Cond) ∈ TB := tb_i 56 (by rfl) (by rfl)
theorem wm_39 : (.fieldLink "CountLeast" 106 "CountLeast$Parting" "fewest" "I" : Cond) ∈ TB := tb_i 57 (by rfl) (by rfl)
theorem wm_40 : (.fieldLink "CountLeast$Parting" 15 "CountLeast$Parting" "count" "I" : Cond) ∈ TB := tb_i 58 (by rfl) (by rfl)
theorem wm_41 : (.fieldLink "CountLeast$Parting" 18 "CountLeast$Parting" "greatest" "I" : Cond) ∈ TB := tb_i 59 (by rfl) (by rfl)
theorem wm_42 : (.fieldLink "CountLeast$Parting" 21 "CountLeast$Parting" "foesOf" "[I" : Cond) ∈ TB := tb_i 60 (by rfl) (by rfl)
theorem wm_43 : (.fieldLink "CountLeast$Parting" 25 "CountLeast$Parting" "setOf" "[I" : Cond) ∈ TB := tb_i 61 (by rfl) (by rfl)
theorem wm_44 : (.fieldLink "CountLeast$Parting" 28 "CountLeast$Parting" "inSet" "[I" : Cond) ∈ TB := tb_i 62 (by rfl) (by rfl)
theorem wm_45 : (.lays "CountLeast$Parting" "CountLeast$Parting" "fewest" "I" : Cond) ∈ TB := tb_i 63 (by rfl) (by rfl)
theorem wm_47 : (.lays "CountLeast$Parting" "CountLeast$Parting" "count" "I" : Cond) ∈ TB := tb_i 65 (by rfl) (by rfl)
theorem wm_49 : (.lays "CountLeast$Parting" "CountLeast$Parting" "greatest" "I" : Cond) ∈ TB := tb_i 67 (by rfl) (by rfl)
theorem wm_51 : (.laysFinal "CountLeast$Parting" "CountLeast$Parting" "foesOf" "[I" : Cond) ∈ TB := tb_i 69 (by rfl) (by rfl)
theorem wm_53 : (.laysFinal "CountLeast$Parting" "CountLeast$Parting" "setOf" "[I" : Cond) ∈ TB := tb_i 71 (by rfl) (by rfl)
theorem wm_55 : (.laysFinal "CountLeast$Parting" "CountLeast$Parting" "inSet" "[I" : Cond) ∈ TB := tb_i 73 (by rfl) (by rfl)
theorem wm_58 : (.arrayClass .boolean : Cond) ∈ TB := tb_i 76 (by rfl) (by rfl)
theorem wm_59 : (.arrayClass .int : Cond) ∈ TB := tb_i 77 (by rfl) (by rfl)
theorem wm_60 : (.fieldLink "CountLeast$Kind" 9 "CountLeast$Kind" "oneAlone" "[Z" : Cond) ∈ TB := tb_i 78 (by rfl) (by rfl)
theorem wm_61 : (.fieldLink "CountLeast" 58 "CountLeast$Kind" "oneAlone" "[Z" : Cond) ∈ TB := tb_i 79 (by rfl) (by rfl)
theorem wm_62 : (.fieldLink "CountLeast$Kind" 15 "CountLeast$Kind" "wearFrom" "[I" : Cond) ∈ TB := tb_i 80 (by rfl) (by rfl)
theorem wm_63 : (.fieldLink "CountLeast" 69 "CountLeast$Kind" "wearFrom" "[I" : Cond) ∈ TB := tb_i 81 (by rfl) (by rfl)
theorem wm_64 : (.fieldLink "CountLeast$Kind" 19 "CountLeast$Kind" "wearTo" "[I" : Cond) ∈ TB := tb_i 82 (by rfl) (by rfl)
theorem wm_65 : (.fieldLink "CountLeast" 73 "CountLeast$Kind" "wearTo" "[I" : Cond) ∈ TB := tb_i 83 (by rfl) (by rfl)
theorem wm_66 : (.fieldLink "CountLeast$Kind" 22 "CountLeast$Kind" "sizeBound" "I" : Cond) ∈ TB := tb_i 84 (by rfl) (by rfl)
theorem wm_67 : (.fieldLink "CountLeast" 66 "CountLeast$Kind" "sizeBound" "I" : Cond) ∈ TB := tb_i 85 (by rfl) (by rfl)
theorem wm_68 : (.fieldLink "CountLeast$Kind" 26 "CountLeast$Kind" "factorAbove" "I" : Cond) ∈ TB := tb_i 86 (by rfl) (by rfl)
theorem wm_69 : (.fieldLink "CountLeast" 141 "CountLeast$Kind" "factorAbove" "I" : Cond) ∈ TB := tb_i 87 (by rfl) (by rfl)
theorem wm_70 : (.fieldLink "CountLeast$Kind" 29 "CountLeast$Kind" "factorBelow" "I" : Cond) ∈ TB := tb_i 88 (by rfl) (by rfl)
theorem wm_71 : (.fieldLink "CountLeast" 144 "CountLeast$Kind" "factorBelow" "I" : Cond) ∈ TB := tb_i 89 (by rfl) (by rfl)
theorem wm_72 : (.fieldLink "CountLeast$Piece" 28 "CountLeast$Kind" "count" "I" : Cond) ∈ TB := tb_i 90 (by rfl) (by rfl)
theorem wm_73 : (.fieldLink "CountLeast$Kind" 32 "CountLeast$Kind" "count" "I" : Cond) ∈ TB := tb_i 91 (by rfl) (by rfl)
theorem wm_74 : (.fieldLink "CountLeast" 38 "CountLeast$Kind" "count" "I" : Cond) ∈ TB := tb_i 92 (by rfl) (by rfl)
theorem wm_75 : (.fieldLink "CountLeast$Kind" 35 "CountLeast$Kind" "stale" "Z" : Cond) ∈ TB := tb_i 93 (by rfl) (by rfl)
theorem wm_76 : (.fieldLink "CountLeast" 62 "CountLeast$Kind" "stale" "Z" : Cond) ∈ TB := tb_i 94 (by rfl) (by rfl)
theorem wm_77 : (.fieldLink "CountLeast$Kind" 41 "CountLeast$Kind" "own" "[LCountLeast$Piece;" : Cond) ∈ TB := tb_i 95 (by rfl) (by rfl)
theorem wm_78 : (.fieldLink "CountLeast$Kind" 48 "CountLeast$Kind" "parting" "LCountLeast$Parting;" : Cond) ∈ TB := tb_i 96 (by rfl) (by rfl)
theorem wm_79 : (.laysFinal "CountLeast$Kind" "CountLeast$Kind" "oneAlone" "[Z" : Cond) ∈ TB := tb_i 97 (by rfl) (by rfl)
theorem wm_81 : (.laysFinal "CountLeast$Kind" "CountLeast$Kind" "wearFrom" "[I" : Cond) ∈ TB := tb_i 99 (by rfl) (by rfl)
theorem wm_83 : (.laysFinal "CountLeast$Kind" "CountLeast$Kind" "wearTo" "[I" : Cond) ∈ TB := tb_i 101 (by rfl) (by rfl)
theorem wm_85 : (.lays "CountLeast$Kind" "CountLeast$Kind" "sizeBound" "I" : Cond) ∈ TB := tb_i 103 (by rfl) (by rfl)
theorem wm_87 : (.lays "CountLeast$Kind" "CountLeast$Kind" "factorAbove" "I" : Cond) ∈ TB := tb_i 105 (by rfl) (by rfl)
theorem wm_89 : (.lays "CountLeast$Kind" "CountLeast$Kind" "factorBelow" "I" : Cond) ∈ TB := tb_i 107 (by rfl) (by rfl)
theorem wm_91 : (.lays "CountLeast$Kind" "CountLeast$Kind" "count" "I" : Cond) ∈ TB := tb_i 109 (by rfl) (by rfl)
theorem wm_93 : (.lays "CountLeast$Kind" "CountLeast$Kind" "stale" "Z" : Cond) ∈ TB := tb_i 111 (by rfl) (by rfl)
theorem wm_95 : (.laysFinal "CountLeast$Kind" "CountLeast$Kind" "own" "[LCountLeast$Piece;" : Cond) ∈ TB := tb_i 113 (by rfl) (by rfl)
theorem wm_97 : (.laysFinal "CountLeast$Kind" "CountLeast$Kind" "parting" "LCountLeast$Parting;" : Cond) ∈ TB := tb_i 115 (by rfl) (by rfl)
theorem wm_100 : (.fieldLink "CountLeast" 11 "CountLeast" "kinds" "[LCountLeast$Kind;" : Cond) ∈ TB := tb_i 118 (by rfl) (by rfl)
theorem wm_101 : (.fieldLink "CountLeast" 17 "CountLeast" "found" "[LCountLeast$Piece;" : Cond) ∈ TB := tb_i 119 (by rfl) (by rfl)
theorem wm_102 : (.fieldLink "CountLeast" 21 "CountLeast" "foundCount" "I" : Cond) ∈ TB := tb_i 120 (by rfl) (by rfl)
theorem wm_103 : (.laysFinal "CountLeast" "CountLeast" "kinds" "[LCountLeast$Kind;" : Cond) ∈ TB := tb_i 121 (by rfl) (by rfl)
theorem wm_105 : (.laysFinal "CountLeast" "CountLeast" "found" "[LCountLeast$Piece;" : Cond) ∈ TB := tb_i 123 (by rfl) (by rfl)
theorem wm_107 : (.lays "CountLeast" "CountLeast" "foundCount" "I" : Cond) ∈ TB := tb_i 125 (by rfl) (by rfl)
theorem wm_110 : (.methodLink "CountLeastLaw" 81 ⟨"CountLeastLaw", "piece", "(LCountLeast;IIII[J)I"⟩ : Cond) ∈ TB := tb_i 128 (by rfl) (by rfl)
theorem wm_111 : (.static ⟨"CountLeastLaw", "piece", "(LCountLeast;IIII[J)I"⟩ : Cond) ∈ TB := tb_i 129 (by rfl) (by rfl)
theorem wm_112 : (.codeWith ⟨"CountLeastLaw", "piece", "(LCountLeast;IIII[J)I"⟩ method_3_code 7 (some .int) [(0, 14, 17, 13), (0, 14, 21, 15), (0, 14, 25, 17)] : Cond) ∈ TB := tb_i 130 (by rfl) (by rfl)
theorem wm_113 : (.classLink "CountLeastLaw" 13 "java/lang/IndexOutOfBoundsException" : Cond) ∈ TB := tb_i 131 (by rfl) (by rfl)
theorem wm_114 : (.classLink "CountLeastLaw" 15 "java/lang/IllegalArgumentException" : Cond) ∈ TB := tb_i 132 (by rfl) (by rfl)
theorem wm_115 : (.classLink "CountLeastLaw" 17 "java/lang/IllegalStateException" : Cond) ∈ TB := tb_i 133 (by rfl) (by rfl)
theorem wm_116 : (.methodLink "CountLeastLaw" 7 ⟨"CountLeast", "piece", "(IIII)I"⟩ : Cond) ∈ TB := tb_i 134 (by rfl) (by rfl)
theorem wm_117 : (.instanceMethod ⟨"CountLeast", "piece", "(IIII)I"⟩ : Cond) ∈ TB := tb_i 135 (by rfl) (by rfl)
theorem wm_118 : (.selects "CountLeast" ⟨"CountLeast", "piece", "(IIII)I"⟩ ⟨"CountLeast", "piece", "(IIII)I"⟩ : Cond) ∈ TB := tb_i 136 (by rfl) (by rfl)
theorem wm_119 : (.code ⟨"CountLeast", "piece", "(IIII)I"⟩ prog_1_method_2_code 7 (some .int) : Cond) ∈ TB := tb_i 137 (by rfl) (by rfl)
theorem wm_120 : (.methodLink "CountLeast" 26 ⟨"CountLeast", "kindAt", "(I)LCountLeast$Kind;"⟩ : Cond) ∈ TB := tb_i 138 (by rfl) (by rfl)
theorem wm_122 : (.instanceMethod ⟨"CountLeast", "kindAt", "(I)LCountLeast$Kind;"⟩ : Cond) ∈ TB := tb_i 140 (by rfl) (by rfl)
theorem wm_123 : (.code ⟨"CountLeast", "kindAt", "(I)LCountLeast$Kind;"⟩ prog_1_method_20_code 2 (some (.object "CountLeast$Kind")) : Cond) ∈ TB := tb_i 141 (by rfl) (by rfl)
theorem wm_124 : (.classLink "CountLeast" 118 "java/lang/IndexOutOfBoundsException" : Cond) ∈ TB := tb_i 142 (by rfl) (by rfl)
theorem wm_125 : (.instantiable "java/lang/IndexOutOfBoundsException" 6 : Cond) ∈ TB := tb_i 143 (by rfl) (by rfl)
theorem wm_133 : (.selects "java/lang/IndexOutOfBoundsException" ⟨"java/lang/Throwable", "fillInStackTrace", "(I)Ljava/lang/Throwable;"⟩ ⟨"java/lang/Throwable", "fillInStackTrace", "(I)Ljava/lang/Throwable;"⟩ : Cond) ∈ TB := tb_i 151 (by rfl) (by rfl)
theorem wm_134 : (.selects "java/lang/IndexOutOfBoundsException" ⟨"java/lang/Throwable", "fillInStackTrace", "()Ljava/lang/Throwable;"⟩ ⟨"java/lang/Throwable", "fillInStackTrace", "()Ljava/lang/Throwable;"⟩ : Cond) ∈ TB := tb_i 152 (by rfl) (by rfl)
theorem wm_135 : (.lays "java/lang/IndexOutOfBoundsException" "java/lang/Throwable" "cause" "Ljava/lang/Throwable;" : Cond) ∈ TB := tb_i 153 (by rfl) (by rfl)
theorem wm_136 : (.lays "java/lang/Throwable" "java/lang/Throwable" "cause" "Ljava/lang/Throwable;" : Cond) ∈ TB := tb_i 154 (by rfl) (by rfl)
theorem wm_137 : (.lays "java/lang/IndexOutOfBoundsException" "java/lang/Throwable" "stackTrace" "[Ljava/lang/StackTraceElement;" : Cond) ∈ TB := tb_i 155 (by rfl) (by rfl)
theorem wm_138 : (.lays "java/lang/Throwable" "java/lang/Throwable" "stackTrace" "[Ljava/lang/StackTraceElement;" : Cond) ∈ TB := tb_i 156 (by rfl) (by rfl)
theorem wm_139 : (.lays "java/lang/IndexOutOfBoundsException" "java/lang/Throwable" "suppressedExceptions" "Ljava/util/List;" : Cond) ∈ TB := tb_i 157 (by rfl) (by rfl)
theorem wm_140 : (.lays "java/lang/Throwable" "java/lang/Throwable" "suppressedExceptions" "Ljava/util/List;" : Cond) ∈ TB := tb_i 158 (by rfl) (by rfl)
theorem wm_141 : (.lays "java/lang/IndexOutOfBoundsException" "java/lang/Throwable" "detailMessage" "Ljava/lang/String;" : Cond) ∈ TB := tb_i 159 (by rfl) (by rfl)
theorem wm_142 : (.lays "java/lang/Throwable" "java/lang/Throwable" "detailMessage" "Ljava/lang/String;" : Cond) ∈ TB := tb_i 160 (by rfl) (by rfl)
theorem wm_143 : (.lays "java/lang/IndexOutOfBoundsException" "java/lang/Throwable" "backtrace" "Ljava/lang/Object;" : Cond) ∈ TB := tb_i 161 (by rfl) (by rfl)
theorem wm_144 : (.lays "java/lang/Throwable" "java/lang/Throwable" "backtrace" "Ljava/lang/Object;" : Cond) ∈ TB := tb_i 162 (by rfl) (by rfl)
theorem wm_145 : (.fieldLink "java/lang/Throwable" 198 "java/lang/Throwable" "backtrace" "Ljava/lang/Object;" : Cond) ∈ TB := tb_i 163 (by rfl) (by rfl)
theorem wm_147 : (.instanceMethod ⟨"java/lang/Throwable", "<init>", "()V"⟩ : Cond) ∈ TB := tb_i 165 (by rfl) (by rfl)
theorem wm_148 : (.code ⟨"java/lang/Throwable", "<init>", "()V"⟩ prog_15_method_1_code 1 none : Cond) ∈ TB := tb_i 166 (by rfl) (by rfl)
theorem wm_149 : (.methodLink "java/lang/Throwable" 1 ⟨"java/lang/Object", "<init>", "()V"⟩ : Cond) ∈ TB := tb_i 167 (by rfl) (by rfl)
theorem wm_150 : (.fieldLink "java/lang/Throwable" 13 "java/lang/Throwable" "UNASSIGNED_STACK" "[Ljava/lang/StackTraceElement;" : Cond) ∈ TB := tb_i 168 (by rfl) (by rfl)
theorem wm_152 : (.fieldLink "java/lang/Throwable" 20 "java/lang/Throwable" "SUPPRESSED_SENTINEL" "Ljava/util/List;" : Cond) ∈ TB := tb_i 170 (by rfl) (by rfl)
theorem wm_154 : (.methodLink "java/lang/Throwable" 27 ⟨"java/lang/Throwable", "fillInStackTrace", "()Ljava/lang/Throwable;"⟩ : Cond) ∈ TB := tb_i 172 (by rfl) (by rfl)
theorem wm_155 : (.instanceMethod ⟨"java/lang/Throwable", "fillInStackTrace", "()Ljava/lang/Throwable;"⟩ : Cond) ∈ TB := tb_i 173 (by rfl) (by rfl)
theorem wm_156 : (.sameMethod "java/lang/Throwable" "java/lang/Throwable" "fillInStackTrace" "()Ljava/lang/Throwable;" : Cond) ∈ TB := tb_i 174 (by rfl) (by rfl)
theorem wm_157 : (.selects "java/lang/IllegalArgumentException" ⟨"java/lang/Throwable", "fillInStackTrace", "()Ljava/lang/Throwable;"⟩ ⟨"java/lang/Throwable", "fillInStackTrace", "()Ljava/lang/Throwable;"⟩ : Cond) ∈ TB := tb_i 175 (by rfl) (by rfl)
theorem wm_158 : (.selects "java/lang/IllegalStateException" ⟨"java/lang/Throwable", "fillInStackTrace", "()Ljava/lang/Throwable;"⟩ ⟨"java/lang/Throwable", "fillInStackTrace", "()Ljava/lang/Throwable;"⟩ : Cond) ∈ TB := tb_i 176 (by rfl) (by rfl)
theorem wm_159 : (.codeSync ⟨"java/lang/Throwable", "fillInStackTrace", "()Ljava/lang/Throwable;"⟩ prog_15_method_18_code 1 (some (.object "java/lang/Throwable")) : Cond) ∈ TB := tb_i 177 (by rfl) (by rfl)
theorem wm_160 : (.methodLink "java/lang/Throwable" 202 ⟨"java/lang/Throwable", "fillInStackTrace", "(I)Ljava/lang/Throwable;"⟩ : Cond) ∈ TB := tb_i 178 (by rfl) (by rfl)
theorem wm_162 : (.instanceMethod ⟨"java/lang/Throwable", "fillInStackTrace", "(I)Ljava/lang/Throwable;"⟩ : Cond) ∈ TB := tb_i 180 (by rfl) (by rfl)
theorem wm_163 : (.instantiable "java/lang/Throwable" 6 : Cond) ∈ TB := tb_i 181 (by rfl) (by rfl)
theorem wm_164 : (.native ⟨"java/lang/Throwable", "fillInStackTrace", "(I)Ljava/lang/Throwable;"⟩ : Cond) ∈ TB := tb_i 182 (by rfl) (by rfl)
theorem wm_166 : (.methodLink "CountLeast" 122 ⟨"java/lang/IndexOutOfBoundsException", "<init>", "(Ljava/lang/String;)V"⟩ : Cond) ∈ TB := tb_i 184 (by rfl) (by rfl)
theorem wm_167 : (.instanceMethod ⟨"java/lang/IndexOutOfBoundsException", "<init>", "(Ljava/lang/String;)V"⟩ : Cond) ∈ TB := tb_i 185 (by rfl) (by rfl)
theorem wm_168 : (.code ⟨"java/lang/IndexOutOfBoundsException", "<init>", "(Ljava/lang/String;)V"⟩ prog_10_method_2_code 2 none : Cond) ∈ TB := tb_i 186 (by rfl) (by rfl)
theorem wm_169 : (.methodLink "java/lang/IndexOutOfBoundsException" 7 ⟨"java/lang/RuntimeException", "<init>", "(Ljava/lang/String;)V"⟩ : Cond) ∈ TB := tb_i 187 (by rfl) (by rfl)
theorem wm_170 : (.instanceMethod ⟨"java/lang/RuntimeException", "<init>", "(Ljava/lang/String;)V"⟩ : Cond) ∈ TB := tb_i 188 (by rfl) (by rfl)
theorem wm_171 : (.code ⟨"java/lang/RuntimeException", "<init>", "(Ljava/lang/String;)V"⟩ prog_13_method_2_code 2 none : Cond) ∈ TB := tb_i 189 (by rfl) (by rfl)
theorem wm_172 : (.methodLink "java/lang/RuntimeException" 7 ⟨"java/lang/Exception", "<init>", "(Ljava/lang/String;)V"⟩ : Cond) ∈ TB := tb_i 190 (by rfl) (by rfl)
theorem wm_173 : (.instanceMethod ⟨"java/lang/Exception", "<init>", "(Ljava/lang/String;)V"⟩ : Cond) ∈ TB := tb_i 191 (by rfl) (by rfl)
theorem wm_174 : (.code ⟨"java/lang/Exception", "<init>", "(Ljava/lang/String;)V"⟩ prog_7_method_2_code 2 none : Cond) ∈ TB := tb_i 192 (by rfl) (by rfl)
theorem wm_175 : (.methodLink "java/lang/Exception" 7 ⟨"java/lang/Throwable", "<init>", "(Ljava/lang/String;)V"⟩ : Cond) ∈ TB := tb_i 193 (by rfl) (by rfl)
theorem wm_176 : (.instanceMethod ⟨"java/lang/Throwable", "<init>", "(Ljava/lang/String;)V"⟩ : Cond) ∈ TB := tb_i 194 (by rfl) (by rfl)
theorem wm_177 : (.code ⟨"java/lang/Throwable", "<init>", "(Ljava/lang/String;)V"⟩ prog_15_method_2_code 2 none : Cond) ∈ TB := tb_i 195 (by rfl) (by rfl)
theorem wm_178 : (.fieldLink "java/lang/Throwable" 198 "java/lang/Throwable" "backtrace" "Ljava/lang/Object;" : Cond) ∈ TB := tb_i 196 (by rfl) (by rfl)
theorem wm_179 : (.fieldLink "java/lang/Throwable" 31 "java/lang/Throwable" "detailMessage" "Ljava/lang/String;" : Cond) ∈ TB := tb_i 197 (by rfl) (by rfl)
theorem wm_180 : (.fieldLink "java/lang/Throwable" 7 "java/lang/Throwable" "cause" "Ljava/lang/Throwable;" : Cond) ∈ TB := tb_i 198 (by rfl) (by rfl)
theorem wm_181 : (.fieldLink "java/lang/Throwable" 17 "java/lang/Throwable" "stackTrace" "[Ljava/lang/StackTraceElement;" : Cond) ∈ TB := tb_i 199 (by rfl) (by rfl)
theorem wm_182 : (.fieldLink "java/lang/Throwable" 24 "java/lang/Throwable" "suppressedExceptions" "Ljava/util/List;" : Cond) ∈ TB := tb_i 200 (by rfl) (by rfl)
theorem wm_187 : (.lays "java/lang/IndexOutOfBoundsException" "java/lang/Throwable" "depth" "I" : Cond) ∈ TB := tb_i 205 (by rfl) (by rfl)
theorem wm_191 : (.arrayClass .byte : Cond) ∈ TB := tb_i 209 (by rfl) (by rfl)
theorem wm_192 : (.methodLink "CountLeast" 30 ⟨"CountLeast", "checkIndex", "(II)V"⟩ : Cond) ∈ TB := tb_i 210 (by rfl) (by rfl)
theorem wm_193 : (.static ⟨"CountLeast", "checkIndex", "(II)V"⟩ : Cond) ∈ TB := tb_i 211 (by rfl) (by rfl)
theorem wm_194 : (.code ⟨"CountLeast", "checkIndex", "(II)V"⟩ prog_1_method_22_code 2 none : Cond) ∈ TB := tb_i 212 (by rfl) (by rfl)
theorem wm_196 : (.methodLink "CountLeast" 34 ⟨"CountLeast", "checkRange", "(III)V"⟩ : Cond) ∈ TB := tb_i 214 (by rfl) (by rfl)
theorem wm_197 : (.static ⟨"CountLeast", "checkRange", "(III)V"⟩ : Cond) ∈ TB := tb_i 215 (by rfl) (by rfl)
theorem wm_198 : (.code ⟨"CountLeast", "checkRange", "(III)V"⟩ prog_1_method_23_code 3 none : Cond) ∈ TB := tb_i 216 (by rfl) (by rfl)
theorem wm_199 : (.classLink "CountLeast" 93 "java/lang/IllegalArgumentException" : Cond) ∈ TB := tb_i 217 (by rfl) (by rfl)
theorem wm_200 : (.instantiable "java/lang/IllegalArgumentException" 6 : Cond) ∈ TB := tb_i 218 (by rfl) (by rfl)
theorem wm_202 : (.selects "java/lang/IllegalArgumentException" ⟨"java/lang/Throwable", "fillInStackTrace", "(I)Ljava/lang/Throwable;"⟩ ⟨"java/lang/Throwable", "fillInStackTrace", "(I)Ljava/lang/Throwable;"⟩ : Cond) ∈ TB := tb_i 220 (by rfl) (by rfl)
theorem wm_203 : (.lays "java/lang/IllegalArgumentException" "java/lang/Throwable" "cause" "Ljava/lang/Throwable;" : Cond) ∈ TB := tb_i 221 (by rfl) (by rfl)
theorem wm_204 : (.lays "java/lang/IllegalArgumentException" "java/lang/Throwable" "stackTrace" "[Ljava/lang/StackTraceElement;" : Cond) ∈ TB := tb_i 222 (by rfl) (by rfl)
theorem wm_205 : (.lays "java/lang/IllegalArgumentException" "java/lang/Throwable" "suppressedExceptions" "Ljava/util/List;" : Cond) ∈ TB := tb_i 223 (by rfl) (by rfl)
theorem wm_206 : (.lays "java/lang/IllegalArgumentException" "java/lang/Throwable" "detailMessage" "Ljava/lang/String;" : Cond) ∈ TB := tb_i 224 (by rfl) (by rfl)
theorem wm_207 : (.lays "java/lang/IllegalArgumentException" "java/lang/Throwable" "backtrace" "Ljava/lang/Object;" : Cond) ∈ TB := tb_i 225 (by rfl) (by rfl)
theorem wm_209 : (.methodLink "CountLeast" 97 ⟨"java/lang/IllegalArgumentException", "<init>", "(Ljava/lang/String;)V"⟩ : Cond) ∈ TB := tb_i 227 (by rfl) (by rfl)
theorem wm_210 : (.instanceMethod ⟨"java/lang/IllegalArgumentException", "<init>", "(Ljava/lang/String;)V"⟩ : Cond) ∈ TB := tb_i 228 (by rfl) (by rfl)
theorem wm_211 : (.code ⟨"java/lang/IllegalArgumentException", "<init>", "(Ljava/lang/String;)V"⟩ prog_8_method_2_code 2 none : Cond) ∈ TB := tb_i 229 (by rfl) (by rfl)
theorem wm_212 : (.methodLink "java/lang/IllegalArgumentException" 7 ⟨"java/lang/RuntimeException", "<init>", "(Ljava/lang/String;)V"⟩ : Cond) ∈ TB := tb_i 230 (by rfl) (by rfl)
theorem wm_213 : (.lays "java/lang/IllegalArgumentException" "java/lang/Throwable" "depth" "I" : Cond) ∈ TB := tb_i 231 (by rfl) (by rfl)
theorem wm_215 : (.classLink "CountLeast" 41 "java/lang/IllegalStateException" : Cond) ∈ TB := tb_i 233 (by rfl) (by rfl)
theorem wm_216 : (.instantiable "java/lang/IllegalStateException" 6 : Cond) ∈ TB := tb_i 234 (by rfl) (by rfl)
theorem wm_218 : (.selects "java/lang/IllegalStateException" ⟨"java/lang/Throwable", "fillInStackTrace", "(I)Ljava/lang/Throwable;"⟩ ⟨"java/lang/Throwable", "fillInStackTrace", "(I)Ljava/lang/Throwable;"⟩ : Cond) ∈ TB := tb_i 236 (by rfl) (by rfl)
theorem wm_219 : (.lays "java/lang/IllegalStateException" "java/lang/Throwable" "cause" "Ljava/lang/Throwable;" : Cond) ∈ TB := tb_i 237 (by rfl) (by rfl)
theorem wm_220 : (.lays "java/lang/IllegalStateException" "java/lang/Throwable" "stackTrace" "[Ljava/lang/StackTraceElement;" : Cond) ∈ TB := tb_i 238 (by rfl) (by rfl)
theorem wm_221 : (.lays "java/lang/IllegalStateException" "java/lang/Throwable" "suppressedExceptions" "Ljava/util/List;" : Cond) ∈ TB := tb_i 239 (by rfl) (by rfl)
theorem wm_222 : (.lays "java/lang/IllegalStateException" "java/lang/Throwable" "detailMessage" "Ljava/lang/String;" : Cond) ∈ TB := tb_i 240 (by rfl) (by rfl)
theorem wm_223 : (.lays "java/lang/IllegalStateException" "java/lang/Throwable" "backtrace" "Ljava/lang/Object;" : Cond) ∈ TB := tb_i 241 (by rfl) (by rfl)
theorem wm_225 : (.methodLink "CountLeast" 45 ⟨"java/lang/IllegalStateException", "<init>", "(Ljava/lang/String;)V"⟩ : Cond) ∈ TB := tb_i 243 (by rfl) (by rfl)
theorem wm_226 : (.instanceMethod ⟨"java/lang/IllegalStateException", "<init>", "(Ljava/lang/String;)V"⟩ : Cond) ∈ TB := tb_i 244 (by rfl) (by rfl)
theorem wm_227 : (.code ⟨"java/lang/IllegalStateException", "<init>", "(Ljava/lang/String;)V"⟩ prog_9_method_2_code 2 none : Cond) ∈ TB := tb_i 245 (by rfl) (by rfl)
theorem wm_228 : (.methodLink "java/lang/IllegalStateException" 7 ⟨"java/lang/RuntimeException", "<init>", "(Ljava/lang/String;)V"⟩ : Cond) ∈ TB := tb_i 246 (by rfl) (by rfl)
theorem wm_229 : (.lays "java/lang/IllegalStateException" "java/lang/Throwable" "depth" "I" : Cond) ∈ TB := tb_i 247 (by rfl) (by rfl)
theorem wm_231 : (.instantiable "CountLeast$Piece" 9 : Cond) ∈ TB := tb_i 249 (by rfl) (by rfl)
theorem wm_232 : (.methodLink "CountLeast" 48 ⟨"CountLeast$Piece", "<init>", "(LCountLeast$Kind;IIII)V"⟩ : Cond) ∈ TB := tb_i 250 (by rfl) (by rfl)
theorem wm_233 : (.instanceMethod ⟨"CountLeast$Piece", "<init>", "(LCountLeast$Kind;IIII)V"⟩ : Cond) ∈ TB := tb_i 251 (by rfl) (by rfl)
theorem wm_234 : (.code ⟨"CountLeast$Piece", "<init>", "(LCountLeast$Kind;IIII)V"⟩ prog_4_method_1_code 6 none : Cond) ∈ TB := tb_i 252 (by rfl) (by rfl)
theorem wm_235 : (.methodLink "CountLeast$Piece" 3 ⟨"java/lang/Object", "<init>", "()V"⟩ : Cond) ∈ TB := tb_i 253 (by rfl) (by rfl)
theorem wm_236 : (.fieldLink "CountLeast$Piece" 21 "CountLeast$Piece" "kind" "LCountLeast$Kind;" : Cond) ∈ TB := tb_i 254 (by rfl) (by rfl)
theorem wm_237 : (.fieldLink "CountLeast" 80 "CountLeast$Piece" "kind" "LCountLeast$Kind;" : Cond) ∈ TB := tb_i 255 (by rfl) (by rfl)
theorem wm_238 : (.fieldLink "CountLeast$Piece" 25 "CountLeast$Piece" "number" "I" : Cond) ∈ TB := tb_i 256 (by rfl) (by rfl)
theorem wm_239 : (.fieldLink "CountLeast" 55 "CountLeast$Piece" "number" "I" : Cond) ∈ TB := tb_i 257 (by rfl) (by rfl)
theorem wm_240 : (.fieldLink "CountLeast$Kind" 52 "CountLeast$Piece" "number" "I" : Cond) ∈ TB := tb_i 258 (by rfl) (by rfl)
theorem wm_241 : (.fieldLink "CountLeast$Piece" 33 "CountLeast$Piece" "place" "I" : Cond) ∈ TB := tb_i 259 (by rfl) (by rfl)
theorem wm_242 : (.fieldLink "CountLeast" 111 "CountLeast$Piece" "place" "I" : Cond) ∈ TB := tb_i 260 (by rfl) (by rfl)
theorem wm_243 : (.fieldLink "CountLeast$Piece" 36 "CountLeast$Piece" "part" "I" : Cond) ∈ TB := tb_i 261 (by rfl) (by rfl)
theorem wm_244 : (.fieldLink "CountLeast$Kind" 58 "CountLeast$Piece" "part" "I" : Cond) ∈ TB := tb_i 262 (by rfl) (by rfl)
theorem wm_245 : (.fieldLink "CountLeast$Piece" 42 "CountLeast$Piece" "size" "I" : Cond) ∈ TB := tb_i 263 (by rfl) (by rfl)
theorem wm_246 : (.fieldLink "CountLeast$Kind" 77 "CountLeast$Piece" "size" "I" : Cond) ∈ TB := tb_i 264 (by rfl) (by rfl)
theorem wm_247 : (.fieldLink "CountLeast$Piece" 39 "CountLeast$Piece" "side" "I" : Cond) ∈ TB := tb_i 265 (by rfl) (by rfl)
theorem wm_248 : (.fieldLink "CountLeast$Kind" 74 "CountLeast$Piece" "side" "I" : Cond) ∈ TB := tb_i 266 (by rfl) (by rfl)
theorem wm_249 : (.fieldLink "CountLeast" 90 "CountLeast$Piece" "side" "I" : Cond) ∈ TB := tb_i 267 (by rfl) (by rfl)
theorem wm_250 : (.fieldLink "CountLeast$Piece" 9 "CountLeast$Piece" "from" "I" : Cond) ∈ TB := tb_i 268 (by rfl) (by rfl)
theorem wm_251 : (.fieldLink "CountLeast$Kind" 65 "CountLeast$Piece" "from" "I" : Cond) ∈ TB := tb_i 269 (by rfl) (by rfl)
theorem wm_252 : (.fieldLink "CountLeast" 84 "CountLeast$Piece" "from" "I" : Cond) ∈ TB := tb_i 270 (by rfl) (by rfl)
theorem wm_253 : (.fieldLink "CountLeast$Piece" 15 "CountLeast$Piece" "to" "I" : Cond) ∈ TB := tb_i 271 (by rfl) (by rfl)
theorem wm_254 : (.fieldLink "CountLeast$Kind" 68 "CountLeast$Piece" "to" "I" : Cond) ∈ TB := tb_i 272 (by rfl) (by rfl)
theorem wm_255 : (.fieldLink "CountLeast" 87 "CountLeast$Piece" "to" "I" : Cond) ∈ TB := tb_i 273 (by rfl) (by rfl)
theorem wm_256 : (.fieldLink "CountLeast$Piece" 18 "CountLeast$Piece" "grams" "I" : Cond) ∈ TB := tb_i 274 (by rfl) (by rfl)
theorem wm_257 : (.fieldLink "CountLeast$Kind" 55 "CountLeast$Piece" "grams" "I" : Cond) ∈ TB := tb_i 275 (by rfl) (by rfl)
theorem wm_258 : (.fieldLink "CountLeast" 130 "CountLeast$Piece" "grams" "I" : Cond) ∈ TB := tb_i 276 (by rfl) (by rfl)
theorem wm_259 : (.laysFinal "CountLeast$Piece" "CountLeast$Piece" "kind" "LCountLeast$Kind;" : Cond) ∈ TB := tb_i 277 (by rfl) (by rfl)
theorem wm_261 : (.laysFinal "CountLeast$Piece" "CountLeast$Piece" "number" "I" : Cond) ∈ TB := tb_i 279 (by rfl) (by rfl)
theorem wm_263 : (.laysFinal "CountLeast$Piece" "CountLeast$Piece" "place" "I" : Cond) ∈ TB := tb_i 281 (by rfl) (by rfl)
theorem wm_265 : (.laysFinal "CountLeast$Piece" "CountLeast$Piece" "part" "I" : Cond) ∈ TB := tb_i 283 (by rfl) (by rfl)
theorem wm_267 : (.laysFinal "CountLeast$Piece" "CountLeast$Piece" "size" "I" : Cond) ∈ TB := tb_i 285 (by rfl) (by rfl)
theorem wm_269 : (.lays "CountLeast$Piece" "CountLeast$Piece" "side" "I" : Cond) ∈ TB := tb_i 287 (by rfl) (by rfl)
theorem wm_271 : (.lays "CountLeast$Piece" "CountLeast$Piece" "from" "I" : Cond) ∈ TB := tb_i 289 (by rfl) (by rfl)
theorem wm_273 : (.lays "CountLeast$Piece" "CountLeast$Piece" "to" "I" : Cond) ∈ TB := tb_i 291 (by rfl) (by rfl)
theorem wm_275 : (.lays "CountLeast$Piece" "CountLeast$Piece" "grams" "I" : Cond) ∈ TB := tb_i 293 (by rfl) (by rfl)
theorem wm_278 : (.methodLink "CountLeast" 51 ⟨"CountLeast$Kind", "take", "(LCountLeast$Piece;)V"⟩ : Cond) ∈ TB := tb_i 296 (by rfl) (by rfl)
theorem wm_279 : (.instanceMethod ⟨"CountLeast$Kind", "take", "(LCountLeast$Piece;)V"⟩ : Cond) ∈ TB := tb_i 297 (by rfl) (by rfl)
theorem wm_280 : (.selects "CountLeast$Kind" ⟨"CountLeast$Kind", "take", "(LCountLeast$Piece;)V"⟩ ⟨"CountLeast$Kind", "take", "(LCountLeast$Piece;)V"⟩ : Cond) ∈ TB := tb_i 298 (by rfl) (by rfl)
theorem wm_281 : (.code ⟨"CountLeast$Kind", "take", "(LCountLeast$Piece;)V"⟩ prog_2_method_2_code 2 none : Cond) ∈ TB := tb_i 299 (by rfl) (by rfl)
theorem wm_282 : (.methodLink "CountLeastLaw" 91 ⟨"CountLeastLaw", "single", "(LCountLeast;IIZ[J)I"⟩ : Cond) ∈ TB := tb_i 300 (by rfl) (by rfl)
theorem wm_283 : (.static ⟨"CountLeastLaw", "single", "(LCountLeast;IIZ[J)I"⟩ : Cond) ∈ TB := tb_i 301 (by rfl) (by rfl)
theorem wm_284 : (.codeWith ⟨"CountLeastLaw", "single", "(LCountLeast;IIZ[J)I"⟩ method_4_code 6 (some .int) [(0, 19, 22, 13)] : Cond) ∈ TB := tb_i 302 (by rfl) (by rfl)
theorem wm_285 : (.methodLink "CountLeastLaw" 19 ⟨"CountLeast", "single", "(IIZ)Z"⟩ : Cond) ∈ TB := tb_i 303 (by rfl) (by rfl)
theorem wm_286 : (.instanceMethod ⟨"CountLeast", "single", "(IIZ)Z"⟩ : Cond) ∈ TB := tb_i 304 (by rfl) (by rfl)
theorem wm_287 : (.selects "CountLeast" ⟨"CountLeast", "single", "(IIZ)Z"⟩ ⟨"CountLeast", "single", "(IIZ)Z"⟩ : Cond) ∈ TB := tb_i 305 (by rfl) (by rfl)
theorem wm_288 : (.code ⟨"CountLeast", "single", "(IIZ)Z"⟩ prog_1_method_3_code 6 (some .boolean) : Cond) ∈ TB := tb_i 306 (by rfl) (by rfl)
theorem wm_289 : (.methodLink "CountLeastLaw" 95 ⟨"CountLeastLaw", "bound", "(LCountLeast;II[J)I"⟩ : Cond) ∈ TB := tb_i 307 (by rfl) (by rfl)
theorem wm_290 : (.static ⟨"CountLeastLaw", "bound", "(LCountLeast;II[J)I"⟩ : Cond) ∈ TB := tb_i 308 (by rfl) (by rfl)
theorem wm_291 : (.codeWith ⟨"CountLeastLaw", "bound", "(LCountLeast;II[J)I"⟩ method_5_code 5 (some .int) [(0, 10, 13, 13), (0, 10, 17, 15)] : Cond) ∈ TB := tb_i 309 (by rfl) (by rfl)
theorem wm_292 : (.methodLink "CountLeastLaw" 23 ⟨"CountLeast", "bound", "(II)I"⟩ : Cond) ∈ TB := tb_i 310 (by rfl) (by rfl)
theorem wm_293 : (.instanceMethod ⟨"CountLeast", "bound", "(II)I"⟩ : Cond) ∈ TB := tb_i 311 (by rfl) (by rfl)
theorem wm_294 : (.selects "CountLeast" ⟨"CountLeast", "bound", "(II)I"⟩ ⟨"CountLeast", "bound", "(II)I"⟩ : Cond) ∈ TB := tb_i 312 (by rfl) (by rfl)
theorem wm_295 : (.code ⟨"CountLeast", "bound", "(II)I"⟩ prog_1_method_4_code 5 (some .int) : Cond) ∈ TB := tb_i 313 (by rfl) (by rfl)
theorem wm_296 : (.methodLink "CountLeastLaw" 99 ⟨"CountLeastLaw", "table", "(LCountLeast;IIII)I"⟩ : Cond) ∈ TB := tb_i 314 (by rfl) (by rfl)
theorem wm_297 : (.static ⟨"CountLeastLaw", "table", "(LCountLeast;IIII)I"⟩ : Cond) ∈ TB := tb_i 315 (by rfl) (by rfl)
theorem wm_298 : (.codeWith ⟨"CountLeastLaw", "table", "(LCountLeast;IIII)I"⟩ method_6_code 6 (some .int) [(0, 9, 12, 13), (0, 9, 16, 15)] : Cond) ∈ TB := tb_i 316 (by rfl) (by rfl)
theorem wm_299 : (.methodLink "CountLeastLaw" 27 ⟨"CountLeast", "table", "(IIII)V"⟩ : Cond) ∈ TB := tb_i 317 (by rfl) (by rfl)
theorem wm_300 : (.instanceMethod ⟨"CountLeast", "table", "(IIII)V"⟩ : Cond) ∈ TB := tb_i 318 (by rfl) (by rfl)
theorem wm_301 : (.selects "CountLeast" ⟨"CountLeast", "table", "(IIII)V"⟩ ⟨"CountLeast", "table", "(IIII)V"⟩ : Cond) ∈ TB := tb_i 319 (by rfl) (by rfl)
theorem wm_302 : (.code ⟨"CountLeast", "table", "(IIII)V"⟩ prog_1_method_5_code 6 none : Cond) ∈ TB := tb_i 320 (by rfl) (by rfl)
theorem wm_303 : (.methodLink "CountLeastLaw" 103 ⟨"CountLeastLaw", "worn", "(LCountLeast;II)I"⟩ : Cond) ∈ TB := tb_i 321 (by rfl) (by rfl)
theorem wm_304 : (.static ⟨"CountLeastLaw", "worn", "(LCountLeast;II)I"⟩ : Cond) ∈ TB := tb_i 322 (by rfl) (by rfl)
theorem wm_305 : (.codeWith ⟨"CountLeastLaw", "worn", "(LCountLeast;II)I"⟩ method_7_code 4 (some .int) [(0, 6, 9, 13)] : Cond) ∈ TB := tb_i 323 (by rfl) (by rfl)
theorem wm_306 : (.methodLink "CountLeastLaw" 31 ⟨"CountLeast", "worn", "(II)V"⟩ : Cond) ∈ TB := tb_i 324 (by rfl) (by rfl)
theorem wm_307 : (.instanceMethod ⟨"CountLeast", "worn", "(II)V"⟩ : Cond) ∈ TB := tb_i 325 (by rfl) (by rfl)
theorem wm_308 : (.selects "CountLeast" ⟨"CountLeast", "worn", "(II)V"⟩ ⟨"CountLeast", "worn", "(II)V"⟩ : Cond) ∈ TB := tb_i 326 (by rfl) (by rfl)
theorem wm_309 : (.code ⟨"CountLeast", "worn", "(II)V"⟩ prog_1_method_6_code 4 none : Cond) ∈ TB := tb_i 327 (by rfl) (by rfl)
theorem wm_310 : (.methodLink "CountLeast" 76 ⟨"CountLeast", "pieceAt", "(I)LCountLeast$Piece;"⟩ : Cond) ∈ TB := tb_i 328 (by rfl) (by rfl)
theorem wm_312 : (.instanceMethod ⟨"CountLeast", "pieceAt", "(I)LCountLeast$Piece;"⟩ : Cond) ∈ TB := tb_i 330 (by rfl) (by rfl)
theorem wm_313 : (.code ⟨"CountLeast", "pieceAt", "(I)LCountLeast$Piece;"⟩ prog_1_method_21_code 2 (some (.object "CountLeast$Piece")) : Cond) ∈ TB := tb_i 331 (by rfl) (by rfl)
theorem wm_315 : (.methodLink "CountLeastLaw" 107 ⟨"CountLeastLaw", "aged", "(LCountLeast;II[J)I"⟩ : Cond) ∈ TB := tb_i 333 (by rfl) (by rfl)
theorem wm_316 : (.static ⟨"CountLeastLaw", "aged", "(LCountLeast;II[J)I"⟩ : Cond) ∈ TB := tb_i 334 (by rfl) (by rfl)
theorem wm_317 : (.codeWith ⟨"CountLeastLaw", "aged", "(LCountLeast;II[J)I"⟩ method_8_code 5 (some .int) [(0, 10, 13, 13)] : Cond) ∈ TB := tb_i 335 (by rfl) (by rfl)
theorem wm_318 : (.methodLink "CountLeastLaw" 35 ⟨"CountLeast", "aged", "(II)I"⟩ : Cond) ∈ TB := tb_i 336 (by rfl) (by rfl)
theorem wm_319 : (.instanceMethod ⟨"CountLeast", "aged", "(II)I"⟩ : Cond) ∈ TB := tb_i 337 (by rfl) (by rfl)
theorem wm_320 : (.selects "CountLeast" ⟨"CountLeast", "aged", "(II)I"⟩ ⟨"CountLeast", "aged", "(II)I"⟩ : Cond) ∈ TB := tb_i 338 (by rfl) (by rfl)
theorem wm_321 : (.code ⟨"CountLeast", "aged", "(II)I"⟩ prog_1_method_7_code 4 (some .int) : Cond) ∈ TB := tb_i 339 (by rfl) (by rfl)
theorem wm_322 : (.methodLink "CountLeastLaw" 110 ⟨"CountLeastLaw", "unsure", "(LCountLeast;I[J)I"⟩ : Cond) ∈ TB := tb_i 340 (by rfl) (by rfl)
theorem wm_323 : (.static ⟨"CountLeastLaw", "unsure", "(LCountLeast;I[J)I"⟩ : Cond) ∈ TB := tb_i 341 (by rfl) (by rfl)
theorem wm_324 : (.codeWith ⟨"CountLeastLaw", "unsure", "(LCountLeast;I[J)I"⟩ method_9_code 4 (some .int) [(0, 16, 19, 13)] : Cond) ∈ TB := tb_i 342 (by rfl) (by rfl)
theorem wm_325 : (.methodLink "CountLeastLaw" 38 ⟨"CountLeast", "unsure", "(I)Z"⟩ : Cond) ∈ TB := tb_i 343 (by rfl) (by rfl)
theorem wm_326 : (.instanceMethod ⟨"CountLeast", "unsure", "(I)Z"⟩ : Cond) ∈ TB := tb_i 344 (by rfl) (by rfl)
theorem wm_327 : (.selects "CountLeast" ⟨"CountLeast", "unsure", "(I)Z"⟩ ⟨"CountLeast", "unsure", "(I)Z"⟩ : Cond) ∈ TB := tb_i 345 (by rfl) (by rfl)
theorem wm_328 : (.code ⟨"CountLeast", "unsure", "(I)Z"⟩ prog_1_method_8_code 4 (some .boolean) : Cond) ∈ TB := tb_i 346 (by rfl) (by rfl)
theorem wm_329 : (.methodLink "CountLeastLaw" 114 ⟨"CountLeastLaw", "clash", "(LCountLeast;II[J)I"⟩ : Cond) ∈ TB := tb_i 347 (by rfl) (by rfl)
theorem wm_330 : (.static ⟨"CountLeastLaw", "clash", "(LCountLeast;II[J)I"⟩ : Cond) ∈ TB := tb_i 348 (by rfl) (by rfl)
theorem wm_331 : (.codeWith ⟨"CountLeastLaw", "clash", "(LCountLeast;II[J)I"⟩ method_10_code 5 (some .int) [(0, 10, 13, 13), (0, 10, 17, 15)] : Cond) ∈ TB := tb_i 349 (by rfl) (by rfl)
theorem wm_332 : (.methodLink "CountLeastLaw" 42 ⟨"CountLeast", "clash", "(II)I"⟩ : Cond) ∈ TB := tb_i 350 (by rfl) (by rfl)
theorem wm_333 : (.instanceMethod ⟨"CountLeast", "clash", "(II)I"⟩ : Cond) ∈ TB := tb_i 351 (by rfl) (by rfl)
theorem wm_334 : (.selects "CountLeast" ⟨"CountLeast", "clash", "(II)I"⟩ ⟨"CountLeast", "clash", "(II)I"⟩ : Cond) ∈ TB := tb_i 352 (by rfl) (by rfl)
theorem wm_335 : (.code ⟨"CountLeast", "clash", "(II)I"⟩ prog_1_method_9_code 5 (some .int) : Cond) ∈ TB := tb_i 353 (by rfl) (by rfl)
theorem wm_337 : (.methodLink "CountLeast" 98 ⟨"CountLeast$Kind", "ruleBetween", "(LCountLeast$Piece;LCountLeast$Piece;)I"⟩ : Cond) ∈ TB := tb_i 355 (by rfl) (by rfl)
theorem wm_338 : (.instanceMethod ⟨"CountLeast$Kind", "ruleBetween", "(LCountLeast$Piece;LCountLeast$Piece;)I"⟩ : Cond) ∈ TB := tb_i 356 (by rfl) (by rfl)
theorem wm_339 : (.selects "CountLeast$Kind" ⟨"CountLeast$Kind", "ruleBetween", "(LCountLeast$Piece;LCountLeast$Piece;)I"⟩ ⟨"CountLeast$Kind", "ruleBetween", "(LCountLeast$Piece;LCountLeast$Piece;)I"⟩ : Cond) ∈ TB := tb_i 357 (by rfl) (by rfl)
theorem wm_340 : (.code ⟨"CountLeast$Kind", "ruleBetween", "(LCountLeast$Piece;LCountLeast$Piece;)I"⟩ prog_2_method_5_code 3 (some .int) : Cond) ∈ TB := tb_i 358 (by rfl) (by rfl)
theorem wm_341 : (.methodLink "CountLeast$Kind" 61 ⟨"CountLeast$Kind", "sidesClash", "(LCountLeast$Piece;LCountLeast$Piece;)Z"⟩ : Cond) ∈ TB := tb_i 359 (by rfl) (by rfl)
theorem wm_343 : (.instanceMethod ⟨"CountLeast$Kind", "sidesClash", "(LCountLeast$Piece;LCountLeast$Piece;)Z"⟩ : Cond) ∈ TB := tb_i 361 (by rfl) (by rfl)
theorem wm_344 : (.code ⟨"CountLeast$Kind", "sidesClash", "(LCountLeast$Piece;LCountLeast$Piece;)Z"⟩ prog_2_method_6_code 3 (some .boolean) : Cond) ∈ TB := tb_i 362 (by rfl) (by rfl)
theorem wm_345 : (.methodLink "CountLeast$Kind" 71 ⟨"CountLeast$Kind", "sizesClash", "(LCountLeast$Piece;LCountLeast$Piece;)Z"⟩ : Cond) ∈ TB := tb_i 363 (by rfl) (by rfl)
theorem wm_347 : (.instanceMethod ⟨"CountLeast$Kind", "sizesClash", "(LCountLeast$Piece;LCountLeast$Piece;)Z"⟩ : Cond) ∈ TB := tb_i 365 (by rfl) (by rfl)
theorem wm_348 : (.code ⟨"CountLeast$Kind", "sizesClash", "(LCountLeast$Piece;LCountLeast$Piece;)Z"⟩ prog_2_method_7_code 3 (some .boolean) : Cond) ∈ TB := tb_i 366 (by rfl) (by rfl)
theorem wm_349 : (.methodLink "CountLeast$Kind" 80 ⟨"java/lang/Math", "abs", "(I)I"⟩ : Cond) ∈ TB := tb_i 367 (by rfl) (by rfl)
theorem wm_350 : (.static ⟨"java/lang/Math", "abs", "(I)I"⟩ : Cond) ∈ TB := tb_i 368 (by rfl) (by rfl)
set_option maxRecDepth 20000 in
theorem wm_351 : (.code ⟨"java/lang/Math", "abs", "(I)I"⟩ prog_12_method_59_code 1 (some .int) : Cond) ∈ TB := tb_i 369 (by rfl) (by rfl)
set_option maxRecDepth 20000 in
theorem wm_352 : (.methodLink "CountLeastLaw" 117 ⟨"CountLeastLaw", "least", "(LCountLeast;I[J)I"⟩ : Cond) ∈ TB := tb_i 370 (by rfl) (by rfl)
set_option maxRecDepth 20000 in
theorem wm_353 : (.static ⟨"CountLeastLaw", "least", "(LCountLeast;I[J)I"⟩ : Cond) ∈ TB := tb_i 371 (by rfl) (by rfl)
set_option maxRecDepth 20000 in
theorem wm_354 : (.codeWith ⟨"CountLeastLaw", "least", "(LCountLeast;I[J)I"⟩ method_11_code 4 (some .int) [(0, 9, 12, 13)] : Cond) ∈ TB := tb_i 372 (by rfl) (by rfl)
set_option maxRecDepth 20000 in
theorem wm_355 : (.methodLink "CountLeastLaw" 45 ⟨"CountLeast", "least", "(I)I"⟩ : Cond) ∈ TB := tb_i 373 (by rfl) (by rfl)
set_option maxRecDepth 20000 in
theorem wm_356 : (.instanceMethod ⟨"CountLeast", "least", "(I)I"⟩ : Cond) ∈ TB := tb_i 374 (by rfl) (by rfl)
set_option maxRecDepth 20000 in
theorem wm_357 : (.selects "CountLeast" ⟨"CountLeast", "least", "(I)I"⟩ ⟨"CountLeast", "least", "(I)I"⟩ : Cond) ∈ TB := tb_i 375 (by rfl) (by rfl)
set_option maxRecDepth 20000 in
theorem wm_358 : (.code ⟨"CountLeast", "least", "(I)I"⟩ prog_1_method_10_code 2 (some .int) : Cond) ∈ TB := tb_i 376 (by rfl) (by rfl)
set_option maxRecDepth 20000 in
theorem wm_359 : (.methodLink "CountLeast" 102 ⟨"CountLeast$Kind", "parted", "()LCountLeast$Parting;"⟩ : Cond) ∈ TB := tb_i 377 (by rfl) (by rfl)
set_option maxRecDepth 20000 in
theorem wm_360 : (.instanceMethod ⟨"CountLeast$Kind", "parted", "()LCountLeast$Parting;"⟩ : Cond) ∈ TB := tb_i 378 (by rfl) (by rfl)
set_option maxRecDepth 20000 in
theorem wm_361 : (.selects "CountLeast$Kind" ⟨"CountLeast$Kind", "parted", "()LCountLeast$Parting;"⟩ ⟨"CountLeast$Kind", "parted", "()LCountLeast$Parting;"⟩ : Cond) ∈ TB := tb_i 379 (by rfl) (by rfl)
set_option maxRecDepth 20000 in
theorem wm_362 : (.code ⟨"CountLeast$Kind", "parted", "()LCountLeast$Parting;"⟩ prog_2_method_8_code 1 (some (.object "CountLeast$Parting")) : Cond) ∈ TB := tb_i 380 (by rfl) (by rfl)
set_option maxRecDepth 20000 in
theorem wm_363 : (.methodLink "CountLeast$Kind" 86 ⟨"CountLeast$Parting", "begin", "(I)V"⟩ : Cond) ∈ TB := tb_i 381 (by rfl) (by rfl)
set_option maxRecDepth 20000 in
theorem wm_364 : (.instanceMethod ⟨"CountLeast$Parting", "begin", "(I)V"⟩ : Cond) ∈ TB := tb_i 382 (by rfl) (by rfl)
set_option maxRecDepth 20000 in
theorem wm_365 : (.selects "CountLeast$Parting" ⟨"CountLeast$Parting", "begin", "(I)V"⟩ ⟨"CountLeast$Parting", "begin", "(I)V"⟩ : Cond) ∈ TB := tb_i 383 (by rfl) (by rfl)
set_option maxRecDepth 20000 in
theorem wm_366 : (.code ⟨"CountLeast$Parting", "begin", "(I)V"⟩ prog_3_method_2_code 3 none : Cond) ∈ TB := tb_i 384 (by rfl) (by rfl)
set_option maxRecDepth 20000 in
theorem wm_367 : (.methodLink "CountLeast$Parting" 31 ⟨"java/lang/Math", "min", "(II)I"⟩ : Cond) ∈ TB := tb_i 385 (by rfl) (by rfl)
set_option maxRecDepth 20000 in
theorem wm_368 : (.static ⟨"java/lang/Math", "min", "(II)I"⟩ : Cond) ∈ TB := tb_i 386 (by rfl) (by rfl)
set_option maxRecDepth 20000 in
theorem wm_369 : (.code ⟨"java/lang/Math", "min", "(II)I"⟩ prog_12_method_69_code 2 (some .int) : Cond) ∈ TB := tb_i 387 (by rfl) (by rfl)
set_option maxRecDepth 20000 in
theorem wm_370 : (.methodLink "CountLeast$Parting" 37 ⟨"java/lang/Math", "max", "(II)I"⟩ : Cond) ∈ TB := tb_i 388 (by rfl) (by rfl)
set_option maxRecDepth 20000 in
theorem wm_371 : (.static ⟨"java/lang/Math", "max", "(II)I"⟩ : Cond) ∈ TB := tb_i 389 (by rfl) (by rfl)
set_option maxRecDepth 20000 in
theorem wm_372 : (.code ⟨"java/lang/Math", "max", "(II)I"⟩ prog_12_method_65_code 2 (some .int) : Cond) ∈ TB := tb_i 390 (by rfl) (by rfl)
set_option maxRecDepth 20000 in
theorem wm_373 : (.methodLink "CountLeast$Kind" 90 ⟨"CountLeast$Kind", "markFoes", "()V"⟩ : Cond) ∈ TB := tb_i 391 (by rfl) (by rfl)
set_option maxRecDepth 20000 in
theorem wm_375 : (.instanceMethod ⟨"CountLeast$Kind", "markFoes", "()V"⟩ : Cond) ∈ TB := tb_i 393 (by rfl) (by rfl)
set_option maxRecDepth 20000 in
theorem wm_376 : (.code ⟨"CountLeast$Kind", "markFoes", "()V"⟩ prog_2_method_9_code 3 none : Cond) ∈ TB := tb_i 394 (by rfl) (by rfl)
set_option maxRecDepth 20000 in
theorem wm_377 : (.methodLink "CountLeast$Kind" 96 ⟨"CountLeast$Kind", "ruleBetween", "(LCountLeast$Piece;LCountLeast$Piece;)I"⟩ : Cond) ∈ TB := tb_i 395 (by rfl) (by rfl)
set_option maxRecDepth 20000 in
theorem wm_378 : (.methodLink "CountLeast$Kind" 100 ⟨"CountLeast$Parting", "setApart", "(II)V"⟩ : Cond) ∈ TB := tb_i 396 (by rfl) (by rfl)
set_option maxRecDepth 20000 in
theorem wm_379 : (.instanceMethod ⟨"CountLeast$Parting", "setApart", "(II)V"⟩ : Cond) ∈ TB := tb_i 397 (by rfl) (by rfl)
set_option maxRecDepth 20000 in
theorem wm_380 : (.selects "CountLeast$Parting" ⟨"CountLeast$Parting", "setApart", "(II)V"⟩ ⟨"CountLeast$Parting", "setApart", "(II)V"⟩ : Cond) ∈ TB := tb_i 398 (by rfl) (by rfl)
set_option maxRecDepth 20000 in
theorem wm_381 : (.code ⟨"CountLeast$Parting", "setApart", "(II)V"⟩ prog_3_method_3_code 3 none : Cond) ∈ TB := tb_i 399 (by rfl) (by rfl)
set_option maxRecDepth 20000 in
theorem wm_382 : (.methodLink "CountLeast$Kind" 93 ⟨"CountLeast$Parting", "search", "()V"⟩ : Cond) ∈ TB := tb_i 400 (by rfl) (by rfl)
set_option maxRecDepth 20000 in
theorem wm_383 : (.instanceMethod ⟨"CountLeast$Parting", "search", "()V"⟩ : Cond) ∈ TB := tb_i 401 (by rfl) (by rfl)
set_option maxRecDepth 20000 in
theorem wm_384 : (.selects "CountLeast$Parting" ⟨"CountLeast$Parting", "search", "()V"⟩ ⟨"CountLeast$Parting", "search", "()V"⟩ : Cond) ∈ TB := tb_i 402 (by rfl) (by rfl)
set_option maxRecDepth 20000 in
theorem wm_385 : (.code ⟨"CountLeast$Parting", "search", "()V"⟩ prog_3_method_4_code 2 none : Cond) ∈ TB := tb_i 403 (by rfl) (by rfl)
set_option maxRecDepth 20000 in
theorem wm_386 : (.methodLink "CountLeast$Parting" 40 ⟨"CountLeast$Parting", "growFoes", "(III)V"⟩ : Cond) ∈ TB := tb_i 404 (by rfl) (by rfl)
set_option maxRecDepth 20000 in
theorem wm_388 : (.instanceMethod ⟨"CountLeast$Parting", "growFoes", "(III)V"⟩ : Cond) ∈ TB := tb_i 406 (by rfl) (by rfl)
set_option maxRecDepth 20000 in
theorem wm_389 : (.code ⟨"CountLeast$Parting", "growFoes", "(III)V"⟩ prog_3_method_7_code 7 none : Cond) ∈ TB := tb_i 407 (by rfl) (by rfl)
set_option maxRecDepth 20000 in
theorem wm_390 : (.methodLink "CountLeast$Parting" 44 ⟨"java/lang/Integer", "bitCount", "(I)I"⟩ : Cond) ∈ TB := tb_i 408 (by rfl) (by rfl)
set_option maxRecDepth 20000 in
theorem wm_391 : (.static ⟨"java/lang/Integer", "bitCount", "(I)I"⟩ : Cond) ∈ TB := tb_i 409 (by rfl) (by rfl)
set_option maxRecDepth 20000 in
theorem wm_392 : (.code ⟨"java/lang/Integer", "bitCount", "(I)I"⟩ prog_11_method_49_code 1 (some .int) : Cond) ∈ TB := tb_i 410 (by rfl) (by rfl)
set_option maxRecDepth 20000 in
theorem wm_393 : (.constant "java/lang/Integer" 265 (1431655765 : Int32) : Cond) ∈ TB := tb_i 411 (by rfl) (by rfl)
set_option maxRecDepth 20000 in
theorem wm_394 : (.constant "java/lang/Integer" 266 (858993459 : Int32) : Cond) ∈ TB := tb_i 412 (by rfl) (by rfl)
set_option maxRecDepth 20000 in
theorem wm_395 : (.constant "java/lang/Integer" 267 (252645135 : Int32) : Cond) ∈ TB := tb_i 413 (by rfl) (by rfl)
set_option maxRecDepth 20000 in
theorem wm_396 : (.methodLink "CountLeast$Parting" 50 ⟨"CountLeast$Parting", "fill", "(II)Z"⟩ : Cond) ∈ TB := tb_i 414 (by rfl) (by rfl)
set_option maxRecDepth 20000 in
theorem wm_398 : (.instanceMethod ⟨"CountLeast$Parting", "fill", "(II)Z"⟩ : Cond) ∈ TB := tb_i 416 (by rfl) (by rfl)
set_option maxRecDepth 20000 in
theorem wm_399 : (.code ⟨"CountLeast$Parting", "fill", "(II)Z"⟩ prog_3_method_8_code 6 (some .boolean) : Cond) ∈ TB := tb_i 417 (by rfl) (by rfl)
set_option maxRecDepth 20000 in
theorem wm_400 : (.methodLink "CountLeastLaw" 120 ⟨"CountLeastLaw", "animal", "(LCountLeast;I[J)I"⟩ : Cond) ∈ TB := tb_i 418 (by rfl) (by rfl)
set_option maxRecDepth 20000 in
theorem wm_401 : (.static ⟨"CountLeastLaw", "animal", "(LCountLeast;I[J)I"⟩ : Cond) ∈ TB := tb_i 419 (by rfl) (by rfl)
set_option maxRecDepth 20000 in
theorem wm_402 : (.codeWith ⟨"CountLeastLaw", "animal", "(LCountLeast;I[J)I"⟩ method_12_code 4 (some .int) [(0, 9, 12, 13)] : Cond) ∈ TB := tb_i 420 (by rfl) (by rfl)
set_option maxRecDepth 20000 in
theorem wm_403 : (.methodLink "CountLeastLaw" 49 ⟨"CountLeast", "animal", "(I)I"⟩ : Cond) ∈ TB := tb_i 421 (by rfl) (by rfl)
set_option maxRecDepth 20000 in
theorem wm_404 : (.instanceMethod ⟨"CountLeast", "animal", "(I)I"⟩ : Cond) ∈ TB := tb_i 422 (by rfl) (by rfl)
set_option maxRecDepth 20000 in
theorem wm_405 : (.selects "CountLeast" ⟨"CountLeast", "animal", "(I)I"⟩ ⟨"CountLeast", "animal", "(I)I"⟩ : Cond) ∈ TB := tb_i 423 (by rfl) (by rfl)
set_option maxRecDepth 20000 in
theorem wm_406 : (.code ⟨"CountLeast", "animal", "(I)I"⟩ prog_1_method_11_code 3 (some .int) : Cond) ∈ TB := tb_i 424 (by rfl) (by rfl)
set_option maxRecDepth 20000 in
theorem wm_407 : (.methodLink "CountLeast" 114 ⟨"CountLeast$Parting", "setOf", "(I)I"⟩ : Cond) ∈ TB := tb_i 425 (by rfl) (by rfl)
set_option maxRecDepth 20000 in
theorem wm_408 : (.instanceMethod ⟨"CountLeast$Parting", "setOf", "(I)I"⟩ : Cond) ∈ TB := tb_i 426 (by rfl) (by rfl)
set_option maxRecDepth 20000 in
theorem wm_409 : (.selects "CountLeast$Parting" ⟨"CountLeast$Parting", "setOf", "(I)I"⟩ ⟨"CountLeast$Parting", "setOf", "(I)I"⟩ : Cond) ∈ TB := tb_i 427 (by rfl) (by rfl)
set_option maxRecDepth 20000 in
theorem wm_410 : (.code ⟨"CountLeast$Parting", "setOf", "(I)I"⟩ prog_3_method_5_code 2 (some .int) : Cond) ∈ TB := tb_i 428 (by rfl) (by rfl)
set_option maxRecDepth 20000 in
theorem wm_411 : (.methodLink "CountLeastLaw" 123 ⟨"CountLeastLaw", "clashing", "(LCountLeast;II[J)I"⟩ : Cond) ∈ TB := tb_i 429 (by rfl) (by rfl)
set_option maxRecDepth 20000 in
theorem wm_412 : (.static ⟨"CountLeastLaw", "clashing", "(LCountLeast;II[J)I"⟩ : Cond) ∈ TB := tb_i 430 (by rfl) (by rfl)
set_option maxRecDepth 20000 in
theorem wm_413 : (.codeWith ⟨"CountLeastLaw", "clashing", "(LCountLeast;II[J)I"⟩ method_13_code 5 (some .int) [(0, 10, 13, 13)] : Cond) ∈ TB := tb_i 431 (by rfl) (by rfl)
set_option maxRecDepth 20000 in
theorem wm_414 : (.methodLink "CountLeastLaw" 52 ⟨"CountLeast", "clashing", "(II)I"⟩ : Cond) ∈ TB := tb_i 432 (by rfl) (by rfl)
set_option maxRecDepth 20000 in
theorem wm_415 : (.instanceMethod ⟨"CountLeast", "clashing", "(II)I"⟩ : Cond) ∈ TB := tb_i 433 (by rfl) (by rfl)
set_option maxRecDepth 20000 in
theorem wm_416 : (.selects "CountLeast" ⟨"CountLeast", "clashing", "(II)I"⟩ ⟨"CountLeast", "clashing", "(II)I"⟩ : Cond) ∈ TB := tb_i 434 (by rfl) (by rfl)
set_option maxRecDepth 20000 in
theorem wm_417 : (.code ⟨"CountLeast", "clashing", "(II)I"⟩ prog_1_method_12_code 4 (some .int) : Cond) ∈ TB := tb_i 435 (by rfl) (by rfl)
set_option maxRecDepth 20000 in
theorem wm_419 : (.methodLink "CountLeast" 123 ⟨"CountLeast$Parting", "placeOfFoe", "(I)I"⟩ : Cond) ∈ TB := tb_i 437 (by rfl) (by rfl)
set_option maxRecDepth 20000 in
theorem wm_420 : (.instanceMethod ⟨"CountLeast$Parting", "placeOfFoe", "(I)I"⟩ : Cond) ∈ TB := tb_i 438 (by rfl) (by rfl)
set_option maxRecDepth 20000 in
theorem wm_421 : (.selects "CountLeast$Parting" ⟨"CountLeast$Parting", "placeOfFoe", "(I)I"⟩ ⟨"CountLeast$Parting", "placeOfFoe", "(I)I"⟩ : Cond) ∈ TB := tb_i 439 (by rfl) (by rfl)
set_option maxRecDepth 20000 in
theorem wm_422 : (.code ⟨"CountLeast$Parting", "placeOfFoe", "(I)I"⟩ prog_3_method_6_code 4 (some .int) : Cond) ∈ TB := tb_i 440 (by rfl) (by rfl)
set_option maxRecDepth 20000 in
theorem wm_423 : (.methodLink "CountLeast" 126 ⟨"CountLeast$Kind", "numberAt", "(I)I"⟩ : Cond) ∈ TB := tb_i 441 (by rfl) (by rfl)
set_option maxRecDepth 20000 in
theorem wm_424 : (.instanceMethod ⟨"CountLeast$Kind", "numberAt", "(I)I"⟩ : Cond) ∈ TB := tb_i 442 (by rfl) (by rfl)
set_option maxRecDepth 20000 in
theorem wm_425 : (.selects "CountLeast$Kind" ⟨"CountLeast$Kind", "numberAt", "(I)I"⟩ ⟨"CountLeast$Kind", "numberAt", "(I)I"⟩ : Cond) ∈ TB := tb_i 443 (by rfl) (by rfl)
set_option maxRecDepth 20000 in
theorem wm_426 : (.code ⟨"CountLeast$Kind", "numberAt", "(I)I"⟩ prog_2_method_3_code 2 (some .int) : Cond) ∈ TB := tb_i 444 (by rfl) (by rfl)
set_option maxRecDepth 20000 in
theorem wm_427 : (.methodLink "CountLeastLaw" 126 ⟨"CountLeastLaw", "weight", "(LCountLeast;II[J)I"⟩ : Cond) ∈ TB := tb_i 445 (by rfl) (by rfl)
set_option maxRecDepth 20000 in
theorem wm_428 : (.static ⟨"CountLeastLaw", "weight", "(LCountLeast;II[J)I"⟩ : Cond) ∈ TB := tb_i 446 (by rfl) (by rfl)
set_option maxRecDepth 20000 in
theorem wm_429 : (.codeWith ⟨"CountLeastLaw", "weight", "(LCountLeast;II[J)I"⟩ method_14_code 5 (some .int) [(0, 10, 13, 13), (0, 10, 17, 15)] : Cond) ∈ TB := tb_i 447 (by rfl) (by rfl)
set_option maxRecDepth 20000 in
theorem wm_430 : (.methodLink "CountLeastLaw" 55 ⟨"CountLeast", "weight", "(II)I"⟩ : Cond) ∈ TB := tb_i 448 (by rfl) (by rfl)
set_option maxRecDepth 20000 in
theorem wm_431 : (.instanceMethod ⟨"CountLeast", "weight", "(II)I"⟩ : Cond) ∈ TB := tb_i 449 (by rfl) (by rfl)
set_option maxRecDepth 20000 in
theorem wm_432 : (.selects "CountLeast" ⟨"CountLeast", "weight", "(II)I"⟩ ⟨"CountLeast", "weight", "(II)I"⟩ : Cond) ∈ TB := tb_i 450 (by rfl) (by rfl)
set_option maxRecDepth 20000 in
theorem wm_433 : (.code ⟨"CountLeast", "weight", "(II)I"⟩ prog_1_method_13_code 5 (some .int) : Cond) ∈ TB := tb_i 451 (by rfl) (by rfl)
set_option maxRecDepth 20000 in
theorem wm_434 : (.constant "CountLeast" 129 (1000000 : Int32) : Cond) ∈ TB := tb_i 452 (by rfl) (by rfl)
set_option maxRecDepth 20000 in
theorem wm_435 : (.methodLink "CountLeastLaw" 129 ⟨"CountLeastLaw", "sum", "(LCountLeast;I[J)I"⟩ : Cond) ∈ TB := tb_i 453 (by rfl) (by rfl)
set_option maxRecDepth 20000 in
theorem wm_436 : (.static ⟨"CountLeastLaw", "sum", "(LCountLeast;I[J)I"⟩ : Cond) ∈ TB := tb_i 454 (by rfl) (by rfl)
set_option maxRecDepth 20000 in
theorem wm_437 : (.codeWith ⟨"CountLeastLaw", "sum", "(LCountLeast;I[J)I"⟩ method_15_code 4 (some .int) [(0, 9, 12, 13)] : Cond) ∈ TB := tb_i 455 (by rfl) (by rfl)
set_option maxRecDepth 20000 in
theorem wm_438 : (.methodLink "CountLeastLaw" 58 ⟨"CountLeast", "sum", "(I)I"⟩ : Cond) ∈ TB := tb_i 456 (by rfl) (by rfl)
set_option maxRecDepth 20000 in
theorem wm_439 : (.instanceMethod ⟨"CountLeast", "sum", "(I)I"⟩ : Cond) ∈ TB := tb_i 457 (by rfl) (by rfl)
set_option maxRecDepth 20000 in
theorem wm_440 : (.selects "CountLeast" ⟨"CountLeast", "sum", "(I)I"⟩ ⟨"CountLeast", "sum", "(I)I"⟩ : Cond) ∈ TB := tb_i 458 (by rfl) (by rfl)
set_option maxRecDepth 20000 in
theorem wm_441 : (.code ⟨"CountLeast", "sum", "(I)I"⟩ prog_1_method_14_code 2 (some .int) : Cond) ∈ TB := tb_i 459 (by rfl) (by rfl)
set_option maxRecDepth 20000 in
theorem wm_442 : (.methodLink "CountLeast" 133 ⟨"CountLeast$Kind", "gramsTogether", "()I"⟩ : Cond) ∈ TB := tb_i 460 (by rfl) (by rfl)
set_option maxRecDepth 20000 in
theorem wm_443 : (.instanceMethod ⟨"CountLeast$Kind", "gramsTogether", "()I"⟩ : Cond) ∈ TB := tb_i 461 (by rfl) (by rfl)
set_option maxRecDepth 20000 in
theorem wm_444 : (.selects "CountLeast$Kind" ⟨"CountLeast$Kind", "gramsTogether", "()I"⟩ ⟨"CountLeast$Kind", "gramsTogether", "()I"⟩ : Cond) ∈ TB := tb_i 462 (by rfl) (by rfl)
set_option maxRecDepth 20000 in
theorem wm_445 : (.code ⟨"CountLeast$Kind", "gramsTogether", "()I"⟩ prog_2_method_4_code 3 (some .int) : Cond) ∈ TB := tb_i 463 (by rfl) (by rfl)
set_option maxRecDepth 20000 in
theorem wm_446 : (.methodLink "CountLeastLaw" 132 ⟨"CountLeastLaw", "share", "(LCountLeast;II[J)I"⟩ : Cond) ∈ TB := tb_i 464 (by rfl) (by rfl)
set_option maxRecDepth 20000 in
theorem wm_447 : (.static ⟨"CountLeastLaw", "share", "(LCountLeast;II[J)I"⟩ : Cond) ∈ TB := tb_i 465 (by rfl) (by rfl)
set_option maxRecDepth 20000 in
theorem wm_448 : (.codeWith ⟨"CountLeastLaw", "share", "(LCountLeast;II[J)I"⟩ method_16_code 5 (some .int) [(0, 10, 13, 13)] : Cond) ∈ TB := tb_i 466 (by rfl) (by rfl)
set_option maxRecDepth 20000 in
theorem wm_449 : (.methodLink "CountLeastLaw" 61 ⟨"CountLeast", "share", "(II)I"⟩ : Cond) ∈ TB := tb_i 467 (by rfl) (by rfl)
set_option maxRecDepth 20000 in
theorem wm_450 : (.instanceMethod ⟨"CountLeast", "share", "(II)I"⟩ : Cond) ∈ TB := tb_i 468 (by rfl) (by rfl)
set_option maxRecDepth 20000 in
theorem wm_451 : (.selects "CountLeast" ⟨"CountLeast", "share", "(II)I"⟩ ⟨"CountLeast", "share", "(II)I"⟩ : Cond) ∈ TB := tb_i 469 (by rfl) (by rfl)
set_option maxRecDepth 20000 in
theorem wm_452 : (.code ⟨"CountLeast", "share", "(II)I"⟩ prog_1_method_15_code 6 (some .int) : Cond) ∈ TB := tb_i 470 (by rfl) (by rfl)
set_option maxRecDepth 20000 in
theorem wm_453 : (.methodLink "CountLeast" 137 ⟨"CountLeast", "lessened", "(III)I"⟩ : Cond) ∈ TB := tb_i 471 (by rfl) (by rfl)
set_option maxRecDepth 20000 in
theorem wm_454 : (.static ⟨"CountLeast", "lessened", "(III)I"⟩ : Cond) ∈ TB := tb_i 472 (by rfl) (by rfl)
set_option maxRecDepth 20000 in
theorem wm_455 : (.code ⟨"CountLeast", "lessened", "(III)I"⟩ prog_1_method_26_code 3 (some .int) : Cond) ∈ TB := tb_i 473 (by rfl) (by rfl)
set_option maxRecDepth 20000 in
theorem wm_456 : (.methodLink "CountLeast" 162 ⟨"CountLeast", "commonDivisor", "(II)I"⟩ : Cond) ∈ TB := tb_i 474 (by rfl) (by rfl)
set_option maxRecDepth 20000 in
theorem wm_457 : (.static ⟨"CountLeast", "commonDivisor", "(II)I"⟩ : Cond) ∈ TB := tb_i 475 (by rfl) (by rfl)
set_option maxRecDepth 20000 in
theorem wm_458 : (.code ⟨"CountLeast", "commonDivisor", "(II)I"⟩ prog_1_method_27_code 6 (some .int) : Cond) ∈ TB := tb_i 476 (by rfl) (by rfl)
set_option maxRecDepth 20000 in
theorem wm_459 : (.methodLink "CountLeast" 147 ⟨"CountLeast", "quotient", "(II)I"⟩ : Cond) ∈ TB := tb_i 477 (by rfl) (by rfl)
set_option maxRecDepth 20000 in
theorem wm_460 : (.static ⟨"CountLeast", "quotient", "(II)I"⟩ : Cond) ∈ TB := tb_i 478 (by rfl) (by rfl)
set_option maxRecDepth 20000 in
theorem wm_461 : (.code ⟨"CountLeast", "quotient", "(II)I"⟩ prog_1_method_25_code 2 (some .int) : Cond) ∈ TB := tb_i 479 (by rfl) (by rfl)
set_option maxRecDepth 20000 in
theorem wm_462 : (.methodLink "CountLeastLaw" 135 ⟨"CountLeastLaw", "sieve", "(LCountLeast;III)I"⟩ : Cond) ∈ TB := tb_i 480 (by rfl) (by rfl)
set_option maxRecDepth 20000 in
theorem wm_463 : (.static ⟨"CountLeastLaw", "sieve", "(LCountLeast;III)I"⟩ : Cond) ∈ TB := tb_i 481 (by rfl) (by rfl)
set_option maxRecDepth 20000 in
theorem wm_464 : (.codeWith ⟨"CountLeastLaw", "sieve", "(LCountLeast;III)I"⟩ method_17_code 5 (some .int) [(0, 7, 10, 13), (0, 7, 14, 15)] : Cond) ∈ TB := tb_i 482 (by rfl) (by rfl)
set_option maxRecDepth 20000 in
theorem wm_465 : (.methodLink "CountLeastLaw" 64 ⟨"CountLeast", "sieve", "(III)V"⟩ : Cond) ∈ TB := tb_i 483 (by rfl) (by rfl)
set_option maxRecDepth 20000 in
theorem wm_466 : (.instanceMethod ⟨"CountLeast", "sieve", "(III)V"⟩ : Cond) ∈ TB := tb_i 484 (by rfl) (by rfl)
set_option maxRecDepth 20000 in
theorem wm_467 : (.selects "CountLeast" ⟨"CountLeast", "sieve", "(III)V"⟩ ⟨"CountLeast", "sieve", "(III)V"⟩ : Cond) ∈ TB := tb_i 485 (by rfl) (by rfl)
set_option maxRecDepth 20000 in
theorem wm_468 : (.code ⟨"CountLeast", "sieve", "(III)V"⟩ prog_1_method_16_code 5 none : Cond) ∈ TB := tb_i 486 (by rfl) (by rfl)
set_option maxRecDepth 20000 in
theorem wm_469 : (.methodLink "CountLeastLaw" 139 ⟨"CountLeastLaw", "scaled", "(LCountLeast;II[J)I"⟩ : Cond) ∈ TB := tb_i 487 (by rfl) (by rfl)
set_option maxRecDepth 20000 in
theorem wm_470 : (.static ⟨"CountLeastLaw", "scaled", "(LCountLeast;II[J)I"⟩ : Cond) ∈ TB := tb_i 488 (by rfl) (by rfl)
set_option maxRecDepth 20000 in
theorem wm_471 : (.codeWith ⟨"CountLeastLaw", "scaled", "(LCountLeast;II[J)I"⟩ method_18_code 5 (some .int) [(0, 10, 13, 13)] : Cond) ∈ TB := tb_i 489 (by rfl) (by rfl)
set_option maxRecDepth 20000 in
theorem wm_472 : (.methodLink "CountLeastLaw" 68 ⟨"CountLeast", "scaled", "(II)I"⟩ : Cond) ∈ TB := tb_i 490 (by rfl) (by rfl)
set_option maxRecDepth 20000 in
theorem wm_473 : (.instanceMethod ⟨"CountLeast", "scaled", "(II)I"⟩ : Cond) ∈ TB := tb_i 491 (by rfl) (by rfl)
set_option maxRecDepth 20000 in
theorem wm_474 : (.selects "CountLeast" ⟨"CountLeast", "scaled", "(II)I"⟩ ⟨"CountLeast", "scaled", "(II)I"⟩ : Cond) ∈ TB := tb_i 492 (by rfl) (by rfl)
set_option maxRecDepth 20000 in
theorem wm_475 : (.code ⟨"CountLeast", "scaled", "(II)I"⟩ prog_1_method_17_code 7 (some .int) : Cond) ∈ TB := tb_i 493 (by rfl) (by rfl)
set_option maxRecDepth 20000 in
theorem wm_476 : (.methodLink "CountLeastLaw" 142 ⟨"CountLeastLaw", "diverse", "(LCountLeast;I[J)I"⟩ : Cond) ∈ TB := tb_i 494 (by rfl) (by rfl)
set_option maxRecDepth 20000 in
theorem wm_477 : (.static ⟨"CountLeastLaw", "diverse", "(LCountLeast;I[J)I"⟩ : Cond) ∈ TB := tb_i 495 (by rfl) (by rfl)
set_option maxRecDepth 20000 in
theorem wm_478 : (.codeWith ⟨"CountLeastLaw", "diverse", "(LCountLeast;I[J)I"⟩ method_19_code 4 (some .int) [(0, 9, 12, 13)] : Cond) ∈ TB := tb_i 496 (by rfl) (by rfl)
set_option maxRecDepth 20000 in
theorem wm_479 : (.methodLink "CountLeastLaw" 71 ⟨"CountLeast", "diverse", "(I)I"⟩ : Cond) ∈ TB := tb_i 497 (by rfl) (by rfl)
set_option maxRecDepth 20000 in
theorem wm_480 : (.instanceMethod ⟨"CountLeast", "diverse", "(I)I"⟩ : Cond) ∈ TB := tb_i 498 (by rfl) (by rfl)
set_option maxRecDepth 20000 in
theorem wm_481 : (.selects "CountLeast" ⟨"CountLeast", "diverse", "(I)I"⟩ ⟨"CountLeast", "diverse", "(I)I"⟩ : Cond) ∈ TB := tb_i 499 (by rfl) (by rfl)
set_option maxRecDepth 20000 in
theorem wm_482 : (.code ⟨"CountLeast", "diverse", "(I)I"⟩ prog_1_method_18_code 4 (some .int) : Cond) ∈ TB := tb_i 500 (by rfl) (by rfl)
set_option maxRecDepth 20000 in
theorem wm_483 : (.methodLink "CountLeast" 151 ⟨"CountLeast", "orderedPairs", "(I)I"⟩ : Cond) ∈ TB := tb_i 501 (by rfl) (by rfl)
set_option maxRecDepth 20000 in
theorem wm_484 : (.static ⟨"CountLeast", "orderedPairs", "(I)I"⟩ : Cond) ∈ TB := tb_i 502 (by rfl) (by rfl)
set_option maxRecDepth 20000 in
theorem wm_485 : (.code ⟨"CountLeast", "orderedPairs", "(I)I"⟩ prog_1_method_24_code 1 (some .int) : Cond) ∈ TB := tb_i 503 (by rfl) (by rfl)
set_option maxRecDepth 20000 in
theorem wm_486 : (.methodLink "CountLeastLaw" 145 ⟨"CountLeastLaw", "pieces", "(LCountLeast;I[J)I"⟩ : Cond) ∈ TB := tb_i 504 (by rfl) (by rfl)
set_option maxRecDepth 20000 in
theorem wm_487 : (.static ⟨"CountLeastLaw", "pieces", "(LCountLeast;I[J)I"⟩ : Cond) ∈ TB := tb_i 505 (by rfl) (by rfl)
set_option maxRecDepth 20000 in
theorem wm_488 : (.codeWith ⟨"CountLeastLaw", "pieces", "(LCountLeast;I[J)I"⟩ method_20_code 4 (some .int) [(0, 9, 12, 13)] : Cond) ∈ TB := tb_i 506 (by rfl) (by rfl)
set_option maxRecDepth 20000 in
theorem wm_489 : (.methodLink "CountLeastLaw" 74 ⟨"CountLeast", "pieces", "(I)I"⟩ : Cond) ∈ TB := tb_i 507 (by rfl) (by rfl)
set_option maxRecDepth 20000 in
theorem wm_490 : (.instanceMethod ⟨"CountLeast", "pieces", "(I)I"⟩ : Cond) ∈ TB := tb_i 508 (by rfl) (by rfl)
set_option maxRecDepth 20000 in
theorem wm_491 : (.selects "CountLeast" ⟨"CountLeast", "pieces", "(I)I"⟩ ⟨"CountLeast", "pieces", "(I)I"⟩ : Cond) ∈ TB := tb_i 509 (by rfl) (by rfl)
set_option maxRecDepth 20000 in
theorem wm_492 : (.code ⟨"CountLeast", "pieces", "(I)I"⟩ prog_1_method_19_code 2 (some .int) : Cond) ∈ TB := tb_i 510 (by rfl) (by rfl)
set_option maxRecDepth 20000 in
theorem wm_493 : (.classLink "CountLeastLaw" 78 "CountLeastModel" : Cond) ∈ TB := tb_i 511 (by rfl) (by rfl)
set_option maxRecDepth 20000 in
theorem wm_494 : (.instantiable "CountLeastModel" 21 : Cond) ∈ TB := tb_i 512 (by rfl) (by rfl)
set_option maxRecDepth 20000 in
theorem wm_495 : (.methodLink "CountLeastLaw" 80 ⟨"CountLeastModel", "<init>", "()V"⟩ : Cond) ∈ TB := tb_i 513 (by rfl) (by rfl)
set_option maxRecDepth 20000 in
theorem wm_496 : (.instanceMethod ⟨"CountLeastModel", "<init>", "()V"⟩ : Cond) ∈ TB := tb_i 514 (by rfl) (by rfl)
set_option maxRecDepth 20000 in
theorem wm_497 : (.code ⟨"CountLeastModel", "<init>", "()V"⟩ prog_6_method_1_code 2 none : Cond) ∈ TB := tb_i 515 (by rfl) (by rfl)
set_option maxRecDepth 20000 in
theorem wm_498 : (.methodLink "CountLeastModel" 1 ⟨"java/lang/Object", "<init>", "()V"⟩ : Cond) ∈ TB := tb_i 516 (by rfl) (by rfl)
set_option maxRecDepth 20000 in
theorem wm_499 : (.fieldLink "CountLeastModel" 62 "CountLeastModel" "thrown" "I" : Cond) ∈ TB := tb_i 517 (by rfl) (by rfl)
set_option maxRecDepth 20000 in
theorem wm_500 : (.fieldLink "CountLeastModel" 70 "CountLeastModel" "many" "I" : Cond) ∈ TB := tb_i 518 (by rfl) (by rfl)
set_option maxRecDepth 20000 in
theorem wm_501 : (.fieldLink "CountLeastModel" 7 "CountLeastModel" "kind" "[I" : Cond) ∈ TB := tb_i 519 (by rfl) (by rfl)
set_option maxRecDepth 20000 in
theorem wm_502 : (.fieldLink "CountLeastModel" 13 "CountLeastModel" "part" "[I" : Cond) ∈ TB := tb_i 520 (by rfl) (by rfl)
set_option maxRecDepth 20000 in
theorem wm_503 : (.fieldLink "CountLeastModel" 16 "CountLeastModel" "side" "[I" : Cond) ∈ TB := tb_i 521 (by rfl) (by rfl)
set_option maxRecDepth 20000 in
theorem wm_504 : (.fieldLink "CountLeastModel" 19 "CountLeastModel" "size" "[I" : Cond) ∈ TB := tb_i 522 (by rfl) (by rfl)
set_option maxRecDepth 20000 in
theorem wm_505 : (.fieldLink "CountLeastModel" 22 "CountLeastModel" "from" "[I" : Cond) ∈ TB := tb_i 523 (by rfl) (by rfl)
set_option maxRecDepth 20000 in
theorem wm_506 : (.fieldLink "CountLeastModel" 25 "CountLeastModel" "to" "[I" : Cond) ∈ TB := tb_i 524 (by rfl) (by rfl)
set_option maxRecDepth 20000 in
theorem wm_507 : (.fieldLink "CountLeastModel" 28 "CountLeastModel" "grams" "[I" : Cond) ∈ TB := tb_i 525 (by rfl) (by rfl)
set_option maxRecDepth 20000 in
theorem wm_508 : (.fieldLink "CountLeastModel" 31 "CountLeastModel" "counts" "[I" : Cond) ∈ TB := tb_i 526 (by rfl) (by rfl)
set_option maxRecDepth 20000 in
theorem wm_509 : (.fieldLink "CountLeastModel" 34 "CountLeastModel" "rows" "[I" : Cond) ∈ TB := tb_i 527 (by rfl) (by rfl)
set_option maxRecDepth 20000 in
theorem wm_510 : (.fieldLink "CountLeastModel" 37 "CountLeastModel" "alone" "[Z" : Cond) ∈ TB := tb_i 528 (by rfl) (by rfl)
set_option maxRecDepth 20000 in
theorem wm_511 : (.fieldLink "CountLeastModel" 41 "CountLeastModel" "bounds" "[I" : Cond) ∈ TB := tb_i 529 (by rfl) (by rfl)
set_option maxRecDepth 20000 in
theorem wm_512 : (.fieldLink "CountLeastModel" 44 "CountLeastModel" "wearFrom" "[I" : Cond) ∈ TB := tb_i 530 (by rfl) (by rfl)
set_option maxRecDepth 20000 in
theorem wm_513 : (.fieldLink "CountLeastModel" 47 "CountLeastModel" "wearTo" "[I" : Cond) ∈ TB := tb_i 531 (by rfl) (by rfl)
set_option maxRecDepth 20000 in
theorem wm_514 : (.fieldLink "CountLeastModel" 50 "CountLeastModel" "above" "[I" : Cond) ∈ TB := tb_i 532 (by rfl) (by rfl)
set_option maxRecDepth 20000 in
theorem wm_515 : (.fieldLink "CountLeastModel" 53 "CountLeastModel" "below" "[I" : Cond) ∈ TB := tb_i 533 (by rfl) (by rfl)
set_option maxRecDepth 20000 in
theorem wm_516 : (.fieldLink "CountLeastModel" 56 "CountLeastModel" "animals" "[I" : Cond) ∈ TB := tb_i 534 (by rfl) (by rfl)
set_option maxRecDepth 20000 in
theorem wm_517 : (.fieldLink "CountLeastModel" 59 "CountLeastModel" "before" "[I" : Cond) ∈ TB := tb_i 535 (by rfl) (by rfl)
set_option maxRecDepth 20000 in
theorem wm_518 : (.fieldLink "CountLeastModel" 111 "CountLeastModel" "over" "I" : Cond) ∈ TB := tb_i 536 (by rfl) (by rfl)
set_option maxRecDepth 20000 in
theorem wm_519 : (.fieldLink "CountLeastModel" 114 "CountLeastModel" "under" "I" : Cond) ∈ TB := tb_i 537 (by rfl) (by rfl)
set_option maxRecDepth 20000 in
theorem wm_520 : (.lays "CountLeastModel" "CountLeastModel" "thrown" "I" : Cond) ∈ TB := tb_i 538 (by rfl) (by rfl)
set_option maxRecDepth 20000 in
theorem wm_522 : (.lays "CountLeastModel" "CountLeastModel" "many" "I" : Cond) ∈ TB := tb_i 540 (by rfl) (by rfl)
set_option maxRecDepth 20000 in
theorem wm_524 : (.laysFinal "CountLeastModel" "CountLeastModel" "kind" "[I" : Cond) ∈ TB := tb_i 542 (by rfl) (by rfl)
set_option maxRecDepth 20000 in
theorem wm_526 : (.laysFinal "CountLeastModel" "CountLeastModel" "part" "[I" : Cond) ∈ TB := tb_i 544 (by rfl) (by rfl)
set_option maxRecDepth 20000 in
theorem wm_528 : (.laysFinal "CountLeastModel" "CountLeastModel" "side" "[I" : Cond) ∈ TB := tb_i 546 (by rfl) (by rfl)
set_option maxRecDepth 20000 in
theorem wm_530 : (.laysFinal "CountLeastModel" "CountLeastModel" "size" "[I" : Cond) ∈ TB := tb_i 548 (by rfl) (by rfl)
set_option maxRecDepth 20000 in
theorem wm_532 : (.laysFinal "CountLeastModel" "CountLeastModel" "from" "[I" : Cond) ∈ TB := tb_i 550 (by rfl) (by rfl)
set_option maxRecDepth 20000 in
theorem wm_534 : (.laysFinal "CountLeastModel" "CountLeastModel" "to" "[I" : Cond) ∈ TB := tb_i 552 (by rfl) (by rfl)
set_option maxRecDepth 20000 in
theorem wm_536 : (.laysFinal "CountLeastModel" "CountLeastModel" "grams" "[I" : Cond) ∈ TB := tb_i 554 (by rfl) (by rfl)
set_option maxRecDepth 20000 in
theorem wm_538 : (.laysFinal "CountLeastModel" "CountLeastModel" "counts" "[I" : Cond) ∈ TB := tb_i 556 (by rfl) (by rfl)
set_option maxRecDepth 20000 in
theorem wm_540 : (.laysFinal "CountLeastModel" "CountLeastModel" "rows" "[I" : Cond) ∈ TB := tb_i 558 (by rfl) (by rfl)
set_option maxRecDepth 20000 in
theorem wm_542 : (.laysFinal "CountLeastModel" "CountLeastModel" "alone" "[Z" : Cond) ∈ TB := tb_i 560 (by rfl) (by rfl)
set_option maxRecDepth 20000 in
theorem wm_544 : (.laysFinal "CountLeastModel" "CountLeastModel" "bounds" "[I" : Cond) ∈ TB := tb_i 562 (by rfl) (by rfl)
set_option maxRecDepth 20000 in
theorem wm_546 : (.laysFinal "CountLeastModel" "CountLeastModel" "wearFrom" "[I" : Cond) ∈ TB := tb_i 564 (by rfl) (by rfl)
set_option maxRecDepth 20000 in
theorem wm_548 : (.laysFinal "CountLeastModel" "CountLeastModel" "wearTo" "[I" : Cond) ∈ TB := tb_i 566 (by rfl) (by rfl)
set_option maxRecDepth 20000 in
theorem wm_550 : (.laysFinal "CountLeastModel" "CountLeastModel" "above" "[I" : Cond) ∈ TB := tb_i 568 (by rfl) (by rfl)
set_option maxRecDepth 20000 in
theorem wm_552 : (.laysFinal "CountLeastModel" "CountLeastModel" "below" "[I" : Cond) ∈ TB := tb_i 570 (by rfl) (by rfl)
set_option maxRecDepth 20000 in
theorem wm_554 : (.laysFinal "CountLeastModel" "CountLeastModel" "animals" "[I" : Cond) ∈ TB := tb_i 572 (by rfl) (by rfl)
set_option maxRecDepth 20000 in
theorem wm_556 : (.laysFinal "CountLeastModel" "CountLeastModel" "before" "[I" : Cond) ∈ TB := tb_i 574 (by rfl) (by rfl)
set_option maxRecDepth 20000 in
theorem wm_558 : (.lays "CountLeastModel" "CountLeastModel" "over" "I" : Cond) ∈ TB := tb_i 576 (by rfl) (by rfl)
set_option maxRecDepth 20000 in
theorem wm_560 : (.lays "CountLeastModel" "CountLeastModel" "under" "I" : Cond) ∈ TB := tb_i 578 (by rfl) (by rfl)
set_option maxRecDepth 20000 in
theorem wm_563 : (.methodLink "CountLeastLaw" 87 ⟨"CountLeastModel", "thrown", "()I"⟩ : Cond) ∈ TB := tb_i 581 (by rfl) (by rfl)
set_option maxRecDepth 20000 in
theorem wm_564 : (.instanceMethod ⟨"CountLeastModel", "thrown", "()I"⟩ : Cond) ∈ TB := tb_i 582 (by rfl) (by rfl)
set_option maxRecDepth 20000 in
theorem wm_565 : (.selects "CountLeastModel" ⟨"CountLeastModel", "thrown", "()I"⟩ ⟨"CountLeastModel", "thrown", "()I"⟩ : Cond) ∈ TB := tb_i 583 (by rfl) (by rfl)
set_option maxRecDepth 20000 in
theorem wm_566 : (.code ⟨"CountLeastModel", "thrown", "()I"⟩ prog_6_method_2_code 1 (some .int) : Cond) ∈ TB := tb_i 584 (by rfl) (by rfl)
set_option maxRecDepth 20000 in
theorem wm_567 : (.methodLink "CountLeastLaw" 86 ⟨"CountLeastModel", "piece", "(IIII)I"⟩ : Cond) ∈ TB := tb_i 585 (by rfl) (by rfl)
set_option maxRecDepth 20000 in
theorem wm_568 : (.instanceMethod ⟨"CountLeastModel", "piece", "(IIII)I"⟩ : Cond) ∈ TB := tb_i 586 (by rfl) (by rfl)
set_option maxRecDepth 20000 in
theorem wm_569 : (.selects "CountLeastModel" ⟨"CountLeastModel", "piece", "(IIII)I"⟩ ⟨"CountLeastModel", "piece", "(IIII)I"⟩ : Cond) ∈ TB := tb_i 587 (by rfl) (by rfl)
set_option maxRecDepth 20000 in
theorem wm_570 : (.code ⟨"CountLeastModel", "piece", "(IIII)I"⟩ prog_6_method_7_code 6 (some .int) : Cond) ∈ TB := tb_i 588 (by rfl) (by rfl)
set_option maxRecDepth 20000 in
theorem wm_571 : (.methodLink "CountLeastModel" 73 ⟨"CountLeastModel", "isKind", "(I)Z"⟩ : Cond) ∈ TB := tb_i 589 (by rfl) (by rfl)
set_option maxRecDepth 20000 in
theorem wm_572 : (.static ⟨"CountLeastModel", "isKind", "(I)Z"⟩ : Cond) ∈ TB := tb_i 590 (by rfl) (by rfl)
set_option maxRecDepth 20000 in
theorem wm_573 : (.code ⟨"CountLeastModel", "isKind", "(I)Z"⟩ prog_6_method_5_code 1 (some .boolean) : Cond) ∈ TB := tb_i 591 (by rfl) (by rfl)
set_option maxRecDepth 20000 in
theorem wm_574 : (.methodLink "CountLeastModel" 66 ⟨"CountLeastModel", "in", "(III)Z"⟩ : Cond) ∈ TB := tb_i 592 (by rfl) (by rfl)
set_option maxRecDepth 20000 in
theorem wm_575 : (.static ⟨"CountLeastModel", "in", "(III)Z"⟩ : Cond) ∈ TB := tb_i 593 (by rfl) (by rfl)
set_option maxRecDepth 20000 in
theorem wm_576 : (.code ⟨"CountLeastModel", "in", "(III)Z"⟩ prog_6_method_4_code 3 (some .boolean) : Cond) ∈ TB := tb_i 594 (by rfl) (by rfl)
set_option maxRecDepth 20000 in
theorem wm_577 : (.methodLink "CountLeastModel" 77 ⟨"CountLeastModel", "throwing", "(ZZZ)Z"⟩ : Cond) ∈ TB := tb_i 595 (by rfl) (by rfl)
set_option maxRecDepth 20000 in
theorem wm_579 : (.instanceMethod ⟨"CountLeastModel", "throwing", "(ZZZ)Z"⟩ : Cond) ∈ TB := tb_i 597 (by rfl) (by rfl)
set_option maxRecDepth 20000 in
theorem wm_580 : (.code ⟨"CountLeastModel", "throwing", "(ZZZ)Z"⟩ prog_6_method_3_code 4 (some .boolean) : Cond) ∈ TB := tb_i 598 (by rfl) (by rfl)
set_option maxRecDepth 20000 in
theorem wm_581 : (.methodLink "CountLeastLaw" 94 ⟨"CountLeastModel", "single", "(IIZ)Z"⟩ : Cond) ∈ TB := tb_i 599 (by rfl) (by rfl)
set_option maxRecDepth 20000 in
theorem wm_582 : (.instanceMethod ⟨"CountLeastModel", "single", "(IIZ)Z"⟩ : Cond) ∈ TB := tb_i 600 (by rfl) (by rfl)
set_option maxRecDepth 20000 in
theorem wm_583 : (.selects "CountLeastModel" ⟨"CountLeastModel", "single", "(IIZ)Z"⟩ ⟨"CountLeastModel", "single", "(IIZ)Z"⟩ : Cond) ∈ TB := tb_i 601 (by rfl) (by rfl)
set_option maxRecDepth 20000 in
theorem wm_584 : (.code ⟨"CountLeastModel", "single", "(IIZ)Z"⟩ prog_6_method_8_code 5 (some .boolean) : Cond) ∈ TB := tb_i 602 (by rfl) (by rfl)
set_option maxRecDepth 20000 in
theorem wm_585 : (.methodLink "CountLeastLaw" 98 ⟨"CountLeastModel", "bound", "(II)I"⟩ : Cond) ∈ TB := tb_i 603 (by rfl) (by rfl)
set_option maxRecDepth 20000 in
theorem wm_586 : (.instanceMethod ⟨"CountLeastModel", "bound", "(II)I"⟩ : Cond) ∈ TB := tb_i 604 (by rfl) (by rfl)
set_option maxRecDepth 20000 in
theorem wm_587 : (.selects "CountLeastModel" ⟨"CountLeastModel", "bound", "(II)I"⟩ ⟨"CountLeastModel", "bound", "(II)I"⟩ : Cond) ∈ TB := tb_i 605 (by rfl) (by rfl)
set_option maxRecDepth 20000 in
theorem wm_588 : (.code ⟨"CountLeastModel", "bound", "(II)I"⟩ prog_6_method_9_code 4 (some .int) : Cond) ∈ TB := tb_i 606 (by rfl) (by rfl)
set_option maxRecDepth 20000 in
theorem wm_589 : (.methodLink "CountLeastLaw" 102 ⟨"CountLeastModel", "table", "(IIII)V"⟩ : Cond) ∈ TB := tb_i 607 (by rfl) (by rfl)
set_option maxRecDepth 20000 in
theorem wm_590 : (.instanceMethod ⟨"CountLeastModel", "table", "(IIII)V"⟩ : Cond) ∈ TB := tb_i 608 (by rfl) (by rfl)
set_option maxRecDepth 20000 in
theorem wm_591 : (.selects "CountLeastModel" ⟨"CountLeastModel", "table", "(IIII)V"⟩ ⟨"CountLeastModel", "table", "(IIII)V"⟩ : Cond) ∈ TB := tb_i 609 (by rfl) (by rfl)
set_option maxRecDepth 20000 in
theorem wm_592 : (.code ⟨"CountLeastModel", "table", "(IIII)V"⟩ prog_6_method_10_code 5 none : Cond) ∈ TB := tb_i 610 (by rfl) (by rfl)
set_option maxRecDepth 20000 in
theorem wm_593 : (.methodLink "CountLeastLaw" 106 ⟨"CountLeastModel", "worn", "(II)V"⟩ : Cond) ∈ TB := tb_i 611 (by rfl) (by rfl)
set_option maxRecDepth 20000 in
theorem wm_594 : (.instanceMethod ⟨"CountLeastModel", "worn", "(II)V"⟩ : Cond) ∈ TB := tb_i 612 (by rfl) (by rfl)
set_option maxRecDepth 20000 in
theorem wm_595 : (.selects "CountLeastModel" ⟨"CountLeastModel", "worn", "(II)V"⟩ ⟨"CountLeastModel", "worn", "(II)V"⟩ : Cond) ∈ TB := tb_i 613 (by rfl) (by rfl)
set_option maxRecDepth 20000 in
theorem wm_596 : (.code ⟨"CountLeastModel", "worn", "(II)V"⟩ prog_6_method_11_code 3 none : Cond) ∈ TB := tb_i 614 (by rfl) (by rfl)
set_option maxRecDepth 20000 in
theorem wm_597 : (.methodLink "CountLeastModel" 81 ⟨"CountLeastModel", "isPiece", "(I)Z"⟩ : Cond) ∈ TB := tb_i 615 (by rfl) (by rfl)
set_option maxRecDepth 20000 in
theorem wm_599 : (.instanceMethod ⟨"CountLeastModel", "isPiece", "(I)Z"⟩ : Cond) ∈ TB := tb_i 617 (by rfl) (by rfl)
set_option maxRecDepth 20000 in
theorem wm_600 : (.code ⟨"CountLeastModel", "isPiece", "(I)Z"⟩ prog_6_method_6_code 2 (some .boolean) : Cond) ∈ TB := tb_i 618 (by rfl) (by rfl)
set_option maxRecDepth 20000 in
theorem wm_601 : (.methodLink "CountLeastLaw" 109 ⟨"CountLeastModel", "aged", "(II)I"⟩ : Cond) ∈ TB := tb_i 619 (by rfl) (by rfl)
set_option maxRecDepth 20000 in
theorem wm_602 : (.instanceMethod ⟨"CountLeastModel", "aged", "(II)I"⟩ : Cond) ∈ TB := tb_i 620 (by rfl) (by rfl)
set_option maxRecDepth 20000 in
theorem wm_603 : (.selects "CountLeastModel" ⟨"CountLeastModel", "aged", "(II)I"⟩ ⟨"CountLeastModel", "aged", "(II)I"⟩ : Cond) ∈ TB := tb_i 621 (by rfl) (by rfl)
set_option maxRecDepth 20000 in
theorem wm_604 : (.code ⟨"CountLeastModel", "aged", "(II)I"⟩ prog_6_method_12_code 3 (some .int) : Cond) ∈ TB := tb_i 622 (by rfl) (by rfl)
set_option maxRecDepth 20000 in
theorem wm_605 : (.methodLink "CountLeastLaw" 113 ⟨"CountLeastModel", "unsure", "(I)Z"⟩ : Cond) ∈ TB := tb_i 623 (by rfl) (by rfl)
set_option maxRecDepth 20000 in
theorem wm_606 : (.instanceMethod ⟨"CountLeastModel", "unsure", "(I)Z"⟩ : Cond) ∈ TB := tb_i 624 (by rfl) (by rfl)
set_option maxRecDepth 20000 in
theorem wm_607 : (.selects "CountLeastModel" ⟨"CountLeastModel", "unsure", "(I)Z"⟩ ⟨"CountLeastModel", "unsure", "(I)Z"⟩ : Cond) ∈ TB := tb_i 625 (by rfl) (by rfl)
set_option maxRecDepth 20000 in
theorem wm_608 : (.code ⟨"CountLeastModel", "unsure", "(I)Z"⟩ prog_6_method_13_code 3 (some .boolean) : Cond) ∈ TB := tb_i 626 (by rfl) (by rfl)
set_option maxRecDepth 20000 in
theorem wm_609 : (.methodLink "CountLeastLaw" 116 ⟨"CountLeastModel", "clash", "(II)I"⟩ : Cond) ∈ TB := tb_i 627 (by rfl) (by rfl)
set_option maxRecDepth 20000 in
theorem wm_610 : (.instanceMethod ⟨"CountLeastModel", "clash", "(II)I"⟩ : Cond) ∈ TB := tb_i 628 (by rfl) (by rfl)
set_option maxRecDepth 20000 in
theorem wm_611 : (.selects "CountLeastModel" ⟨"CountLeastModel", "clash", "(II)I"⟩ ⟨"CountLeastModel", "clash", "(II)I"⟩ : Cond) ∈ TB := tb_i 629 (by rfl) (by rfl)
set_option maxRecDepth 20000 in
theorem wm_612 : (.code ⟨"CountLeastModel", "clash", "(II)I"⟩ prog_6_method_15_code 4 (some .int) : Cond) ∈ TB := tb_i 630 (by rfl) (by rfl)
set_option maxRecDepth 20000 in
theorem wm_613 : (.methodLink "CountLeastModel" 84 ⟨"CountLeastModel", "rule", "(II)I"⟩ : Cond) ∈ TB := tb_i 631 (by rfl) (by rfl)
set_option maxRecDepth 20000 in
theorem wm_615 : (.instanceMethod ⟨"CountLeastModel", "rule", "(II)I"⟩ : Cond) ∈ TB := tb_i 633 (by rfl) (by rfl)
set_option maxRecDepth 20000 in
theorem wm_616 : (.code ⟨"CountLeastModel", "rule", "(II)I"⟩ prog_6_method_14_code 5 (some .int) : Cond) ∈ TB := tb_i 634 (by rfl) (by rfl)
set_option maxRecDepth 20000 in
theorem wm_617 : (.methodLink "CountLeastLaw" 119 ⟨"CountLeastModel", "least", "(I)I"⟩ : Cond) ∈ TB := tb_i 635 (by rfl) (by rfl)
set_option maxRecDepth 20000 in
theorem wm_618 : (.instanceMethod ⟨"CountLeastModel", "least", "(I)I"⟩ : Cond) ∈ TB := tb_i 636 (by rfl) (by rfl)
set_option maxRecDepth 20000 in
theorem wm_619 : (.selects "CountLeastModel" ⟨"CountLeastModel", "least", "(I)I"⟩ ⟨"CountLeastModel", "least", "(I)I"⟩ : Cond) ∈ TB := tb_i 637 (by rfl) (by rfl)
set_option maxRecDepth 20000 in
theorem wm_620 : (.code ⟨"CountLeastModel", "least", "(I)I"⟩ prog_6_method_20_code 2 (some .int) : Cond) ∈ TB := tb_i 638 (by rfl) (by rfl)
set_option maxRecDepth 20000 in
theorem wm_621 : (.methodLink "CountLeastModel" 98 ⟨"CountLeastModel", "part", "(I)I"⟩ : Cond) ∈ TB := tb_i 639 (by rfl) (by rfl)
set_option maxRecDepth 20000 in
theorem wm_623 : (.instanceMethod ⟨"CountLeastModel", "part", "(I)I"⟩ : Cond) ∈ TB := tb_i 641 (by rfl) (by rfl)
set_option maxRecDepth 20000 in
theorem wm_624 : (.code ⟨"CountLeastModel", "part", "(I)I"⟩ prog_6_method_19_code 3 (some .int) : Cond) ∈ TB := tb_i 642 (by rfl) (by rfl)
set_option maxRecDepth 20000 in
theorem wm_625 : (.methodLink "CountLeastModel" 94 ⟨"CountLeastModel", "parts", "(II)Z"⟩ : Cond) ∈ TB := tb_i 643 (by rfl) (by rfl)
set_option maxRecDepth 20000 in
theorem wm_627 : (.instanceMethod ⟨"CountLeastModel", "parts", "(II)Z"⟩ : Cond) ∈ TB := tb_i 645 (by rfl) (by rfl)
set_option maxRecDepth 20000 in
theorem wm_628 : (.code ⟨"CountLeastModel", "parts", "(II)Z"⟩ prog_6_method_18_code 8 (some .boolean) : Cond) ∈ TB := tb_i 646 (by rfl) (by rfl)
set_option maxRecDepth 20000 in
theorem wm_629 : (.methodLink "CountLeastModel" 91 ⟨"CountLeastModel", "fits", "(III)Z"⟩ : Cond) ∈ TB := tb_i 647 (by rfl) (by rfl)
set_option maxRecDepth 20000 in
theorem wm_631 : (.instanceMethod ⟨"CountLeastModel", "fits", "(III)Z"⟩ : Cond) ∈ TB := tb_i 649 (by rfl) (by rfl)
set_option maxRecDepth 20000 in
theorem wm_632 : (.code ⟨"CountLeastModel", "fits", "(III)Z"⟩ prog_6_method_17_code 6 (some .boolean) : Cond) ∈ TB := tb_i 650 (by rfl) (by rfl)
set_option maxRecDepth 20000 in
theorem wm_633 : (.methodLink "CountLeastModel" 88 ⟨"CountLeastModel", "clashes", "(III)Z"⟩ : Cond) ∈ TB := tb_i 651 (by rfl) (by rfl)
set_option maxRecDepth 20000 in
theorem wm_635 : (.instanceMethod ⟨"CountLeastModel", "clashes", "(III)Z"⟩ : Cond) ∈ TB := tb_i 653 (by rfl) (by rfl)
set_option maxRecDepth 20000 in
theorem wm_636 : (.code ⟨"CountLeastModel", "clashes", "(III)Z"⟩ prog_6_method_16_code 4 (some .boolean) : Cond) ∈ TB := tb_i 654 (by rfl) (by rfl)
set_option maxRecDepth 20000 in
theorem wm_637 : (.methodLink "CountLeastLaw" 122 ⟨"CountLeastModel", "animal", "(I)I"⟩ : Cond) ∈ TB := tb_i 655 (by rfl) (by rfl)
set_option maxRecDepth 20000 in
theorem wm_638 : (.instanceMethod ⟨"CountLeastModel", "animal", "(I)I"⟩ : Cond) ∈ TB := tb_i 656 (by rfl) (by rfl)
set_option maxRecDepth 20000 in
theorem wm_639 : (.selects "CountLeastModel" ⟨"CountLeastModel", "animal", "(I)I"⟩ ⟨"CountLeastModel", "animal", "(I)I"⟩ : Cond) ∈ TB := tb_i 657 (by rfl) (by rfl)
set_option maxRecDepth 20000 in
theorem wm_640 : (.code ⟨"CountLeastModel", "animal", "(I)I"⟩ prog_6_method_21_code 4 (some .int) : Cond) ∈ TB := tb_i 658 (by rfl) (by rfl)
set_option maxRecDepth 20000 in
theorem wm_641 : (.methodLink "CountLeastLaw" 125 ⟨"CountLeastModel", "clashing", "(II)I"⟩ : Cond) ∈ TB := tb_i 659 (by rfl) (by rfl)
set_option maxRecDepth 20000 in
theorem wm_642 : (.instanceMethod ⟨"CountLeastModel", "clashing", "(II)I"⟩ : Cond) ∈ TB := tb_i 660 (by rfl) (by rfl)
set_option maxRecDepth 20000 in
theorem wm_643 : (.selects "CountLeastModel" ⟨"CountLeastModel", "clashing", "(II)I"⟩ ⟨"CountLeastModel", "clashing", "(II)I"⟩ : Cond) ∈ TB := tb_i 661 (by rfl) (by rfl)
set_option maxRecDepth 20000 in
theorem wm_644 : (.code ⟨"CountLeastModel", "clashing", "(II)I"⟩ prog_6_method_25_code 6 (some .int) : Cond) ∈ TB := tb_i 662 (by rfl) (by rfl)
set_option maxRecDepth 20000 in
theorem wm_645 : (.methodLink "CountLeastModel" 107 ⟨"CountLeastModel", "greatest", "(I)I"⟩ : Cond) ∈ TB := tb_i 663 (by rfl) (by rfl)
set_option maxRecDepth 20000 in
theorem wm_647 : (.instanceMethod ⟨"CountLeastModel", "greatest", "(I)I"⟩ : Cond) ∈ TB := tb_i 665 (by rfl) (by rfl)
set_option maxRecDepth 20000 in
theorem wm_648 : (.code ⟨"CountLeastModel", "greatest", "(I)I"⟩ prog_6_method_24_code 8 (some .int) : Cond) ∈ TB := tb_i 666 (by rfl) (by rfl)
set_option maxRecDepth 20000 in
theorem wm_649 : (.methodLink "CountLeastModel" 101 ⟨"CountLeastModel", "sizeOf", "(I)I"⟩ : Cond) ∈ TB := tb_i 667 (by rfl) (by rfl)
set_option maxRecDepth 20000 in
theorem wm_650 : (.static ⟨"CountLeastModel", "sizeOf", "(I)I"⟩ : Cond) ∈ TB := tb_i 668 (by rfl) (by rfl)
set_option maxRecDepth 20000 in
theorem wm_651 : (.code ⟨"CountLeastModel", "sizeOf", "(I)I"⟩ prog_6_method_23_code 3 (some .int) : Cond) ∈ TB := tb_i 669 (by rfl) (by rfl)
set_option maxRecDepth 20000 in
theorem wm_652 : (.methodLink "CountLeastModel" 104 ⟨"CountLeastModel", "isClashing", "(II)Z"⟩ : Cond) ∈ TB := tb_i 670 (by rfl) (by rfl)
set_option maxRecDepth 20000 in
theorem wm_654 : (.instanceMethod ⟨"CountLeastModel", "isClashing", "(II)Z"⟩ : Cond) ∈ TB := tb_i 672 (by rfl) (by rfl)
set_option maxRecDepth 20000 in
theorem wm_655 : (.code ⟨"CountLeastModel", "isClashing", "(II)Z"⟩ prog_6_method_22_code 6 (some .boolean) : Cond) ∈ TB := tb_i 673 (by rfl) (by rfl)
set_option maxRecDepth 20000 in
theorem wm_656 : (.methodLink "CountLeastLaw" 128 ⟨"CountLeastModel", "weight", "(II)I"⟩ : Cond) ∈ TB := tb_i 674 (by rfl) (by rfl)
set_option maxRecDepth 20000 in
theorem wm_657 : (.instanceMethod ⟨"CountLeastModel", "weight", "(II)I"⟩ : Cond) ∈ TB := tb_i 675 (by rfl) (by rfl)
set_option maxRecDepth 20000 in
theorem wm_658 : (.selects "CountLeastModel" ⟨"CountLeastModel", "weight", "(II)I"⟩ ⟨"CountLeastModel", "weight", "(II)I"⟩ : Cond) ∈ TB := tb_i 676 (by rfl) (by rfl)
set_option maxRecDepth 20000 in
theorem wm_659 : (.code ⟨"CountLeastModel", "weight", "(II)I"⟩ prog_6_method_26_code 4 (some .int) : Cond) ∈ TB := tb_i 677 (by rfl) (by rfl)
set_option maxRecDepth 20000 in
theorem wm_660 : (.constant "CountLeastModel" 110 (1000000 : Int32) : Cond) ∈ TB := tb_i 678 (by rfl) (by rfl)
set_option maxRecDepth 20000 in
theorem wm_661 : (.methodLink "CountLeastLaw" 131 ⟨"CountLeastModel", "sum", "(I)I"⟩ : Cond) ∈ TB := tb_i 679 (by rfl) (by rfl)
set_option maxRecDepth 20000 in
theorem wm_662 : (.instanceMethod ⟨"CountLeastModel", "sum", "(I)I"⟩ : Cond) ∈ TB := tb_i 680 (by rfl) (by rfl)
set_option maxRecDepth 20000 in
theorem wm_663 : (.selects "CountLeastModel" ⟨"CountLeastModel", "sum", "(I)I"⟩ ⟨"CountLeastModel", "sum", "(I)I"⟩ : Cond) ∈ TB := tb_i 681 (by rfl) (by rfl)
set_option maxRecDepth 20000 in
theorem wm_664 : (.code ⟨"CountLeastModel", "sum", "(I)I"⟩ prog_6_method_27_code 4 (some .int) : Cond) ∈ TB := tb_i 682 (by rfl) (by rfl)
set_option maxRecDepth 20000 in
theorem wm_665 : (.methodLink "CountLeastLaw" 134 ⟨"CountLeastModel", "share", "(II)I"⟩ : Cond) ∈ TB := tb_i 683 (by rfl) (by rfl)
set_option maxRecDepth 20000 in
theorem wm_666 : (.instanceMethod ⟨"CountLeastModel", "share", "(II)I"⟩ : Cond) ∈ TB := tb_i 684 (by rfl) (by rfl)
set_option maxRecDepth 20000 in
theorem wm_667 : (.selects "CountLeastModel" ⟨"CountLeastModel", "share", "(II)I"⟩ ⟨"CountLeastModel", "share", "(II)I"⟩ : Cond) ∈ TB := tb_i 685 (by rfl) (by rfl)
set_option maxRecDepth 20000 in
theorem wm_668 : (.code ⟨"CountLeastModel", "share", "(II)I"⟩ prog_6_method_29_code 5 (some .int) : Cond) ∈ TB := tb_i 686 (by rfl) (by rfl)
set_option maxRecDepth 20000 in
theorem wm_669 : (.methodLink "CountLeastModel" 117 ⟨"CountLeastModel", "lessen", "(II)V"⟩ : Cond) ∈ TB := tb_i 687 (by rfl) (by rfl)
set_option maxRecDepth 20000 in
theorem wm_671 : (.instanceMethod ⟨"CountLeastModel", "lessen", "(II)V"⟩ : Cond) ∈ TB := tb_i 689 (by rfl) (by rfl)
set_option maxRecDepth 20000 in
theorem wm_672 : (.code ⟨"CountLeastModel", "lessen", "(II)V"⟩ prog_6_method_28_code 4 none : Cond) ∈ TB := tb_i 690 (by rfl) (by rfl)
set_option maxRecDepth 20000 in
theorem wm_673 : (.methodLink "CountLeastLaw" 138 ⟨"CountLeastModel", "sieve", "(III)V"⟩ : Cond) ∈ TB := tb_i 691 (by rfl) (by rfl)
set_option maxRecDepth 20000 in
theorem wm_674 : (.instanceMethod ⟨"CountLeastModel", "sieve", "(III)V"⟩ : Cond) ∈ TB := tb_i 692 (by rfl) (by rfl)
set_option maxRecDepth 20000 in
theorem wm_675 : (.selects "CountLeastModel" ⟨"CountLeastModel", "sieve", "(III)V"⟩ ⟨"CountLeastModel", "sieve", "(III)V"⟩ : Cond) ∈ TB := tb_i 693 (by rfl) (by rfl)
set_option maxRecDepth 20000 in
theorem wm_676 : (.code ⟨"CountLeastModel", "sieve", "(III)V"⟩ prog_6_method_30_code 4 none : Cond) ∈ TB := tb_i 694 (by rfl) (by rfl)
set_option maxRecDepth 20000 in
theorem wm_677 : (.methodLink "CountLeastLaw" 141 ⟨"CountLeastModel", "scaled", "(II)I"⟩ : Cond) ∈ TB := tb_i 695 (by rfl) (by rfl)
set_option maxRecDepth 20000 in
theorem wm_678 : (.instanceMethod ⟨"CountLeastModel", "scaled", "(II)I"⟩ : Cond) ∈ TB := tb_i 696 (by rfl) (by rfl)
set_option maxRecDepth 20000 in
theorem wm_679 : (.selects "CountLeastModel" ⟨"CountLeastModel", "scaled", "(II)I"⟩ ⟨"CountLeastModel", "scaled", "(II)I"⟩ : Cond) ∈ TB := tb_i 697 (by rfl) (by rfl)
set_option maxRecDepth 20000 in
theorem wm_680 : (.code ⟨"CountLeastModel", "scaled", "(II)I"⟩ prog_6_method_31_code 4 (some .int) : Cond) ∈ TB := tb_i 698 (by rfl) (by rfl)
set_option maxRecDepth 20000 in
theorem wm_681 : (.methodLink "CountLeastLaw" 144 ⟨"CountLeastModel", "diverse", "(I)I"⟩ : Cond) ∈ TB := tb_i 699 (by rfl) (by rfl)
set_option maxRecDepth 20000 in
theorem wm_682 : (.instanceMethod ⟨"CountLeastModel", "diverse", "(I)I"⟩ : Cond) ∈ TB := tb_i 700 (by rfl) (by rfl)
set_option maxRecDepth 20000 in
theorem wm_683 : (.selects "CountLeastModel" ⟨"CountLeastModel", "diverse", "(I)I"⟩ ⟨"CountLeastModel", "diverse", "(I)I"⟩ : Cond) ∈ TB := tb_i 701 (by rfl) (by rfl)
set_option maxRecDepth 20000 in
theorem wm_684 : (.code ⟨"CountLeastModel", "diverse", "(I)I"⟩ prog_6_method_32_code 5 (some .int) : Cond) ∈ TB := tb_i 702 (by rfl) (by rfl)
set_option maxRecDepth 20000 in
theorem wm_685 : (.methodLink "CountLeastLaw" 147 ⟨"CountLeastModel", "pieces", "(I)I"⟩ : Cond) ∈ TB := tb_i 703 (by rfl) (by rfl)
set_option maxRecDepth 20000 in
theorem wm_686 : (.instanceMethod ⟨"CountLeastModel", "pieces", "(I)I"⟩ : Cond) ∈ TB := tb_i 704 (by rfl) (by rfl)
set_option maxRecDepth 20000 in
theorem wm_687 : (.selects "CountLeastModel" ⟨"CountLeastModel", "pieces", "(I)I"⟩ ⟨"CountLeastModel", "pieces", "(I)I"⟩ : Cond) ∈ TB := tb_i 705 (by rfl) (by rfl)
set_option maxRecDepth 20000 in
theorem wm_688 : (.code ⟨"CountLeastModel", "pieces", "(I)I"⟩ prog_6_method_33_code 2 (some .int) : Cond) ∈ TB := tb_i 706 (by rfl) (by rfl)
set_option maxRecDepth 20000 in
theorem wm_689 : (.arrayClass .long : Cond) ∈ TB := tb_i 707 (by rfl) (by rfl)
set_option maxRecDepth 20000 in
theorem wm_690 : (.sameMethod "java/lang/Throwable" "java/lang/Throwable" "fillInStackTrace" "(I)Ljava/lang/Throwable;" : Cond) ∈ TB := tb_i 708 (by rfl) (by rfl)
theorem wp_0 : (.selects "CountLeast" ⟨"CountLeast", "kindAt", "(I)LCountLeast$Kind;"⟩ ⟨"CountLeast", "kindAt", "(I)LCountLeast$Kind;"⟩ : Cond) ∈ TB := tb_i 0 (by rfl) (by rfl)
theorem wp_1 : (.selects "java/lang/Throwable" ⟨"java/lang/Throwable", "fillInStackTrace", "(I)Ljava/lang/Throwable;"⟩ ⟨"java/lang/Throwable", "fillInStackTrace", "(I)Ljava/lang/Throwable;"⟩ : Cond) ∈ TB := tb_i 1 (by rfl) (by rfl)
theorem wp_2 : (.selects "CountLeast" ⟨"CountLeast", "pieceAt", "(I)LCountLeast$Piece;"⟩ ⟨"CountLeast", "pieceAt", "(I)LCountLeast$Piece;"⟩ : Cond) ∈ TB := tb_i 2 (by rfl) (by rfl)
theorem wp_3 : (.selects "CountLeast$Kind" ⟨"CountLeast$Kind", "sidesClash", "(LCountLeast$Piece;LCountLeast$Piece;)Z"⟩ ⟨"CountLeast$Kind", "sidesClash", "(LCountLeast$Piece;LCountLeast$Piece;)Z"⟩ : Cond) ∈ TB := tb_i 3 (by rfl) (by rfl)
theorem wp_4 : (.selects "CountLeast$Kind" ⟨"CountLeast$Kind", "sizesClash", "(LCountLeast$Piece;LCountLeast$Piece;)Z"⟩ ⟨"CountLeast$Kind", "sizesClash", "(LCountLeast$Piece;LCountLeast$Piece;)Z"⟩ : Cond) ∈ TB := tb_i 4 (by rfl) (by rfl)
theorem wp_5 : (.selects "CountLeast$Kind" ⟨"CountLeast$Kind", "markFoes", "()V"⟩ ⟨"CountLeast$Kind", "markFoes", "()V"⟩ : Cond) ∈ TB := tb_i 5 (by rfl) (by rfl)
theorem wp_6 : (.selects "CountLeast$Parting" ⟨"CountLeast$Parting", "growFoes", "(III)V"⟩ ⟨"CountLeast$Parting", "growFoes", "(III)V"⟩ : Cond) ∈ TB := tb_i 6 (by rfl) (by rfl)
theorem wp_7 : (.selects "CountLeast$Parting" ⟨"CountLeast$Parting", "fill", "(II)Z"⟩ ⟨"CountLeast$Parting", "fill", "(II)Z"⟩ : Cond) ∈ TB := tb_i 7 (by rfl) (by rfl)
theorem wp_8 : (.selects "CountLeastModel" ⟨"CountLeastModel", "throwing", "(ZZZ)Z"⟩ ⟨"CountLeastModel", "throwing", "(ZZZ)Z"⟩ : Cond) ∈ TB := tb_i 8 (by rfl) (by rfl)
theorem wp_9 : (.selects "CountLeastModel" ⟨"CountLeastModel", "isPiece", "(I)Z"⟩ ⟨"CountLeastModel", "isPiece", "(I)Z"⟩ : Cond) ∈ TB := tb_i 9 (by rfl) (by rfl)
theorem wp_10 : (.selects "CountLeastModel" ⟨"CountLeastModel", "rule", "(II)I"⟩ ⟨"CountLeastModel", "rule", "(II)I"⟩ : Cond) ∈ TB := tb_i 10 (by rfl) (by rfl)
theorem wp_11 : (.selects "CountLeastModel" ⟨"CountLeastModel", "part", "(I)I"⟩ ⟨"CountLeastModel", "part", "(I)I"⟩ : Cond) ∈ TB := tb_i 11 (by rfl) (by rfl)
theorem wp_12 : (.selects "CountLeastModel" ⟨"CountLeastModel", "parts", "(II)Z"⟩ ⟨"CountLeastModel", "parts", "(II)Z"⟩ : Cond) ∈ TB := tb_i 12 (by rfl) (by rfl)
theorem wp_13 : (.selects "CountLeastModel" ⟨"CountLeastModel", "fits", "(III)Z"⟩ ⟨"CountLeastModel", "fits", "(III)Z"⟩ : Cond) ∈ TB := tb_i 13 (by rfl) (by rfl)
theorem wp_14 : (.selects "CountLeastModel" ⟨"CountLeastModel", "clashes", "(III)Z"⟩ ⟨"CountLeastModel", "clashes", "(III)Z"⟩ : Cond) ∈ TB := tb_i 14 (by rfl) (by rfl)
theorem wp_15 : (.selects "CountLeastModel" ⟨"CountLeastModel", "greatest", "(I)I"⟩ ⟨"CountLeastModel", "greatest", "(I)I"⟩ : Cond) ∈ TB := tb_i 15 (by rfl) (by rfl)
theorem wp_16 : (.selects "CountLeastModel" ⟨"CountLeastModel", "isClashing", "(II)Z"⟩ ⟨"CountLeastModel", "isClashing", "(II)Z"⟩ : Cond) ∈ TB := tb_i 16 (by rfl) (by rfl)
theorem wp_17 : (.selects "CountLeastModel" ⟨"CountLeastModel", "lessen", "(II)V"⟩ ⟨"CountLeastModel", "lessen", "(II)V"⟩ : Cond) ∈ TB := tb_i 17 (by rfl) (by rfl)
theorem inC : ∀ w ∈ u_ws RC TC 3, w ∈ TB := by
  intro w hw
  obtain ⟨k, hk, rfl⟩ := List.mem_map.mp hw
  have hk := List.mem_range.mp hk
  match k, hk with
  | 0, _ => exact wm_103
  | 1, _ => exact wm_105
  | 2, _ => exact wm_107
  | k + 3, h => exact absurd h (by omega)
theorem inK : ∀ w ∈ u_ws RK TK 10, w ∈ TB := by
  intro w hw
  obtain ⟨k, hk, rfl⟩ := List.mem_map.mp hw
  have hk := List.mem_range.mp hk
  match k, hk with
  | 0, _ => exact wm_79
  | 1, _ => exact wm_81
  | 2, _ => exact wm_83
  | 3, _ => exact wm_85
  | 4, _ => exact wm_87
  | 5, _ => exact wm_89
  | 6, _ => exact wm_91
  | 7, _ => exact wm_93
  | 8, _ => exact wm_95
  | 9, _ => exact wm_97
  | k + 10, h => exact absurd h (by omega)
theorem inP : ∀ w ∈ u_ws RP TP 6, w ∈ TB := by
  intro w hw
  obtain ⟨k, hk, rfl⟩ := List.mem_map.mp hw
  have hk := List.mem_range.mp hk
  match k, hk with
  | 0, _ => exact wm_45
  | 1, _ => exact wm_47
  | 2, _ => exact wm_49
  | 3, _ => exact wm_51
  | 4, _ => exact wm_53
  | 5, _ => exact wm_55
  | k + 6, h => exact absurd h (by omega)
theorem inQ : ∀ w ∈ u_ws RQ TQ 9, w ∈ TB := by
  intro w hw
  obtain ⟨k, hk, rfl⟩ := List.mem_map.mp hw
  have hk := List.mem_range.mp hk
  match k, hk with
  | 0, _ => exact wm_259
  | 1, _ => exact wm_261
  | 2, _ => exact wm_263
  | 3, _ => exact wm_265
  | 4, _ => exact wm_267
  | 5, _ => exact wm_269
  | 6, _ => exact wm_271
  | 7, _ => exact wm_273
  | 8, _ => exact wm_275
  | k + 9, h => exact absurd h (by omega)
theorem inM : ∀ w ∈ u_ws RM TM 21, w ∈ TB := by
  intro w hw
  obtain ⟨k, hk, rfl⟩ := List.mem_map.mp hw
  have hk := List.mem_range.mp hk
  match k, hk with
  | 0, _ => exact wm_520
  | 1, _ => exact wm_522
  | 2, _ => exact wm_524
  | 3, _ => exact wm_526
  | 4, _ => exact wm_528
  | 5, _ => exact wm_530
  | 6, _ => exact wm_532
  | 7, _ => exact wm_534
  | 8, _ => exact wm_536
  | 9, _ => exact wm_538
  | 10, _ => exact wm_540
  | 11, _ => exact wm_542
  | 12, _ => exact wm_544
  | 13, _ => exact wm_546
  | 14, _ => exact wm_548
  | 15, _ => exact wm_550
  | 16, _ => exact wm_552
  | 17, _ => exact wm_554
  | 18, _ => exact wm_556
  | 19, _ => exact wm_558
  | 20, _ => exact wm_560
  | k + 21, h => exact absurd h (by omega)
end
section
theorem dC_init_0 : decode cC_init 0 = .ok (.aload_n 0, 1) := by decide +kernel
theorem dC_init_1 : decode cC_init 1 = .ok (.invokespecial 1, 3) := by decide +kernel
theorem dC_init_4 : decode cC_init 4 = .ok (.aload_n 0, 1) := by decide +kernel
theorem dC_init_5 : decode cC_init 5 = .ok (.bipush 6, 2) := by decide +kernel
theorem dC_init_7 : decode cC_init 7 = .ok (.anewarray 9, 3) := by decide +kernel
theorem dC_init_10 : decode cC_init 10 = .ok (.putfield 11, 3) := by decide +kernel
theorem dC_init_13 : decode cC_init 13 = .ok (.aload_n 0, 1) := by decide +kernel
theorem dC_init_14 : decode cC_init 14 = .ok (.bipush 72, 2) := by decide +kernel
theorem dC_init_16 : decode cC_init 16 = .ok (.anewarray 15, 3) := by decide +kernel
theorem dC_init_19 : decode cC_init 19 = .ok (.putfield 17, 3) := by decide +kernel
theorem dC_init_22 : decode cC_init 22 = .ok (.aload_n 0, 1) := by decide +kernel
theorem dC_init_23 : decode cC_init 23 = .ok (.iconst 0, 1) := by decide +kernel
theorem dC_init_24 : decode cC_init 24 = .ok (.putfield 21, 3) := by decide +kernel
theorem dC_init_27 : decode cC_init 27 = .ok (.iconst 0, 1) := by decide +kernel
theorem dC_init_28 : decode cC_init 28 = .ok (.istore_n 1, 1) := by decide +kernel
theorem dC_init_29 : decode cC_init 29 = .ok (.iload_n 1, 1) := by decide +kernel
theorem dC_init_30 : decode cC_init 30 = .ok (.bipush 6, 2) := by decide +kernel
theorem dC_init_32 : decode cC_init 32 = .ok (.if_icmp .ge 22, 3) := by decide +kernel
theorem dC_init_35 : decode cC_init 35 = .ok (.aload_n 0, 1) := by decide +kernel
theorem dC_init_36 : decode cC_init 36 = .ok (.getfield 11, 3) := by decide +kernel
theorem dC_init_39 : decode cC_init 39 = .ok (.iload_n 1, 1) := by decide +kernel
theorem dC_init_40 : decode cC_init 40 = .ok (.new 9, 3) := by decide +kernel
theorem dC_init_43 : decode cC_init 43 = .ok (.dup, 1) := by decide +kernel
theorem dC_init_44 : decode cC_init 44 = .ok (.invokespecial 25, 3) := by decide +kernel
theorem dC_init_47 : decode cC_init 47 = .ok (.aastore, 1) := by decide +kernel
theorem dC_init_48 : decode cC_init 48 = .ok (.iinc 1 1, 3) := by decide +kernel
theorem dC_init_51 : decode cC_init 51 = .ok (.goto (-22), 3) := by decide +kernel
theorem dC_init_54 : decode cC_init 54 = .ok (.return_, 1) := by decide +kernel
theorem dC_piece_0 : decode cC_piece 0 = .ok (.aload_n 0, 1) := by decide +kernel
theorem dC_piece_1 : decode cC_piece 1 = .ok (.iload_n 1, 1) := by decide +kernel
theorem dC_piece_2 : decode cC_piece 2 = .ok (.invokevirtual 26, 3) := by decide +kernel
theorem dC_piece_5 : decode cC_piece 5 = .ok (.astore 5, 2) := by decide +kernel
theorem dC_piece_7 : decode cC_piece 7 = .ok (.iload_n 2, 1) := by decide +kernel
theorem dC_piece_8 : decode cC_piece 8 = .ok (.bipush 16, 2) := by decide +kernel
theorem dC_piece_10 : decode cC_piece 10 = .ok (.invokestatic 30, 3) := by decide +kernel
theorem dC_piece_13 : decode cC_piece 13 = .ok (.iload_n 3, 1) := by decide +kernel
theorem dC_piece_14 : decode cC_piece 14 = .ok (.iconst 0, 1) := by decide +kernel
theorem dC_piece_15 : decode cC_piece 15 = .ok (.iconst 3, 1) := by decide +kernel
theorem dC_piece_16 : decode cC_piece 16 = .ok (.invokestatic 34, 3) := by decide +kernel
theorem dC_piece_19 : decode cC_piece 19 = .ok (.iload 4, 2) := by decide +kernel
theorem dC_piece_21 : decode cC_piece 21 = .ok (.iconst 0, 1) := by decide +kernel
theorem dC_piece_22 : decode cC_piece 22 = .ok (.sipush 30000, 3) := by decide +kernel
theorem dC_piece_25 : decode cC_piece 25 = .ok (.invokestatic 34, 3) := by decide +kernel
theorem dC_piece_28 : decode cC_piece 28 = .ok (.aload 5, 2) := by decide +kernel
theorem dC_piece_30 : decode cC_piece 30 = .ok (.getfield 38, 3) := by decide +kernel
theorem dC_piece_33 : decode cC_piece 33 = .ok (.bipush 12, 2) := by decide +kernel
theorem dC_piece_35 : decode cC_piece 35 = .ok (.if_icmp .ge 15, 3) := by decide +kernel
theorem dC_piece_38 : decode cC_piece 38 = .ok (.aload_n 0, 1) := by decide +kernel
theorem dC_piece_39 : decode cC_piece 39 = .ok (.getfield 21, 3) := by decide +kernel
theorem dC_piece_42 : decode cC_piece 42 = .ok (.aload_n 0, 1) := by decide +kernel
theorem dC_piece_43 : decode cC_piece 43 = .ok (.getfield 17, 3) := by decide +kernel
theorem dC_piece_46 : decode cC_piece 46 = .ok (.arraylength, 1) := by decide +kernel
theorem dC_piece_47 : decode cC_piece 47 = .ok (.if_icmp .lt 13, 3) := by decide +kernel
theorem dC_piece_50 : decode cC_piece 50 = .ok (.new 41, 3) := by decide +kernel
theorem dC_piece_53 : decode cC_piece 53 = .ok (.dup, 1) := by decide +kernel
theorem dC_piece_54 : decode cC_piece 54 = .ok (.ldc 43, 2) := by decide +kernel
theorem dC_piece_56 : decode cC_piece 56 = .ok (.invokespecial 45, 3) := by decide +kernel
theorem dC_piece_59 : decode cC_piece 59 = .ok (.athrow, 1) := by decide +kernel
theorem dC_piece_60 : decode cC_piece 60 = .ok (.new 15, 3) := by decide +kernel
theorem dC_piece_63 : decode cC_piece 63 = .ok (.dup, 1) := by decide +kernel
theorem dC_piece_64 : decode cC_piece 64 = .ok (.aload 5, 2) := by decide +kernel
theorem dC_piece_66 : decode cC_piece 66 = .ok (.aload_n 0, 1) := by decide +kernel
theorem dC_piece_67 : decode cC_piece 67 = .ok (.getfield 21, 3) := by decide +kernel
theorem dC_piece_70 : decode cC_piece 70 = .ok (.iload_n 2, 1) := by decide +kernel
theorem dC_piece_71 : decode cC_piece 71 = .ok (.iload_n 3, 1) := by decide +kernel
theorem dC_piece_72 : decode cC_piece 72 = .ok (.iload 4, 2) := by decide +kernel
theorem dC_piece_74 : decode cC_piece 74 = .ok (.invokespecial 48, 3) := by decide +kernel
theorem dC_piece_77 : decode cC_piece 77 = .ok (.astore 6, 2) := by decide +kernel
theorem dC_piece_79 : decode cC_piece 79 = .ok (.aload 5, 2) := by decide +kernel
theorem dC_piece_81 : decode cC_piece 81 = .ok (.aload 6, 2) := by decide +kernel
theorem dC_piece_83 : decode cC_piece 83 = .ok (.invokevirtual 51, 3) := by decide +kernel
theorem dC_piece_86 : decode cC_piece 86 = .ok (.aload_n 0, 1) := by decide +kernel
theorem dC_piece_87 : decode cC_piece 87 = .ok (.getfield 17, 3) := by decide +kernel
theorem dC_piece_90 : decode cC_piece 90 = .ok (.aload_n 0, 1) := by decide +kernel
theorem dC_piece_91 : decode cC_piece 91 = .ok (.getfield 21, 3) := by decide +kernel
theorem dC_piece_94 : decode cC_piece 94 = .ok (.aload 6, 2) := by decide +kernel
theorem dC_piece_96 : decode cC_piece 96 = .ok (.aastore, 1) := by decide +kernel
theorem dC_piece_97 : decode cC_piece 97 = .ok (.aload_n 0, 1) := by decide +kernel
theorem dC_piece_98 : decode cC_piece 98 = .ok (.dup, 1) := by decide +kernel
theorem dC_piece_99 : decode cC_piece 99 = .ok (.getfield 21, 3) := by decide +kernel
theorem dC_piece_102 : decode cC_piece 102 = .ok (.iconst 1, 1) := by decide +kernel
theorem dC_piece_103 : decode cC_piece 103 = .ok (.iadd, 1) := by decide +kernel
theorem dC_piece_104 : decode cC_piece 104 = .ok (.putfield 21, 3) := by decide +kernel
theorem dC_piece_107 : decode cC_piece 107 = .ok (.aload 6, 2) := by decide +kernel
theorem dC_piece_109 : decode cC_piece 109 = .ok (.getfield 55, 3) := by decide +kernel
theorem dC_piece_112 : decode cC_piece 112 = .ok (.ireturn, 1) := by decide +kernel
theorem dC_single_0 : decode cC_single 0 = .ok (.aload_n 0, 1) := by decide +kernel
theorem dC_single_1 : decode cC_single 1 = .ok (.iload_n 1, 1) := by decide +kernel
theorem dC_single_2 : decode cC_single 2 = .ok (.invokevirtual 26, 3) := by decide +kernel
theorem dC_single_5 : decode cC_single 5 = .ok (.astore 4, 2) := by decide +kernel
theorem dC_single_7 : decode cC_single 7 = .ok (.iload_n 2, 1) := by decide +kernel
theorem dC_single_8 : decode cC_single 8 = .ok (.bipush 16, 2) := by decide +kernel
theorem dC_single_10 : decode cC_single 10 = .ok (.invokestatic 30, 3) := by decide +kernel
theorem dC_single_13 : decode cC_single 13 = .ok (.aload 4, 2) := by decide +kernel
theorem dC_single_15 : decode cC_single 15 = .ok (.getfield 58, 3) := by decide +kernel
theorem dC_single_18 : decode cC_single 18 = .ok (.iload_n 2, 1) := by decide +kernel
theorem dC_single_19 : decode cC_single 19 = .ok (.baload, 1) := by decide +kernel
theorem dC_single_20 : decode cC_single 20 = .ok (.iload_n 3, 1) := by decide +kernel
theorem dC_single_21 : decode cC_single 21 = .ok (.if_icmp .eq 7, 3) := by decide +kernel
theorem dC_single_24 : decode cC_single 24 = .ok (.iconst 1, 1) := by decide +kernel
theorem dC_single_25 : decode cC_single 25 = .ok (.goto 4, 3) := by decide +kernel
theorem dC_single_28 : decode cC_single 28 = .ok (.iconst 0, 1) := by decide +kernel
theorem dC_single_29 : decode cC_single 29 = .ok (.istore 5, 2) := by decide +kernel
theorem dC_single_31 : decode cC_single 31 = .ok (.aload 4, 2) := by decide +kernel
theorem dC_single_33 : decode cC_single 33 = .ok (.getfield 58, 3) := by decide +kernel
theorem dC_single_36 : decode cC_single 36 = .ok (.iload_n 2, 1) := by decide +kernel
theorem dC_single_37 : decode cC_single 37 = .ok (.iload_n 3, 1) := by decide +kernel
theorem dC_single_38 : decode cC_single 38 = .ok (.bastore, 1) := by decide +kernel
theorem dC_single_39 : decode cC_single 39 = .ok (.aload 4, 2) := by decide +kernel
theorem dC_single_41 : decode cC_single 41 = .ok (.iconst 1, 1) := by decide +kernel
theorem dC_single_42 : decode cC_single 42 = .ok (.putfield 62, 3) := by decide +kernel
theorem dC_single_45 : decode cC_single 45 = .ok (.iload 5, 2) := by decide +kernel
theorem dC_single_47 : decode cC_single 47 = .ok (.ireturn, 1) := by decide +kernel
theorem dC_bound_0 : decode cC_bound 0 = .ok (.aload_n 0, 1) := by decide +kernel
theorem dC_bound_1 : decode cC_bound 1 = .ok (.iload_n 1, 1) := by decide +kernel
theorem dC_bound_2 : decode cC_bound 2 = .ok (.invokevirtual 26, 3) := by decide +kernel
theorem dC_bound_5 : decode cC_bound 5 = .ok (.astore_n 3, 1) := by decide +kernel
theorem dC_bound_6 : decode cC_bound 6 = .ok (.iload_n 2, 1) := by decide +kernel
theorem dC_bound_7 : decode cC_bound 7 = .ok (.iconst 0, 1) := by decide +kernel
theorem dC_bound_8 : decode cC_bound 8 = .ok (.sipush 30000, 3) := by decide +kernel
theorem dC_bound_11 : decode cC_bound 11 = .ok (.invokestatic 34, 3) := by decide +kernel
theorem dC_bound_14 : decode cC_bound 14 = .ok (.aload_n 3, 1) := by decide +kernel
theorem dC_bound_15 : decode cC_bound 15 = .ok (.getfield 66, 3) := by decide +kernel
theorem dC_bound_18 : decode cC_bound 18 = .ok (.istore 4, 2) := by decide +kernel
theorem dC_bound_20 : decode cC_bound 20 = .ok (.aload_n 3, 1) := by decide +kernel
theorem dC_bound_21 : decode cC_bound 21 = .ok (.iload_n 2, 1) := by decide +kernel
theorem dC_bound_22 : decode cC_bound 22 = .ok (.putfield 66, 3) := by decide +kernel
theorem dC_bound_25 : decode cC_bound 25 = .ok (.aload_n 3, 1) := by decide +kernel
theorem dC_bound_26 : decode cC_bound 26 = .ok (.iconst 1, 1) := by decide +kernel
theorem dC_bound_27 : decode cC_bound 27 = .ok (.putfield 62, 3) := by decide +kernel
theorem dC_bound_30 : decode cC_bound 30 = .ok (.iload 4, 2) := by decide +kernel
theorem dC_bound_32 : decode cC_bound 32 = .ok (.ireturn, 1) := by decide +kernel
theorem dC_table_0 : decode cC_table 0 = .ok (.aload_n 0, 1) := by decide +kernel
theorem dC_table_1 : decode cC_table 1 = .ok (.iload_n 1, 1) := by decide +kernel
theorem dC_table_2 : decode cC_table 2 = .ok (.invokevirtual 26, 3) := by decide +kernel
theorem dC_table_5 : decode cC_table 5 = .ok (.astore 5, 2) := by decide +kernel
theorem dC_table_7 : decode cC_table 7 = .ok (.iload_n 2, 1) := by decide +kernel
theorem dC_table_8 : decode cC_table 8 = .ok (.bipush 16, 2) := by decide +kernel
theorem dC_table_10 : decode cC_table 10 = .ok (.invokestatic 30, 3) := by decide +kernel
theorem dC_table_13 : decode cC_table 13 = .ok (.iload 4, 2) := by decide +kernel
theorem dC_table_15 : decode cC_table 15 = .ok (.iconst 0, 1) := by decide +kernel
theorem dC_table_16 : decode cC_table 16 = .ok (.sipush 999, 3) := by decide +kernel
theorem dC_table_19 : decode cC_table 19 = .ok (.invokestatic 34, 3) := by decide +kernel
theorem dC_table_22 : decode cC_table 22 = .ok (.iload_n 3, 1) := by decide +kernel
theorem dC_table_23 : decode cC_table 23 = .ok (.iconst 0, 1) := by decide +kernel
theorem dC_table_24 : decode cC_table 24 = .ok (.iload 4, 2) := by decide +kernel
theorem dC_table_26 : decode cC_table 26 = .ok (.invokestatic 34, 3) := by decide +kernel
theorem dC_table_29 : decode cC_table 29 = .ok (.aload 5, 2) := by decide +kernel
theorem dC_table_31 : decode cC_table 31 = .ok (.getfield 69, 3) := by decide +kernel
theorem dC_table_34 : decode cC_table 34 = .ok (.iload_n 2, 1) := by decide +kernel
theorem dC_table_35 : decode cC_table 35 = .ok (.iload_n 3, 1) := by decide +kernel
theorem dC_table_36 : decode cC_table 36 = .ok (.iastore, 1) := by decide +kernel
theorem dC_table_37 : decode cC_table 37 = .ok (.aload 5, 2) := by decide +kernel
theorem dC_table_39 : decode cC_table 39 = .ok (.getfield 73, 3) := by decide +kernel
theorem dC_table_42 : decode cC_table 42 = .ok (.iload_n 2, 1) := by decide +kernel
theorem dC_table_43 : decode cC_table 43 = .ok (.iload 4, 2) := by decide +kernel
theorem dC_table_45 : decode cC_table 45 = .ok (.iastore, 1) := by decide +kernel
theorem dC_table_46 : decode cC_table 46 = .ok (.return_, 1) := by decide +kernel
theorem dC_worn_0 : decode cC_worn 0 = .ok (.aload_n 0, 1) := by decide +kernel
theorem dC_worn_1 : decode cC_worn 1 = .ok (.iload_n 1, 1) := by decide +kernel
theorem dC_worn_2 : decode cC_worn 2 = .ok (.invokevirtual 76, 3) := by decide +kernel
theorem dC_worn_5 : decode cC_worn 5 = .ok (.astore_n 3, 1) := by decide +kernel
theorem dC_worn_6 : decode cC_worn 6 = .ok (.iload_n 2, 1) := by decide +kernel
theorem dC_worn_7 : decode cC_worn 7 = .ok (.bipush 16, 2) := by decide +kernel
theorem dC_worn_9 : decode cC_worn 9 = .ok (.invokestatic 30, 3) := by decide +kernel
theorem dC_worn_12 : decode cC_worn 12 = .ok (.aload_n 3, 1) := by decide +kernel
theorem dC_worn_13 : decode cC_worn 13 = .ok (.aload_n 3, 1) := by decide +kernel
theorem dC_worn_14 : decode cC_worn 14 = .ok (.getfield 80, 3) := by decide +kernel
theorem dC_worn_17 : decode cC_worn 17 = .ok (.getfield 69, 3) := by decide +kernel
theorem dC_worn_20 : decode cC_worn 20 = .ok (.iload_n 2, 1) := by decide +kernel
theorem dC_worn_21 : decode cC_worn 21 = .ok (.iaload, 1) := by decide +kernel
theorem dC_worn_22 : decode cC_worn 22 = .ok (.putfield 84, 3) := by decide +kernel
theorem dC_worn_25 : decode cC_worn 25 = .ok (.aload_n 3, 1) := by decide +kernel
theorem dC_worn_26 : decode cC_worn 26 = .ok (.aload_n 3, 1) := by decide +kernel
theorem dC_worn_27 : decode cC_worn 27 = .ok (.getfield 80, 3) := by decide +kernel
theorem dC_worn_30 : decode cC_worn 30 = .ok (.getfield 73, 3) := by decide +kernel
theorem dC_worn_33 : decode cC_worn 33 = .ok (.iload_n 2, 1) := by decide +kernel
theorem dC_worn_34 : decode cC_worn 34 = .ok (.iaload, 1) := by decide +kernel
theorem dC_worn_35 : decode cC_worn 35 = .ok (.putfield 87, 3) := by decide +kernel
theorem dC_worn_38 : decode cC_worn 38 = .ok (.aload_n 3, 1) := by decide +kernel
theorem dC_worn_39 : decode cC_worn 39 = .ok (.getfield 80, 3) := by decide +kernel
theorem dC_worn_42 : decode cC_worn 42 = .ok (.iconst 1, 1) := by decide +kernel
theorem dC_worn_43 : decode cC_worn 43 = .ok (.putfield 62, 3) := by decide +kernel
theorem dC_worn_46 : decode cC_worn 46 = .ok (.return_, 1) := by decide +kernel
theorem dC_aged_0 : decode cC_aged 0 = .ok (.aload_n 0, 1) := by decide +kernel
theorem dC_aged_1 : decode cC_aged 1 = .ok (.iload_n 1, 1) := by decide +kernel
theorem dC_aged_2 : decode cC_aged 2 = .ok (.invokevirtual 76, 3) := by decide +kernel
theorem dC_aged_5 : decode cC_aged 5 = .ok (.astore_n 3, 1) := by decide +kernel
theorem dC_aged_6 : decode cC_aged 6 = .ok (.iload_n 2, 1) := by decide +kernel
theorem dC_aged_7 : decode cC_aged 7 = .ok (.iconst 2, 1) := by decide +kernel
theorem dC_aged_8 : decode cC_aged 8 = .ok (.invokestatic 30, 3) := by decide +kernel
theorem dC_aged_11 : decode cC_aged 11 = .ok (.iload_n 2, 1) := by decide +kernel
theorem dC_aged_12 : decode cC_aged 12 = .ok (.ifCond .ne 10, 3) := by decide +kernel
theorem dC_aged_15 : decode cC_aged 15 = .ok (.aload_n 3, 1) := by decide +kernel
theorem dC_aged_16 : decode cC_aged 16 = .ok (.getfield 84, 3) := by decide +kernel
theorem dC_aged_19 : decode cC_aged 19 = .ok (.goto 7, 3) := by decide +kernel
theorem dC_aged_22 : decode cC_aged 22 = .ok (.aload_n 3, 1) := by decide +kernel
theorem dC_aged_23 : decode cC_aged 23 = .ok (.getfield 87, 3) := by decide +kernel
theorem dC_aged_26 : decode cC_aged 26 = .ok (.ireturn, 1) := by decide +kernel
theorem dC_unsure_0 : decode cC_unsure 0 = .ok (.aload_n 0, 1) := by decide +kernel
theorem dC_unsure_1 : decode cC_unsure 1 = .ok (.iload_n 1, 1) := by decide +kernel
theorem dC_unsure_2 : decode cC_unsure 2 = .ok (.invokevirtual 76, 3) := by decide +kernel
theorem dC_unsure_5 : decode cC_unsure 5 = .ok (.astore_n 2, 1) := by decide +kernel
theorem dC_unsure_6 : decode cC_unsure 6 = .ok (.aload_n 2, 1) := by decide +kernel
theorem dC_unsure_7 : decode cC_unsure 7 = .ok (.getfield 90, 3) := by decide +kernel
theorem dC_unsure_10 : decode cC_unsure 10 = .ok (.iconst 3, 1) := by decide +kernel
theorem dC_unsure_11 : decode cC_unsure 11 = .ok (.if_icmp .eq 7, 3) := by decide +kernel
theorem dC_unsure_14 : decode cC_unsure 14 = .ok (.iconst 1, 1) := by decide +kernel
theorem dC_unsure_15 : decode cC_unsure 15 = .ok (.goto 4, 3) := by decide +kernel
theorem dC_unsure_18 : decode cC_unsure 18 = .ok (.iconst 0, 1) := by decide +kernel
theorem dC_unsure_19 : decode cC_unsure 19 = .ok (.istore_n 3, 1) := by decide +kernel
theorem dC_unsure_20 : decode cC_unsure 20 = .ok (.aload_n 2, 1) := by decide +kernel
theorem dC_unsure_21 : decode cC_unsure 21 = .ok (.iconst 3, 1) := by decide +kernel
theorem dC_unsure_22 : decode cC_unsure 22 = .ok (.putfield 90, 3) := by decide +kernel
theorem dC_unsure_25 : decode cC_unsure 25 = .ok (.aload_n 2, 1) := by decide +kernel
theorem dC_unsure_26 : decode cC_unsure 26 = .ok (.getfield 80, 3) := by decide +kernel
theorem dC_unsure_29 : decode cC_unsure 29 = .ok (.iconst 1, 1) := by decide +kernel
theorem dC_unsure_30 : decode cC_unsure 30 = .ok (.putfield 62, 3) := by decide +kernel
theorem dC_unsure_33 : decode cC_unsure 33 = .ok (.iload_n 3, 1) := by decide +kernel
theorem dC_unsure_34 : decode cC_unsure 34 = .ok (.ireturn, 1) := by decide +kernel
theorem dC_clash_0 : decode cC_clash 0 = .ok (.aload_n 0, 1) := by decide +kernel
theorem dC_clash_1 : decode cC_clash 1 = .ok (.iload_n 1, 1) := by decide +kernel
theorem dC_clash_2 : decode cC_clash 2 = .ok (.invokevirtual 76, 3) := by decide +kernel
theorem dC_clash_5 : decode cC_clash 5 = .ok (.astore_n 3, 1) := by decide +kernel
theorem dC_clash_6 : decode cC_clash 6 = .ok (.aload_n 0, 1) := by decide +kernel
theorem dC_clash_7 : decode cC_clash 7 = .ok (.iload_n 2, 1) := by decide +kernel
theorem dC_clash_8 : decode cC_clash 8 = .ok (.invokevirtual 76, 3) := by decide +kernel
theorem dC_clash_11 : decode cC_clash 11 = .ok (.astore 4, 2) := by decide +kernel
theorem dC_clash_13 : decode cC_clash 13 = .ok (.iload_n 1, 1) := by decide +kernel
theorem dC_clash_14 : decode cC_clash 14 = .ok (.iload_n 2, 1) := by decide +kernel
theorem dC_clash_15 : decode cC_clash 15 = .ok (.if_icmp .eq 15, 3) := by decide +kernel
theorem dC_clash_18 : decode cC_clash 18 = .ok (.aload_n 3, 1) := by decide +kernel
theorem dC_clash_19 : decode cC_clash 19 = .ok (.getfield 80, 3) := by decide +kernel
theorem dC_clash_22 : decode cC_clash 22 = .ok (.aload 4, 2) := by decide +kernel
theorem dC_clash_24 : decode cC_clash 24 = .ok (.getfield 80, 3) := by decide +kernel
theorem dC_clash_27 : decode cC_clash 27 = .ok (.if_acmp .eq 13, 3) := by decide +kernel
theorem dC_clash_30 : decode cC_clash 30 = .ok (.new 93, 3) := by decide +kernel
theorem dC_clash_33 : decode cC_clash 33 = .ok (.dup, 1) := by decide +kernel
theorem dC_clash_34 : decode cC_clash 34 = .ok (.ldc 95, 2) := by decide +kernel
theorem dC_clash_36 : decode cC_clash 36 = .ok (.invokespecial 97, 3) := by decide +kernel
theorem dC_clash_39 : decode cC_clash 39 = .ok (.athrow, 1) := by decide +kernel
theorem dC_clash_40 : decode cC_clash 40 = .ok (.aload_n 3, 1) := by decide +kernel
theorem dC_clash_41 : decode cC_clash 41 = .ok (.getfield 80, 3) := by decide +kernel
theorem dC_clash_44 : decode cC_clash 44 = .ok (.aload_n 3, 1) := by decide +kernel
theorem dC_clash_45 : decode cC_clash 45 = .ok (.aload 4, 2) := by decide +kernel
theorem dC_clash_47 : decode cC_clash 47 = .ok (.invokevirtual 98, 3) := by decide +kernel
theorem dC_clash_50 : decode cC_clash 50 = .ok (.ireturn, 1) := by decide +kernel
theorem dC_least_0 : decode cC_least 0 = .ok (.aload_n 0, 1) := by decide +kernel
theorem dC_least_1 : decode cC_least 1 = .ok (.iload_n 1, 1) := by decide +kernel
theorem dC_least_2 : decode cC_least 2 = .ok (.invokevirtual 26, 3) := by decide +kernel
theorem dC_least_5 : decode cC_least 5 = .ok (.invokevirtual 102, 3) := by decide +kernel
theorem dC_least_8 : decode cC_least 8 = .ok (.getfield 106, 3) := by decide +kernel
theorem dC_least_11 : decode cC_least 11 = .ok (.ireturn, 1) := by decide +kernel
theorem dC_animal_0 : decode cC_animal 0 = .ok (.aload_n 0, 1) := by decide +kernel
theorem dC_animal_1 : decode cC_animal 1 = .ok (.iload_n 1, 1) := by decide +kernel
theorem dC_animal_2 : decode cC_animal 2 = .ok (.invokevirtual 76, 3) := by decide +kernel
theorem dC_animal_5 : decode cC_animal 5 = .ok (.astore_n 2, 1) := by decide +kernel
theorem dC_animal_6 : decode cC_animal 6 = .ok (.aload_n 2, 1) := by decide +kernel
theorem dC_animal_7 : decode cC_animal 7 = .ok (.getfield 80, 3) := by decide +kernel
theorem dC_animal_10 : decode cC_animal 10 = .ok (.invokevirtual 102, 3) := by decide +kernel
theorem dC_animal_13 : decode cC_animal 13 = .ok (.aload_n 2, 1) := by decide +kernel
theorem dC_animal_14 : decode cC_animal 14 = .ok (.getfield 111, 3) := by decide +kernel
theorem dC_animal_17 : decode cC_animal 17 = .ok (.invokevirtual 114, 3) := by decide +kernel
theorem dC_animal_20 : decode cC_animal 20 = .ok (.ireturn, 1) := by decide +kernel
theorem dC_clashing_0 : decode cC_clashing 0 = .ok (.aload_n 0, 1) := by decide +kernel
theorem dC_clashing_1 : decode cC_clashing 1 = .ok (.iload_n 1, 1) := by decide +kernel
theorem dC_clashing_2 : decode cC_clashing 2 = .ok (.invokevirtual 26, 3) := by decide +kernel
theorem dC_clashing_5 : decode cC_clashing 5 = .ok (.astore_n 3, 1) := by decide +kernel
theorem dC_clashing_6 : decode cC_clashing 6 = .ok (.iload_n 2, 1) := by decide +kernel
theorem dC_clashing_7 : decode cC_clashing 7 = .ok (.ifCond .ge 13, 3) := by decide +kernel
theorem dC_clashing_10 : decode cC_clashing 10 = .ok (.new 118, 3) := by decide +kernel
theorem dC_clashing_13 : decode cC_clashing 13 = .ok (.dup, 1) := by decide +kernel
theorem dC_clashing_14 : decode cC_clashing 14 = .ok (.ldc 120, 2) := by decide +kernel
theorem dC_clashing_16 : decode cC_clashing 16 = .ok (.invokespecial 122, 3) := by decide +kernel
theorem dC_clashing_19 : decode cC_clashing 19 = .ok (.athrow, 1) := by decide +kernel
theorem dC_clashing_20 : decode cC_clashing 20 = .ok (.aload_n 3, 1) := by decide +kernel
theorem dC_clashing_21 : decode cC_clashing 21 = .ok (.aload_n 3, 1) := by decide +kernel
theorem dC_clashing_22 : decode cC_clashing 22 = .ok (.invokevirtual 102, 3) := by decide +kernel
theorem dC_clashing_25 : decode cC_clashing 25 = .ok (.iload_n 2, 1) := by decide +kernel
theorem dC_clashing_26 : decode cC_clashing 26 = .ok (.invokevirtual 123, 3) := by decide +kernel
theorem dC_clashing_29 : decode cC_clashing 29 = .ok (.invokevirtual 126, 3) := by decide +kernel
theorem dC_clashing_32 : decode cC_clashing 32 = .ok (.ireturn, 1) := by decide +kernel
theorem dC_weight_0 : decode cC_weight 0 = .ok (.aload_n 0, 1) := by decide +kernel
theorem dC_weight_1 : decode cC_weight 1 = .ok (.iload_n 1, 1) := by decide +kernel
theorem dC_weight_2 : decode cC_weight 2 = .ok (.invokevirtual 76, 3) := by decide +kernel
theorem dC_weight_5 : decode cC_weight 5 = .ok (.astore_n 3, 1) := by decide +kernel
theorem dC_weight_6 : decode cC_weight 6 = .ok (.iload_n 2, 1) := by decide +kernel
theorem dC_weight_7 : decode cC_weight 7 = .ok (.iconst 0, 1) := by decide +kernel
theorem dC_weight_8 : decode cC_weight 8 = .ok (.ldc 129, 2) := by decide +kernel
theorem dC_weight_10 : decode cC_weight 10 = .ok (.invokestatic 34, 3) := by decide +kernel
theorem dC_weight_13 : decode cC_weight 13 = .ok (.aload_n 3, 1) := by decide +kernel
theorem dC_weight_14 : decode cC_weight 14 = .ok (.getfield 130, 3) := by decide +kernel
theorem dC_weight_17 : decode cC_weight 17 = .ok (.istore 4, 2) := by decide +kernel
theorem dC_weight_19 : decode cC_weight 19 = .ok (.aload_n 3, 1) := by decide +kernel
theorem dC_weight_20 : decode cC_weight 20 = .ok (.iload_n 2, 1) := by decide +kernel
theorem dC_weight_21 : decode cC_weight 21 = .ok (.putfield 130, 3) := by decide +kernel
theorem dC_weight_24 : decode cC_weight 24 = .ok (.iload 4, 2) := by decide +kernel
theorem dC_weight_26 : decode cC_weight 26 = .ok (.ireturn, 1) := by decide +kernel
theorem dC_sum_0 : decode cC_sum 0 = .ok (.aload_n 0, 1) := by decide +kernel
theorem dC_sum_1 : decode cC_sum 1 = .ok (.iload_n 1, 1) := by decide +kernel
theorem dC_sum_2 : decode cC_sum 2 = .ok (.invokevirtual 26, 3) := by decide +kernel
theorem dC_sum_5 : decode cC_sum 5 = .ok (.invokevirtual 133, 3) := by decide +kernel
theorem dC_sum_8 : decode cC_sum 8 = .ok (.ireturn, 1) := by decide +kernel
theorem dC_share_0 : decode cC_share 0 = .ok (.aload_n 0, 1) := by decide +kernel
theorem dC_share_1 : decode cC_share 1 = .ok (.iload_n 1, 1) := by decide +kernel
theorem dC_share_2 : decode cC_share 2 = .ok (.invokevirtual 26, 3) := by decide +kernel
theorem dC_share_5 : decode cC_share 5 = .ok (.astore_n 3, 1) := by decide +kernel
theorem dC_share_6 : decode cC_share 6 = .ok (.iload_n 2, 1) := by decide +kernel
theorem dC_share_7 : decode cC_share 7 = .ok (.iconst 2, 1) := by decide +kernel
theorem dC_share_8 : decode cC_share 8 = .ok (.invokestatic 30, 3) := by decide +kernel
theorem dC_share_11 : decode cC_share 11 = .ok (.iconst 0, 1) := by decide +kernel
theorem dC_share_12 : decode cC_share 12 = .ok (.istore 4, 2) := by decide +kernel
theorem dC_share_14 : decode cC_share 14 = .ok (.iconst 0, 1) := by decide +kernel
theorem dC_share_15 : decode cC_share 15 = .ok (.istore 5, 2) := by decide +kernel
theorem dC_share_17 : decode cC_share 17 = .ok (.iload 5, 2) := by decide +kernel
theorem dC_share_19 : decode cC_share 19 = .ok (.bipush 6, 2) := by decide +kernel
theorem dC_share_21 : decode cC_share 21 = .ok (.if_icmp .ge 27, 3) := by decide +kernel
theorem dC_share_24 : decode cC_share 24 = .ok (.iload 4, 2) := by decide +kernel
theorem dC_share_26 : decode cC_share 26 = .ok (.aload_n 0, 1) := by decide +kernel
theorem dC_share_27 : decode cC_share 27 = .ok (.getfield 11, 3) := by decide +kernel
theorem dC_share_30 : decode cC_share 30 = .ok (.iload 5, 2) := by decide +kernel
theorem dC_share_32 : decode cC_share 32 = .ok (.aaload, 1) := by decide +kernel
theorem dC_share_33 : decode cC_share 33 = .ok (.invokevirtual 102, 3) := by decide +kernel
theorem dC_share_36 : decode cC_share 36 = .ok (.getfield 106, 3) := by decide +kernel
theorem dC_share_39 : decode cC_share 39 = .ok (.iadd, 1) := by decide +kernel
theorem dC_share_40 : decode cC_share 40 = .ok (.istore 4, 2) := by decide +kernel
theorem dC_share_42 : decode cC_share 42 = .ok (.iinc 5 1, 3) := by decide +kernel
theorem dC_share_45 : decode cC_share 45 = .ok (.goto (-28), 3) := by decide +kernel
theorem dC_share_48 : decode cC_share 48 = .ok (.aload_n 3, 1) := by decide +kernel
theorem dC_share_49 : decode cC_share 49 = .ok (.invokevirtual 102, 3) := by decide +kernel
theorem dC_share_52 : decode cC_share 52 = .ok (.getfield 106, 3) := by decide +kernel
theorem dC_share_55 : decode cC_share 55 = .ok (.iload 4, 2) := by decide +kernel
theorem dC_share_57 : decode cC_share 57 = .ok (.iload_n 2, 1) := by decide +kernel
theorem dC_share_58 : decode cC_share 58 = .ok (.invokestatic 137, 3) := by decide +kernel
theorem dC_share_61 : decode cC_share 61 = .ok (.ireturn, 1) := by decide +kernel
theorem dC_sieve_0 : decode cC_sieve 0 = .ok (.aload_n 0, 1) := by decide +kernel
theorem dC_sieve_1 : decode cC_sieve 1 = .ok (.iload_n 1, 1) := by decide +kernel
theorem dC_sieve_2 : decode cC_sieve 2 = .ok (.invokevirtual 26, 3) := by decide +kernel
theorem dC_sieve_5 : decode cC_sieve 5 = .ok (.astore 4, 2) := by decide +kernel
theorem dC_sieve_7 : decode cC_sieve 7 = .ok (.iload_n 2, 1) := by decide +kernel
theorem dC_sieve_8 : decode cC_sieve 8 = .ok (.iconst 1, 1) := by decide +kernel
theorem dC_sieve_9 : decode cC_sieve 9 = .ok (.sipush 10000, 3) := by decide +kernel
theorem dC_sieve_12 : decode cC_sieve 12 = .ok (.invokestatic 34, 3) := by decide +kernel
theorem dC_sieve_15 : decode cC_sieve 15 = .ok (.iload_n 3, 1) := by decide +kernel
theorem dC_sieve_16 : decode cC_sieve 16 = .ok (.iconst 1, 1) := by decide +kernel
theorem dC_sieve_17 : decode cC_sieve 17 = .ok (.iload_n 2, 1) := by decide +kernel
theorem dC_sieve_18 : decode cC_sieve 18 = .ok (.invokestatic 34, 3) := by decide +kernel
theorem dC_sieve_21 : decode cC_sieve 21 = .ok (.aload 4, 2) := by decide +kernel
theorem dC_sieve_23 : decode cC_sieve 23 = .ok (.iload_n 2, 1) := by decide +kernel
theorem dC_sieve_24 : decode cC_sieve 24 = .ok (.putfield 141, 3) := by decide +kernel
theorem dC_sieve_27 : decode cC_sieve 27 = .ok (.aload 4, 2) := by decide +kernel
theorem dC_sieve_29 : decode cC_sieve 29 = .ok (.iload_n 3, 1) := by decide +kernel
theorem dC_sieve_30 : decode cC_sieve 30 = .ok (.putfield 144, 3) := by decide +kernel
theorem dC_sieve_33 : decode cC_sieve 33 = .ok (.return_, 1) := by decide +kernel
theorem dC_scaled_0 : decode cC_scaled 0 = .ok (.aload_n 0, 1) := by decide +kernel
theorem dC_scaled_1 : decode cC_scaled 1 = .ok (.iload_n 1, 1) := by decide +kernel
theorem dC_scaled_2 : decode cC_scaled 2 = .ok (.invokevirtual 26, 3) := by decide +kernel
theorem dC_scaled_5 : decode cC_scaled 5 = .ok (.astore_n 3, 1) := by decide +kernel
theorem dC_scaled_6 : decode cC_scaled 6 = .ok (.iload_n 2, 1) := by decide +kernel
theorem dC_scaled_7 : decode cC_scaled 7 = .ok (.iconst 3, 1) := by decide +kernel
theorem dC_scaled_8 : decode cC_scaled 8 = .ok (.invokestatic 30, 3) := by decide +kernel
theorem dC_scaled_11 : decode cC_scaled 11 = .ok (.aload_n 3, 1) := by decide +kernel
theorem dC_scaled_12 : decode cC_scaled 12 = .ok (.getfield 38, 3) := by decide +kernel
theorem dC_scaled_15 : decode cC_scaled 15 = .ok (.aload_n 3, 1) := by decide +kernel
theorem dC_scaled_16 : decode cC_scaled 16 = .ok (.getfield 141, 3) := by decide +kernel
theorem dC_scaled_19 : decode cC_scaled 19 = .ok (.imul, 1) := by decide +kernel
theorem dC_scaled_20 : decode cC_scaled 20 = .ok (.istore 4, 2) := by decide +kernel
theorem dC_scaled_22 : decode cC_scaled 22 = .ok (.iload 4, 2) := by decide +kernel
theorem dC_scaled_24 : decode cC_scaled 24 = .ok (.aload_n 3, 1) := by decide +kernel
theorem dC_scaled_25 : decode cC_scaled 25 = .ok (.getfield 144, 3) := by decide +kernel
theorem dC_scaled_28 : decode cC_scaled 28 = .ok (.invokestatic 147, 3) := by decide +kernel
theorem dC_scaled_31 : decode cC_scaled 31 = .ok (.istore 5, 2) := by decide +kernel
theorem dC_scaled_33 : decode cC_scaled 33 = .ok (.iload_n 2, 1) := by decide +kernel
theorem dC_scaled_34 : decode cC_scaled 34 = .ok (.ifCond .ne 6, 3) := by decide +kernel
theorem dC_scaled_37 : decode cC_scaled 37 = .ok (.iload 5, 2) := by decide +kernel
theorem dC_scaled_39 : decode cC_scaled 39 = .ok (.ireturn, 1) := by decide +kernel
theorem dC_scaled_40 : decode cC_scaled 40 = .ok (.iload 4, 2) := by decide +kernel
theorem dC_scaled_42 : decode cC_scaled 42 = .ok (.iload 5, 2) := by decide +kernel
theorem dC_scaled_44 : decode cC_scaled 44 = .ok (.aload_n 3, 1) := by decide +kernel
theorem dC_scaled_45 : decode cC_scaled 45 = .ok (.getfield 144, 3) := by decide +kernel
theorem dC_scaled_48 : decode cC_scaled 48 = .ok (.imul, 1) := by decide +kernel
theorem dC_scaled_49 : decode cC_scaled 49 = .ok (.isub, 1) := by decide +kernel
theorem dC_scaled_50 : decode cC_scaled 50 = .ok (.istore 6, 2) := by decide +kernel
theorem dC_scaled_52 : decode cC_scaled 52 = .ok (.iload 6, 2) := by decide +kernel
theorem dC_scaled_54 : decode cC_scaled 54 = .ok (.aload_n 3, 1) := by decide +kernel
theorem dC_scaled_55 : decode cC_scaled 55 = .ok (.getfield 144, 3) := by decide +kernel
theorem dC_scaled_58 : decode cC_scaled 58 = .ok (.iload_n 2, 1) := by decide +kernel
theorem dC_scaled_59 : decode cC_scaled 59 = .ok (.iconst 1, 1) := by decide +kernel
theorem dC_scaled_60 : decode cC_scaled 60 = .ok (.if_icmp .ne 7, 3) := by decide +kernel
theorem dC_scaled_63 : decode cC_scaled 63 = .ok (.iconst 0, 1) := by decide +kernel
theorem dC_scaled_64 : decode cC_scaled 64 = .ok (.goto 4, 3) := by decide +kernel
theorem dC_scaled_67 : decode cC_scaled 67 = .ok (.iconst 1, 1) := by decide +kernel
theorem dC_scaled_68 : decode cC_scaled 68 = .ok (.invokestatic 137, 3) := by decide +kernel
theorem dC_scaled_71 : decode cC_scaled 71 = .ok (.ireturn, 1) := by decide +kernel
theorem dC_diverse_0 : decode cC_diverse 0 = .ok (.iload_n 1, 1) := by decide +kernel
theorem dC_diverse_1 : decode cC_diverse 1 = .ok (.iconst 2, 1) := by decide +kernel
theorem dC_diverse_2 : decode cC_diverse 2 = .ok (.invokestatic 30, 3) := by decide +kernel
theorem dC_diverse_5 : decode cC_diverse 5 = .ok (.iconst 0, 1) := by decide +kernel
theorem dC_diverse_6 : decode cC_diverse 6 = .ok (.istore_n 2, 1) := by decide +kernel
theorem dC_diverse_7 : decode cC_diverse 7 = .ok (.iconst 0, 1) := by decide +kernel
theorem dC_diverse_8 : decode cC_diverse 8 = .ok (.istore_n 3, 1) := by decide +kernel
theorem dC_diverse_9 : decode cC_diverse 9 = .ok (.iload_n 3, 1) := by decide +kernel
theorem dC_diverse_10 : decode cC_diverse 10 = .ok (.bipush 6, 2) := by decide +kernel
theorem dC_diverse_12 : decode cC_diverse 12 = .ok (.if_icmp .ge 24, 3) := by decide +kernel
theorem dC_diverse_15 : decode cC_diverse 15 = .ok (.iload_n 2, 1) := by decide +kernel
theorem dC_diverse_16 : decode cC_diverse 16 = .ok (.aload_n 0, 1) := by decide +kernel
theorem dC_diverse_17 : decode cC_diverse 17 = .ok (.getfield 11, 3) := by decide +kernel
theorem dC_diverse_20 : decode cC_diverse 20 = .ok (.iload_n 3, 1) := by decide +kernel
theorem dC_diverse_21 : decode cC_diverse 21 = .ok (.aaload, 1) := by decide +kernel
theorem dC_diverse_22 : decode cC_diverse 22 = .ok (.getfield 38, 3) := by decide +kernel
theorem dC_diverse_25 : decode cC_diverse 25 = .ok (.invokestatic 151, 3) := by decide +kernel
theorem dC_diverse_28 : decode cC_diverse 28 = .ok (.iadd, 1) := by decide +kernel
theorem dC_diverse_29 : decode cC_diverse 29 = .ok (.istore_n 2, 1) := by decide +kernel
theorem dC_diverse_30 : decode cC_diverse 30 = .ok (.iinc 3 1, 3) := by decide +kernel
theorem dC_diverse_33 : decode cC_diverse 33 = .ok (.goto (-24), 3) := by decide +kernel
theorem dC_diverse_36 : decode cC_diverse 36 = .ok (.aload_n 0, 1) := by decide +kernel
theorem dC_diverse_37 : decode cC_diverse 37 = .ok (.getfield 21, 3) := by decide +kernel
theorem dC_diverse_40 : decode cC_diverse 40 = .ok (.invokestatic 151, 3) := by decide +kernel
theorem dC_diverse_43 : decode cC_diverse 43 = .ok (.istore_n 3, 1) := by decide +kernel
theorem dC_diverse_44 : decode cC_diverse 44 = .ok (.iload_n 3, 1) := by decide +kernel
theorem dC_diverse_45 : decode cC_diverse 45 = .ok (.iload_n 2, 1) := by decide +kernel
theorem dC_diverse_46 : decode cC_diverse 46 = .ok (.isub, 1) := by decide +kernel
theorem dC_diverse_47 : decode cC_diverse 47 = .ok (.iload_n 3, 1) := by decide +kernel
theorem dC_diverse_48 : decode cC_diverse 48 = .ok (.iload_n 1, 1) := by decide +kernel
theorem dC_diverse_49 : decode cC_diverse 49 = .ok (.invokestatic 137, 3) := by decide +kernel
theorem dC_diverse_52 : decode cC_diverse 52 = .ok (.ireturn, 1) := by decide +kernel
theorem dC_pieces_0 : decode cC_pieces 0 = .ok (.iload_n 1, 1) := by decide +kernel
theorem dC_pieces_1 : decode cC_pieces 1 = .ok (.iconst (-1), 1) := by decide +kernel
theorem dC_pieces_2 : decode cC_pieces 2 = .ok (.if_icmp .ne 10, 3) := by decide +kernel
theorem dC_pieces_5 : decode cC_pieces 5 = .ok (.aload_n 0, 1) := by decide +kernel
theorem dC_pieces_6 : decode cC_pieces 6 = .ok (.getfield 21, 3) := by decide +kernel
theorem dC_pieces_9 : decode cC_pieces 9 = .ok (.goto 11, 3) := by decide +kernel
theorem dC_pieces_12 : decode cC_pieces 12 = .ok (.aload_n 0, 1) := by decide +kernel
theorem dC_pieces_13 : decode cC_pieces 13 = .ok (.iload_n 1, 1) := by decide +kernel
theorem dC_pieces_14 : decode cC_pieces 14 = .ok (.invokevirtual 26, 3) := by decide +kernel
theorem dC_pieces_17 : decode cC_pieces 17 = .ok (.getfield 38, 3) := by decide +kernel
theorem dC_pieces_20 : decode cC_pieces 20 = .ok (.ireturn, 1) := by decide +kernel
theorem dC_kindAt_0 : decode cC_kindAt 0 = .ok (.iload_n 1, 1) := by decide +kernel
theorem dC_kindAt_1 : decode cC_kindAt 1 = .ok (.ifCond .lt 9, 3) := by decide +kernel
theorem dC_kindAt_4 : decode cC_kindAt 4 = .ok (.iload_n 1, 1) := by decide +kernel
theorem dC_kindAt_5 : decode cC_kindAt 5 = .ok (.bipush 6, 2) := by decide +kernel
theorem dC_kindAt_7 : decode cC_kindAt 7 = .ok (.if_icmp .lt 13, 3) := by decide +kernel
theorem dC_kindAt_10 : decode cC_kindAt 10 = .ok (.new 118, 3) := by decide +kernel
theorem dC_kindAt_13 : decode cC_kindAt 13 = .ok (.dup, 1) := by decide +kernel
theorem dC_kindAt_14 : decode cC_kindAt 14 = .ok (.ldc 154, 2) := by decide +kernel
theorem dC_kindAt_16 : decode cC_kindAt 16 = .ok (.invokespecial 122, 3) := by decide +kernel
theorem dC_kindAt_19 : decode cC_kindAt 19 = .ok (.athrow, 1) := by decide +kernel
theorem dC_kindAt_20 : decode cC_kindAt 20 = .ok (.aload_n 0, 1) := by decide +kernel
theorem dC_kindAt_21 : decode cC_kindAt 21 = .ok (.getfield 11, 3) := by decide +kernel
theorem dC_kindAt_24 : decode cC_kindAt 24 = .ok (.iload_n 1, 1) := by decide +kernel
theorem dC_kindAt_25 : decode cC_kindAt 25 = .ok (.aaload, 1) := by decide +kernel
theorem dC_kindAt_26 : decode cC_kindAt 26 = .ok (.areturn, 1) := by decide +kernel
theorem dC_pieceAt_0 : decode cC_pieceAt 0 = .ok (.iload_n 1, 1) := by decide +kernel
theorem dC_pieceAt_1 : decode cC_pieceAt 1 = .ok (.ifCond .lt 11, 3) := by decide +kernel
theorem dC_pieceAt_4 : decode cC_pieceAt 4 = .ok (.iload_n 1, 1) := by decide +kernel
theorem dC_pieceAt_5 : decode cC_pieceAt 5 = .ok (.aload_n 0, 1) := by decide +kernel
theorem dC_pieceAt_6 : decode cC_pieceAt 6 = .ok (.getfield 21, 3) := by decide +kernel
theorem dC_pieceAt_9 : decode cC_pieceAt 9 = .ok (.if_icmp .lt 13, 3) := by decide +kernel
theorem dC_pieceAt_12 : decode cC_pieceAt 12 = .ok (.new 118, 3) := by decide +kernel
theorem dC_pieceAt_15 : decode cC_pieceAt 15 = .ok (.dup, 1) := by decide +kernel
theorem dC_pieceAt_16 : decode cC_pieceAt 16 = .ok (.ldc 156, 2) := by decide +kernel
theorem dC_pieceAt_18 : decode cC_pieceAt 18 = .ok (.invokespecial 122, 3) := by decide +kernel
theorem dC_pieceAt_21 : decode cC_pieceAt 21 = .ok (.athrow, 1) := by decide +kernel
theorem dC_pieceAt_22 : decode cC_pieceAt 22 = .ok (.aload_n 0, 1) := by decide +kernel
theorem dC_pieceAt_23 : decode cC_pieceAt 23 = .ok (.getfield 17, 3) := by decide +kernel
theorem dC_pieceAt_26 : decode cC_pieceAt 26 = .ok (.iload_n 1, 1) := by decide +kernel
theorem dC_pieceAt_27 : decode cC_pieceAt 27 = .ok (.aaload, 1) := by decide +kernel
theorem dC_pieceAt_28 : decode cC_pieceAt 28 = .ok (.areturn, 1) := by decide +kernel
theorem dC_checkIndex_0 : decode cC_checkIndex 0 = .ok (.iload_n 0, 1) := by decide +kernel
theorem dC_checkIndex_1 : decode cC_checkIndex 1 = .ok (.ifCond .lt 8, 3) := by decide +kernel
theorem dC_checkIndex_4 : decode cC_checkIndex 4 = .ok (.iload_n 0, 1) := by decide +kernel
theorem dC_checkIndex_5 : decode cC_checkIndex 5 = .ok (.iload_n 1, 1) := by decide +kernel
theorem dC_checkIndex_6 : decode cC_checkIndex 6 = .ok (.if_icmp .lt 13, 3) := by decide +kernel
theorem dC_checkIndex_9 : decode cC_checkIndex 9 = .ok (.new 118, 3) := by decide +kernel
theorem dC_checkIndex_12 : decode cC_checkIndex 12 = .ok (.dup, 1) := by decide +kernel
theorem dC_checkIndex_13 : decode cC_checkIndex 13 = .ok (.ldc 158, 2) := by decide +kernel
theorem dC_checkIndex_15 : decode cC_checkIndex 15 = .ok (.invokespecial 122, 3) := by decide +kernel
theorem dC_checkIndex_18 : decode cC_checkIndex 18 = .ok (.athrow, 1) := by decide +kernel
theorem dC_checkIndex_19 : decode cC_checkIndex 19 = .ok (.return_, 1) := by decide +kernel
theorem dC_checkRange_0 : decode cC_checkRange 0 = .ok (.iload_n 0, 1) := by decide +kernel
theorem dC_checkRange_1 : decode cC_checkRange 1 = .ok (.iload_n 1, 1) := by decide +kernel
theorem dC_checkRange_2 : decode cC_checkRange 2 = .ok (.if_icmp .lt 8, 3) := by decide +kernel
theorem dC_checkRange_5 : decode cC_checkRange 5 = .ok (.iload_n 0, 1) := by decide +kernel
theorem dC_checkRange_6 : decode cC_checkRange 6 = .ok (.iload_n 2, 1) := by decide +kernel
theorem dC_checkRange_7 : decode cC_checkRange 7 = .ok (.if_icmp .le 13, 3) := by decide +kernel
theorem dC_checkRange_10 : decode cC_checkRange 10 = .ok (.new 93, 3) := by decide +kernel
theorem dC_checkRange_13 : decode cC_checkRange 13 = .ok (.dup, 1) := by decide +kernel
theorem dC_checkRange_14 : decode cC_checkRange 14 = .ok (.ldc 160, 2) := by decide +kernel
theorem dC_checkRange_16 : decode cC_checkRange 16 = .ok (.invokespecial 97, 3) := by decide +kernel
theorem dC_checkRange_19 : decode cC_checkRange 19 = .ok (.athrow, 1) := by decide +kernel
theorem dC_checkRange_20 : decode cC_checkRange 20 = .ok (.return_, 1) := by decide +kernel
theorem dC_orderedPairs_0 : decode cC_orderedPairs 0 = .ok (.iload_n 0, 1) := by decide +kernel
theorem dC_orderedPairs_1 : decode cC_orderedPairs 1 = .ok (.iload_n 0, 1) := by decide +kernel
theorem dC_orderedPairs_2 : decode cC_orderedPairs 2 = .ok (.iconst 1, 1) := by decide +kernel
theorem dC_orderedPairs_3 : decode cC_orderedPairs 3 = .ok (.isub, 1) := by decide +kernel
theorem dC_orderedPairs_4 : decode cC_orderedPairs 4 = .ok (.imul, 1) := by decide +kernel
theorem dC_orderedPairs_5 : decode cC_orderedPairs 5 = .ok (.ireturn, 1) := by decide +kernel
theorem dC_quotient_0 : decode cC_quotient 0 = .ok (.iload_n 1, 1) := by decide +kernel
theorem dC_quotient_1 : decode cC_quotient 1 = .ok (.ifCond .ne 7, 3) := by decide +kernel
theorem dC_quotient_4 : decode cC_quotient 4 = .ok (.iconst 0, 1) := by decide +kernel
theorem dC_quotient_5 : decode cC_quotient 5 = .ok (.goto 6, 3) := by decide +kernel
theorem dC_quotient_8 : decode cC_quotient 8 = .ok (.iload_n 0, 1) := by decide +kernel
theorem dC_quotient_9 : decode cC_quotient 9 = .ok (.iload_n 1, 1) := by decide +kernel
theorem dC_quotient_10 : decode cC_quotient 10 = .ok (.idiv, 1) := by decide +kernel
theorem dC_quotient_11 : decode cC_quotient 11 = .ok (.ireturn, 1) := by decide +kernel
theorem dC_lessened_0 : decode cC_lessened 0 = .ok (.iload_n 1, 1) := by decide +kernel
theorem dC_lessened_1 : decode cC_lessened 1 = .ok (.ifCond .ne 13, 3) := by decide +kernel
theorem dC_lessened_4 : decode cC_lessened 4 = .ok (.iload_n 2, 1) := by decide +kernel
theorem dC_lessened_5 : decode cC_lessened 5 = .ok (.ifCond .ne 7, 3) := by decide +kernel
theorem dC_lessened_8 : decode cC_lessened 8 = .ok (.iconst 0, 1) := by decide +kernel
theorem dC_lessened_9 : decode cC_lessened 9 = .ok (.goto 4, 3) := by decide +kernel
theorem dC_lessened_12 : decode cC_lessened 12 = .ok (.iconst 1, 1) := by decide +kernel
theorem dC_lessened_13 : decode cC_lessened 13 = .ok (.ireturn, 1) := by decide +kernel
theorem dC_lessened_14 : decode cC_lessened 14 = .ok (.iload_n 2, 1) := by decide +kernel
theorem dC_lessened_15 : decode cC_lessened 15 = .ok (.ifCond .ne 7, 3) := by decide +kernel
theorem dC_lessened_18 : decode cC_lessened 18 = .ok (.iload_n 0, 1) := by decide +kernel
theorem dC_lessened_19 : decode cC_lessened 19 = .ok (.goto 4, 3) := by decide +kernel
theorem dC_lessened_22 : decode cC_lessened 22 = .ok (.iload_n 1, 1) := by decide +kernel
theorem dC_lessened_23 : decode cC_lessened 23 = .ok (.iload_n 0, 1) := by decide +kernel
theorem dC_lessened_24 : decode cC_lessened 24 = .ok (.iload_n 1, 1) := by decide +kernel
theorem dC_lessened_25 : decode cC_lessened 25 = .ok (.invokestatic 162, 3) := by decide +kernel
theorem dC_lessened_28 : decode cC_lessened 28 = .ok (.invokestatic 147, 3) := by decide +kernel
theorem dC_lessened_31 : decode cC_lessened 31 = .ok (.ireturn, 1) := by decide +kernel
theorem dC_commonDivisor_0 : decode cC_commonDivisor 0 = .ok (.iload_n 0, 1) := by decide +kernel
theorem dC_commonDivisor_1 : decode cC_commonDivisor 1 = .ok (.istore_n 2, 1) := by decide +kernel
theorem dC_commonDivisor_2 : decode cC_commonDivisor 2 = .ok (.iload_n 1, 1) := by decide +kernel
theorem dC_commonDivisor_3 : decode cC_commonDivisor 3 = .ok (.istore_n 3, 1) := by decide +kernel
theorem dC_commonDivisor_4 : decode cC_commonDivisor 4 = .ok (.iconst 0, 1) := by decide +kernel
theorem dC_commonDivisor_5 : decode cC_commonDivisor 5 = .ok (.istore 4, 2) := by decide +kernel
theorem dC_commonDivisor_7 : decode cC_commonDivisor 7 = .ok (.iload 4, 2) := by decide +kernel
theorem dC_commonDivisor_9 : decode cC_commonDivisor 9 = .ok (.bipush 64, 2) := by decide +kernel
theorem dC_commonDivisor_11 : decode cC_commonDivisor 11 = .ok (.if_icmp .ge 23, 3) := by decide +kernel
theorem dC_commonDivisor_14 : decode cC_commonDivisor 14 = .ok (.iload_n 3, 1) := by decide +kernel
theorem dC_commonDivisor_15 : decode cC_commonDivisor 15 = .ok (.ifCond .eq 19, 3) := by decide +kernel
theorem dC_commonDivisor_18 : decode cC_commonDivisor 18 = .ok (.iload_n 2, 1) := by decide +kernel
theorem dC_commonDivisor_19 : decode cC_commonDivisor 19 = .ok (.iload_n 3, 1) := by decide +kernel
theorem dC_commonDivisor_20 : decode cC_commonDivisor 20 = .ok (.irem, 1) := by decide +kernel
theorem dC_commonDivisor_21 : decode cC_commonDivisor 21 = .ok (.istore 5, 2) := by decide +kernel
theorem dC_commonDivisor_23 : decode cC_commonDivisor 23 = .ok (.iload_n 3, 1) := by decide +kernel
theorem dC_commonDivisor_24 : decode cC_commonDivisor 24 = .ok (.istore_n 2, 1) := by decide +kernel
theorem dC_commonDivisor_25 : decode cC_commonDivisor 25 = .ok (.iload 5, 2) := by decide +kernel
theorem dC_commonDivisor_27 : decode cC_commonDivisor 27 = .ok (.istore_n 3, 1) := by decide +kernel
theorem dC_commonDivisor_28 : decode cC_commonDivisor 28 = .ok (.iinc 4 1, 3) := by decide +kernel
theorem dC_commonDivisor_31 : decode cC_commonDivisor 31 = .ok (.goto (-24), 3) := by decide +kernel
theorem dC_commonDivisor_34 : decode cC_commonDivisor 34 = .ok (.iload_n 2, 1) := by decide +kernel
theorem dC_commonDivisor_35 : decode cC_commonDivisor 35 = .ok (.ireturn, 1) := by decide +kernel
theorem dK_init_0 : decode cK_init 0 = .ok (.aload_n 0, 1) := by decide +kernel
theorem dK_init_1 : decode cK_init 1 = .ok (.invokespecial 3, 3) := by decide +kernel
theorem dK_init_4 : decode cK_init 4 = .ok (.aload_n 0, 1) := by decide +kernel
theorem dK_init_5 : decode cK_init 5 = .ok (.bipush 16, 2) := by decide +kernel
theorem dK_init_7 : decode cK_init 7 = .ok (.newarray .boolean, 2) := by decide +kernel
theorem dK_init_9 : decode cK_init 9 = .ok (.putfield 9, 3) := by decide +kernel
theorem dK_init_12 : decode cK_init 12 = .ok (.aload_n 0, 1) := by decide +kernel
theorem dK_init_13 : decode cK_init 13 = .ok (.bipush 16, 2) := by decide +kernel
theorem dK_init_15 : decode cK_init 15 = .ok (.newarray .int, 2) := by decide +kernel
theorem dK_init_17 : decode cK_init 17 = .ok (.putfield 15, 3) := by decide +kernel
theorem dK_init_20 : decode cK_init 20 = .ok (.aload_n 0, 1) := by decide +kernel
theorem dK_init_21 : decode cK_init 21 = .ok (.bipush 16, 2) := by decide +kernel
theorem dK_init_23 : decode cK_init 23 = .ok (.newarray .int, 2) := by decide +kernel
theorem dK_init_25 : decode cK_init 25 = .ok (.putfield 19, 3) := by decide +kernel
theorem dK_init_28 : decode cK_init 28 = .ok (.aload_n 0, 1) := by decide +kernel
theorem dK_init_29 : decode cK_init 29 = .ok (.sipush 30000, 3) := by decide +kernel
theorem dK_init_32 : decode cK_init 32 = .ok (.putfield 22, 3) := by decide +kernel
theorem dK_init_35 : decode cK_init 35 = .ok (.aload_n 0, 1) := by decide +kernel
theorem dK_init_36 : decode cK_init 36 = .ok (.iconst 1, 1) := by decide +kernel
theorem dK_init_37 : decode cK_init 37 = .ok (.putfield 26, 3) := by decide +kernel
theorem dK_init_40 : decode cK_init 40 = .ok (.aload_n 0, 1) := by decide +kernel
theorem dK_init_41 : decode cK_init 41 = .ok (.iconst 1, 1) := by decide +kernel
theorem dK_init_42 : decode cK_init 42 = .ok (.putfield 29, 3) := by decide +kernel
theorem dK_init_45 : decode cK_init 45 = .ok (.aload_n 0, 1) := by decide +kernel
theorem dK_init_46 : decode cK_init 46 = .ok (.iconst 0, 1) := by decide +kernel
theorem dK_init_47 : decode cK_init 47 = .ok (.putfield 32, 3) := by decide +kernel
theorem dK_init_50 : decode cK_init 50 = .ok (.aload_n 0, 1) := by decide +kernel
theorem dK_init_51 : decode cK_init 51 = .ok (.iconst 0, 1) := by decide +kernel
theorem dK_init_52 : decode cK_init 52 = .ok (.putfield 35, 3) := by decide +kernel
theorem dK_init_55 : decode cK_init 55 = .ok (.aload_n 0, 1) := by decide +kernel
theorem dK_init_56 : decode cK_init 56 = .ok (.bipush 12, 2) := by decide +kernel
theorem dK_init_58 : decode cK_init 58 = .ok (.anewarray 39, 3) := by decide +kernel
theorem dK_init_61 : decode cK_init 61 = .ok (.putfield 41, 3) := by decide +kernel
theorem dK_init_64 : decode cK_init 64 = .ok (.aload_n 0, 1) := by decide +kernel
theorem dK_init_65 : decode cK_init 65 = .ok (.new 45, 3) := by decide +kernel
theorem dK_init_68 : decode cK_init 68 = .ok (.dup, 1) := by decide +kernel
theorem dK_init_69 : decode cK_init 69 = .ok (.invokespecial 47, 3) := by decide +kernel
theorem dK_init_72 : decode cK_init 72 = .ok (.putfield 48, 3) := by decide +kernel
theorem dK_init_75 : decode cK_init 75 = .ok (.iconst 0, 1) := by decide +kernel
theorem dK_init_76 : decode cK_init 76 = .ok (.istore_n 1, 1) := by decide +kernel
theorem dK_init_77 : decode cK_init 77 = .ok (.iload_n 1, 1) := by decide +kernel
theorem dK_init_78 : decode cK_init 78 = .ok (.bipush 16, 2) := by decide +kernel
theorem dK_init_80 : decode cK_init 80 = .ok (.if_icmp .ge 18, 3) := by decide +kernel
theorem dK_init_83 : decode cK_init 83 = .ok (.aload_n 0, 1) := by decide +kernel
theorem dK_init_84 : decode cK_init 84 = .ok (.getfield 19, 3) := by decide +kernel
theorem dK_init_87 : decode cK_init 87 = .ok (.iload_n 1, 1) := by decide +kernel
theorem dK_init_88 : decode cK_init 88 = .ok (.sipush 999, 3) := by decide +kernel
theorem dK_init_91 : decode cK_init 91 = .ok (.iastore, 1) := by decide +kernel
theorem dK_init_92 : decode cK_init 92 = .ok (.iinc 1 1, 3) := by decide +kernel
theorem dK_init_95 : decode cK_init 95 = .ok (.goto (-18), 3) := by decide +kernel
theorem dK_init_98 : decode cK_init 98 = .ok (.return_, 1) := by decide +kernel
theorem dK_take_0 : decode cK_take 0 = .ok (.aload_n 0, 1) := by decide +kernel
theorem dK_take_1 : decode cK_take 1 = .ok (.getfield 32, 3) := by decide +kernel
theorem dK_take_4 : decode cK_take 4 = .ok (.aload_n 0, 1) := by decide +kernel
theorem dK_take_5 : decode cK_take 5 = .ok (.getfield 41, 3) := by decide +kernel
theorem dK_take_8 : decode cK_take 8 = .ok (.arraylength, 1) := by decide +kernel
theorem dK_take_9 : decode cK_take 9 = .ok (.if_icmp .ge 28, 3) := by decide +kernel
theorem dK_take_12 : decode cK_take 12 = .ok (.aload_n 0, 1) := by decide +kernel
theorem dK_take_13 : decode cK_take 13 = .ok (.getfield 41, 3) := by decide +kernel
theorem dK_take_16 : decode cK_take 16 = .ok (.aload_n 0, 1) := by decide +kernel
theorem dK_take_17 : decode cK_take 17 = .ok (.getfield 32, 3) := by decide +kernel
theorem dK_take_20 : decode cK_take 20 = .ok (.aload_n 1, 1) := by decide +kernel
theorem dK_take_21 : decode cK_take 21 = .ok (.aastore, 1) := by decide +kernel
theorem dK_take_22 : decode cK_take 22 = .ok (.aload_n 0, 1) := by decide +kernel
theorem dK_take_23 : decode cK_take 23 = .ok (.dup, 1) := by decide +kernel
theorem dK_take_24 : decode cK_take 24 = .ok (.getfield 32, 3) := by decide +kernel
theorem dK_take_27 : decode cK_take 27 = .ok (.iconst 1, 1) := by decide +kernel
theorem dK_take_28 : decode cK_take 28 = .ok (.iadd, 1) := by decide +kernel
theorem dK_take_29 : decode cK_take 29 = .ok (.putfield 32, 3) := by decide +kernel
theorem dK_take_32 : decode cK_take 32 = .ok (.aload_n 0, 1) := by decide +kernel
theorem dK_take_33 : decode cK_take 33 = .ok (.iconst 1, 1) := by decide +kernel
theorem dK_take_34 : decode cK_take 34 = .ok (.putfield 35, 3) := by decide +kernel
theorem dK_take_37 : decode cK_take 37 = .ok (.return_, 1) := by decide +kernel
theorem dK_numberAt_0 : decode cK_numberAt 0 = .ok (.iload_n 1, 1) := by decide +kernel
theorem dK_numberAt_1 : decode cK_numberAt 1 = .ok (.ifCond .lt 11, 3) := by decide +kernel
theorem dK_numberAt_4 : decode cK_numberAt 4 = .ok (.iload_n 1, 1) := by decide +kernel
theorem dK_numberAt_5 : decode cK_numberAt 5 = .ok (.aload_n 0, 1) := by decide +kernel
theorem dK_numberAt_6 : decode cK_numberAt 6 = .ok (.getfield 32, 3) := by decide +kernel
theorem dK_numberAt_9 : decode cK_numberAt 9 = .ok (.if_icmp .lt 7, 3) := by decide +kernel
theorem dK_numberAt_12 : decode cK_numberAt 12 = .ok (.iconst (-1), 1) := by decide +kernel
theorem dK_numberAt_13 : decode cK_numberAt 13 = .ok (.goto 12, 3) := by decide +kernel
theorem dK_numberAt_16 : decode cK_numberAt 16 = .ok (.aload_n 0, 1) := by decide +kernel
theorem dK_numberAt_17 : decode cK_numberAt 17 = .ok (.getfield 41, 3) := by decide +kernel
theorem dK_numberAt_20 : decode cK_numberAt 20 = .ok (.iload_n 1, 1) := by decide +kernel
theorem dK_numberAt_21 : decode cK_numberAt 21 = .ok (.aaload, 1) := by decide +kernel
theorem dK_numberAt_22 : decode cK_numberAt 22 = .ok (.getfield 52, 3) := by decide +kernel
theorem dK_numberAt_25 : decode cK_numberAt 25 = .ok (.ireturn, 1) := by decide +kernel
theorem dK_gramsTogether_0 : decode cK_gramsTogether 0 = .ok (.iconst 0, 1) := by decide +kernel
theorem dK_gramsTogether_1 : decode cK_gramsTogether 1 = .ok (.istore_n 1, 1) := by decide +kernel
theorem dK_gramsTogether_2 : decode cK_gramsTogether 2 = .ok (.iconst 0, 1) := by decide +kernel
theorem dK_gramsTogether_3 : decode cK_gramsTogether 3 = .ok (.istore_n 2, 1) := by decide +kernel
theorem dK_gramsTogether_4 : decode cK_gramsTogether 4 = .ok (.iload_n 2, 1) := by decide +kernel
theorem dK_gramsTogether_5 : decode cK_gramsTogether 5 = .ok (.aload_n 0, 1) := by decide +kernel
theorem dK_gramsTogether_6 : decode cK_gramsTogether 6 = .ok (.getfield 32, 3) := by decide +kernel
theorem dK_gramsTogether_9 : decode cK_gramsTogether 9 = .ok (.if_icmp .ge 21, 3) := by decide +kernel
theorem dK_gramsTogether_12 : decode cK_gramsTogether 12 = .ok (.iload_n 1, 1) := by decide +kernel
theorem dK_gramsTogether_13 : decode cK_gramsTogether 13 = .ok (.aload_n 0, 1) := by decide +kernel
theorem dK_gramsTogether_14 : decode cK_gramsTogether 14 = .ok (.getfield 41, 3) := by decide +kernel
theorem dK_gramsTogether_17 : decode cK_gramsTogether 17 = .ok (.iload_n 2, 1) := by decide +kernel
theorem dK_gramsTogether_18 : decode cK_gramsTogether 18 = .ok (.aaload, 1) := by decide +kernel
theorem dK_gramsTogether_19 : decode cK_gramsTogether 19 = .ok (.getfield 55, 3) := by decide +kernel
theorem dK_gramsTogether_22 : decode cK_gramsTogether 22 = .ok (.iadd, 1) := by decide +kernel
theorem dK_gramsTogether_23 : decode cK_gramsTogether 23 = .ok (.istore_n 1, 1) := by decide +kernel
theorem dK_gramsTogether_24 : decode cK_gramsTogether 24 = .ok (.iinc 2 1, 3) := by decide +kernel
theorem dK_gramsTogether_27 : decode cK_gramsTogether 27 = .ok (.goto (-23), 3) := by decide +kernel
theorem dK_gramsTogether_30 : decode cK_gramsTogether 30 = .ok (.iload_n 1, 1) := by decide +kernel
theorem dK_gramsTogether_31 : decode cK_gramsTogether 31 = .ok (.ireturn, 1) := by decide +kernel
theorem dK_ruleBetween_0 : decode cK_ruleBetween 0 = .ok (.aload_n 1, 1) := by decide +kernel
theorem dK_ruleBetween_1 : decode cK_ruleBetween 1 = .ok (.getfield 58, 3) := by decide +kernel
theorem dK_ruleBetween_4 : decode cK_ruleBetween 4 = .ok (.aload_n 2, 1) := by decide +kernel
theorem dK_ruleBetween_5 : decode cK_ruleBetween 5 = .ok (.getfield 58, 3) := by decide +kernel
theorem dK_ruleBetween_8 : decode cK_ruleBetween 8 = .ok (.if_icmp .ne 14, 3) := by decide +kernel
theorem dK_ruleBetween_11 : decode cK_ruleBetween 11 = .ok (.aload_n 0, 1) := by decide +kernel
theorem dK_ruleBetween_12 : decode cK_ruleBetween 12 = .ok (.aload_n 1, 1) := by decide +kernel
theorem dK_ruleBetween_13 : decode cK_ruleBetween 13 = .ok (.aload_n 2, 1) := by decide +kernel
theorem dK_ruleBetween_14 : decode cK_ruleBetween 14 = .ok (.invokevirtual 61, 3) := by decide +kernel
theorem dK_ruleBetween_17 : decode cK_ruleBetween 17 = .ok (.ifCond .eq 5, 3) := by decide +kernel
theorem dK_ruleBetween_20 : decode cK_ruleBetween 20 = .ok (.iconst 1, 1) := by decide +kernel
theorem dK_ruleBetween_21 : decode cK_ruleBetween 21 = .ok (.ireturn, 1) := by decide +kernel
theorem dK_ruleBetween_22 : decode cK_ruleBetween 22 = .ok (.aload_n 1, 1) := by decide +kernel
theorem dK_ruleBetween_23 : decode cK_ruleBetween 23 = .ok (.getfield 65, 3) := by decide +kernel
theorem dK_ruleBetween_26 : decode cK_ruleBetween 26 = .ok (.aload_n 2, 1) := by decide +kernel
theorem dK_ruleBetween_27 : decode cK_ruleBetween 27 = .ok (.getfield 68, 3) := by decide +kernel
theorem dK_ruleBetween_30 : decode cK_ruleBetween 30 = .ok (.if_icmp .gt 14, 3) := by decide +kernel
theorem dK_ruleBetween_33 : decode cK_ruleBetween 33 = .ok (.aload_n 2, 1) := by decide +kernel
theorem dK_ruleBetween_34 : decode cK_ruleBetween 34 = .ok (.getfield 65, 3) := by decide +kernel
theorem dK_ruleBetween_37 : decode cK_ruleBetween 37 = .ok (.aload_n 1, 1) := by decide +kernel
theorem dK_ruleBetween_38 : decode cK_ruleBetween 38 = .ok (.getfield 68, 3) := by decide +kernel
theorem dK_ruleBetween_41 : decode cK_ruleBetween 41 = .ok (.if_icmp .le 5, 3) := by decide +kernel
theorem dK_ruleBetween_44 : decode cK_ruleBetween 44 = .ok (.iconst 2, 1) := by decide +kernel
theorem dK_ruleBetween_45 : decode cK_ruleBetween 45 = .ok (.ireturn, 1) := by decide +kernel
theorem dK_ruleBetween_46 : decode cK_ruleBetween 46 = .ok (.aload_n 1, 1) := by decide +kernel
theorem dK_ruleBetween_47 : decode cK_ruleBetween 47 = .ok (.getfield 58, 3) := by decide +kernel
theorem dK_ruleBetween_50 : decode cK_ruleBetween 50 = .ok (.aload_n 2, 1) := by decide +kernel
theorem dK_ruleBetween_51 : decode cK_ruleBetween 51 = .ok (.getfield 58, 3) := by decide +kernel
theorem dK_ruleBetween_54 : decode cK_ruleBetween 54 = .ok (.if_icmp .ne 14, 3) := by decide +kernel
theorem dK_ruleBetween_57 : decode cK_ruleBetween 57 = .ok (.aload_n 0, 1) := by decide +kernel
theorem dK_ruleBetween_58 : decode cK_ruleBetween 58 = .ok (.aload_n 1, 1) := by decide +kernel
theorem dK_ruleBetween_59 : decode cK_ruleBetween 59 = .ok (.aload_n 2, 1) := by decide +kernel
theorem dK_ruleBetween_60 : decode cK_ruleBetween 60 = .ok (.invokevirtual 71, 3) := by decide +kernel
theorem dK_ruleBetween_63 : decode cK_ruleBetween 63 = .ok (.ifCond .eq 5, 3) := by decide +kernel
theorem dK_ruleBetween_66 : decode cK_ruleBetween 66 = .ok (.iconst 3, 1) := by decide +kernel
theorem dK_ruleBetween_67 : decode cK_ruleBetween 67 = .ok (.ireturn, 1) := by decide +kernel
theorem dK_ruleBetween_68 : decode cK_ruleBetween 68 = .ok (.iconst 0, 1) := by decide +kernel
theorem dK_ruleBetween_69 : decode cK_ruleBetween 69 = .ok (.ireturn, 1) := by decide +kernel
theorem dK_sidesClash_0 : decode cK_sidesClash 0 = .ok (.aload_n 1, 1) := by decide +kernel
theorem dK_sidesClash_1 : decode cK_sidesClash 1 = .ok (.getfield 74, 3) := by decide +kernel
theorem dK_sidesClash_4 : decode cK_sidesClash 4 = .ok (.aload_n 2, 1) := by decide +kernel
theorem dK_sidesClash_5 : decode cK_sidesClash 5 = .ok (.getfield 74, 3) := by decide +kernel
theorem dK_sidesClash_8 : decode cK_sidesClash 8 = .ok (.if_icmp .eq 5, 3) := by decide +kernel
theorem dK_sidesClash_11 : decode cK_sidesClash 11 = .ok (.iconst 0, 1) := by decide +kernel
theorem dK_sidesClash_12 : decode cK_sidesClash 12 = .ok (.ireturn, 1) := by decide +kernel
theorem dK_sidesClash_13 : decode cK_sidesClash 13 = .ok (.aload_n 1, 1) := by decide +kernel
theorem dK_sidesClash_14 : decode cK_sidesClash 14 = .ok (.getfield 74, 3) := by decide +kernel
theorem dK_sidesClash_17 : decode cK_sidesClash 17 = .ok (.ifCond .eq 31, 3) := by decide +kernel
theorem dK_sidesClash_20 : decode cK_sidesClash 20 = .ok (.aload_n 1, 1) := by decide +kernel
theorem dK_sidesClash_21 : decode cK_sidesClash 21 = .ok (.getfield 74, 3) := by decide +kernel
theorem dK_sidesClash_24 : decode cK_sidesClash 24 = .ok (.iconst 1, 1) := by decide +kernel
theorem dK_sidesClash_25 : decode cK_sidesClash 25 = .ok (.if_icmp .eq 23, 3) := by decide +kernel
theorem dK_sidesClash_28 : decode cK_sidesClash 28 = .ok (.aload_n 1, 1) := by decide +kernel
theorem dK_sidesClash_29 : decode cK_sidesClash 29 = .ok (.getfield 74, 3) := by decide +kernel
theorem dK_sidesClash_32 : decode cK_sidesClash 32 = .ok (.iconst 2, 1) := by decide +kernel
theorem dK_sidesClash_33 : decode cK_sidesClash 33 = .ok (.if_icmp .ne 19, 3) := by decide +kernel
theorem dK_sidesClash_36 : decode cK_sidesClash 36 = .ok (.aload_n 0, 1) := by decide +kernel
theorem dK_sidesClash_37 : decode cK_sidesClash 37 = .ok (.getfield 9, 3) := by decide +kernel
theorem dK_sidesClash_40 : decode cK_sidesClash 40 = .ok (.aload_n 1, 1) := by decide +kernel
theorem dK_sidesClash_41 : decode cK_sidesClash 41 = .ok (.getfield 58, 3) := by decide +kernel
theorem dK_sidesClash_44 : decode cK_sidesClash 44 = .ok (.baload, 1) := by decide +kernel
theorem dK_sidesClash_45 : decode cK_sidesClash 45 = .ok (.ifCond .eq 7, 3) := by decide +kernel
theorem dK_sidesClash_48 : decode cK_sidesClash 48 = .ok (.iconst 1, 1) := by decide +kernel
theorem dK_sidesClash_49 : decode cK_sidesClash 49 = .ok (.goto 4, 3) := by decide +kernel
theorem dK_sidesClash_52 : decode cK_sidesClash 52 = .ok (.iconst 0, 1) := by decide +kernel
theorem dK_sidesClash_53 : decode cK_sidesClash 53 = .ok (.ireturn, 1) := by decide +kernel
theorem dK_sizesClash_0 : decode cK_sizesClash 0 = .ok (.aload_n 1, 1) := by decide +kernel
theorem dK_sizesClash_1 : decode cK_sizesClash 1 = .ok (.getfield 77, 3) := by decide +kernel
theorem dK_sizesClash_4 : decode cK_sizesClash 4 = .ok (.ifCond .eq 33, 3) := by decide +kernel
theorem dK_sizesClash_7 : decode cK_sizesClash 7 = .ok (.aload_n 2, 1) := by decide +kernel
theorem dK_sizesClash_8 : decode cK_sizesClash 8 = .ok (.getfield 77, 3) := by decide +kernel
theorem dK_sizesClash_11 : decode cK_sizesClash 11 = .ok (.ifCond .eq 26, 3) := by decide +kernel
theorem dK_sizesClash_14 : decode cK_sizesClash 14 = .ok (.aload_n 1, 1) := by decide +kernel
theorem dK_sizesClash_15 : decode cK_sizesClash 15 = .ok (.getfield 77, 3) := by decide +kernel
theorem dK_sizesClash_18 : decode cK_sizesClash 18 = .ok (.aload_n 2, 1) := by decide +kernel
theorem dK_sizesClash_19 : decode cK_sizesClash 19 = .ok (.getfield 77, 3) := by decide +kernel
theorem dK_sizesClash_22 : decode cK_sizesClash 22 = .ok (.isub, 1) := by decide +kernel
theorem dK_sizesClash_23 : decode cK_sizesClash 23 = .ok (.invokestatic 80, 3) := by decide +kernel
theorem dK_sizesClash_26 : decode cK_sizesClash 26 = .ok (.aload_n 0, 1) := by decide +kernel
theorem dK_sizesClash_27 : decode cK_sizesClash 27 = .ok (.getfield 22, 3) := by decide +kernel
theorem dK_sizesClash_30 : decode cK_sizesClash 30 = .ok (.if_icmp .le 7, 3) := by decide +kernel
theorem dK_sizesClash_33 : decode cK_sizesClash 33 = .ok (.iconst 1, 1) := by decide +kernel
theorem dK_sizesClash_34 : decode cK_sizesClash 34 = .ok (.goto 4, 3) := by decide +kernel
theorem dK_sizesClash_37 : decode cK_sizesClash 37 = .ok (.iconst 0, 1) := by decide +kernel
theorem dK_sizesClash_38 : decode cK_sizesClash 38 = .ok (.ireturn, 1) := by decide +kernel
theorem dK_parted_0 : decode cK_parted 0 = .ok (.aload_n 0, 1) := by decide +kernel
theorem dK_parted_1 : decode cK_parted 1 = .ok (.getfield 35, 3) := by decide +kernel
theorem dK_parted_4 : decode cK_parted 4 = .ok (.ifCond .eq 30, 3) := by decide +kernel
theorem dK_parted_7 : decode cK_parted 7 = .ok (.aload_n 0, 1) := by decide +kernel
theorem dK_parted_8 : decode cK_parted 8 = .ok (.getfield 48, 3) := by decide +kernel
theorem dK_parted_11 : decode cK_parted 11 = .ok (.aload_n 0, 1) := by decide +kernel
theorem dK_parted_12 : decode cK_parted 12 = .ok (.getfield 32, 3) := by decide +kernel
theorem dK_parted_15 : decode cK_parted 15 = .ok (.invokevirtual 86, 3) := by decide +kernel
theorem dK_parted_18 : decode cK_parted 18 = .ok (.aload_n 0, 1) := by decide +kernel
theorem dK_parted_19 : decode cK_parted 19 = .ok (.invokevirtual 90, 3) := by decide +kernel
theorem dK_parted_22 : decode cK_parted 22 = .ok (.aload_n 0, 1) := by decide +kernel
theorem dK_parted_23 : decode cK_parted 23 = .ok (.getfield 48, 3) := by decide +kernel
theorem dK_parted_26 : decode cK_parted 26 = .ok (.invokevirtual 93, 3) := by decide +kernel
theorem dK_parted_29 : decode cK_parted 29 = .ok (.aload_n 0, 1) := by decide +kernel
theorem dK_parted_30 : decode cK_parted 30 = .ok (.iconst 0, 1) := by decide +kernel
theorem dK_parted_31 : decode cK_parted 31 = .ok (.putfield 35, 3) := by decide +kernel
theorem dK_parted_34 : decode cK_parted 34 = .ok (.aload_n 0, 1) := by decide +kernel
theorem dK_parted_35 : decode cK_parted 35 = .ok (.getfield 48, 3) := by decide +kernel
theorem dK_parted_38 : decode cK_parted 38 = .ok (.areturn, 1) := by decide +kernel
theorem dK_markFoes_0 : decode cK_markFoes 0 = .ok (.iconst 0, 1) := by decide +kernel
theorem dK_markFoes_1 : decode cK_markFoes 1 = .ok (.istore_n 1, 1) := by decide +kernel
theorem dK_markFoes_2 : decode cK_markFoes 2 = .ok (.iload_n 1, 1) := by decide +kernel
theorem dK_markFoes_3 : decode cK_markFoes 3 = .ok (.aload_n 0, 1) := by decide +kernel
theorem dK_markFoes_4 : decode cK_markFoes 4 = .ok (.getfield 32, 3) := by decide +kernel
theorem dK_markFoes_7 : decode cK_markFoes 7 = .ok (.if_icmp .ge 50, 3) := by decide +kernel
theorem dK_markFoes_10 : decode cK_markFoes 10 = .ok (.iconst 0, 1) := by decide +kernel
theorem dK_markFoes_11 : decode cK_markFoes 11 = .ok (.istore_n 2, 1) := by decide +kernel
theorem dK_markFoes_12 : decode cK_markFoes 12 = .ok (.iload_n 2, 1) := by decide +kernel
theorem dK_markFoes_13 : decode cK_markFoes 13 = .ok (.iload_n 1, 1) := by decide +kernel
theorem dK_markFoes_14 : decode cK_markFoes 14 = .ok (.if_icmp .ge 37, 3) := by decide +kernel
theorem dK_markFoes_17 : decode cK_markFoes 17 = .ok (.aload_n 0, 1) := by decide +kernel
theorem dK_markFoes_18 : decode cK_markFoes 18 = .ok (.aload_n 0, 1) := by decide +kernel
theorem dK_markFoes_19 : decode cK_markFoes 19 = .ok (.getfield 41, 3) := by decide +kernel
theorem dK_markFoes_22 : decode cK_markFoes 22 = .ok (.iload_n 1, 1) := by decide +kernel
theorem dK_markFoes_23 : decode cK_markFoes 23 = .ok (.aaload, 1) := by decide +kernel
theorem dK_markFoes_24 : decode cK_markFoes 24 = .ok (.aload_n 0, 1) := by decide +kernel
theorem dK_markFoes_25 : decode cK_markFoes 25 = .ok (.getfield 41, 3) := by decide +kernel
theorem dK_markFoes_28 : decode cK_markFoes 28 = .ok (.iload_n 2, 1) := by decide +kernel
theorem dK_markFoes_29 : decode cK_markFoes 29 = .ok (.aaload, 1) := by decide +kernel
theorem dK_markFoes_30 : decode cK_markFoes 30 = .ok (.invokevirtual 96, 3) := by decide +kernel
theorem dK_markFoes_33 : decode cK_markFoes 33 = .ok (.ifCond .eq 12, 3) := by decide +kernel
theorem dK_markFoes_36 : decode cK_markFoes 36 = .ok (.aload_n 0, 1) := by decide +kernel
theorem dK_markFoes_37 : decode cK_markFoes 37 = .ok (.getfield 48, 3) := by decide +kernel
theorem dK_markFoes_40 : decode cK_markFoes 40 = .ok (.iload_n 1, 1) := by decide +kernel
theorem dK_markFoes_41 : decode cK_markFoes 41 = .ok (.iload_n 2, 1) := by decide +kernel
theorem dK_markFoes_42 : decode cK_markFoes 42 = .ok (.invokevirtual 100, 3) := by decide +kernel
theorem dK_markFoes_45 : decode cK_markFoes 45 = .ok (.iinc 2 1, 3) := by decide +kernel
theorem dK_markFoes_48 : decode cK_markFoes 48 = .ok (.goto (-36), 3) := by decide +kernel
theorem dK_markFoes_51 : decode cK_markFoes 51 = .ok (.iinc 1 1, 3) := by decide +kernel
theorem dK_markFoes_54 : decode cK_markFoes 54 = .ok (.goto (-52), 3) := by decide +kernel
theorem dK_markFoes_57 : decode cK_markFoes 57 = .ok (.return_, 1) := by decide +kernel
theorem dP_init_0 : decode cP_init 0 = .ok (.aload_n 0, 1) := by decide +kernel
theorem dP_init_1 : decode cP_init 1 = .ok (.invokespecial 3, 3) := by decide +kernel
theorem dP_init_4 : decode cP_init 4 = .ok (.aload_n 0, 1) := by decide +kernel
theorem dP_init_5 : decode cP_init 5 = .ok (.iconst 0, 1) := by decide +kernel
theorem dP_init_6 : decode cP_init 6 = .ok (.putfield 9, 3) := by decide +kernel
theorem dP_init_9 : decode cP_init 9 = .ok (.aload_n 0, 1) := by decide +kernel
theorem dP_init_10 : decode cP_init 10 = .ok (.iconst 0, 1) := by decide +kernel
theorem dP_init_11 : decode cP_init 11 = .ok (.putfield 15, 3) := by decide +kernel
theorem dP_init_14 : decode cP_init 14 = .ok (.aload_n 0, 1) := by decide +kernel
theorem dP_init_15 : decode cP_init 15 = .ok (.iconst 0, 1) := by decide +kernel
theorem dP_init_16 : decode cP_init 16 = .ok (.putfield 18, 3) := by decide +kernel
theorem dP_init_19 : decode cP_init 19 = .ok (.aload_n 0, 1) := by decide +kernel
theorem dP_init_20 : decode cP_init 20 = .ok (.bipush 12, 2) := by decide +kernel
theorem dP_init_22 : decode cP_init 22 = .ok (.newarray .int, 2) := by decide +kernel
theorem dP_init_24 : decode cP_init 24 = .ok (.putfield 21, 3) := by decide +kernel
theorem dP_init_27 : decode cP_init 27 = .ok (.aload_n 0, 1) := by decide +kernel
theorem dP_init_28 : decode cP_init 28 = .ok (.bipush 12, 2) := by decide +kernel
theorem dP_init_30 : decode cP_init 30 = .ok (.newarray .int, 2) := by decide +kernel
theorem dP_init_32 : decode cP_init 32 = .ok (.putfield 25, 3) := by decide +kernel
theorem dP_init_35 : decode cP_init 35 = .ok (.aload_n 0, 1) := by decide +kernel
theorem dP_init_36 : decode cP_init 36 = .ok (.bipush 12, 2) := by decide +kernel
theorem dP_init_38 : decode cP_init 38 = .ok (.newarray .int, 2) := by decide +kernel
theorem dP_init_40 : decode cP_init 40 = .ok (.putfield 28, 3) := by decide +kernel
theorem dP_init_43 : decode cP_init 43 = .ok (.return_, 1) := by decide +kernel
theorem dP_begin_0 : decode cP_begin 0 = .ok (.aload_n 0, 1) := by decide +kernel
theorem dP_begin_1 : decode cP_begin 1 = .ok (.iconst 0, 1) := by decide +kernel
theorem dP_begin_2 : decode cP_begin 2 = .ok (.iload_n 1, 1) := by decide +kernel
theorem dP_begin_3 : decode cP_begin 3 = .ok (.bipush 12, 2) := by decide +kernel
theorem dP_begin_5 : decode cP_begin 5 = .ok (.invokestatic 31, 3) := by decide +kernel
theorem dP_begin_8 : decode cP_begin 8 = .ok (.invokestatic 37, 3) := by decide +kernel
theorem dP_begin_11 : decode cP_begin 11 = .ok (.putfield 15, 3) := by decide +kernel
theorem dP_begin_14 : decode cP_begin 14 = .ok (.iconst 0, 1) := by decide +kernel
theorem dP_begin_15 : decode cP_begin 15 = .ok (.istore_n 2, 1) := by decide +kernel
theorem dP_begin_16 : decode cP_begin 16 = .ok (.iload_n 2, 1) := by decide +kernel
theorem dP_begin_17 : decode cP_begin 17 = .ok (.bipush 12, 2) := by decide +kernel
theorem dP_begin_19 : decode cP_begin 19 = .ok (.if_icmp .ge 23, 3) := by decide +kernel
theorem dP_begin_22 : decode cP_begin 22 = .ok (.aload_n 0, 1) := by decide +kernel
theorem dP_begin_23 : decode cP_begin 23 = .ok (.getfield 21, 3) := by decide +kernel
theorem dP_begin_26 : decode cP_begin 26 = .ok (.iload_n 2, 1) := by decide +kernel
theorem dP_begin_27 : decode cP_begin 27 = .ok (.iconst 0, 1) := by decide +kernel
theorem dP_begin_28 : decode cP_begin 28 = .ok (.iastore, 1) := by decide +kernel
theorem dP_begin_29 : decode cP_begin 29 = .ok (.aload_n 0, 1) := by decide +kernel
theorem dP_begin_30 : decode cP_begin 30 = .ok (.getfield 28, 3) := by decide +kernel
theorem dP_begin_33 : decode cP_begin 33 = .ok (.iload_n 2, 1) := by decide +kernel
theorem dP_begin_34 : decode cP_begin 34 = .ok (.iconst 0, 1) := by decide +kernel
theorem dP_begin_35 : decode cP_begin 35 = .ok (.iastore, 1) := by decide +kernel
theorem dP_begin_36 : decode cP_begin 36 = .ok (.iinc 2 1, 3) := by decide +kernel
theorem dP_begin_39 : decode cP_begin 39 = .ok (.goto (-23), 3) := by decide +kernel
theorem dP_begin_42 : decode cP_begin 42 = .ok (.return_, 1) := by decide +kernel
theorem dP_setApart_0 : decode cP_setApart 0 = .ok (.iload_n 1, 1) := by decide +kernel
theorem dP_setApart_1 : decode cP_setApart 1 = .ok (.ifCond .lt 47, 3) := by decide +kernel
theorem dP_setApart_4 : decode cP_setApart 4 = .ok (.iload_n 1, 1) := by decide +kernel
theorem dP_setApart_5 : decode cP_setApart 5 = .ok (.aload_n 0, 1) := by decide +kernel
theorem dP_setApart_6 : decode cP_setApart 6 = .ok (.getfield 15, 3) := by decide +kernel
theorem dP_setApart_9 : decode cP_setApart 9 = .ok (.if_icmp .ge 39, 3) := by decide +kernel
theorem dP_setApart_12 : decode cP_setApart 12 = .ok (.iload_n 2, 1) := by decide +kernel
theorem dP_setApart_13 : decode cP_setApart 13 = .ok (.ifCond .lt 35, 3) := by decide +kernel
theorem dP_setApart_16 : decode cP_setApart 16 = .ok (.iload_n 2, 1) := by decide +kernel
theorem dP_setApart_17 : decode cP_setApart 17 = .ok (.aload_n 0, 1) := by decide +kernel
theorem dP_setApart_18 : decode cP_setApart 18 = .ok (.getfield 15, 3) := by decide +kernel
theorem dP_setApart_21 : decode cP_setApart 21 = .ok (.if_icmp .ge 27, 3) := by decide +kernel
theorem dP_setApart_24 : decode cP_setApart 24 = .ok (.aload_n 0, 1) := by decide +kernel
theorem dP_setApart_25 : decode cP_setApart 25 = .ok (.getfield 21, 3) := by decide +kernel
theorem dP_setApart_28 : decode cP_setApart 28 = .ok (.iload_n 1, 1) := by decide +kernel
theorem dP_setApart_29 : decode cP_setApart 29 = .ok (.dup2, 1) := by decide +kernel
theorem dP_setApart_30 : decode cP_setApart 30 = .ok (.iaload, 1) := by decide +kernel
theorem dP_setApart_31 : decode cP_setApart 31 = .ok (.iconst 1, 1) := by decide +kernel
theorem dP_setApart_32 : decode cP_setApart 32 = .ok (.iload_n 2, 1) := by decide +kernel
theorem dP_setApart_33 : decode cP_setApart 33 = .ok (.ishl, 1) := by decide +kernel
theorem dP_setApart_34 : decode cP_setApart 34 = .ok (.ior, 1) := by decide +kernel
theorem dP_setApart_35 : decode cP_setApart 35 = .ok (.iastore, 1) := by decide +kernel
theorem dP_setApart_36 : decode cP_setApart 36 = .ok (.aload_n 0, 1) := by decide +kernel
theorem dP_setApart_37 : decode cP_setApart 37 = .ok (.getfield 21, 3) := by decide +kernel
theorem dP_setApart_40 : decode cP_setApart 40 = .ok (.iload_n 2, 1) := by decide +kernel
theorem dP_setApart_41 : decode cP_setApart 41 = .ok (.dup2, 1) := by decide +kernel
theorem dP_setApart_42 : decode cP_setApart 42 = .ok (.iaload, 1) := by decide +kernel
theorem dP_setApart_43 : decode cP_setApart 43 = .ok (.iconst 1, 1) := by decide +kernel
theorem dP_setApart_44 : decode cP_setApart 44 = .ok (.iload_n 1, 1) := by decide +kernel
theorem dP_setApart_45 : decode cP_setApart 45 = .ok (.ishl, 1) := by decide +kernel
theorem dP_setApart_46 : decode cP_setApart 46 = .ok (.ior, 1) := by decide +kernel
theorem dP_setApart_47 : decode cP_setApart 47 = .ok (.iastore, 1) := by decide +kernel
theorem dP_setApart_48 : decode cP_setApart 48 = .ok (.return_, 1) := by decide +kernel
theorem dP_search_0 : decode cP_search 0 = .ok (.aload_n 0, 1) := by decide +kernel
theorem dP_search_1 : decode cP_search 1 = .ok (.iconst 0, 1) := by decide +kernel
theorem dP_search_2 : decode cP_search 2 = .ok (.putfield 18, 3) := by decide +kernel
theorem dP_search_5 : decode cP_search 5 = .ok (.aload_n 0, 1) := by decide +kernel
theorem dP_search_6 : decode cP_search 6 = .ok (.iconst 0, 1) := by decide +kernel
theorem dP_search_7 : decode cP_search 7 = .ok (.iconst 0, 1) := by decide +kernel
theorem dP_search_8 : decode cP_search 8 = .ok (.iconst 1, 1) := by decide +kernel
theorem dP_search_9 : decode cP_search 9 = .ok (.aload_n 0, 1) := by decide +kernel
theorem dP_search_10 : decode cP_search 10 = .ok (.getfield 15, 3) := by decide +kernel
theorem dP_search_13 : decode cP_search 13 = .ok (.ishl, 1) := by decide +kernel
theorem dP_search_14 : decode cP_search 14 = .ok (.iconst 1, 1) := by decide +kernel
theorem dP_search_15 : decode cP_search 15 = .ok (.isub, 1) := by decide +kernel
theorem dP_search_16 : decode cP_search 16 = .ok (.invokevirtual 40, 3) := by decide +kernel
theorem dP_search_19 : decode cP_search 19 = .ok (.aload_n 0, 1) := by decide +kernel
theorem dP_search_20 : decode cP_search 20 = .ok (.aload_n 0, 1) := by decide +kernel
theorem dP_search_21 : decode cP_search 21 = .ok (.getfield 18, 3) := by decide +kernel
theorem dP_search_24 : decode cP_search 24 = .ok (.invokestatic 44, 3) := by decide +kernel
theorem dP_search_27 : decode cP_search 27 = .ok (.putfield 9, 3) := by decide +kernel
theorem dP_search_30 : decode cP_search 30 = .ok (.iconst 0, 1) := by decide +kernel
theorem dP_search_31 : decode cP_search 31 = .ok (.istore_n 1, 1) := by decide +kernel
theorem dP_search_32 : decode cP_search 32 = .ok (.iload_n 1, 1) := by decide +kernel
theorem dP_search_33 : decode cP_search 33 = .ok (.aload_n 0, 1) := by decide +kernel
theorem dP_search_34 : decode cP_search 34 = .ok (.getfield 15, 3) := by decide +kernel
theorem dP_search_37 : decode cP_search 37 = .ok (.if_icmp .ge 28, 3) := by decide +kernel
theorem dP_search_40 : decode cP_search 40 = .ok (.aload_n 0, 1) := by decide +kernel
theorem dP_search_41 : decode cP_search 41 = .ok (.iconst 0, 1) := by decide +kernel
theorem dP_search_42 : decode cP_search 42 = .ok (.iconst 0, 1) := by decide +kernel
theorem dP_search_43 : decode cP_search 43 = .ok (.invokevirtual 50, 3) := by decide +kernel
theorem dP_search_46 : decode cP_search 46 = .ok (.ifCond .ne 19, 3) := by decide +kernel
theorem dP_search_49 : decode cP_search 49 = .ok (.aload_n 0, 1) := by decide +kernel
theorem dP_search_50 : decode cP_search 50 = .ok (.dup, 1) := by decide +kernel
theorem dP_search_51 : decode cP_search 51 = .ok (.getfield 9, 3) := by decide +kernel
theorem dP_search_54 : decode cP_search 54 = .ok (.iconst 1, 1) := by decide +kernel
theorem dP_search_55 : decode cP_search 55 = .ok (.iadd, 1) := by decide +kernel
theorem dP_search_56 : decode cP_search 56 = .ok (.putfield 9, 3) := by decide +kernel
theorem dP_search_59 : decode cP_search 59 = .ok (.iinc 1 1, 3) := by decide +kernel
theorem dP_search_62 : decode cP_search 62 = .ok (.goto (-30), 3) := by decide +kernel
theorem dP_search_65 : decode cP_search 65 = .ok (.return_, 1) := by decide +kernel
theorem dP_setOf_0 : decode cP_setOf 0 = .ok (.iload_n 1, 1) := by decide +kernel
theorem dP_setOf_1 : decode cP_setOf 1 = .ok (.ifCond .lt 11, 3) := by decide +kernel
theorem dP_setOf_4 : decode cP_setOf 4 = .ok (.iload_n 1, 1) := by decide +kernel
theorem dP_setOf_5 : decode cP_setOf 5 = .ok (.aload_n 0, 1) := by decide +kernel
theorem dP_setOf_6 : decode cP_setOf 6 = .ok (.getfield 15, 3) := by decide +kernel
theorem dP_setOf_9 : decode cP_setOf 9 = .ok (.if_icmp .lt 7, 3) := by decide +kernel
theorem dP_setOf_12 : decode cP_setOf 12 = .ok (.iconst (-1), 1) := by decide +kernel
theorem dP_setOf_13 : decode cP_setOf 13 = .ok (.goto 9, 3) := by decide +kernel
theorem dP_setOf_16 : decode cP_setOf 16 = .ok (.aload_n 0, 1) := by decide +kernel
theorem dP_setOf_17 : decode cP_setOf 17 = .ok (.getfield 25, 3) := by decide +kernel
theorem dP_setOf_20 : decode cP_setOf 20 = .ok (.iload_n 1, 1) := by decide +kernel
theorem dP_setOf_21 : decode cP_setOf 21 = .ok (.iaload, 1) := by decide +kernel
theorem dP_setOf_22 : decode cP_setOf 22 = .ok (.ireturn, 1) := by decide +kernel
theorem dP_placeOfFoe_0 : decode cP_placeOfFoe 0 = .ok (.iconst 0, 1) := by decide +kernel
theorem dP_placeOfFoe_1 : decode cP_placeOfFoe 1 = .ok (.istore_n 2, 1) := by decide +kernel
theorem dP_placeOfFoe_2 : decode cP_placeOfFoe 2 = .ok (.iconst 0, 1) := by decide +kernel
theorem dP_placeOfFoe_3 : decode cP_placeOfFoe 3 = .ok (.istore_n 3, 1) := by decide +kernel
theorem dP_placeOfFoe_4 : decode cP_placeOfFoe 4 = .ok (.iload_n 3, 1) := by decide +kernel
theorem dP_placeOfFoe_5 : decode cP_placeOfFoe 5 = .ok (.aload_n 0, 1) := by decide +kernel
theorem dP_placeOfFoe_6 : decode cP_placeOfFoe 6 = .ok (.getfield 15, 3) := by decide +kernel
theorem dP_placeOfFoe_9 : decode cP_placeOfFoe 9 = .ok (.if_icmp .ge 30, 3) := by decide +kernel
theorem dP_placeOfFoe_12 : decode cP_placeOfFoe 12 = .ok (.aload_n 0, 1) := by decide +kernel
theorem dP_placeOfFoe_13 : decode cP_placeOfFoe 13 = .ok (.getfield 18, 3) := by decide +kernel
theorem dP_placeOfFoe_16 : decode cP_placeOfFoe 16 = .ok (.iload_n 3, 1) := by decide +kernel
theorem dP_placeOfFoe_17 : decode cP_placeOfFoe 17 = .ok (.ishr, 1) := by decide +kernel
theorem dP_placeOfFoe_18 : decode cP_placeOfFoe 18 = .ok (.iconst 1, 1) := by decide +kernel
theorem dP_placeOfFoe_19 : decode cP_placeOfFoe 19 = .ok (.iand, 1) := by decide +kernel
theorem dP_placeOfFoe_20 : decode cP_placeOfFoe 20 = .ok (.ifCond .eq 13, 3) := by decide +kernel
theorem dP_placeOfFoe_23 : decode cP_placeOfFoe 23 = .ok (.iload_n 2, 1) := by decide +kernel
theorem dP_placeOfFoe_24 : decode cP_placeOfFoe 24 = .ok (.iload_n 1, 1) := by decide +kernel
theorem dP_placeOfFoe_25 : decode cP_placeOfFoe 25 = .ok (.if_icmp .ne 5, 3) := by decide +kernel
theorem dP_placeOfFoe_28 : decode cP_placeOfFoe 28 = .ok (.iload_n 3, 1) := by decide +kernel
theorem dP_placeOfFoe_29 : decode cP_placeOfFoe 29 = .ok (.ireturn, 1) := by decide +kernel
theorem dP_placeOfFoe_30 : decode cP_placeOfFoe 30 = .ok (.iinc 2 1, 3) := by decide +kernel
theorem dP_placeOfFoe_33 : decode cP_placeOfFoe 33 = .ok (.iinc 3 1, 3) := by decide +kernel
theorem dP_placeOfFoe_36 : decode cP_placeOfFoe 36 = .ok (.goto (-32), 3) := by decide +kernel
theorem dP_placeOfFoe_39 : decode cP_placeOfFoe 39 = .ok (.iconst (-1), 1) := by decide +kernel
theorem dP_placeOfFoe_40 : decode cP_placeOfFoe 40 = .ok (.ireturn, 1) := by decide +kernel
theorem dP_growFoes_0 : decode cP_growFoes 0 = .ok (.iload_n 1, 1) := by decide +kernel
theorem dP_growFoes_1 : decode cP_growFoes 1 = .ok (.aload_n 0, 1) := by decide +kernel
theorem dP_growFoes_2 : decode cP_growFoes 2 = .ok (.getfield 18, 3) := by decide +kernel
theorem dP_growFoes_5 : decode cP_growFoes 5 = .ok (.invokestatic 44, 3) := by decide +kernel
theorem dP_growFoes_8 : decode cP_growFoes 8 = .ok (.if_icmp .le 8, 3) := by decide +kernel
theorem dP_growFoes_11 : decode cP_growFoes 11 = .ok (.aload_n 0, 1) := by decide +kernel
theorem dP_growFoes_12 : decode cP_growFoes 12 = .ok (.iload_n 2, 1) := by decide +kernel
theorem dP_growFoes_13 : decode cP_growFoes 13 = .ok (.putfield 18, 3) := by decide +kernel
theorem dP_growFoes_16 : decode cP_growFoes 16 = .ok (.iload_n 3, 1) := by decide +kernel
theorem dP_growFoes_17 : decode cP_growFoes 17 = .ok (.istore 4, 2) := by decide +kernel
theorem dP_growFoes_19 : decode cP_growFoes 19 = .ok (.iconst 0, 1) := by decide +kernel
theorem dP_growFoes_20 : decode cP_growFoes 20 = .ok (.istore 5, 2) := by decide +kernel
theorem dP_growFoes_22 : decode cP_growFoes 22 = .ok (.iload 5, 2) := by decide +kernel
theorem dP_growFoes_24 : decode cP_growFoes 24 = .ok (.aload_n 0, 1) := by decide +kernel
theorem dP_growFoes_25 : decode cP_growFoes 25 = .ok (.getfield 15, 3) := by decide +kernel
theorem dP_growFoes_28 : decode cP_growFoes 28 = .ok (.if_icmp .ge 78, 3) := by decide +kernel
theorem dP_growFoes_31 : decode cP_growFoes 31 = .ok (.iload_n 1, 1) := by decide +kernel
theorem dP_growFoes_32 : decode cP_growFoes 32 = .ok (.iload 4, 2) := by decide +kernel
theorem dP_growFoes_34 : decode cP_growFoes 34 = .ok (.invokestatic 44, 3) := by decide +kernel
theorem dP_growFoes_37 : decode cP_growFoes 37 = .ok (.iadd, 1) := by decide +kernel
theorem dP_growFoes_38 : decode cP_growFoes 38 = .ok (.aload_n 0, 1) := by decide +kernel
theorem dP_growFoes_39 : decode cP_growFoes 39 = .ok (.getfield 18, 3) := by decide +kernel
theorem dP_growFoes_42 : decode cP_growFoes 42 = .ok (.invokestatic 44, 3) := by decide +kernel
theorem dP_growFoes_45 : decode cP_growFoes 45 = .ok (.if_icmp .le 61, 3) := by decide +kernel
theorem dP_growFoes_48 : decode cP_growFoes 48 = .ok (.iconst 1, 1) := by decide +kernel
theorem dP_growFoes_49 : decode cP_growFoes 49 = .ok (.iload 5, 2) := by decide +kernel
theorem dP_growFoes_51 : decode cP_growFoes 51 = .ok (.ishl, 1) := by decide +kernel
theorem dP_growFoes_52 : decode cP_growFoes 52 = .ok (.istore 6, 2) := by decide +kernel
theorem dP_growFoes_54 : decode cP_growFoes 54 = .ok (.iload 4, 2) := by decide +kernel
theorem dP_growFoes_56 : decode cP_growFoes 56 = .ok (.iload 6, 2) := by decide +kernel
theorem dP_growFoes_58 : decode cP_growFoes 58 = .ok (.iand, 1) := by decide +kernel
theorem dP_growFoes_59 : decode cP_growFoes 59 = .ok (.ifCond .eq 41, 3) := by decide +kernel
theorem dP_growFoes_62 : decode cP_growFoes 62 = .ok (.iload_n 1, 1) := by decide +kernel
theorem dP_growFoes_63 : decode cP_growFoes 63 = .ok (.aload_n 0, 1) := by decide +kernel
theorem dP_growFoes_64 : decode cP_growFoes 64 = .ok (.getfield 15, 3) := by decide +kernel
theorem dP_growFoes_67 : decode cP_growFoes 67 = .ok (.if_icmp .ge 33, 3) := by decide +kernel
theorem dP_growFoes_70 : decode cP_growFoes 70 = .ok (.iload 4, 2) := by decide +kernel
theorem dP_growFoes_72 : decode cP_growFoes 72 = .ok (.iload 6, 2) := by decide +kernel
theorem dP_growFoes_74 : decode cP_growFoes 74 = .ok (.iconst (-1), 1) := by decide +kernel
theorem dP_growFoes_75 : decode cP_growFoes 75 = .ok (.ixor, 1) := by decide +kernel
theorem dP_growFoes_76 : decode cP_growFoes 76 = .ok (.iand, 1) := by decide +kernel
theorem dP_growFoes_77 : decode cP_growFoes 77 = .ok (.istore 4, 2) := by decide +kernel
theorem dP_growFoes_79 : decode cP_growFoes 79 = .ok (.aload_n 0, 1) := by decide +kernel
theorem dP_growFoes_80 : decode cP_growFoes 80 = .ok (.iload_n 1, 1) := by decide +kernel
theorem dP_growFoes_81 : decode cP_growFoes 81 = .ok (.iconst 1, 1) := by decide +kernel
theorem dP_growFoes_82 : decode cP_growFoes 82 = .ok (.iadd, 1) := by decide +kernel
theorem dP_growFoes_83 : decode cP_growFoes 83 = .ok (.iload_n 2, 1) := by decide +kernel
theorem dP_growFoes_84 : decode cP_growFoes 84 = .ok (.iload 6, 2) := by decide +kernel
theorem dP_growFoes_86 : decode cP_growFoes 86 = .ok (.ior, 1) := by decide +kernel
theorem dP_growFoes_87 : decode cP_growFoes 87 = .ok (.iload 4, 2) := by decide +kernel
theorem dP_growFoes_89 : decode cP_growFoes 89 = .ok (.aload_n 0, 1) := by decide +kernel
theorem dP_growFoes_90 : decode cP_growFoes 90 = .ok (.getfield 21, 3) := by decide +kernel
theorem dP_growFoes_93 : decode cP_growFoes 93 = .ok (.iload 5, 2) := by decide +kernel
theorem dP_growFoes_95 : decode cP_growFoes 95 = .ok (.iaload, 1) := by decide +kernel
theorem dP_growFoes_96 : decode cP_growFoes 96 = .ok (.iand, 1) := by decide +kernel
theorem dP_growFoes_97 : decode cP_growFoes 97 = .ok (.invokevirtual 40, 3) := by decide +kernel
theorem dP_growFoes_100 : decode cP_growFoes 100 = .ok (.iinc 5 1, 3) := by decide +kernel
theorem dP_growFoes_103 : decode cP_growFoes 103 = .ok (.goto (-81), 3) := by decide +kernel
theorem dP_growFoes_106 : decode cP_growFoes 106 = .ok (.return_, 1) := by decide +kernel
theorem dP_fill_0 : decode cP_fill 0 = .ok (.iload_n 1, 1) := by decide +kernel
theorem dP_fill_1 : decode cP_fill 1 = .ok (.ifCond .lt 11, 3) := by decide +kernel
theorem dP_fill_4 : decode cP_fill 4 = .ok (.iload_n 1, 1) := by decide +kernel
theorem dP_fill_5 : decode cP_fill 5 = .ok (.aload_n 0, 1) := by decide +kernel
theorem dP_fill_6 : decode cP_fill 6 = .ok (.getfield 15, 3) := by decide +kernel
theorem dP_fill_9 : decode cP_fill 9 = .ok (.if_icmp .lt 5, 3) := by decide +kernel
theorem dP_fill_12 : decode cP_fill 12 = .ok (.iconst 1, 1) := by decide +kernel
theorem dP_fill_13 : decode cP_fill 13 = .ok (.ireturn, 1) := by decide +kernel
theorem dP_fill_14 : decode cP_fill 14 = .ok (.iconst 1, 1) := by decide +kernel
theorem dP_fill_15 : decode cP_fill 15 = .ok (.iload_n 1, 1) := by decide +kernel
theorem dP_fill_16 : decode cP_fill 16 = .ok (.ishl, 1) := by decide +kernel
theorem dP_fill_17 : decode cP_fill 17 = .ok (.istore_n 3, 1) := by decide +kernel
theorem dP_fill_18 : decode cP_fill 18 = .ok (.iload_n 2, 1) := by decide +kernel
theorem dP_fill_19 : decode cP_fill 19 = .ok (.iconst 1, 1) := by decide +kernel
theorem dP_fill_20 : decode cP_fill 20 = .ok (.iadd, 1) := by decide +kernel
theorem dP_fill_21 : decode cP_fill 21 = .ok (.aload_n 0, 1) := by decide +kernel
theorem dP_fill_22 : decode cP_fill 22 = .ok (.getfield 9, 3) := by decide +kernel
theorem dP_fill_25 : decode cP_fill 25 = .ok (.bipush 12, 2) := by decide +kernel
theorem dP_fill_27 : decode cP_fill 27 = .ok (.invokestatic 31, 3) := by decide +kernel
theorem dP_fill_30 : decode cP_fill 30 = .ok (.invokestatic 31, 3) := by decide +kernel
theorem dP_fill_33 : decode cP_fill 33 = .ok (.istore 4, 2) := by decide +kernel
theorem dP_fill_35 : decode cP_fill 35 = .ok (.iconst 0, 1) := by decide +kernel
theorem dP_fill_36 : decode cP_fill 36 = .ok (.istore 5, 2) := by decide +kernel
theorem dP_fill_38 : decode cP_fill 38 = .ok (.iload 5, 2) := by decide +kernel
theorem dP_fill_40 : decode cP_fill 40 = .ok (.iload 4, 2) := by decide +kernel
theorem dP_fill_42 : decode cP_fill 42 = .ok (.if_icmp .ge 78, 3) := by decide +kernel
theorem dP_fill_45 : decode cP_fill 45 = .ok (.aload_n 0, 1) := by decide +kernel
theorem dP_fill_46 : decode cP_fill 46 = .ok (.getfield 28, 3) := by decide +kernel
theorem dP_fill_49 : decode cP_fill 49 = .ok (.iload 5, 2) := by decide +kernel
theorem dP_fill_51 : decode cP_fill 51 = .ok (.iaload, 1) := by decide +kernel
theorem dP_fill_52 : decode cP_fill 52 = .ok (.aload_n 0, 1) := by decide +kernel
theorem dP_fill_53 : decode cP_fill 53 = .ok (.getfield 21, 3) := by decide +kernel
theorem dP_fill_56 : decode cP_fill 56 = .ok (.iload_n 1, 1) := by decide +kernel
theorem dP_fill_57 : decode cP_fill 57 = .ok (.iaload, 1) := by decide +kernel
theorem dP_fill_58 : decode cP_fill 58 = .ok (.iand, 1) := by decide +kernel
theorem dP_fill_59 : decode cP_fill 59 = .ok (.ifCond .ne 55, 3) := by decide +kernel
theorem dP_fill_62 : decode cP_fill 62 = .ok (.aload_n 0, 1) := by decide +kernel
theorem dP_fill_63 : decode cP_fill 63 = .ok (.getfield 28, 3) := by decide +kernel
theorem dP_fill_66 : decode cP_fill 66 = .ok (.iload 5, 2) := by decide +kernel
theorem dP_fill_68 : decode cP_fill 68 = .ok (.dup2, 1) := by decide +kernel
theorem dP_fill_69 : decode cP_fill 69 = .ok (.iaload, 1) := by decide +kernel
theorem dP_fill_70 : decode cP_fill 70 = .ok (.iload_n 3, 1) := by decide +kernel
theorem dP_fill_71 : decode cP_fill 71 = .ok (.ior, 1) := by decide +kernel
theorem dP_fill_72 : decode cP_fill 72 = .ok (.iastore, 1) := by decide +kernel
theorem dP_fill_73 : decode cP_fill 73 = .ok (.aload_n 0, 1) := by decide +kernel
theorem dP_fill_74 : decode cP_fill 74 = .ok (.getfield 25, 3) := by decide +kernel
theorem dP_fill_77 : decode cP_fill 77 = .ok (.iload_n 1, 1) := by decide +kernel
theorem dP_fill_78 : decode cP_fill 78 = .ok (.iload 5, 2) := by decide +kernel
theorem dP_fill_80 : decode cP_fill 80 = .ok (.iastore, 1) := by decide +kernel
theorem dP_fill_81 : decode cP_fill 81 = .ok (.aload_n 0, 1) := by decide +kernel
theorem dP_fill_82 : decode cP_fill 82 = .ok (.iload_n 1, 1) := by decide +kernel
theorem dP_fill_83 : decode cP_fill 83 = .ok (.iconst 1, 1) := by decide +kernel
theorem dP_fill_84 : decode cP_fill 84 = .ok (.iadd, 1) := by decide +kernel
theorem dP_fill_85 : decode cP_fill 85 = .ok (.iload_n 2, 1) := by decide +kernel
theorem dP_fill_86 : decode cP_fill 86 = .ok (.iload 5, 2) := by decide +kernel
theorem dP_fill_88 : decode cP_fill 88 = .ok (.iconst 1, 1) := by decide +kernel
theorem dP_fill_89 : decode cP_fill 89 = .ok (.iadd, 1) := by decide +kernel
theorem dP_fill_90 : decode cP_fill 90 = .ok (.invokestatic 37, 3) := by decide +kernel
theorem dP_fill_93 : decode cP_fill 93 = .ok (.invokevirtual 50, 3) := by decide +kernel
theorem dP_fill_96 : decode cP_fill 96 = .ok (.ifCond .eq 5, 3) := by decide +kernel
theorem dP_fill_99 : decode cP_fill 99 = .ok (.iconst 1, 1) := by decide +kernel
theorem dP_fill_100 : decode cP_fill 100 = .ok (.ireturn, 1) := by decide +kernel
theorem dP_fill_101 : decode cP_fill 101 = .ok (.aload_n 0, 1) := by decide +kernel
theorem dP_fill_102 : decode cP_fill 102 = .ok (.getfield 28, 3) := by decide +kernel
theorem dP_fill_105 : decode cP_fill 105 = .ok (.iload 5, 2) := by decide +kernel
theorem dP_fill_107 : decode cP_fill 107 = .ok (.dup2, 1) := by decide +kernel
theorem dP_fill_108 : decode cP_fill 108 = .ok (.iaload, 1) := by decide +kernel
theorem dP_fill_109 : decode cP_fill 109 = .ok (.iload_n 3, 1) := by decide +kernel
theorem dP_fill_110 : decode cP_fill 110 = .ok (.iconst (-1), 1) := by decide +kernel
theorem dP_fill_111 : decode cP_fill 111 = .ok (.ixor, 1) := by decide +kernel
theorem dP_fill_112 : decode cP_fill 112 = .ok (.iand, 1) := by decide +kernel
theorem dP_fill_113 : decode cP_fill 113 = .ok (.iastore, 1) := by decide +kernel
theorem dP_fill_114 : decode cP_fill 114 = .ok (.iinc 5 1, 3) := by decide +kernel
theorem dP_fill_117 : decode cP_fill 117 = .ok (.goto (-79), 3) := by decide +kernel
theorem dP_fill_120 : decode cP_fill 120 = .ok (.iconst 0, 1) := by decide +kernel
theorem dP_fill_121 : decode cP_fill 121 = .ok (.ireturn, 1) := by decide +kernel
theorem dQ_init_0 : decode cQ_init 0 = .ok (.aload_n 0, 1) := by decide +kernel
theorem dQ_init_1 : decode cQ_init 1 = .ok (.invokespecial 3, 3) := by decide +kernel
theorem dQ_init_4 : decode cQ_init 4 = .ok (.aload_n 0, 1) := by decide +kernel
theorem dQ_init_5 : decode cQ_init 5 = .ok (.iconst 0, 1) := by decide +kernel
theorem dQ_init_6 : decode cQ_init 6 = .ok (.putfield 9, 3) := by decide +kernel
theorem dQ_init_9 : decode cQ_init 9 = .ok (.aload_n 0, 1) := by decide +kernel
theorem dQ_init_10 : decode cQ_init 10 = .ok (.sipush 999, 3) := by decide +kernel
theorem dQ_init_13 : decode cQ_init 13 = .ok (.putfield 15, 3) := by decide +kernel
theorem dQ_init_16 : decode cQ_init 16 = .ok (.aload_n 0, 1) := by decide +kernel
theorem dQ_init_17 : decode cQ_init 17 = .ok (.iconst 0, 1) := by decide +kernel
theorem dQ_init_18 : decode cQ_init 18 = .ok (.putfield 18, 3) := by decide +kernel
theorem dQ_init_21 : decode cQ_init 21 = .ok (.aload_n 0, 1) := by decide +kernel
theorem dQ_init_22 : decode cQ_init 22 = .ok (.aload_n 1, 1) := by decide +kernel
theorem dQ_init_23 : decode cQ_init 23 = .ok (.putfield 21, 3) := by decide +kernel
theorem dQ_init_26 : decode cQ_init 26 = .ok (.aload_n 0, 1) := by decide +kernel
theorem dQ_init_27 : decode cQ_init 27 = .ok (.iload_n 2, 1) := by decide +kernel
theorem dQ_init_28 : decode cQ_init 28 = .ok (.putfield 25, 3) := by decide +kernel
theorem dQ_init_31 : decode cQ_init 31 = .ok (.aload_n 0, 1) := by decide +kernel
theorem dQ_init_32 : decode cQ_init 32 = .ok (.aload_n 1, 1) := by decide +kernel
theorem dQ_init_33 : decode cQ_init 33 = .ok (.getfield 28, 3) := by decide +kernel
theorem dQ_init_36 : decode cQ_init 36 = .ok (.putfield 33, 3) := by decide +kernel
theorem dQ_init_39 : decode cQ_init 39 = .ok (.aload_n 0, 1) := by decide +kernel
theorem dQ_init_40 : decode cQ_init 40 = .ok (.iload_n 3, 1) := by decide +kernel
theorem dQ_init_41 : decode cQ_init 41 = .ok (.putfield 36, 3) := by decide +kernel
theorem dQ_init_44 : decode cQ_init 44 = .ok (.aload_n 0, 1) := by decide +kernel
theorem dQ_init_45 : decode cQ_init 45 = .ok (.iload 4, 2) := by decide +kernel
theorem dQ_init_47 : decode cQ_init 47 = .ok (.putfield 39, 3) := by decide +kernel
theorem dQ_init_50 : decode cQ_init 50 = .ok (.aload_n 0, 1) := by decide +kernel
theorem dQ_init_51 : decode cQ_init 51 = .ok (.iload 5, 2) := by decide +kernel
theorem dQ_init_53 : decode cQ_init 53 = .ok (.putfield 42, 3) := by decide +kernel
theorem dQ_init_56 : decode cQ_init 56 = .ok (.return_, 1) := by decide +kernel
end
section
theorem dM_init_0 : decode cM_init 0 = .ok (.aload_n 0, 1) := by decide +kernel
theorem dM_init_1 : decode cM_init 1 = .ok (.invokespecial 1, 3) := by decide +kernel
theorem dM_init_4 : decode cM_init 4 = .ok (.aload_n 0, 1) := by decide +kernel
theorem dM_init_5 : decode cM_init 5 = .ok (.bipush 72, 2) := by decide +kernel
theorem dM_init_7 : decode cM_init 7 = .ok (.newarray .int, 2) := by decide +kernel
theorem dM_init_9 : decode cM_init 9 = .ok (.putfield 7, 3) := by decide +kernel
theorem dM_init_12 : decode cM_init 12 = .ok (.aload_n 0, 1) := by decide +kernel
theorem dM_init_13 : decode cM_init 13 = .ok (.bipush 72, 2) := by decide +kernel
theorem dM_init_15 : decode cM_init 15 = .ok (.newarray .int, 2) := by decide +kernel
theorem dM_init_17 : decode cM_init 17 = .ok (.putfield 13, 3) := by decide +kernel
theorem dM_init_20 : decode cM_init 20 = .ok (.aload_n 0, 1) := by decide +kernel
theorem dM_init_21 : decode cM_init 21 = .ok (.bipush 72, 2) := by decide +kernel
theorem dM_init_23 : decode cM_init 23 = .ok (.newarray .int, 2) := by decide +kernel
theorem dM_init_25 : decode cM_init 25 = .ok (.putfield 16, 3) := by decide +kernel
theorem dM_init_28 : decode cM_init 28 = .ok (.aload_n 0, 1) := by decide +kernel
theorem dM_init_29 : decode cM_init 29 = .ok (.bipush 72, 2) := by decide +kernel
theorem dM_init_31 : decode cM_init 31 = .ok (.newarray .int, 2) := by decide +kernel
theorem dM_init_33 : decode cM_init 33 = .ok (.putfield 19, 3) := by decide +kernel
theorem dM_init_36 : decode cM_init 36 = .ok (.aload_n 0, 1) := by decide +kernel
theorem dM_init_37 : decode cM_init 37 = .ok (.bipush 72, 2) := by decide +kernel
theorem dM_init_39 : decode cM_init 39 = .ok (.newarray .int, 2) := by decide +kernel
theorem dM_init_41 : decode cM_init 41 = .ok (.putfield 22, 3) := by decide +kernel
theorem dM_init_44 : decode cM_init 44 = .ok (.aload_n 0, 1) := by decide +kernel
theorem dM_init_45 : decode cM_init 45 = .ok (.bipush 72, 2) := by decide +kernel
theorem dM_init_47 : decode cM_init 47 = .ok (.newarray .int, 2) := by decide +kernel
theorem dM_init_49 : decode cM_init 49 = .ok (.putfield 25, 3) := by decide +kernel
theorem dM_init_52 : decode cM_init 52 = .ok (.aload_n 0, 1) := by decide +kernel
theorem dM_init_53 : decode cM_init 53 = .ok (.bipush 72, 2) := by decide +kernel
theorem dM_init_55 : decode cM_init 55 = .ok (.newarray .int, 2) := by decide +kernel
theorem dM_init_57 : decode cM_init 57 = .ok (.putfield 28, 3) := by decide +kernel
theorem dM_init_60 : decode cM_init 60 = .ok (.aload_n 0, 1) := by decide +kernel
theorem dM_init_61 : decode cM_init 61 = .ok (.bipush 6, 2) := by decide +kernel
theorem dM_init_63 : decode cM_init 63 = .ok (.newarray .int, 2) := by decide +kernel
theorem dM_init_65 : decode cM_init 65 = .ok (.putfield 31, 3) := by decide +kernel
theorem dM_init_68 : decode cM_init 68 = .ok (.aload_n 0, 1) := by decide +kernel
theorem dM_init_69 : decode cM_init 69 = .ok (.bipush 72, 2) := by decide +kernel
theorem dM_init_71 : decode cM_init 71 = .ok (.newarray .int, 2) := by decide +kernel
theorem dM_init_73 : decode cM_init 73 = .ok (.putfield 34, 3) := by decide +kernel
theorem dM_init_76 : decode cM_init 76 = .ok (.aload_n 0, 1) := by decide +kernel
theorem dM_init_77 : decode cM_init 77 = .ok (.bipush 96, 2) := by decide +kernel
theorem dM_init_79 : decode cM_init 79 = .ok (.newarray .boolean, 2) := by decide +kernel
theorem dM_init_81 : decode cM_init 81 = .ok (.putfield 37, 3) := by decide +kernel
theorem dM_init_84 : decode cM_init 84 = .ok (.aload_n 0, 1) := by decide +kernel
theorem dM_init_85 : decode cM_init 85 = .ok (.bipush 6, 2) := by decide +kernel
theorem dM_init_87 : decode cM_init 87 = .ok (.newarray .int, 2) := by decide +kernel
theorem dM_init_89 : decode cM_init 89 = .ok (.putfield 41, 3) := by decide +kernel
theorem dM_init_92 : decode cM_init 92 = .ok (.aload_n 0, 1) := by decide +kernel
theorem dM_init_93 : decode cM_init 93 = .ok (.bipush 96, 2) := by decide +kernel
theorem dM_init_95 : decode cM_init 95 = .ok (.newarray .int, 2) := by decide +kernel
theorem dM_init_97 : decode cM_init 97 = .ok (.putfield 44, 3) := by decide +kernel
theorem dM_init_100 : decode cM_init 100 = .ok (.aload_n 0, 1) := by decide +kernel
theorem dM_init_101 : decode cM_init 101 = .ok (.bipush 96, 2) := by decide +kernel
theorem dM_init_103 : decode cM_init 103 = .ok (.newarray .int, 2) := by decide +kernel
theorem dM_init_105 : decode cM_init 105 = .ok (.putfield 47, 3) := by decide +kernel
theorem dM_init_108 : decode cM_init 108 = .ok (.aload_n 0, 1) := by decide +kernel
theorem dM_init_109 : decode cM_init 109 = .ok (.bipush 6, 2) := by decide +kernel
theorem dM_init_111 : decode cM_init 111 = .ok (.newarray .int, 2) := by decide +kernel
theorem dM_init_113 : decode cM_init 113 = .ok (.putfield 50, 3) := by decide +kernel
theorem dM_init_116 : decode cM_init 116 = .ok (.aload_n 0, 1) := by decide +kernel
theorem dM_init_117 : decode cM_init 117 = .ok (.bipush 6, 2) := by decide +kernel
theorem dM_init_119 : decode cM_init 119 = .ok (.newarray .int, 2) := by decide +kernel
theorem dM_init_121 : decode cM_init 121 = .ok (.putfield 53, 3) := by decide +kernel
theorem dM_init_124 : decode cM_init 124 = .ok (.aload_n 0, 1) := by decide +kernel
theorem dM_init_125 : decode cM_init 125 = .ok (.bipush 12, 2) := by decide +kernel
theorem dM_init_127 : decode cM_init 127 = .ok (.newarray .int, 2) := by decide +kernel
theorem dM_init_129 : decode cM_init 129 = .ok (.putfield 56, 3) := by decide +kernel
theorem dM_init_132 : decode cM_init 132 = .ok (.aload_n 0, 1) := by decide +kernel
theorem dM_init_133 : decode cM_init 133 = .ok (.bipush 13, 2) := by decide +kernel
theorem dM_init_135 : decode cM_init 135 = .ok (.newarray .int, 2) := by decide +kernel
theorem dM_init_137 : decode cM_init 137 = .ok (.putfield 59, 3) := by decide +kernel
theorem dM_init_140 : decode cM_init 140 = .ok (.iconst 0, 1) := by decide +kernel
theorem dM_init_141 : decode cM_init 141 = .ok (.istore_n 1, 1) := by decide +kernel
theorem dM_init_142 : decode cM_init 142 = .ok (.iload_n 1, 1) := by decide +kernel
theorem dM_init_143 : decode cM_init 143 = .ok (.bipush 6, 2) := by decide +kernel
theorem dM_init_145 : decode cM_init 145 = .ok (.if_icmp .ge 32, 3) := by decide +kernel
theorem dM_init_148 : decode cM_init 148 = .ok (.aload_n 0, 1) := by decide +kernel
theorem dM_init_149 : decode cM_init 149 = .ok (.getfield 41, 3) := by decide +kernel
theorem dM_init_152 : decode cM_init 152 = .ok (.iload_n 1, 1) := by decide +kernel
theorem dM_init_153 : decode cM_init 153 = .ok (.sipush 30000, 3) := by decide +kernel
theorem dM_init_156 : decode cM_init 156 = .ok (.iastore, 1) := by decide +kernel
theorem dM_init_157 : decode cM_init 157 = .ok (.aload_n 0, 1) := by decide +kernel
theorem dM_init_158 : decode cM_init 158 = .ok (.getfield 50, 3) := by decide +kernel
theorem dM_init_161 : decode cM_init 161 = .ok (.iload_n 1, 1) := by decide +kernel
theorem dM_init_162 : decode cM_init 162 = .ok (.iconst 1, 1) := by decide +kernel
theorem dM_init_163 : decode cM_init 163 = .ok (.iastore, 1) := by decide +kernel
theorem dM_init_164 : decode cM_init 164 = .ok (.aload_n 0, 1) := by decide +kernel
theorem dM_init_165 : decode cM_init 165 = .ok (.getfield 53, 3) := by decide +kernel
theorem dM_init_168 : decode cM_init 168 = .ok (.iload_n 1, 1) := by decide +kernel
theorem dM_init_169 : decode cM_init 169 = .ok (.iconst 1, 1) := by decide +kernel
theorem dM_init_170 : decode cM_init 170 = .ok (.iastore, 1) := by decide +kernel
theorem dM_init_171 : decode cM_init 171 = .ok (.iinc 1 1, 3) := by decide +kernel
theorem dM_init_174 : decode cM_init 174 = .ok (.goto (-32), 3) := by decide +kernel
theorem dM_init_177 : decode cM_init 177 = .ok (.iconst 0, 1) := by decide +kernel
theorem dM_init_178 : decode cM_init 178 = .ok (.istore_n 1, 1) := by decide +kernel
theorem dM_init_179 : decode cM_init 179 = .ok (.iload_n 1, 1) := by decide +kernel
theorem dM_init_180 : decode cM_init 180 = .ok (.bipush 96, 2) := by decide +kernel
theorem dM_init_182 : decode cM_init 182 = .ok (.if_icmp .ge 18, 3) := by decide +kernel
theorem dM_init_185 : decode cM_init 185 = .ok (.aload_n 0, 1) := by decide +kernel
theorem dM_init_186 : decode cM_init 186 = .ok (.getfield 47, 3) := by decide +kernel
theorem dM_init_189 : decode cM_init 189 = .ok (.iload_n 1, 1) := by decide +kernel
theorem dM_init_190 : decode cM_init 190 = .ok (.sipush 999, 3) := by decide +kernel
theorem dM_init_193 : decode cM_init 193 = .ok (.iastore, 1) := by decide +kernel
theorem dM_init_194 : decode cM_init 194 = .ok (.iinc 1 1, 3) := by decide +kernel
theorem dM_init_197 : decode cM_init 197 = .ok (.goto (-18), 3) := by decide +kernel
theorem dM_init_200 : decode cM_init 200 = .ok (.return_, 1) := by decide +kernel
theorem dM_thrown_0 : decode cM_thrown 0 = .ok (.aload_n 0, 1) := by decide +kernel
theorem dM_thrown_1 : decode cM_thrown 1 = .ok (.getfield 62, 3) := by decide +kernel
theorem dM_thrown_4 : decode cM_thrown 4 = .ok (.ireturn, 1) := by decide +kernel
theorem dM_throwing_0 : decode cM_throwing 0 = .ok (.aload_n 0, 1) := by decide +kernel
theorem dM_throwing_1 : decode cM_throwing 1 = .ok (.iload_n 1, 1) := by decide +kernel
theorem dM_throwing_2 : decode cM_throwing 2 = .ok (.ifCond .eq 7, 3) := by decide +kernel
theorem dM_throwing_5 : decode cM_throwing 5 = .ok (.iconst 1, 1) := by decide +kernel
theorem dM_throwing_6 : decode cM_throwing 6 = .ok (.goto 20, 3) := by decide +kernel
theorem dM_throwing_9 : decode cM_throwing 9 = .ok (.iload_n 2, 1) := by decide +kernel
theorem dM_throwing_10 : decode cM_throwing 10 = .ok (.ifCond .eq 7, 3) := by decide +kernel
theorem dM_throwing_13 : decode cM_throwing 13 = .ok (.iconst 2, 1) := by decide +kernel
theorem dM_throwing_14 : decode cM_throwing 14 = .ok (.goto 12, 3) := by decide +kernel
theorem dM_throwing_17 : decode cM_throwing 17 = .ok (.iload_n 3, 1) := by decide +kernel
theorem dM_throwing_18 : decode cM_throwing 18 = .ok (.ifCond .eq 7, 3) := by decide +kernel
theorem dM_throwing_21 : decode cM_throwing 21 = .ok (.iconst 3, 1) := by decide +kernel
theorem dM_throwing_22 : decode cM_throwing 22 = .ok (.goto 4, 3) := by decide +kernel
theorem dM_throwing_25 : decode cM_throwing 25 = .ok (.iconst 0, 1) := by decide +kernel
theorem dM_throwing_26 : decode cM_throwing 26 = .ok (.putfield 62, 3) := by decide +kernel
theorem dM_throwing_29 : decode cM_throwing 29 = .ok (.aload_n 0, 1) := by decide +kernel
theorem dM_throwing_30 : decode cM_throwing 30 = .ok (.getfield 62, 3) := by decide +kernel
theorem dM_throwing_33 : decode cM_throwing 33 = .ok (.ifCond .le 7, 3) := by decide +kernel
theorem dM_throwing_36 : decode cM_throwing 36 = .ok (.iconst 1, 1) := by decide +kernel
theorem dM_throwing_37 : decode cM_throwing 37 = .ok (.goto 4, 3) := by decide +kernel
theorem dM_throwing_40 : decode cM_throwing 40 = .ok (.iconst 0, 1) := by decide +kernel
theorem dM_throwing_41 : decode cM_throwing 41 = .ok (.ireturn, 1) := by decide +kernel
theorem dM_in_0 : decode cM_in 0 = .ok (.iload_n 0, 1) := by decide +kernel
theorem dM_in_1 : decode cM_in 1 = .ok (.iload_n 1, 1) := by decide +kernel
theorem dM_in_2 : decode cM_in 2 = .ok (.if_icmp .lt 12, 3) := by decide +kernel
theorem dM_in_5 : decode cM_in 5 = .ok (.iload_n 0, 1) := by decide +kernel
theorem dM_in_6 : decode cM_in 6 = .ok (.iload_n 2, 1) := by decide +kernel
theorem dM_in_7 : decode cM_in 7 = .ok (.if_icmp .gt 7, 3) := by decide +kernel
theorem dM_in_10 : decode cM_in 10 = .ok (.iconst 1, 1) := by decide +kernel
theorem dM_in_11 : decode cM_in 11 = .ok (.goto 4, 3) := by decide +kernel
theorem dM_in_14 : decode cM_in 14 = .ok (.iconst 0, 1) := by decide +kernel
theorem dM_in_15 : decode cM_in 15 = .ok (.ireturn, 1) := by decide +kernel
theorem dM_isKind_0 : decode cM_isKind 0 = .ok (.iload_n 0, 1) := by decide +kernel
theorem dM_isKind_1 : decode cM_isKind 1 = .ok (.iconst 0, 1) := by decide +kernel
theorem dM_isKind_2 : decode cM_isKind 2 = .ok (.iconst 5, 1) := by decide +kernel
theorem dM_isKind_3 : decode cM_isKind 3 = .ok (.invokestatic 66, 3) := by decide +kernel
theorem dM_isKind_6 : decode cM_isKind 6 = .ok (.ireturn, 1) := by decide +kernel
theorem dM_isPiece_0 : decode cM_isPiece 0 = .ok (.iload_n 1, 1) := by decide +kernel
theorem dM_isPiece_1 : decode cM_isPiece 1 = .ok (.iconst 0, 1) := by decide +kernel
theorem dM_isPiece_2 : decode cM_isPiece 2 = .ok (.aload_n 0, 1) := by decide +kernel
theorem dM_isPiece_3 : decode cM_isPiece 3 = .ok (.getfield 70, 3) := by decide +kernel
theorem dM_isPiece_6 : decode cM_isPiece 6 = .ok (.iconst 1, 1) := by decide +kernel
theorem dM_isPiece_7 : decode cM_isPiece 7 = .ok (.isub, 1) := by decide +kernel
theorem dM_isPiece_8 : decode cM_isPiece 8 = .ok (.invokestatic 66, 3) := by decide +kernel
theorem dM_isPiece_11 : decode cM_isPiece 11 = .ok (.ireturn, 1) := by decide +kernel
theorem dM_piece_0 : decode cM_piece 0 = .ok (.iload_n 1, 1) := by decide +kernel
theorem dM_piece_1 : decode cM_piece 1 = .ok (.invokestatic 73, 3) := by decide +kernel
theorem dM_piece_4 : decode cM_piece 4 = .ok (.ifCond .eq 13, 3) := by decide +kernel
theorem dM_piece_7 : decode cM_piece 7 = .ok (.iload_n 2, 1) := by decide +kernel
theorem dM_piece_8 : decode cM_piece 8 = .ok (.iconst 0, 1) := by decide +kernel
theorem dM_piece_9 : decode cM_piece 9 = .ok (.bipush 15, 2) := by decide +kernel
theorem dM_piece_11 : decode cM_piece 11 = .ok (.invokestatic 66, 3) := by decide +kernel
theorem dM_piece_14 : decode cM_piece 14 = .ok (.ifCond .ne 7, 3) := by decide +kernel
theorem dM_piece_17 : decode cM_piece 17 = .ok (.iconst 1, 1) := by decide +kernel
theorem dM_piece_18 : decode cM_piece 18 = .ok (.goto 4, 3) := by decide +kernel
theorem dM_piece_21 : decode cM_piece 21 = .ok (.iconst 0, 1) := by decide +kernel
theorem dM_piece_22 : decode cM_piece 22 = .ok (.istore 5, 2) := by decide +kernel
theorem dM_piece_24 : decode cM_piece 24 = .ok (.aload_n 0, 1) := by decide +kernel
theorem dM_piece_25 : decode cM_piece 25 = .ok (.iload 5, 2) := by decide +kernel
theorem dM_piece_27 : decode cM_piece 27 = .ok (.iload_n 3, 1) := by decide +kernel
theorem dM_piece_28 : decode cM_piece 28 = .ok (.iconst 0, 1) := by decide +kernel
theorem dM_piece_29 : decode cM_piece 29 = .ok (.iconst 3, 1) := by decide +kernel
theorem dM_piece_30 : decode cM_piece 30 = .ok (.invokestatic 66, 3) := by decide +kernel
theorem dM_piece_33 : decode cM_piece 33 = .ok (.ifCond .eq 15, 3) := by decide +kernel
theorem dM_piece_36 : decode cM_piece 36 = .ok (.iload 4, 2) := by decide +kernel
theorem dM_piece_38 : decode cM_piece 38 = .ok (.iconst 0, 1) := by decide +kernel
theorem dM_piece_39 : decode cM_piece 39 = .ok (.sipush 30000, 3) := by decide +kernel
theorem dM_piece_42 : decode cM_piece 42 = .ok (.invokestatic 66, 3) := by decide +kernel
theorem dM_piece_45 : decode cM_piece 45 = .ok (.ifCond .ne 7, 3) := by decide +kernel
theorem dM_piece_48 : decode cM_piece 48 = .ok (.iconst 1, 1) := by decide +kernel
theorem dM_piece_49 : decode cM_piece 49 = .ok (.goto 4, 3) := by decide +kernel
theorem dM_piece_52 : decode cM_piece 52 = .ok (.iconst 0, 1) := by decide +kernel
theorem dM_piece_53 : decode cM_piece 53 = .ok (.iload 5, 2) := by decide +kernel
theorem dM_piece_55 : decode cM_piece 55 = .ok (.ifCond .ne 18, 3) := by decide +kernel
theorem dM_piece_58 : decode cM_piece 58 = .ok (.aload_n 0, 1) := by decide +kernel
theorem dM_piece_59 : decode cM_piece 59 = .ok (.getfield 31, 3) := by decide +kernel
theorem dM_piece_62 : decode cM_piece 62 = .ok (.iload_n 1, 1) := by decide +kernel
theorem dM_piece_63 : decode cM_piece 63 = .ok (.iaload, 1) := by decide +kernel
theorem dM_piece_64 : decode cM_piece 64 = .ok (.bipush 12, 2) := by decide +kernel
theorem dM_piece_66 : decode cM_piece 66 = .ok (.if_icmp .ne 7, 3) := by decide +kernel
theorem dM_piece_69 : decode cM_piece 69 = .ok (.iconst 1, 1) := by decide +kernel
theorem dM_piece_70 : decode cM_piece 70 = .ok (.goto 4, 3) := by decide +kernel
theorem dM_piece_73 : decode cM_piece 73 = .ok (.iconst 0, 1) := by decide +kernel
theorem dM_piece_74 : decode cM_piece 74 = .ok (.invokevirtual 77, 3) := by decide +kernel
theorem dM_piece_77 : decode cM_piece 77 = .ok (.ifCond .eq 5, 3) := by decide +kernel
theorem dM_piece_80 : decode cM_piece 80 = .ok (.iconst 0, 1) := by decide +kernel
theorem dM_piece_81 : decode cM_piece 81 = .ok (.ireturn, 1) := by decide +kernel
theorem dM_piece_82 : decode cM_piece 82 = .ok (.aload_n 0, 1) := by decide +kernel
theorem dM_piece_83 : decode cM_piece 83 = .ok (.getfield 7, 3) := by decide +kernel
theorem dM_piece_86 : decode cM_piece 86 = .ok (.aload_n 0, 1) := by decide +kernel
theorem dM_piece_87 : decode cM_piece 87 = .ok (.getfield 70, 3) := by decide +kernel
theorem dM_piece_90 : decode cM_piece 90 = .ok (.iload_n 1, 1) := by decide +kernel
theorem dM_piece_91 : decode cM_piece 91 = .ok (.iastore, 1) := by decide +kernel
theorem dM_piece_92 : decode cM_piece 92 = .ok (.aload_n 0, 1) := by decide +kernel
theorem dM_piece_93 : decode cM_piece 93 = .ok (.getfield 13, 3) := by decide +kernel
theorem dM_piece_96 : decode cM_piece 96 = .ok (.aload_n 0, 1) := by decide +kernel
theorem dM_piece_97 : decode cM_piece 97 = .ok (.getfield 70, 3) := by decide +kernel
theorem dM_piece_100 : decode cM_piece 100 = .ok (.iload_n 2, 1) := by decide +kernel
theorem dM_piece_101 : decode cM_piece 101 = .ok (.iastore, 1) := by decide +kernel
theorem dM_piece_102 : decode cM_piece 102 = .ok (.aload_n 0, 1) := by decide +kernel
theorem dM_piece_103 : decode cM_piece 103 = .ok (.getfield 16, 3) := by decide +kernel
theorem dM_piece_106 : decode cM_piece 106 = .ok (.aload_n 0, 1) := by decide +kernel
theorem dM_piece_107 : decode cM_piece 107 = .ok (.getfield 70, 3) := by decide +kernel
theorem dM_piece_110 : decode cM_piece 110 = .ok (.iload_n 3, 1) := by decide +kernel
theorem dM_piece_111 : decode cM_piece 111 = .ok (.iastore, 1) := by decide +kernel
theorem dM_piece_112 : decode cM_piece 112 = .ok (.aload_n 0, 1) := by decide +kernel
theorem dM_piece_113 : decode cM_piece 113 = .ok (.getfield 19, 3) := by decide +kernel
theorem dM_piece_116 : decode cM_piece 116 = .ok (.aload_n 0, 1) := by decide +kernel
theorem dM_piece_117 : decode cM_piece 117 = .ok (.getfield 70, 3) := by decide +kernel
theorem dM_piece_120 : decode cM_piece 120 = .ok (.iload 4, 2) := by decide +kernel
theorem dM_piece_122 : decode cM_piece 122 = .ok (.iastore, 1) := by decide +kernel
theorem dM_piece_123 : decode cM_piece 123 = .ok (.aload_n 0, 1) := by decide +kernel
theorem dM_piece_124 : decode cM_piece 124 = .ok (.getfield 22, 3) := by decide +kernel
theorem dM_piece_127 : decode cM_piece 127 = .ok (.aload_n 0, 1) := by decide +kernel
theorem dM_piece_128 : decode cM_piece 128 = .ok (.getfield 70, 3) := by decide +kernel
theorem dM_piece_131 : decode cM_piece 131 = .ok (.iconst 0, 1) := by decide +kernel
theorem dM_piece_132 : decode cM_piece 132 = .ok (.iastore, 1) := by decide +kernel
theorem dM_piece_133 : decode cM_piece 133 = .ok (.aload_n 0, 1) := by decide +kernel
theorem dM_piece_134 : decode cM_piece 134 = .ok (.getfield 25, 3) := by decide +kernel
theorem dM_piece_137 : decode cM_piece 137 = .ok (.aload_n 0, 1) := by decide +kernel
theorem dM_piece_138 : decode cM_piece 138 = .ok (.getfield 70, 3) := by decide +kernel
theorem dM_piece_141 : decode cM_piece 141 = .ok (.sipush 999, 3) := by decide +kernel
theorem dM_piece_144 : decode cM_piece 144 = .ok (.iastore, 1) := by decide +kernel
theorem dM_piece_145 : decode cM_piece 145 = .ok (.aload_n 0, 1) := by decide +kernel
theorem dM_piece_146 : decode cM_piece 146 = .ok (.getfield 28, 3) := by decide +kernel
theorem dM_piece_149 : decode cM_piece 149 = .ok (.aload_n 0, 1) := by decide +kernel
theorem dM_piece_150 : decode cM_piece 150 = .ok (.getfield 70, 3) := by decide +kernel
theorem dM_piece_153 : decode cM_piece 153 = .ok (.iconst 0, 1) := by decide +kernel
theorem dM_piece_154 : decode cM_piece 154 = .ok (.iastore, 1) := by decide +kernel
theorem dM_piece_155 : decode cM_piece 155 = .ok (.aload_n 0, 1) := by decide +kernel
theorem dM_piece_156 : decode cM_piece 156 = .ok (.getfield 34, 3) := by decide +kernel
theorem dM_piece_159 : decode cM_piece 159 = .ok (.bipush 12, 2) := by decide +kernel
theorem dM_piece_161 : decode cM_piece 161 = .ok (.iload_n 1, 1) := by decide +kernel
theorem dM_piece_162 : decode cM_piece 162 = .ok (.imul, 1) := by decide +kernel
theorem dM_piece_163 : decode cM_piece 163 = .ok (.aload_n 0, 1) := by decide +kernel
theorem dM_piece_164 : decode cM_piece 164 = .ok (.getfield 31, 3) := by decide +kernel
theorem dM_piece_167 : decode cM_piece 167 = .ok (.iload_n 1, 1) := by decide +kernel
theorem dM_piece_168 : decode cM_piece 168 = .ok (.iaload, 1) := by decide +kernel
theorem dM_piece_169 : decode cM_piece 169 = .ok (.iadd, 1) := by decide +kernel
theorem dM_piece_170 : decode cM_piece 170 = .ok (.aload_n 0, 1) := by decide +kernel
theorem dM_piece_171 : decode cM_piece 171 = .ok (.getfield 70, 3) := by decide +kernel
theorem dM_piece_174 : decode cM_piece 174 = .ok (.iastore, 1) := by decide +kernel
theorem dM_piece_175 : decode cM_piece 175 = .ok (.aload_n 0, 1) := by decide +kernel
theorem dM_piece_176 : decode cM_piece 176 = .ok (.getfield 31, 3) := by decide +kernel
theorem dM_piece_179 : decode cM_piece 179 = .ok (.iload_n 1, 1) := by decide +kernel
theorem dM_piece_180 : decode cM_piece 180 = .ok (.dup2, 1) := by decide +kernel
theorem dM_piece_181 : decode cM_piece 181 = .ok (.iaload, 1) := by decide +kernel
theorem dM_piece_182 : decode cM_piece 182 = .ok (.iconst 1, 1) := by decide +kernel
theorem dM_piece_183 : decode cM_piece 183 = .ok (.iadd, 1) := by decide +kernel
theorem dM_piece_184 : decode cM_piece 184 = .ok (.iastore, 1) := by decide +kernel
theorem dM_piece_185 : decode cM_piece 185 = .ok (.aload_n 0, 1) := by decide +kernel
theorem dM_piece_186 : decode cM_piece 186 = .ok (.dup, 1) := by decide +kernel
theorem dM_piece_187 : decode cM_piece 187 = .ok (.getfield 70, 3) := by decide +kernel
theorem dM_piece_190 : decode cM_piece 190 = .ok (.iconst 1, 1) := by decide +kernel
theorem dM_piece_191 : decode cM_piece 191 = .ok (.iadd, 1) := by decide +kernel
theorem dM_piece_192 : decode cM_piece 192 = .ok (.putfield 70, 3) := by decide +kernel
theorem dM_piece_195 : decode cM_piece 195 = .ok (.aload_n 0, 1) := by decide +kernel
theorem dM_piece_196 : decode cM_piece 196 = .ok (.getfield 70, 3) := by decide +kernel
theorem dM_piece_199 : decode cM_piece 199 = .ok (.iconst 1, 1) := by decide +kernel
theorem dM_piece_200 : decode cM_piece 200 = .ok (.isub, 1) := by decide +kernel
theorem dM_piece_201 : decode cM_piece 201 = .ok (.ireturn, 1) := by decide +kernel
theorem dM_single_0 : decode cM_single 0 = .ok (.aload_n 0, 1) := by decide +kernel
theorem dM_single_1 : decode cM_single 1 = .ok (.iload_n 1, 1) := by decide +kernel
theorem dM_single_2 : decode cM_single 2 = .ok (.invokestatic 73, 3) := by decide +kernel
theorem dM_single_5 : decode cM_single 5 = .ok (.ifCond .eq 13, 3) := by decide +kernel
theorem dM_single_8 : decode cM_single 8 = .ok (.iload_n 2, 1) := by decide +kernel
theorem dM_single_9 : decode cM_single 9 = .ok (.iconst 0, 1) := by decide +kernel
theorem dM_single_10 : decode cM_single 10 = .ok (.bipush 15, 2) := by decide +kernel
theorem dM_single_12 : decode cM_single 12 = .ok (.invokestatic 66, 3) := by decide +kernel
theorem dM_single_15 : decode cM_single 15 = .ok (.ifCond .ne 7, 3) := by decide +kernel
theorem dM_single_18 : decode cM_single 18 = .ok (.iconst 1, 1) := by decide +kernel
theorem dM_single_19 : decode cM_single 19 = .ok (.goto 4, 3) := by decide +kernel
theorem dM_single_22 : decode cM_single 22 = .ok (.iconst 0, 1) := by decide +kernel
theorem dM_single_23 : decode cM_single 23 = .ok (.iconst 0, 1) := by decide +kernel
theorem dM_single_24 : decode cM_single 24 = .ok (.iconst 0, 1) := by decide +kernel
theorem dM_single_25 : decode cM_single 25 = .ok (.invokevirtual 77, 3) := by decide +kernel
theorem dM_single_28 : decode cM_single 28 = .ok (.ifCond .eq 5, 3) := by decide +kernel
theorem dM_single_31 : decode cM_single 31 = .ok (.iconst 0, 1) := by decide +kernel
theorem dM_single_32 : decode cM_single 32 = .ok (.ireturn, 1) := by decide +kernel
theorem dM_single_33 : decode cM_single 33 = .ok (.aload_n 0, 1) := by decide +kernel
theorem dM_single_34 : decode cM_single 34 = .ok (.getfield 37, 3) := by decide +kernel
theorem dM_single_37 : decode cM_single 37 = .ok (.bipush 16, 2) := by decide +kernel
theorem dM_single_39 : decode cM_single 39 = .ok (.iload_n 1, 1) := by decide +kernel
theorem dM_single_40 : decode cM_single 40 = .ok (.imul, 1) := by decide +kernel
theorem dM_single_41 : decode cM_single 41 = .ok (.iload_n 2, 1) := by decide +kernel
theorem dM_single_42 : decode cM_single 42 = .ok (.iadd, 1) := by decide +kernel
theorem dM_single_43 : decode cM_single 43 = .ok (.baload, 1) := by decide +kernel
theorem dM_single_44 : decode cM_single 44 = .ok (.istore 4, 2) := by decide +kernel
theorem dM_single_46 : decode cM_single 46 = .ok (.aload_n 0, 1) := by decide +kernel
theorem dM_single_47 : decode cM_single 47 = .ok (.getfield 37, 3) := by decide +kernel
theorem dM_single_50 : decode cM_single 50 = .ok (.bipush 16, 2) := by decide +kernel
theorem dM_single_52 : decode cM_single 52 = .ok (.iload_n 1, 1) := by decide +kernel
theorem dM_single_53 : decode cM_single 53 = .ok (.imul, 1) := by decide +kernel
theorem dM_single_54 : decode cM_single 54 = .ok (.iload_n 2, 1) := by decide +kernel
theorem dM_single_55 : decode cM_single 55 = .ok (.iadd, 1) := by decide +kernel
theorem dM_single_56 : decode cM_single 56 = .ok (.iload_n 3, 1) := by decide +kernel
theorem dM_single_57 : decode cM_single 57 = .ok (.bastore, 1) := by decide +kernel
theorem dM_single_58 : decode cM_single 58 = .ok (.iload 4, 2) := by decide +kernel
theorem dM_single_60 : decode cM_single 60 = .ok (.iload_n 3, 1) := by decide +kernel
theorem dM_single_61 : decode cM_single 61 = .ok (.if_icmp .eq 7, 3) := by decide +kernel
theorem dM_single_64 : decode cM_single 64 = .ok (.iconst 1, 1) := by decide +kernel
theorem dM_single_65 : decode cM_single 65 = .ok (.goto 4, 3) := by decide +kernel
theorem dM_single_68 : decode cM_single 68 = .ok (.iconst 0, 1) := by decide +kernel
theorem dM_single_69 : decode cM_single 69 = .ok (.ireturn, 1) := by decide +kernel
theorem dM_bound_0 : decode cM_bound 0 = .ok (.aload_n 0, 1) := by decide +kernel
theorem dM_bound_1 : decode cM_bound 1 = .ok (.iload_n 1, 1) := by decide +kernel
theorem dM_bound_2 : decode cM_bound 2 = .ok (.invokestatic 73, 3) := by decide +kernel
theorem dM_bound_5 : decode cM_bound 5 = .ok (.ifCond .ne 7, 3) := by decide +kernel
theorem dM_bound_8 : decode cM_bound 8 = .ok (.iconst 1, 1) := by decide +kernel
theorem dM_bound_9 : decode cM_bound 9 = .ok (.goto 4, 3) := by decide +kernel
theorem dM_bound_12 : decode cM_bound 12 = .ok (.iconst 0, 1) := by decide +kernel
theorem dM_bound_13 : decode cM_bound 13 = .ok (.iload_n 2, 1) := by decide +kernel
theorem dM_bound_14 : decode cM_bound 14 = .ok (.iconst 0, 1) := by decide +kernel
theorem dM_bound_15 : decode cM_bound 15 = .ok (.sipush 30000, 3) := by decide +kernel
theorem dM_bound_18 : decode cM_bound 18 = .ok (.invokestatic 66, 3) := by decide +kernel
theorem dM_bound_21 : decode cM_bound 21 = .ok (.ifCond .ne 7, 3) := by decide +kernel
theorem dM_bound_24 : decode cM_bound 24 = .ok (.iconst 1, 1) := by decide +kernel
theorem dM_bound_25 : decode cM_bound 25 = .ok (.goto 4, 3) := by decide +kernel
theorem dM_bound_28 : decode cM_bound 28 = .ok (.iconst 0, 1) := by decide +kernel
theorem dM_bound_29 : decode cM_bound 29 = .ok (.iconst 0, 1) := by decide +kernel
theorem dM_bound_30 : decode cM_bound 30 = .ok (.invokevirtual 77, 3) := by decide +kernel
theorem dM_bound_33 : decode cM_bound 33 = .ok (.ifCond .eq 5, 3) := by decide +kernel
theorem dM_bound_36 : decode cM_bound 36 = .ok (.iconst 0, 1) := by decide +kernel
theorem dM_bound_37 : decode cM_bound 37 = .ok (.ireturn, 1) := by decide +kernel
theorem dM_bound_38 : decode cM_bound 38 = .ok (.aload_n 0, 1) := by decide +kernel
theorem dM_bound_39 : decode cM_bound 39 = .ok (.getfield 41, 3) := by decide +kernel
theorem dM_bound_42 : decode cM_bound 42 = .ok (.iload_n 1, 1) := by decide +kernel
theorem dM_bound_43 : decode cM_bound 43 = .ok (.iaload, 1) := by decide +kernel
theorem dM_bound_44 : decode cM_bound 44 = .ok (.istore_n 3, 1) := by decide +kernel
theorem dM_bound_45 : decode cM_bound 45 = .ok (.aload_n 0, 1) := by decide +kernel
theorem dM_bound_46 : decode cM_bound 46 = .ok (.getfield 41, 3) := by decide +kernel
theorem dM_bound_49 : decode cM_bound 49 = .ok (.iload_n 1, 1) := by decide +kernel
theorem dM_bound_50 : decode cM_bound 50 = .ok (.iload_n 2, 1) := by decide +kernel
theorem dM_bound_51 : decode cM_bound 51 = .ok (.iastore, 1) := by decide +kernel
theorem dM_bound_52 : decode cM_bound 52 = .ok (.iload_n 3, 1) := by decide +kernel
theorem dM_bound_53 : decode cM_bound 53 = .ok (.ireturn, 1) := by decide +kernel
theorem dM_table_0 : decode cM_table 0 = .ok (.aload_n 0, 1) := by decide +kernel
theorem dM_table_1 : decode cM_table 1 = .ok (.iload_n 1, 1) := by decide +kernel
theorem dM_table_2 : decode cM_table 2 = .ok (.invokestatic 73, 3) := by decide +kernel
theorem dM_table_5 : decode cM_table 5 = .ok (.ifCond .eq 13, 3) := by decide +kernel
theorem dM_table_8 : decode cM_table 8 = .ok (.iload_n 2, 1) := by decide +kernel
theorem dM_table_9 : decode cM_table 9 = .ok (.iconst 0, 1) := by decide +kernel
theorem dM_table_10 : decode cM_table 10 = .ok (.bipush 15, 2) := by decide +kernel
theorem dM_table_12 : decode cM_table 12 = .ok (.invokestatic 66, 3) := by decide +kernel
theorem dM_table_15 : decode cM_table 15 = .ok (.ifCond .ne 7, 3) := by decide +kernel
theorem dM_table_18 : decode cM_table 18 = .ok (.iconst 1, 1) := by decide +kernel
theorem dM_table_19 : decode cM_table 19 = .ok (.goto 4, 3) := by decide +kernel
theorem dM_table_22 : decode cM_table 22 = .ok (.iconst 0, 1) := by decide +kernel
theorem dM_table_23 : decode cM_table 23 = .ok (.iload_n 3, 1) := by decide +kernel
theorem dM_table_24 : decode cM_table 24 = .ok (.ifCond .lt 17, 3) := by decide +kernel
theorem dM_table_27 : decode cM_table 27 = .ok (.iload_n 3, 1) := by decide +kernel
theorem dM_table_28 : decode cM_table 28 = .ok (.iload 4, 2) := by decide +kernel
theorem dM_table_30 : decode cM_table 30 = .ok (.if_icmp .gt 11, 3) := by decide +kernel
theorem dM_table_33 : decode cM_table 33 = .ok (.iload 4, 2) := by decide +kernel
theorem dM_table_35 : decode cM_table 35 = .ok (.sipush 999, 3) := by decide +kernel
theorem dM_table_38 : decode cM_table 38 = .ok (.if_icmp .le 7, 3) := by decide +kernel
theorem dM_table_41 : decode cM_table 41 = .ok (.iconst 1, 1) := by decide +kernel
theorem dM_table_42 : decode cM_table 42 = .ok (.goto 4, 3) := by decide +kernel
theorem dM_table_45 : decode cM_table 45 = .ok (.iconst 0, 1) := by decide +kernel
theorem dM_table_46 : decode cM_table 46 = .ok (.iconst 0, 1) := by decide +kernel
theorem dM_table_47 : decode cM_table 47 = .ok (.invokevirtual 77, 3) := by decide +kernel
theorem dM_table_50 : decode cM_table 50 = .ok (.ifCond .eq 4, 3) := by decide +kernel
theorem dM_table_53 : decode cM_table 53 = .ok (.return_, 1) := by decide +kernel
theorem dM_table_54 : decode cM_table 54 = .ok (.aload_n 0, 1) := by decide +kernel
theorem dM_table_55 : decode cM_table 55 = .ok (.getfield 44, 3) := by decide +kernel
theorem dM_table_58 : decode cM_table 58 = .ok (.bipush 16, 2) := by decide +kernel
theorem dM_table_60 : decode cM_table 60 = .ok (.iload_n 1, 1) := by decide +kernel
theorem dM_table_61 : decode cM_table 61 = .ok (.imul, 1) := by decide +kernel
theorem dM_table_62 : decode cM_table 62 = .ok (.iload_n 2, 1) := by decide +kernel
theorem dM_table_63 : decode cM_table 63 = .ok (.iadd, 1) := by decide +kernel
theorem dM_table_64 : decode cM_table 64 = .ok (.iload_n 3, 1) := by decide +kernel
theorem dM_table_65 : decode cM_table 65 = .ok (.iastore, 1) := by decide +kernel
theorem dM_table_66 : decode cM_table 66 = .ok (.aload_n 0, 1) := by decide +kernel
theorem dM_table_67 : decode cM_table 67 = .ok (.getfield 47, 3) := by decide +kernel
theorem dM_table_70 : decode cM_table 70 = .ok (.bipush 16, 2) := by decide +kernel
theorem dM_table_72 : decode cM_table 72 = .ok (.iload_n 1, 1) := by decide +kernel
theorem dM_table_73 : decode cM_table 73 = .ok (.imul, 1) := by decide +kernel
theorem dM_table_74 : decode cM_table 74 = .ok (.iload_n 2, 1) := by decide +kernel
theorem dM_table_75 : decode cM_table 75 = .ok (.iadd, 1) := by decide +kernel
theorem dM_table_76 : decode cM_table 76 = .ok (.iload 4, 2) := by decide +kernel
theorem dM_table_78 : decode cM_table 78 = .ok (.iastore, 1) := by decide +kernel
theorem dM_table_79 : decode cM_table 79 = .ok (.return_, 1) := by decide +kernel
theorem dM_worn_0 : decode cM_worn 0 = .ok (.aload_n 0, 1) := by decide +kernel
theorem dM_worn_1 : decode cM_worn 1 = .ok (.aload_n 0, 1) := by decide +kernel
theorem dM_worn_2 : decode cM_worn 2 = .ok (.iload_n 1, 1) := by decide +kernel
theorem dM_worn_3 : decode cM_worn 3 = .ok (.invokevirtual 81, 3) := by decide +kernel
theorem dM_worn_6 : decode cM_worn 6 = .ok (.ifCond .eq 13, 3) := by decide +kernel
theorem dM_worn_9 : decode cM_worn 9 = .ok (.iload_n 2, 1) := by decide +kernel
theorem dM_worn_10 : decode cM_worn 10 = .ok (.iconst 0, 1) := by decide +kernel
theorem dM_worn_11 : decode cM_worn 11 = .ok (.bipush 15, 2) := by decide +kernel
theorem dM_worn_13 : decode cM_worn 13 = .ok (.invokestatic 66, 3) := by decide +kernel
theorem dM_worn_16 : decode cM_worn 16 = .ok (.ifCond .ne 7, 3) := by decide +kernel
theorem dM_worn_19 : decode cM_worn 19 = .ok (.iconst 1, 1) := by decide +kernel
theorem dM_worn_20 : decode cM_worn 20 = .ok (.goto 4, 3) := by decide +kernel
theorem dM_worn_23 : decode cM_worn 23 = .ok (.iconst 0, 1) := by decide +kernel
theorem dM_worn_24 : decode cM_worn 24 = .ok (.iconst 0, 1) := by decide +kernel
theorem dM_worn_25 : decode cM_worn 25 = .ok (.iconst 0, 1) := by decide +kernel
theorem dM_worn_26 : decode cM_worn 26 = .ok (.invokevirtual 77, 3) := by decide +kernel
theorem dM_worn_29 : decode cM_worn 29 = .ok (.ifCond .eq 4, 3) := by decide +kernel
theorem dM_worn_32 : decode cM_worn 32 = .ok (.return_, 1) := by decide +kernel
theorem dM_worn_33 : decode cM_worn 33 = .ok (.aload_n 0, 1) := by decide +kernel
theorem dM_worn_34 : decode cM_worn 34 = .ok (.getfield 22, 3) := by decide +kernel
theorem dM_worn_37 : decode cM_worn 37 = .ok (.iload_n 1, 1) := by decide +kernel
theorem dM_worn_38 : decode cM_worn 38 = .ok (.aload_n 0, 1) := by decide +kernel
theorem dM_worn_39 : decode cM_worn 39 = .ok (.getfield 44, 3) := by decide +kernel
theorem dM_worn_42 : decode cM_worn 42 = .ok (.bipush 16, 2) := by decide +kernel
theorem dM_worn_44 : decode cM_worn 44 = .ok (.aload_n 0, 1) := by decide +kernel
theorem dM_worn_45 : decode cM_worn 45 = .ok (.getfield 7, 3) := by decide +kernel
theorem dM_worn_48 : decode cM_worn 48 = .ok (.iload_n 1, 1) := by decide +kernel
theorem dM_worn_49 : decode cM_worn 49 = .ok (.iaload, 1) := by decide +kernel
theorem dM_worn_50 : decode cM_worn 50 = .ok (.imul, 1) := by decide +kernel
theorem dM_worn_51 : decode cM_worn 51 = .ok (.iload_n 2, 1) := by decide +kernel
theorem dM_worn_52 : decode cM_worn 52 = .ok (.iadd, 1) := by decide +kernel
theorem dM_worn_53 : decode cM_worn 53 = .ok (.iaload, 1) := by decide +kernel
theorem dM_worn_54 : decode cM_worn 54 = .ok (.iastore, 1) := by decide +kernel
theorem dM_worn_55 : decode cM_worn 55 = .ok (.aload_n 0, 1) := by decide +kernel
theorem dM_worn_56 : decode cM_worn 56 = .ok (.getfield 25, 3) := by decide +kernel
theorem dM_worn_59 : decode cM_worn 59 = .ok (.iload_n 1, 1) := by decide +kernel
theorem dM_worn_60 : decode cM_worn 60 = .ok (.aload_n 0, 1) := by decide +kernel
theorem dM_worn_61 : decode cM_worn 61 = .ok (.getfield 47, 3) := by decide +kernel
theorem dM_worn_64 : decode cM_worn 64 = .ok (.bipush 16, 2) := by decide +kernel
theorem dM_worn_66 : decode cM_worn 66 = .ok (.aload_n 0, 1) := by decide +kernel
theorem dM_worn_67 : decode cM_worn 67 = .ok (.getfield 7, 3) := by decide +kernel
theorem dM_worn_70 : decode cM_worn 70 = .ok (.iload_n 1, 1) := by decide +kernel
theorem dM_worn_71 : decode cM_worn 71 = .ok (.iaload, 1) := by decide +kernel
theorem dM_worn_72 : decode cM_worn 72 = .ok (.imul, 1) := by decide +kernel
theorem dM_worn_73 : decode cM_worn 73 = .ok (.iload_n 2, 1) := by decide +kernel
theorem dM_worn_74 : decode cM_worn 74 = .ok (.iadd, 1) := by decide +kernel
theorem dM_worn_75 : decode cM_worn 75 = .ok (.iaload, 1) := by decide +kernel
theorem dM_worn_76 : decode cM_worn 76 = .ok (.iastore, 1) := by decide +kernel
theorem dM_worn_77 : decode cM_worn 77 = .ok (.return_, 1) := by decide +kernel
theorem dM_aged_0 : decode cM_aged 0 = .ok (.aload_n 0, 1) := by decide +kernel
theorem dM_aged_1 : decode cM_aged 1 = .ok (.aload_n 0, 1) := by decide +kernel
theorem dM_aged_2 : decode cM_aged 2 = .ok (.iload_n 1, 1) := by decide +kernel
theorem dM_aged_3 : decode cM_aged 3 = .ok (.invokevirtual 81, 3) := by decide +kernel
theorem dM_aged_6 : decode cM_aged 6 = .ok (.ifCond .eq 12, 3) := by decide +kernel
theorem dM_aged_9 : decode cM_aged 9 = .ok (.iload_n 2, 1) := by decide +kernel
theorem dM_aged_10 : decode cM_aged 10 = .ok (.iconst 0, 1) := by decide +kernel
theorem dM_aged_11 : decode cM_aged 11 = .ok (.iconst 1, 1) := by decide +kernel
theorem dM_aged_12 : decode cM_aged 12 = .ok (.invokestatic 66, 3) := by decide +kernel
theorem dM_aged_15 : decode cM_aged 15 = .ok (.ifCond .ne 7, 3) := by decide +kernel
theorem dM_aged_18 : decode cM_aged 18 = .ok (.iconst 1, 1) := by decide +kernel
theorem dM_aged_19 : decode cM_aged 19 = .ok (.goto 4, 3) := by decide +kernel
theorem dM_aged_22 : decode cM_aged 22 = .ok (.iconst 0, 1) := by decide +kernel
theorem dM_aged_23 : decode cM_aged 23 = .ok (.iconst 0, 1) := by decide +kernel
theorem dM_aged_24 : decode cM_aged 24 = .ok (.iconst 0, 1) := by decide +kernel
theorem dM_aged_25 : decode cM_aged 25 = .ok (.invokevirtual 77, 3) := by decide +kernel
theorem dM_aged_28 : decode cM_aged 28 = .ok (.ifCond .eq 5, 3) := by decide +kernel
theorem dM_aged_31 : decode cM_aged 31 = .ok (.iconst 0, 1) := by decide +kernel
theorem dM_aged_32 : decode cM_aged 32 = .ok (.ireturn, 1) := by decide +kernel
theorem dM_aged_33 : decode cM_aged 33 = .ok (.iload_n 2, 1) := by decide +kernel
theorem dM_aged_34 : decode cM_aged 34 = .ok (.ifCond .ne 12, 3) := by decide +kernel
theorem dM_aged_37 : decode cM_aged 37 = .ok (.aload_n 0, 1) := by decide +kernel
theorem dM_aged_38 : decode cM_aged 38 = .ok (.getfield 22, 3) := by decide +kernel
theorem dM_aged_41 : decode cM_aged 41 = .ok (.iload_n 1, 1) := by decide +kernel
theorem dM_aged_42 : decode cM_aged 42 = .ok (.iaload, 1) := by decide +kernel
theorem dM_aged_43 : decode cM_aged 43 = .ok (.goto 9, 3) := by decide +kernel
theorem dM_aged_46 : decode cM_aged 46 = .ok (.aload_n 0, 1) := by decide +kernel
theorem dM_aged_47 : decode cM_aged 47 = .ok (.getfield 25, 3) := by decide +kernel
theorem dM_aged_50 : decode cM_aged 50 = .ok (.iload_n 1, 1) := by decide +kernel
theorem dM_aged_51 : decode cM_aged 51 = .ok (.iaload, 1) := by decide +kernel
theorem dM_aged_52 : decode cM_aged 52 = .ok (.ireturn, 1) := by decide +kernel
theorem dM_unsure_0 : decode cM_unsure 0 = .ok (.aload_n 0, 1) := by decide +kernel
theorem dM_unsure_1 : decode cM_unsure 1 = .ok (.aload_n 0, 1) := by decide +kernel
theorem dM_unsure_2 : decode cM_unsure 2 = .ok (.iload_n 1, 1) := by decide +kernel
theorem dM_unsure_3 : decode cM_unsure 3 = .ok (.invokevirtual 81, 3) := by decide +kernel
theorem dM_unsure_6 : decode cM_unsure 6 = .ok (.ifCond .ne 7, 3) := by decide +kernel
theorem dM_unsure_9 : decode cM_unsure 9 = .ok (.iconst 1, 1) := by decide +kernel
theorem dM_unsure_10 : decode cM_unsure 10 = .ok (.goto 4, 3) := by decide +kernel
theorem dM_unsure_13 : decode cM_unsure 13 = .ok (.iconst 0, 1) := by decide +kernel
theorem dM_unsure_14 : decode cM_unsure 14 = .ok (.iconst 0, 1) := by decide +kernel
theorem dM_unsure_15 : decode cM_unsure 15 = .ok (.iconst 0, 1) := by decide +kernel
theorem dM_unsure_16 : decode cM_unsure 16 = .ok (.invokevirtual 77, 3) := by decide +kernel
theorem dM_unsure_19 : decode cM_unsure 19 = .ok (.ifCond .eq 5, 3) := by decide +kernel
theorem dM_unsure_22 : decode cM_unsure 22 = .ok (.iconst 0, 1) := by decide +kernel
theorem dM_unsure_23 : decode cM_unsure 23 = .ok (.ireturn, 1) := by decide +kernel
theorem dM_unsure_24 : decode cM_unsure 24 = .ok (.aload_n 0, 1) := by decide +kernel
theorem dM_unsure_25 : decode cM_unsure 25 = .ok (.getfield 16, 3) := by decide +kernel
theorem dM_unsure_28 : decode cM_unsure 28 = .ok (.iload_n 1, 1) := by decide +kernel
theorem dM_unsure_29 : decode cM_unsure 29 = .ok (.iaload, 1) := by decide +kernel
theorem dM_unsure_30 : decode cM_unsure 30 = .ok (.iconst 3, 1) := by decide +kernel
theorem dM_unsure_31 : decode cM_unsure 31 = .ok (.if_icmp .ne 7, 3) := by decide +kernel
theorem dM_unsure_34 : decode cM_unsure 34 = .ok (.iconst 1, 1) := by decide +kernel
theorem dM_unsure_35 : decode cM_unsure 35 = .ok (.goto 4, 3) := by decide +kernel
theorem dM_unsure_38 : decode cM_unsure 38 = .ok (.iconst 0, 1) := by decide +kernel
theorem dM_unsure_39 : decode cM_unsure 39 = .ok (.istore_n 2, 1) := by decide +kernel
theorem dM_unsure_40 : decode cM_unsure 40 = .ok (.aload_n 0, 1) := by decide +kernel
theorem dM_unsure_41 : decode cM_unsure 41 = .ok (.getfield 16, 3) := by decide +kernel
theorem dM_unsure_44 : decode cM_unsure 44 = .ok (.iload_n 1, 1) := by decide +kernel
theorem dM_unsure_45 : decode cM_unsure 45 = .ok (.iconst 3, 1) := by decide +kernel
theorem dM_unsure_46 : decode cM_unsure 46 = .ok (.iastore, 1) := by decide +kernel
theorem dM_unsure_47 : decode cM_unsure 47 = .ok (.iload_n 2, 1) := by decide +kernel
theorem dM_unsure_48 : decode cM_unsure 48 = .ok (.ifCond .ne 7, 3) := by decide +kernel
theorem dM_unsure_51 : decode cM_unsure 51 = .ok (.iconst 1, 1) := by decide +kernel
theorem dM_unsure_52 : decode cM_unsure 52 = .ok (.goto 4, 3) := by decide +kernel
theorem dM_unsure_55 : decode cM_unsure 55 = .ok (.iconst 0, 1) := by decide +kernel
theorem dM_unsure_56 : decode cM_unsure 56 = .ok (.ireturn, 1) := by decide +kernel
theorem dM_rule_0 : decode cM_rule 0 = .ok (.aload_n 0, 1) := by decide +kernel
theorem dM_rule_1 : decode cM_rule 1 = .ok (.getfield 13, 3) := by decide +kernel
theorem dM_rule_4 : decode cM_rule 4 = .ok (.iload_n 1, 1) := by decide +kernel
theorem dM_rule_5 : decode cM_rule 5 = .ok (.iaload, 1) := by decide +kernel
theorem dM_rule_6 : decode cM_rule 6 = .ok (.aload_n 0, 1) := by decide +kernel
theorem dM_rule_7 : decode cM_rule 7 = .ok (.getfield 13, 3) := by decide +kernel
theorem dM_rule_10 : decode cM_rule 10 = .ok (.iload_n 2, 1) := by decide +kernel
theorem dM_rule_11 : decode cM_rule 11 = .ok (.iaload, 1) := by decide +kernel
theorem dM_rule_12 : decode cM_rule 12 = .ok (.if_icmp .ne 7, 3) := by decide +kernel
theorem dM_rule_15 : decode cM_rule 15 = .ok (.iconst 1, 1) := by decide +kernel
theorem dM_rule_16 : decode cM_rule 16 = .ok (.goto 4, 3) := by decide +kernel
theorem dM_rule_19 : decode cM_rule 19 = .ok (.iconst 0, 1) := by decide +kernel
theorem dM_rule_20 : decode cM_rule 20 = .ok (.istore_n 3, 1) := by decide +kernel
theorem dM_rule_21 : decode cM_rule 21 = .ok (.iload_n 3, 1) := by decide +kernel
theorem dM_rule_22 : decode cM_rule 22 = .ok (.ifCond .eq 64, 3) := by decide +kernel
theorem dM_rule_25 : decode cM_rule 25 = .ok (.aload_n 0, 1) := by decide +kernel
theorem dM_rule_26 : decode cM_rule 26 = .ok (.getfield 16, 3) := by decide +kernel
theorem dM_rule_29 : decode cM_rule 29 = .ok (.iload_n 1, 1) := by decide +kernel
theorem dM_rule_30 : decode cM_rule 30 = .ok (.iaload, 1) := by decide +kernel
theorem dM_rule_31 : decode cM_rule 31 = .ok (.aload_n 0, 1) := by decide +kernel
theorem dM_rule_32 : decode cM_rule 32 = .ok (.getfield 16, 3) := by decide +kernel
theorem dM_rule_35 : decode cM_rule 35 = .ok (.iload_n 2, 1) := by decide +kernel
theorem dM_rule_36 : decode cM_rule 36 = .ok (.iaload, 1) := by decide +kernel
theorem dM_rule_37 : decode cM_rule 37 = .ok (.if_icmp .ne 49, 3) := by decide +kernel
theorem dM_rule_40 : decode cM_rule 40 = .ok (.aload_n 0, 1) := by decide +kernel
theorem dM_rule_41 : decode cM_rule 41 = .ok (.getfield 16, 3) := by decide +kernel
theorem dM_rule_44 : decode cM_rule 44 = .ok (.iload_n 1, 1) := by decide +kernel
theorem dM_rule_45 : decode cM_rule 45 = .ok (.iaload, 1) := by decide +kernel
theorem dM_rule_46 : decode cM_rule 46 = .ok (.iconst 2, 1) := by decide +kernel
theorem dM_rule_47 : decode cM_rule 47 = .ok (.if_icmp .lt 37, 3) := by decide +kernel
theorem dM_rule_50 : decode cM_rule 50 = .ok (.aload_n 0, 1) := by decide +kernel
theorem dM_rule_51 : decode cM_rule 51 = .ok (.getfield 16, 3) := by decide +kernel
theorem dM_rule_54 : decode cM_rule 54 = .ok (.iload_n 1, 1) := by decide +kernel
theorem dM_rule_55 : decode cM_rule 55 = .ok (.iaload, 1) := by decide +kernel
theorem dM_rule_56 : decode cM_rule 56 = .ok (.iconst 2, 1) := by decide +kernel
theorem dM_rule_57 : decode cM_rule 57 = .ok (.if_icmp .ne 29, 3) := by decide +kernel
theorem dM_rule_60 : decode cM_rule 60 = .ok (.aload_n 0, 1) := by decide +kernel
theorem dM_rule_61 : decode cM_rule 61 = .ok (.getfield 37, 3) := by decide +kernel
theorem dM_rule_64 : decode cM_rule 64 = .ok (.bipush 16, 2) := by decide +kernel
theorem dM_rule_66 : decode cM_rule 66 = .ok (.aload_n 0, 1) := by decide +kernel
theorem dM_rule_67 : decode cM_rule 67 = .ok (.getfield 7, 3) := by decide +kernel
theorem dM_rule_70 : decode cM_rule 70 = .ok (.iload_n 1, 1) := by decide +kernel
theorem dM_rule_71 : decode cM_rule 71 = .ok (.iaload, 1) := by decide +kernel
theorem dM_rule_72 : decode cM_rule 72 = .ok (.imul, 1) := by decide +kernel
theorem dM_rule_73 : decode cM_rule 73 = .ok (.aload_n 0, 1) := by decide +kernel
theorem dM_rule_74 : decode cM_rule 74 = .ok (.getfield 13, 3) := by decide +kernel
theorem dM_rule_77 : decode cM_rule 77 = .ok (.iload_n 1, 1) := by decide +kernel
theorem dM_rule_78 : decode cM_rule 78 = .ok (.iaload, 1) := by decide +kernel
theorem dM_rule_79 : decode cM_rule 79 = .ok (.iadd, 1) := by decide +kernel
theorem dM_rule_80 : decode cM_rule 80 = .ok (.baload, 1) := by decide +kernel
theorem dM_rule_81 : decode cM_rule 81 = .ok (.ifCond .eq 5, 3) := by decide +kernel
theorem dM_rule_84 : decode cM_rule 84 = .ok (.iconst 1, 1) := by decide +kernel
theorem dM_rule_85 : decode cM_rule 85 = .ok (.ireturn, 1) := by decide +kernel
theorem dM_rule_86 : decode cM_rule 86 = .ok (.aload_n 0, 1) := by decide +kernel
theorem dM_rule_87 : decode cM_rule 87 = .ok (.getfield 22, 3) := by decide +kernel
theorem dM_rule_90 : decode cM_rule 90 = .ok (.iload_n 1, 1) := by decide +kernel
theorem dM_rule_91 : decode cM_rule 91 = .ok (.iaload, 1) := by decide +kernel
theorem dM_rule_92 : decode cM_rule 92 = .ok (.aload_n 0, 1) := by decide +kernel
theorem dM_rule_93 : decode cM_rule 93 = .ok (.getfield 25, 3) := by decide +kernel
theorem dM_rule_96 : decode cM_rule 96 = .ok (.iload_n 2, 1) := by decide +kernel
theorem dM_rule_97 : decode cM_rule 97 = .ok (.iaload, 1) := by decide +kernel
theorem dM_rule_98 : decode cM_rule 98 = .ok (.if_icmp .gt 18, 3) := by decide +kernel
theorem dM_rule_101 : decode cM_rule 101 = .ok (.aload_n 0, 1) := by decide +kernel
theorem dM_rule_102 : decode cM_rule 102 = .ok (.getfield 22, 3) := by decide +kernel
theorem dM_rule_105 : decode cM_rule 105 = .ok (.iload_n 2, 1) := by decide +kernel
theorem dM_rule_106 : decode cM_rule 106 = .ok (.iaload, 1) := by decide +kernel
theorem dM_rule_107 : decode cM_rule 107 = .ok (.aload_n 0, 1) := by decide +kernel
theorem dM_rule_108 : decode cM_rule 108 = .ok (.getfield 25, 3) := by decide +kernel
theorem dM_rule_111 : decode cM_rule 111 = .ok (.iload_n 1, 1) := by decide +kernel
theorem dM_rule_112 : decode cM_rule 112 = .ok (.iaload, 1) := by decide +kernel
theorem dM_rule_113 : decode cM_rule 113 = .ok (.if_icmp .le 5, 3) := by decide +kernel
theorem dM_rule_116 : decode cM_rule 116 = .ok (.iconst 2, 1) := by decide +kernel
theorem dM_rule_117 : decode cM_rule 117 = .ok (.ireturn, 1) := by decide +kernel
theorem dM_rule_118 : decode cM_rule 118 = .ok (.aload_n 0, 1) := by decide +kernel
theorem dM_rule_119 : decode cM_rule 119 = .ok (.getfield 19, 3) := by decide +kernel
theorem dM_rule_122 : decode cM_rule 122 = .ok (.iload_n 1, 1) := by decide +kernel
theorem dM_rule_123 : decode cM_rule 123 = .ok (.iaload, 1) := by decide +kernel
theorem dM_rule_124 : decode cM_rule 124 = .ok (.aload_n 0, 1) := by decide +kernel
theorem dM_rule_125 : decode cM_rule 125 = .ok (.getfield 19, 3) := by decide +kernel
theorem dM_rule_128 : decode cM_rule 128 = .ok (.iload_n 2, 1) := by decide +kernel
theorem dM_rule_129 : decode cM_rule 129 = .ok (.iaload, 1) := by decide +kernel
theorem dM_rule_130 : decode cM_rule 130 = .ok (.if_icmp .le 19, 3) := by decide +kernel
theorem dM_rule_133 : decode cM_rule 133 = .ok (.aload_n 0, 1) := by decide +kernel
theorem dM_rule_134 : decode cM_rule 134 = .ok (.getfield 19, 3) := by decide +kernel
theorem dM_rule_137 : decode cM_rule 137 = .ok (.iload_n 1, 1) := by decide +kernel
theorem dM_rule_138 : decode cM_rule 138 = .ok (.iaload, 1) := by decide +kernel
theorem dM_rule_139 : decode cM_rule 139 = .ok (.aload_n 0, 1) := by decide +kernel
theorem dM_rule_140 : decode cM_rule 140 = .ok (.getfield 19, 3) := by decide +kernel
theorem dM_rule_143 : decode cM_rule 143 = .ok (.iload_n 2, 1) := by decide +kernel
theorem dM_rule_144 : decode cM_rule 144 = .ok (.iaload, 1) := by decide +kernel
theorem dM_rule_145 : decode cM_rule 145 = .ok (.isub, 1) := by decide +kernel
theorem dM_rule_146 : decode cM_rule 146 = .ok (.goto 16, 3) := by decide +kernel
theorem dM_rule_149 : decode cM_rule 149 = .ok (.aload_n 0, 1) := by decide +kernel
theorem dM_rule_150 : decode cM_rule 150 = .ok (.getfield 19, 3) := by decide +kernel
theorem dM_rule_153 : decode cM_rule 153 = .ok (.iload_n 2, 1) := by decide +kernel
theorem dM_rule_154 : decode cM_rule 154 = .ok (.iaload, 1) := by decide +kernel
theorem dM_rule_155 : decode cM_rule 155 = .ok (.aload_n 0, 1) := by decide +kernel
theorem dM_rule_156 : decode cM_rule 156 = .ok (.getfield 19, 3) := by decide +kernel
theorem dM_rule_159 : decode cM_rule 159 = .ok (.iload_n 1, 1) := by decide +kernel
theorem dM_rule_160 : decode cM_rule 160 = .ok (.iaload, 1) := by decide +kernel
theorem dM_rule_161 : decode cM_rule 161 = .ok (.isub, 1) := by decide +kernel
theorem dM_rule_162 : decode cM_rule 162 = .ok (.istore 4, 2) := by decide +kernel
theorem dM_rule_164 : decode cM_rule 164 = .ok (.iload_n 3, 1) := by decide +kernel
theorem dM_rule_165 : decode cM_rule 165 = .ok (.ifCond .eq 41, 3) := by decide +kernel
theorem dM_rule_168 : decode cM_rule 168 = .ok (.aload_n 0, 1) := by decide +kernel
theorem dM_rule_169 : decode cM_rule 169 = .ok (.getfield 19, 3) := by decide +kernel
theorem dM_rule_172 : decode cM_rule 172 = .ok (.iload_n 1, 1) := by decide +kernel
theorem dM_rule_173 : decode cM_rule 173 = .ok (.iaload, 1) := by decide +kernel
theorem dM_rule_174 : decode cM_rule 174 = .ok (.ifCond .le 32, 3) := by decide +kernel
theorem dM_rule_177 : decode cM_rule 177 = .ok (.aload_n 0, 1) := by decide +kernel
theorem dM_rule_178 : decode cM_rule 178 = .ok (.getfield 19, 3) := by decide +kernel
theorem dM_rule_181 : decode cM_rule 181 = .ok (.iload_n 2, 1) := by decide +kernel
theorem dM_rule_182 : decode cM_rule 182 = .ok (.iaload, 1) := by decide +kernel
theorem dM_rule_183 : decode cM_rule 183 = .ok (.ifCond .le 23, 3) := by decide +kernel
theorem dM_rule_186 : decode cM_rule 186 = .ok (.iload 4, 2) := by decide +kernel
theorem dM_rule_188 : decode cM_rule 188 = .ok (.aload_n 0, 1) := by decide +kernel
theorem dM_rule_189 : decode cM_rule 189 = .ok (.getfield 41, 3) := by decide +kernel
theorem dM_rule_192 : decode cM_rule 192 = .ok (.aload_n 0, 1) := by decide +kernel
theorem dM_rule_193 : decode cM_rule 193 = .ok (.getfield 7, 3) := by decide +kernel
theorem dM_rule_196 : decode cM_rule 196 = .ok (.iload_n 1, 1) := by decide +kernel
theorem dM_rule_197 : decode cM_rule 197 = .ok (.iaload, 1) := by decide +kernel
theorem dM_rule_198 : decode cM_rule 198 = .ok (.iaload, 1) := by decide +kernel
theorem dM_rule_199 : decode cM_rule 199 = .ok (.if_icmp .le 7, 3) := by decide +kernel
theorem dM_rule_202 : decode cM_rule 202 = .ok (.iconst 3, 1) := by decide +kernel
theorem dM_rule_203 : decode cM_rule 203 = .ok (.goto 4, 3) := by decide +kernel
theorem dM_rule_206 : decode cM_rule 206 = .ok (.iconst 0, 1) := by decide +kernel
theorem dM_rule_207 : decode cM_rule 207 = .ok (.ireturn, 1) := by decide +kernel
theorem dM_clash_0 : decode cM_clash 0 = .ok (.aload_n 0, 1) := by decide +kernel
theorem dM_clash_1 : decode cM_clash 1 = .ok (.iload_n 1, 1) := by decide +kernel
theorem dM_clash_2 : decode cM_clash 2 = .ok (.invokevirtual 81, 3) := by decide +kernel
theorem dM_clash_5 : decode cM_clash 5 = .ok (.ifCond .eq 11, 3) := by decide +kernel
theorem dM_clash_8 : decode cM_clash 8 = .ok (.aload_n 0, 1) := by decide +kernel
theorem dM_clash_9 : decode cM_clash 9 = .ok (.iload_n 2, 1) := by decide +kernel
theorem dM_clash_10 : decode cM_clash 10 = .ok (.invokevirtual 81, 3) := by decide +kernel
theorem dM_clash_13 : decode cM_clash 13 = .ok (.ifCond .ne 7, 3) := by decide +kernel
theorem dM_clash_16 : decode cM_clash 16 = .ok (.iconst 1, 1) := by decide +kernel
theorem dM_clash_17 : decode cM_clash 17 = .ok (.goto 4, 3) := by decide +kernel
theorem dM_clash_20 : decode cM_clash 20 = .ok (.iconst 0, 1) := by decide +kernel
theorem dM_clash_21 : decode cM_clash 21 = .ok (.istore_n 3, 1) := by decide +kernel
theorem dM_clash_22 : decode cM_clash 22 = .ok (.aload_n 0, 1) := by decide +kernel
theorem dM_clash_23 : decode cM_clash 23 = .ok (.iload_n 3, 1) := by decide +kernel
theorem dM_clash_24 : decode cM_clash 24 = .ok (.iload_n 3, 1) := by decide +kernel
theorem dM_clash_25 : decode cM_clash 25 = .ok (.ifCond .ne 27, 3) := by decide +kernel
theorem dM_clash_28 : decode cM_clash 28 = .ok (.iload_n 1, 1) := by decide +kernel
theorem dM_clash_29 : decode cM_clash 29 = .ok (.iload_n 2, 1) := by decide +kernel
theorem dM_clash_30 : decode cM_clash 30 = .ok (.if_icmp .eq 18, 3) := by decide +kernel
theorem dM_clash_33 : decode cM_clash 33 = .ok (.aload_n 0, 1) := by decide +kernel
theorem dM_clash_34 : decode cM_clash 34 = .ok (.getfield 7, 3) := by decide +kernel
theorem dM_clash_37 : decode cM_clash 37 = .ok (.iload_n 1, 1) := by decide +kernel
theorem dM_clash_38 : decode cM_clash 38 = .ok (.iaload, 1) := by decide +kernel
theorem dM_clash_39 : decode cM_clash 39 = .ok (.aload_n 0, 1) := by decide +kernel
theorem dM_clash_40 : decode cM_clash 40 = .ok (.getfield 7, 3) := by decide +kernel
theorem dM_clash_43 : decode cM_clash 43 = .ok (.iload_n 2, 1) := by decide +kernel
theorem dM_clash_44 : decode cM_clash 44 = .ok (.iaload, 1) := by decide +kernel
theorem dM_clash_45 : decode cM_clash 45 = .ok (.if_icmp .eq 7, 3) := by decide +kernel
theorem dM_clash_48 : decode cM_clash 48 = .ok (.iconst 1, 1) := by decide +kernel
theorem dM_clash_49 : decode cM_clash 49 = .ok (.goto 4, 3) := by decide +kernel
theorem dM_clash_52 : decode cM_clash 52 = .ok (.iconst 0, 1) := by decide +kernel
theorem dM_clash_53 : decode cM_clash 53 = .ok (.iconst 0, 1) := by decide +kernel
theorem dM_clash_54 : decode cM_clash 54 = .ok (.invokevirtual 77, 3) := by decide +kernel
theorem dM_clash_57 : decode cM_clash 57 = .ok (.ifCond .eq 5, 3) := by decide +kernel
theorem dM_clash_60 : decode cM_clash 60 = .ok (.iconst 0, 1) := by decide +kernel
theorem dM_clash_61 : decode cM_clash 61 = .ok (.ireturn, 1) := by decide +kernel
theorem dM_clash_62 : decode cM_clash 62 = .ok (.aload_n 0, 1) := by decide +kernel
theorem dM_clash_63 : decode cM_clash 63 = .ok (.iload_n 1, 1) := by decide +kernel
theorem dM_clash_64 : decode cM_clash 64 = .ok (.iload_n 2, 1) := by decide +kernel
theorem dM_clash_65 : decode cM_clash 65 = .ok (.invokevirtual 84, 3) := by decide +kernel
theorem dM_clash_68 : decode cM_clash 68 = .ok (.ireturn, 1) := by decide +kernel
theorem dM_clashes_0 : decode cM_clashes 0 = .ok (.aload_n 0, 1) := by decide +kernel
theorem dM_clashes_1 : decode cM_clashes 1 = .ok (.aload_n 0, 1) := by decide +kernel
theorem dM_clashes_2 : decode cM_clashes 2 = .ok (.getfield 34, 3) := by decide +kernel
theorem dM_clashes_5 : decode cM_clashes 5 = .ok (.bipush 12, 2) := by decide +kernel
theorem dM_clashes_7 : decode cM_clashes 7 = .ok (.iload_n 1, 1) := by decide +kernel
theorem dM_clashes_8 : decode cM_clashes 8 = .ok (.imul, 1) := by decide +kernel
theorem dM_clashes_9 : decode cM_clashes 9 = .ok (.iload_n 2, 1) := by decide +kernel
theorem dM_clashes_10 : decode cM_clashes 10 = .ok (.iadd, 1) := by decide +kernel
theorem dM_clashes_11 : decode cM_clashes 11 = .ok (.iaload, 1) := by decide +kernel
theorem dM_clashes_12 : decode cM_clashes 12 = .ok (.aload_n 0, 1) := by decide +kernel
theorem dM_clashes_13 : decode cM_clashes 13 = .ok (.getfield 34, 3) := by decide +kernel
theorem dM_clashes_16 : decode cM_clashes 16 = .ok (.bipush 12, 2) := by decide +kernel
theorem dM_clashes_18 : decode cM_clashes 18 = .ok (.iload_n 1, 1) := by decide +kernel
theorem dM_clashes_19 : decode cM_clashes 19 = .ok (.imul, 1) := by decide +kernel
theorem dM_clashes_20 : decode cM_clashes 20 = .ok (.iload_n 3, 1) := by decide +kernel
theorem dM_clashes_21 : decode cM_clashes 21 = .ok (.iadd, 1) := by decide +kernel
theorem dM_clashes_22 : decode cM_clashes 22 = .ok (.iaload, 1) := by decide +kernel
theorem dM_clashes_23 : decode cM_clashes 23 = .ok (.invokevirtual 84, 3) := by decide +kernel
theorem dM_clashes_26 : decode cM_clashes 26 = .ok (.ifCond .le 7, 3) := by decide +kernel
theorem dM_clashes_29 : decode cM_clashes 29 = .ok (.iconst 1, 1) := by decide +kernel
theorem dM_clashes_30 : decode cM_clashes 30 = .ok (.goto 4, 3) := by decide +kernel
theorem dM_clashes_33 : decode cM_clashes 33 = .ok (.iconst 0, 1) := by decide +kernel
theorem dM_clashes_34 : decode cM_clashes 34 = .ok (.ireturn, 1) := by decide +kernel
theorem dM_fits_0 : decode cM_fits 0 = .ok (.iconst 1, 1) := by decide +kernel
theorem dM_fits_1 : decode cM_fits 1 = .ok (.istore 4, 2) := by decide +kernel
theorem dM_fits_3 : decode cM_fits 3 = .ok (.iconst 0, 1) := by decide +kernel
theorem dM_fits_4 : decode cM_fits 4 = .ok (.istore 5, 2) := by decide +kernel
theorem dM_fits_6 : decode cM_fits 6 = .ok (.iload 5, 2) := by decide +kernel
theorem dM_fits_8 : decode cM_fits 8 = .ok (.iload_n 2, 1) := by decide +kernel
theorem dM_fits_9 : decode cM_fits 9 = .ok (.if_icmp .ge 43, 3) := by decide +kernel
theorem dM_fits_12 : decode cM_fits 12 = .ok (.iload 4, 2) := by decide +kernel
theorem dM_fits_14 : decode cM_fits 14 = .ok (.ifCond .eq 29, 3) := by decide +kernel
theorem dM_fits_17 : decode cM_fits 17 = .ok (.aload_n 0, 1) := by decide +kernel
theorem dM_fits_18 : decode cM_fits 18 = .ok (.getfield 56, 3) := by decide +kernel
theorem dM_fits_21 : decode cM_fits 21 = .ok (.iload 5, 2) := by decide +kernel
theorem dM_fits_23 : decode cM_fits 23 = .ok (.iaload, 1) := by decide +kernel
theorem dM_fits_24 : decode cM_fits 24 = .ok (.iload_n 3, 1) := by decide +kernel
theorem dM_fits_25 : decode cM_fits 25 = .ok (.if_icmp .ne 14, 3) := by decide +kernel
theorem dM_fits_28 : decode cM_fits 28 = .ok (.aload_n 0, 1) := by decide +kernel
theorem dM_fits_29 : decode cM_fits 29 = .ok (.iload_n 1, 1) := by decide +kernel
theorem dM_fits_30 : decode cM_fits 30 = .ok (.iload 5, 2) := by decide +kernel
theorem dM_fits_32 : decode cM_fits 32 = .ok (.iload_n 2, 1) := by decide +kernel
theorem dM_fits_33 : decode cM_fits 33 = .ok (.invokevirtual 88, 3) := by decide +kernel
theorem dM_fits_36 : decode cM_fits 36 = .ok (.ifCond .ne 7, 3) := by decide +kernel
theorem dM_fits_39 : decode cM_fits 39 = .ok (.iconst 1, 1) := by decide +kernel
theorem dM_fits_40 : decode cM_fits 40 = .ok (.goto 4, 3) := by decide +kernel
theorem dM_fits_43 : decode cM_fits 43 = .ok (.iconst 0, 1) := by decide +kernel
theorem dM_fits_44 : decode cM_fits 44 = .ok (.istore 4, 2) := by decide +kernel
theorem dM_fits_46 : decode cM_fits 46 = .ok (.iinc 5 1, 3) := by decide +kernel
theorem dM_fits_49 : decode cM_fits 49 = .ok (.goto (-43), 3) := by decide +kernel
theorem dM_fits_52 : decode cM_fits 52 = .ok (.iload 4, 2) := by decide +kernel
theorem dM_fits_54 : decode cM_fits 54 = .ok (.ireturn, 1) := by decide +kernel
theorem dM_parts_0 : decode cM_parts 0 = .ok (.aload_n 0, 1) := by decide +kernel
theorem dM_parts_1 : decode cM_parts 1 = .ok (.getfield 31, 3) := by decide +kernel
theorem dM_parts_4 : decode cM_parts 4 = .ok (.iload_n 1, 1) := by decide +kernel
theorem dM_parts_5 : decode cM_parts 5 = .ok (.iaload, 1) := by decide +kernel
theorem dM_parts_6 : decode cM_parts 6 = .ok (.istore_n 3, 1) := by decide +kernel
theorem dM_parts_7 : decode cM_parts 7 = .ok (.iconst 0, 1) := by decide +kernel
theorem dM_parts_8 : decode cM_parts 8 = .ok (.istore 4, 2) := by decide +kernel
theorem dM_parts_10 : decode cM_parts 10 = .ok (.iconst 0, 1) := by decide +kernel
theorem dM_parts_11 : decode cM_parts 11 = .ok (.istore 5, 2) := by decide +kernel
theorem dM_parts_13 : decode cM_parts 13 = .ok (.aload_n 0, 1) := by decide +kernel
theorem dM_parts_14 : decode cM_parts 14 = .ok (.getfield 59, 3) := by decide +kernel
theorem dM_parts_17 : decode cM_parts 17 = .ok (.iconst 0, 1) := by decide +kernel
theorem dM_parts_18 : decode cM_parts 18 = .ok (.iconst 0, 1) := by decide +kernel
theorem dM_parts_19 : decode cM_parts 19 = .ok (.iastore, 1) := by decide +kernel
theorem dM_parts_20 : decode cM_parts 20 = .ok (.iload 4, 2) := by decide +kernel
theorem dM_parts_22 : decode cM_parts 22 = .ok (.ifCond .lt 155, 3) := by decide +kernel
theorem dM_parts_25 : decode cM_parts 25 = .ok (.iload 4, 2) := by decide +kernel
theorem dM_parts_27 : decode cM_parts 27 = .ok (.iload_n 3, 1) := by decide +kernel
theorem dM_parts_28 : decode cM_parts 28 = .ok (.if_icmp .ge 149, 3) := by decide +kernel
theorem dM_parts_31 : decode cM_parts 31 = .ok (.iload 5, 2) := by decide +kernel
theorem dM_parts_33 : decode cM_parts 33 = .ok (.istore 6, 2) := by decide +kernel
theorem dM_parts_35 : decode cM_parts 35 = .ok (.aload_n 0, 1) := by decide +kernel
theorem dM_parts_36 : decode cM_parts 36 = .ok (.getfield 59, 3) := by decide +kernel
theorem dM_parts_39 : decode cM_parts 39 = .ok (.iload 4, 2) := by decide +kernel
theorem dM_parts_41 : decode cM_parts 41 = .ok (.iaload, 1) := by decide +kernel
theorem dM_parts_42 : decode cM_parts 42 = .ok (.iload_n 2, 1) := by decide +kernel
theorem dM_parts_43 : decode cM_parts 43 = .ok (.if_icmp .ge 13, 3) := by decide +kernel
theorem dM_parts_46 : decode cM_parts 46 = .ok (.aload_n 0, 1) := by decide +kernel
theorem dM_parts_47 : decode cM_parts 47 = .ok (.getfield 59, 3) := by decide +kernel
theorem dM_parts_50 : decode cM_parts 50 = .ok (.iload 4, 2) := by decide +kernel
theorem dM_parts_52 : decode cM_parts 52 = .ok (.iaload, 1) := by decide +kernel
theorem dM_parts_53 : decode cM_parts 53 = .ok (.goto 6, 3) := by decide +kernel
theorem dM_parts_56 : decode cM_parts 56 = .ok (.iload_n 2, 1) := by decide +kernel
theorem dM_parts_57 : decode cM_parts 57 = .ok (.iconst 1, 1) := by decide +kernel
theorem dM_parts_58 : decode cM_parts 58 = .ok (.isub, 1) := by decide +kernel
theorem dM_parts_59 : decode cM_parts 59 = .ok (.istore 7, 2) := by decide +kernel
theorem dM_parts_61 : decode cM_parts 61 = .ok (.iload 6, 2) := by decide +kernel
theorem dM_parts_63 : decode cM_parts 63 = .ok (.iload 7, 2) := by decide +kernel
theorem dM_parts_65 : decode cM_parts 65 = .ok (.if_icmp .gt 21, 3) := by decide +kernel
theorem dM_parts_68 : decode cM_parts 68 = .ok (.aload_n 0, 1) := by decide +kernel
theorem dM_parts_69 : decode cM_parts 69 = .ok (.iload_n 1, 1) := by decide +kernel
theorem dM_parts_70 : decode cM_parts 70 = .ok (.iload 4, 2) := by decide +kernel
theorem dM_parts_72 : decode cM_parts 72 = .ok (.iload 6, 2) := by decide +kernel
theorem dM_parts_74 : decode cM_parts 74 = .ok (.invokevirtual 91, 3) := by decide +kernel
theorem dM_parts_77 : decode cM_parts 77 = .ok (.ifCond .ne 9, 3) := by decide +kernel
theorem dM_parts_80 : decode cM_parts 80 = .ok (.iinc 6 1, 3) := by decide +kernel
theorem dM_parts_83 : decode cM_parts 83 = .ok (.goto (-22), 3) := by decide +kernel
theorem dM_parts_86 : decode cM_parts 86 = .ok (.iload 6, 2) := by decide +kernel
theorem dM_parts_88 : decode cM_parts 88 = .ok (.iload 7, 2) := by decide +kernel
theorem dM_parts_90 : decode cM_parts 90 = .ok (.if_icmp .gt 61, 3) := by decide +kernel
theorem dM_parts_93 : decode cM_parts 93 = .ok (.aload_n 0, 1) := by decide +kernel
theorem dM_parts_94 : decode cM_parts 94 = .ok (.getfield 56, 3) := by decide +kernel
theorem dM_parts_97 : decode cM_parts 97 = .ok (.iload 4, 2) := by decide +kernel
theorem dM_parts_99 : decode cM_parts 99 = .ok (.iload 6, 2) := by decide +kernel
theorem dM_parts_101 : decode cM_parts 101 = .ok (.iastore, 1) := by decide +kernel
theorem dM_parts_102 : decode cM_parts 102 = .ok (.aload_n 0, 1) := by decide +kernel
theorem dM_parts_103 : decode cM_parts 103 = .ok (.getfield 59, 3) := by decide +kernel
theorem dM_parts_106 : decode cM_parts 106 = .ok (.iload 4, 2) := by decide +kernel
theorem dM_parts_108 : decode cM_parts 108 = .ok (.iconst 1, 1) := by decide +kernel
theorem dM_parts_109 : decode cM_parts 109 = .ok (.iadd, 1) := by decide +kernel
theorem dM_parts_110 : decode cM_parts 110 = .ok (.iload 6, 2) := by decide +kernel
theorem dM_parts_112 : decode cM_parts 112 = .ok (.aload_n 0, 1) := by decide +kernel
theorem dM_parts_113 : decode cM_parts 113 = .ok (.getfield 59, 3) := by decide +kernel
theorem dM_parts_116 : decode cM_parts 116 = .ok (.iload 4, 2) := by decide +kernel
theorem dM_parts_118 : decode cM_parts 118 = .ok (.iaload, 1) := by decide +kernel
theorem dM_parts_119 : decode cM_parts 119 = .ok (.if_icmp .ne 15, 3) := by decide +kernel
theorem dM_parts_122 : decode cM_parts 122 = .ok (.aload_n 0, 1) := by decide +kernel
theorem dM_parts_123 : decode cM_parts 123 = .ok (.getfield 59, 3) := by decide +kernel
theorem dM_parts_126 : decode cM_parts 126 = .ok (.iload 4, 2) := by decide +kernel
theorem dM_parts_128 : decode cM_parts 128 = .ok (.iaload, 1) := by decide +kernel
theorem dM_parts_129 : decode cM_parts 129 = .ok (.iconst 1, 1) := by decide +kernel
theorem dM_parts_130 : decode cM_parts 130 = .ok (.iadd, 1) := by decide +kernel
theorem dM_parts_131 : decode cM_parts 131 = .ok (.goto 10, 3) := by decide +kernel
theorem dM_parts_134 : decode cM_parts 134 = .ok (.aload_n 0, 1) := by decide +kernel
theorem dM_parts_135 : decode cM_parts 135 = .ok (.getfield 59, 3) := by decide +kernel
theorem dM_parts_138 : decode cM_parts 138 = .ok (.iload 4, 2) := by decide +kernel
theorem dM_parts_140 : decode cM_parts 140 = .ok (.iaload, 1) := by decide +kernel
theorem dM_parts_141 : decode cM_parts 141 = .ok (.iastore, 1) := by decide +kernel
theorem dM_parts_142 : decode cM_parts 142 = .ok (.iconst 0, 1) := by decide +kernel
theorem dM_parts_143 : decode cM_parts 143 = .ok (.istore 5, 2) := by decide +kernel
theorem dM_parts_145 : decode cM_parts 145 = .ok (.iinc 4 1, 3) := by decide +kernel
theorem dM_parts_148 : decode cM_parts 148 = .ok (.goto 26, 3) := by decide +kernel
theorem dM_parts_151 : decode cM_parts 151 = .ok (.iinc 4 (-1), 3) := by decide +kernel
theorem dM_parts_154 : decode cM_parts 154 = .ok (.iload 4, 2) := by decide +kernel
theorem dM_parts_156 : decode cM_parts 156 = .ok (.ifCond .ge 7, 3) := by decide +kernel
theorem dM_parts_159 : decode cM_parts 159 = .ok (.iconst 0, 1) := by decide +kernel
theorem dM_parts_160 : decode cM_parts 160 = .ok (.goto 12, 3) := by decide +kernel
theorem dM_parts_163 : decode cM_parts 163 = .ok (.aload_n 0, 1) := by decide +kernel
theorem dM_parts_164 : decode cM_parts 164 = .ok (.getfield 56, 3) := by decide +kernel
theorem dM_parts_167 : decode cM_parts 167 = .ok (.iload 4, 2) := by decide +kernel
theorem dM_parts_169 : decode cM_parts 169 = .ok (.iaload, 1) := by decide +kernel
theorem dM_parts_170 : decode cM_parts 170 = .ok (.iconst 1, 1) := by decide +kernel
theorem dM_parts_171 : decode cM_parts 171 = .ok (.iadd, 1) := by decide +kernel
theorem dM_parts_172 : decode cM_parts 172 = .ok (.istore 5, 2) := by decide +kernel
theorem dM_parts_174 : decode cM_parts 174 = .ok (.goto (-154), 3) := by decide +kernel
theorem dM_parts_177 : decode cM_parts 177 = .ok (.iload 4, 2) := by decide +kernel
theorem dM_parts_179 : decode cM_parts 179 = .ok (.iload_n 3, 1) := by decide +kernel
theorem dM_parts_180 : decode cM_parts 180 = .ok (.if_icmp .ne 7, 3) := by decide +kernel
theorem dM_parts_183 : decode cM_parts 183 = .ok (.iconst 1, 1) := by decide +kernel
theorem dM_parts_184 : decode cM_parts 184 = .ok (.goto 4, 3) := by decide +kernel
theorem dM_parts_187 : decode cM_parts 187 = .ok (.iconst 0, 1) := by decide +kernel
theorem dM_parts_188 : decode cM_parts 188 = .ok (.ireturn, 1) := by decide +kernel
theorem dM_part_0 : decode cM_part 0 = .ok (.aload_n 0, 1) := by decide +kernel
theorem dM_part_1 : decode cM_part 1 = .ok (.getfield 31, 3) := by decide +kernel
theorem dM_part_4 : decode cM_part 4 = .ok (.iload_n 1, 1) := by decide +kernel
theorem dM_part_5 : decode cM_part 5 = .ok (.iaload, 1) := by decide +kernel
theorem dM_part_6 : decode cM_part 6 = .ok (.ifCond .ne 5, 3) := by decide +kernel
theorem dM_part_9 : decode cM_part 9 = .ok (.iconst 0, 1) := by decide +kernel
theorem dM_part_10 : decode cM_part 10 = .ok (.ireturn, 1) := by decide +kernel
theorem dM_part_11 : decode cM_part 11 = .ok (.iconst 1, 1) := by decide +kernel
theorem dM_part_12 : decode cM_part 12 = .ok (.istore_n 2, 1) := by decide +kernel
theorem dM_part_13 : decode cM_part 13 = .ok (.aload_n 0, 1) := by decide +kernel
theorem dM_part_14 : decode cM_part 14 = .ok (.iload_n 1, 1) := by decide +kernel
theorem dM_part_15 : decode cM_part 15 = .ok (.iload_n 2, 1) := by decide +kernel
theorem dM_part_16 : decode cM_part 16 = .ok (.invokevirtual 94, 3) := by decide +kernel
theorem dM_part_19 : decode cM_part 19 = .ok (.ifCond .ne 9, 3) := by decide +kernel
theorem dM_part_22 : decode cM_part 22 = .ok (.iinc 2 1, 3) := by decide +kernel
theorem dM_part_25 : decode cM_part 25 = .ok (.goto (-12), 3) := by decide +kernel
theorem dM_part_28 : decode cM_part 28 = .ok (.iload_n 2, 1) := by decide +kernel
theorem dM_part_29 : decode cM_part 29 = .ok (.ireturn, 1) := by decide +kernel
theorem dM_least_0 : decode cM_least 0 = .ok (.aload_n 0, 1) := by decide +kernel
theorem dM_least_1 : decode cM_least 1 = .ok (.iload_n 1, 1) := by decide +kernel
theorem dM_least_2 : decode cM_least 2 = .ok (.invokestatic 73, 3) := by decide +kernel
theorem dM_least_5 : decode cM_least 5 = .ok (.ifCond .ne 7, 3) := by decide +kernel
theorem dM_least_8 : decode cM_least 8 = .ok (.iconst 1, 1) := by decide +kernel
theorem dM_least_9 : decode cM_least 9 = .ok (.goto 4, 3) := by decide +kernel
theorem dM_least_12 : decode cM_least 12 = .ok (.iconst 0, 1) := by decide +kernel
theorem dM_least_13 : decode cM_least 13 = .ok (.iconst 0, 1) := by decide +kernel
theorem dM_least_14 : decode cM_least 14 = .ok (.iconst 0, 1) := by decide +kernel
theorem dM_least_15 : decode cM_least 15 = .ok (.invokevirtual 77, 3) := by decide +kernel
theorem dM_least_18 : decode cM_least 18 = .ok (.ifCond .eq 5, 3) := by decide +kernel
theorem dM_least_21 : decode cM_least 21 = .ok (.iconst 0, 1) := by decide +kernel
theorem dM_least_22 : decode cM_least 22 = .ok (.ireturn, 1) := by decide +kernel
theorem dM_least_23 : decode cM_least 23 = .ok (.aload_n 0, 1) := by decide +kernel
theorem dM_least_24 : decode cM_least 24 = .ok (.iload_n 1, 1) := by decide +kernel
theorem dM_least_25 : decode cM_least 25 = .ok (.invokevirtual 98, 3) := by decide +kernel
theorem dM_least_28 : decode cM_least 28 = .ok (.ireturn, 1) := by decide +kernel
theorem dM_animal_0 : decode cM_animal 0 = .ok (.aload_n 0, 1) := by decide +kernel
theorem dM_animal_1 : decode cM_animal 1 = .ok (.aload_n 0, 1) := by decide +kernel
theorem dM_animal_2 : decode cM_animal 2 = .ok (.iload_n 1, 1) := by decide +kernel
theorem dM_animal_3 : decode cM_animal 3 = .ok (.invokevirtual 81, 3) := by decide +kernel
theorem dM_animal_6 : decode cM_animal 6 = .ok (.ifCond .ne 7, 3) := by decide +kernel
theorem dM_animal_9 : decode cM_animal 9 = .ok (.iconst 1, 1) := by decide +kernel
theorem dM_animal_10 : decode cM_animal 10 = .ok (.goto 4, 3) := by decide +kernel
theorem dM_animal_13 : decode cM_animal 13 = .ok (.iconst 0, 1) := by decide +kernel
theorem dM_animal_14 : decode cM_animal 14 = .ok (.iconst 0, 1) := by decide +kernel
theorem dM_animal_15 : decode cM_animal 15 = .ok (.iconst 0, 1) := by decide +kernel
theorem dM_animal_16 : decode cM_animal 16 = .ok (.invokevirtual 77, 3) := by decide +kernel
theorem dM_animal_19 : decode cM_animal 19 = .ok (.ifCond .eq 5, 3) := by decide +kernel
theorem dM_animal_22 : decode cM_animal 22 = .ok (.iconst 0, 1) := by decide +kernel
theorem dM_animal_23 : decode cM_animal 23 = .ok (.ireturn, 1) := by decide +kernel
theorem dM_animal_24 : decode cM_animal 24 = .ok (.aload_n 0, 1) := by decide +kernel
theorem dM_animal_25 : decode cM_animal 25 = .ok (.aload_n 0, 1) := by decide +kernel
theorem dM_animal_26 : decode cM_animal 26 = .ok (.getfield 7, 3) := by decide +kernel
theorem dM_animal_29 : decode cM_animal 29 = .ok (.iload_n 1, 1) := by decide +kernel
theorem dM_animal_30 : decode cM_animal 30 = .ok (.iaload, 1) := by decide +kernel
theorem dM_animal_31 : decode cM_animal 31 = .ok (.invokevirtual 98, 3) := by decide +kernel
theorem dM_animal_34 : decode cM_animal 34 = .ok (.istore_n 2, 1) := by decide +kernel
theorem dM_animal_35 : decode cM_animal 35 = .ok (.iconst 0, 1) := by decide +kernel
theorem dM_animal_36 : decode cM_animal 36 = .ok (.istore_n 3, 1) := by decide +kernel
theorem dM_animal_37 : decode cM_animal 37 = .ok (.aload_n 0, 1) := by decide +kernel
theorem dM_animal_38 : decode cM_animal 38 = .ok (.getfield 34, 3) := by decide +kernel
theorem dM_animal_41 : decode cM_animal 41 = .ok (.bipush 12, 2) := by decide +kernel
theorem dM_animal_43 : decode cM_animal 43 = .ok (.aload_n 0, 1) := by decide +kernel
theorem dM_animal_44 : decode cM_animal 44 = .ok (.getfield 7, 3) := by decide +kernel
theorem dM_animal_47 : decode cM_animal 47 = .ok (.iload_n 1, 1) := by decide +kernel
theorem dM_animal_48 : decode cM_animal 48 = .ok (.iaload, 1) := by decide +kernel
theorem dM_animal_49 : decode cM_animal 49 = .ok (.imul, 1) := by decide +kernel
theorem dM_animal_50 : decode cM_animal 50 = .ok (.iload_n 3, 1) := by decide +kernel
theorem dM_animal_51 : decode cM_animal 51 = .ok (.iadd, 1) := by decide +kernel
theorem dM_animal_52 : decode cM_animal 52 = .ok (.iaload, 1) := by decide +kernel
theorem dM_animal_53 : decode cM_animal 53 = .ok (.iload_n 1, 1) := by decide +kernel
theorem dM_animal_54 : decode cM_animal 54 = .ok (.if_icmp .eq 9, 3) := by decide +kernel
theorem dM_animal_57 : decode cM_animal 57 = .ok (.iinc 3 1, 3) := by decide +kernel
theorem dM_animal_60 : decode cM_animal 60 = .ok (.goto (-23), 3) := by decide +kernel
theorem dM_animal_63 : decode cM_animal 63 = .ok (.iload_n 2, 1) := by decide +kernel
theorem dM_animal_64 : decode cM_animal 64 = .ok (.ifCond .le 12, 3) := by decide +kernel
theorem dM_animal_67 : decode cM_animal 67 = .ok (.aload_n 0, 1) := by decide +kernel
theorem dM_animal_68 : decode cM_animal 68 = .ok (.getfield 56, 3) := by decide +kernel
theorem dM_animal_71 : decode cM_animal 71 = .ok (.iload_n 3, 1) := by decide +kernel
theorem dM_animal_72 : decode cM_animal 72 = .ok (.iaload, 1) := by decide +kernel
theorem dM_animal_73 : decode cM_animal 73 = .ok (.goto 4, 3) := by decide +kernel
theorem dM_animal_76 : decode cM_animal 76 = .ok (.iconst 0, 1) := by decide +kernel
theorem dM_animal_77 : decode cM_animal 77 = .ok (.ireturn, 1) := by decide +kernel
theorem dM_isClashing_0 : decode cM_isClashing 0 = .ok (.iconst 1, 1) := by decide +kernel
theorem dM_isClashing_1 : decode cM_isClashing 1 = .ok (.istore_n 3, 1) := by decide +kernel
theorem dM_isClashing_2 : decode cM_isClashing 2 = .ok (.iconst 0, 1) := by decide +kernel
theorem dM_isClashing_3 : decode cM_isClashing 3 = .ok (.istore 4, 2) := by decide +kernel
theorem dM_isClashing_5 : decode cM_isClashing 5 = .ok (.iload 4, 2) := by decide +kernel
theorem dM_isClashing_7 : decode cM_isClashing 7 = .ok (.aload_n 0, 1) := by decide +kernel
theorem dM_isClashing_8 : decode cM_isClashing 8 = .ok (.getfield 31, 3) := by decide +kernel
theorem dM_isClashing_11 : decode cM_isClashing 11 = .ok (.iload_n 1, 1) := by decide +kernel
theorem dM_isClashing_12 : decode cM_isClashing 12 = .ok (.iaload, 1) := by decide +kernel
theorem dM_isClashing_13 : decode cM_isClashing 13 = .ok (.if_icmp .ge 65, 3) := by decide +kernel
theorem dM_isClashing_16 : decode cM_isClashing 16 = .ok (.iconst 0, 1) := by decide +kernel
theorem dM_isClashing_17 : decode cM_isClashing 17 = .ok (.istore 5, 2) := by decide +kernel
theorem dM_isClashing_19 : decode cM_isClashing 19 = .ok (.iload 5, 2) := by decide +kernel
theorem dM_isClashing_21 : decode cM_isClashing 21 = .ok (.iload 4, 2) := by decide +kernel
theorem dM_isClashing_23 : decode cM_isClashing 23 = .ok (.if_icmp .ge 49, 3) := by decide +kernel
theorem dM_isClashing_26 : decode cM_isClashing 26 = .ok (.iload_n 3, 1) := by decide +kernel
theorem dM_isClashing_27 : decode cM_isClashing 27 = .ok (.ifCond .eq 37, 3) := by decide +kernel
theorem dM_isClashing_30 : decode cM_isClashing 30 = .ok (.iload_n 2, 1) := by decide +kernel
theorem dM_isClashing_31 : decode cM_isClashing 31 = .ok (.iload 4, 2) := by decide +kernel
theorem dM_isClashing_33 : decode cM_isClashing 33 = .ok (.ishr, 1) := by decide +kernel
theorem dM_isClashing_34 : decode cM_isClashing 34 = .ok (.iconst 1, 1) := by decide +kernel
theorem dM_isClashing_35 : decode cM_isClashing 35 = .ok (.iand, 1) := by decide +kernel
theorem dM_isClashing_36 : decode cM_isClashing 36 = .ok (.ifCond .eq 24, 3) := by decide +kernel
theorem dM_isClashing_39 : decode cM_isClashing 39 = .ok (.iload_n 2, 1) := by decide +kernel
theorem dM_isClashing_40 : decode cM_isClashing 40 = .ok (.iload 5, 2) := by decide +kernel
theorem dM_isClashing_42 : decode cM_isClashing 42 = .ok (.ishr, 1) := by decide +kernel
theorem dM_isClashing_43 : decode cM_isClashing 43 = .ok (.iconst 1, 1) := by decide +kernel
theorem dM_isClashing_44 : decode cM_isClashing 44 = .ok (.iand, 1) := by decide +kernel
theorem dM_isClashing_45 : decode cM_isClashing 45 = .ok (.ifCond .eq 15, 3) := by decide +kernel
theorem dM_isClashing_48 : decode cM_isClashing 48 = .ok (.aload_n 0, 1) := by decide +kernel
theorem dM_isClashing_49 : decode cM_isClashing 49 = .ok (.iload_n 1, 1) := by decide +kernel
theorem dM_isClashing_50 : decode cM_isClashing 50 = .ok (.iload 4, 2) := by decide +kernel
theorem dM_isClashing_52 : decode cM_isClashing 52 = .ok (.iload 5, 2) := by decide +kernel
theorem dM_isClashing_54 : decode cM_isClashing 54 = .ok (.invokevirtual 88, 3) := by decide +kernel
theorem dM_isClashing_57 : decode cM_isClashing 57 = .ok (.ifCond .eq 7, 3) := by decide +kernel
theorem dM_isClashing_60 : decode cM_isClashing 60 = .ok (.iconst 1, 1) := by decide +kernel
theorem dM_isClashing_61 : decode cM_isClashing 61 = .ok (.goto 4, 3) := by decide +kernel
theorem dM_isClashing_64 : decode cM_isClashing 64 = .ok (.iconst 0, 1) := by decide +kernel
theorem dM_isClashing_65 : decode cM_isClashing 65 = .ok (.istore_n 3, 1) := by decide +kernel
theorem dM_isClashing_66 : decode cM_isClashing 66 = .ok (.iinc 5 1, 3) := by decide +kernel
theorem dM_isClashing_69 : decode cM_isClashing 69 = .ok (.goto (-50), 3) := by decide +kernel
theorem dM_isClashing_72 : decode cM_isClashing 72 = .ok (.iinc 4 1, 3) := by decide +kernel
theorem dM_isClashing_75 : decode cM_isClashing 75 = .ok (.goto (-70), 3) := by decide +kernel
theorem dM_isClashing_78 : decode cM_isClashing 78 = .ok (.iload_n 3, 1) := by decide +kernel
theorem dM_isClashing_79 : decode cM_isClashing 79 = .ok (.ireturn, 1) := by decide +kernel
theorem dM_sizeOf_0 : decode cM_sizeOf 0 = .ok (.iconst 0, 1) := by decide +kernel
theorem dM_sizeOf_1 : decode cM_sizeOf 1 = .ok (.istore_n 1, 1) := by decide +kernel
theorem dM_sizeOf_2 : decode cM_sizeOf 2 = .ok (.iconst 0, 1) := by decide +kernel
theorem dM_sizeOf_3 : decode cM_sizeOf 3 = .ok (.istore_n 2, 1) := by decide +kernel
theorem dM_sizeOf_4 : decode cM_sizeOf 4 = .ok (.iload_n 2, 1) := by decide +kernel
theorem dM_sizeOf_5 : decode cM_sizeOf 5 = .ok (.bipush 12, 2) := by decide +kernel
theorem dM_sizeOf_7 : decode cM_sizeOf 7 = .ok (.if_icmp .ge 17, 3) := by decide +kernel
theorem dM_sizeOf_10 : decode cM_sizeOf 10 = .ok (.iload_n 1, 1) := by decide +kernel
theorem dM_sizeOf_11 : decode cM_sizeOf 11 = .ok (.iload_n 0, 1) := by decide +kernel
theorem dM_sizeOf_12 : decode cM_sizeOf 12 = .ok (.iload_n 2, 1) := by decide +kernel
theorem dM_sizeOf_13 : decode cM_sizeOf 13 = .ok (.ishr, 1) := by decide +kernel
theorem dM_sizeOf_14 : decode cM_sizeOf 14 = .ok (.iconst 1, 1) := by decide +kernel
theorem dM_sizeOf_15 : decode cM_sizeOf 15 = .ok (.iand, 1) := by decide +kernel
theorem dM_sizeOf_16 : decode cM_sizeOf 16 = .ok (.iadd, 1) := by decide +kernel
theorem dM_sizeOf_17 : decode cM_sizeOf 17 = .ok (.istore_n 1, 1) := by decide +kernel
theorem dM_sizeOf_18 : decode cM_sizeOf 18 = .ok (.iinc 2 1, 3) := by decide +kernel
theorem dM_sizeOf_21 : decode cM_sizeOf 21 = .ok (.goto (-17), 3) := by decide +kernel
theorem dM_sizeOf_24 : decode cM_sizeOf 24 = .ok (.iload_n 1, 1) := by decide +kernel
theorem dM_sizeOf_25 : decode cM_sizeOf 25 = .ok (.ireturn, 1) := by decide +kernel
theorem dM_greatest_0 : decode cM_greatest 0 = .ok (.iconst 0, 1) := by decide +kernel
theorem dM_greatest_1 : decode cM_greatest 1 = .ok (.istore_n 2, 1) := by decide +kernel
theorem dM_greatest_2 : decode cM_greatest 2 = .ok (.iconst 1, 1) := by decide +kernel
theorem dM_greatest_3 : decode cM_greatest 3 = .ok (.istore_n 3, 1) := by decide +kernel
theorem dM_greatest_4 : decode cM_greatest 4 = .ok (.iload_n 3, 1) := by decide +kernel
theorem dM_greatest_5 : decode cM_greatest 5 = .ok (.iconst 1, 1) := by decide +kernel
theorem dM_greatest_6 : decode cM_greatest 6 = .ok (.aload_n 0, 1) := by decide +kernel
theorem dM_greatest_7 : decode cM_greatest 7 = .ok (.getfield 31, 3) := by decide +kernel
theorem dM_greatest_10 : decode cM_greatest 10 = .ok (.iload_n 1, 1) := by decide +kernel
theorem dM_greatest_11 : decode cM_greatest 11 = .ok (.iaload, 1) := by decide +kernel
theorem dM_greatest_12 : decode cM_greatest 12 = .ok (.ishl, 1) := by decide +kernel
theorem dM_greatest_13 : decode cM_greatest 13 = .ok (.if_icmp .ge 74, 3) := by decide +kernel
theorem dM_greatest_16 : decode cM_greatest 16 = .ok (.iload_n 3, 1) := by decide +kernel
theorem dM_greatest_17 : decode cM_greatest 17 = .ok (.invokestatic 101, 3) := by decide +kernel
theorem dM_greatest_20 : decode cM_greatest 20 = .ok (.istore 4, 2) := by decide +kernel
theorem dM_greatest_22 : decode cM_greatest 22 = .ok (.iload_n 2, 1) := by decide +kernel
theorem dM_greatest_23 : decode cM_greatest 23 = .ok (.invokestatic 101, 3) := by decide +kernel
theorem dM_greatest_26 : decode cM_greatest 26 = .ok (.istore 5, 2) := by decide +kernel
theorem dM_greatest_28 : decode cM_greatest 28 = .ok (.iload_n 3, 1) := by decide +kernel
theorem dM_greatest_29 : decode cM_greatest 29 = .ok (.iload_n 2, 1) := by decide +kernel
theorem dM_greatest_30 : decode cM_greatest 30 = .ok (.ixor, 1) := by decide +kernel
theorem dM_greatest_31 : decode cM_greatest 31 = .ok (.istore 6, 2) := by decide +kernel
theorem dM_greatest_33 : decode cM_greatest 33 = .ok (.iload_n 3, 1) := by decide +kernel
theorem dM_greatest_34 : decode cM_greatest 34 = .ok (.iload 6, 2) := by decide +kernel
theorem dM_greatest_36 : decode cM_greatest 36 = .ok (.iand, 1) := by decide +kernel
theorem dM_greatest_37 : decode cM_greatest 37 = .ok (.iload 6, 2) := by decide +kernel
theorem dM_greatest_39 : decode cM_greatest 39 = .ok (.ineg, 1) := by decide +kernel
theorem dM_greatest_40 : decode cM_greatest 40 = .ok (.iand, 1) := by decide +kernel
theorem dM_greatest_41 : decode cM_greatest 41 = .ok (.ifCond .eq 7, 3) := by decide +kernel
theorem dM_greatest_44 : decode cM_greatest 44 = .ok (.iconst 1, 1) := by decide +kernel
theorem dM_greatest_45 : decode cM_greatest 45 = .ok (.goto 4, 3) := by decide +kernel
theorem dM_greatest_48 : decode cM_greatest 48 = .ok (.iconst 0, 1) := by decide +kernel
theorem dM_greatest_49 : decode cM_greatest 49 = .ok (.istore 7, 2) := by decide +kernel
theorem dM_greatest_51 : decode cM_greatest 51 = .ok (.iload 4, 2) := by decide +kernel
theorem dM_greatest_53 : decode cM_greatest 53 = .ok (.iload 5, 2) := by decide +kernel
theorem dM_greatest_55 : decode cM_greatest 55 = .ok (.if_icmp .gt 15, 3) := by decide +kernel
theorem dM_greatest_58 : decode cM_greatest 58 = .ok (.iload 4, 2) := by decide +kernel
theorem dM_greatest_60 : decode cM_greatest 60 = .ok (.iload 5, 2) := by decide +kernel
theorem dM_greatest_62 : decode cM_greatest 62 = .ok (.if_icmp .ne 19, 3) := by decide +kernel
theorem dM_greatest_65 : decode cM_greatest 65 = .ok (.iload 7, 2) := by decide +kernel
theorem dM_greatest_67 : decode cM_greatest 67 = .ok (.ifCond .eq 14, 3) := by decide +kernel
theorem dM_greatest_70 : decode cM_greatest 70 = .ok (.aload_n 0, 1) := by decide +kernel
theorem dM_greatest_71 : decode cM_greatest 71 = .ok (.iload_n 1, 1) := by decide +kernel
theorem dM_greatest_72 : decode cM_greatest 72 = .ok (.iload_n 3, 1) := by decide +kernel
theorem dM_greatest_73 : decode cM_greatest 73 = .ok (.invokevirtual 104, 3) := by decide +kernel
theorem dM_greatest_76 : decode cM_greatest 76 = .ok (.ifCond .eq 5, 3) := by decide +kernel
theorem dM_greatest_79 : decode cM_greatest 79 = .ok (.iload_n 3, 1) := by decide +kernel
theorem dM_greatest_80 : decode cM_greatest 80 = .ok (.istore_n 2, 1) := by decide +kernel
theorem dM_greatest_81 : decode cM_greatest 81 = .ok (.iinc 3 1, 3) := by decide +kernel
theorem dM_greatest_84 : decode cM_greatest 84 = .ok (.goto (-80), 3) := by decide +kernel
theorem dM_greatest_87 : decode cM_greatest 87 = .ok (.iload_n 2, 1) := by decide +kernel
theorem dM_greatest_88 : decode cM_greatest 88 = .ok (.ireturn, 1) := by decide +kernel
theorem dM_clashing_0 : decode cM_clashing 0 = .ok (.aload_n 0, 1) := by decide +kernel
theorem dM_clashing_1 : decode cM_clashing 1 = .ok (.iload_n 1, 1) := by decide +kernel
theorem dM_clashing_2 : decode cM_clashing 2 = .ok (.invokestatic 73, 3) := by decide +kernel
theorem dM_clashing_5 : decode cM_clashing 5 = .ok (.ifCond .eq 7, 3) := by decide +kernel
theorem dM_clashing_8 : decode cM_clashing 8 = .ok (.iload_n 2, 1) := by decide +kernel
theorem dM_clashing_9 : decode cM_clashing 9 = .ok (.ifCond .ge 7, 3) := by decide +kernel
theorem dM_clashing_12 : decode cM_clashing 12 = .ok (.iconst 1, 1) := by decide +kernel
theorem dM_clashing_13 : decode cM_clashing 13 = .ok (.goto 4, 3) := by decide +kernel
theorem dM_clashing_16 : decode cM_clashing 16 = .ok (.iconst 0, 1) := by decide +kernel
theorem dM_clashing_17 : decode cM_clashing 17 = .ok (.iconst 0, 1) := by decide +kernel
theorem dM_clashing_18 : decode cM_clashing 18 = .ok (.iconst 0, 1) := by decide +kernel
theorem dM_clashing_19 : decode cM_clashing 19 = .ok (.invokevirtual 77, 3) := by decide +kernel
theorem dM_clashing_22 : decode cM_clashing 22 = .ok (.ifCond .eq 5, 3) := by decide +kernel
theorem dM_clashing_25 : decode cM_clashing 25 = .ok (.iconst 0, 1) := by decide +kernel
theorem dM_clashing_26 : decode cM_clashing 26 = .ok (.ireturn, 1) := by decide +kernel
theorem dM_clashing_27 : decode cM_clashing 27 = .ok (.aload_n 0, 1) := by decide +kernel
theorem dM_clashing_28 : decode cM_clashing 28 = .ok (.iload_n 1, 1) := by decide +kernel
theorem dM_clashing_29 : decode cM_clashing 29 = .ok (.invokevirtual 107, 3) := by decide +kernel
theorem dM_clashing_32 : decode cM_clashing 32 = .ok (.istore_n 3, 1) := by decide +kernel
theorem dM_clashing_33 : decode cM_clashing 33 = .ok (.iload_n 2, 1) := by decide +kernel
theorem dM_clashing_34 : decode cM_clashing 34 = .ok (.istore 4, 2) := by decide +kernel
theorem dM_clashing_36 : decode cM_clashing 36 = .ok (.iconst 0, 1) := by decide +kernel
theorem dM_clashing_37 : decode cM_clashing 37 = .ok (.istore 5, 2) := by decide +kernel
theorem dM_clashing_39 : decode cM_clashing 39 = .ok (.iload 5, 2) := by decide +kernel
theorem dM_clashing_41 : decode cM_clashing 41 = .ok (.aload_n 0, 1) := by decide +kernel
theorem dM_clashing_42 : decode cM_clashing 42 = .ok (.getfield 31, 3) := by decide +kernel
theorem dM_clashing_45 : decode cM_clashing 45 = .ok (.iload_n 1, 1) := by decide +kernel
theorem dM_clashing_46 : decode cM_clashing 46 = .ok (.iaload, 1) := by decide +kernel
theorem dM_clashing_47 : decode cM_clashing 47 = .ok (.if_icmp .ge 42, 3) := by decide +kernel
theorem dM_clashing_50 : decode cM_clashing 50 = .ok (.iload_n 3, 1) := by decide +kernel
theorem dM_clashing_51 : decode cM_clashing 51 = .ok (.iload 5, 2) := by decide +kernel
theorem dM_clashing_53 : decode cM_clashing 53 = .ok (.ishr, 1) := by decide +kernel
theorem dM_clashing_54 : decode cM_clashing 54 = .ok (.iconst 1, 1) := by decide +kernel
theorem dM_clashing_55 : decode cM_clashing 55 = .ok (.iand, 1) := by decide +kernel
theorem dM_clashing_56 : decode cM_clashing 56 = .ok (.ifCond .ne 6, 3) := by decide +kernel
theorem dM_clashing_59 : decode cM_clashing 59 = .ok (.goto 24, 3) := by decide +kernel
theorem dM_clashing_62 : decode cM_clashing 62 = .ok (.iload 4, 2) := by decide +kernel
theorem dM_clashing_64 : decode cM_clashing 64 = .ok (.ifCond .ne 16, 3) := by decide +kernel
theorem dM_clashing_67 : decode cM_clashing 67 = .ok (.aload_n 0, 1) := by decide +kernel
theorem dM_clashing_68 : decode cM_clashing 68 = .ok (.getfield 34, 3) := by decide +kernel
theorem dM_clashing_71 : decode cM_clashing 71 = .ok (.bipush 12, 2) := by decide +kernel
theorem dM_clashing_73 : decode cM_clashing 73 = .ok (.iload_n 1, 1) := by decide +kernel
theorem dM_clashing_74 : decode cM_clashing 74 = .ok (.imul, 1) := by decide +kernel
theorem dM_clashing_75 : decode cM_clashing 75 = .ok (.iload 5, 2) := by decide +kernel
theorem dM_clashing_77 : decode cM_clashing 77 = .ok (.iadd, 1) := by decide +kernel
theorem dM_clashing_78 : decode cM_clashing 78 = .ok (.iaload, 1) := by decide +kernel
theorem dM_clashing_79 : decode cM_clashing 79 = .ok (.ireturn, 1) := by decide +kernel
theorem dM_clashing_80 : decode cM_clashing 80 = .ok (.iinc 4 (-1), 3) := by decide +kernel
theorem dM_clashing_83 : decode cM_clashing 83 = .ok (.iinc 5 1, 3) := by decide +kernel
theorem dM_clashing_86 : decode cM_clashing 86 = .ok (.goto (-47), 3) := by decide +kernel
theorem dM_clashing_89 : decode cM_clashing 89 = .ok (.iconst (-1), 1) := by decide +kernel
theorem dM_clashing_90 : decode cM_clashing 90 = .ok (.ireturn, 1) := by decide +kernel
theorem dM_weight_0 : decode cM_weight 0 = .ok (.aload_n 0, 1) := by decide +kernel
theorem dM_weight_1 : decode cM_weight 1 = .ok (.aload_n 0, 1) := by decide +kernel
theorem dM_weight_2 : decode cM_weight 2 = .ok (.iload_n 1, 1) := by decide +kernel
theorem dM_weight_3 : decode cM_weight 3 = .ok (.invokevirtual 81, 3) := by decide +kernel
theorem dM_weight_6 : decode cM_weight 6 = .ok (.ifCond .ne 7, 3) := by decide +kernel
theorem dM_weight_9 : decode cM_weight 9 = .ok (.iconst 1, 1) := by decide +kernel
theorem dM_weight_10 : decode cM_weight 10 = .ok (.goto 4, 3) := by decide +kernel
theorem dM_weight_13 : decode cM_weight 13 = .ok (.iconst 0, 1) := by decide +kernel
theorem dM_weight_14 : decode cM_weight 14 = .ok (.iload_n 2, 1) := by decide +kernel
theorem dM_weight_15 : decode cM_weight 15 = .ok (.iconst 0, 1) := by decide +kernel
theorem dM_weight_16 : decode cM_weight 16 = .ok (.ldc 110, 2) := by decide +kernel
theorem dM_weight_18 : decode cM_weight 18 = .ok (.invokestatic 66, 3) := by decide +kernel
theorem dM_weight_21 : decode cM_weight 21 = .ok (.ifCond .ne 7, 3) := by decide +kernel
theorem dM_weight_24 : decode cM_weight 24 = .ok (.iconst 1, 1) := by decide +kernel
theorem dM_weight_25 : decode cM_weight 25 = .ok (.goto 4, 3) := by decide +kernel
theorem dM_weight_28 : decode cM_weight 28 = .ok (.iconst 0, 1) := by decide +kernel
theorem dM_weight_29 : decode cM_weight 29 = .ok (.iconst 0, 1) := by decide +kernel
theorem dM_weight_30 : decode cM_weight 30 = .ok (.invokevirtual 77, 3) := by decide +kernel
theorem dM_weight_33 : decode cM_weight 33 = .ok (.ifCond .eq 5, 3) := by decide +kernel
theorem dM_weight_36 : decode cM_weight 36 = .ok (.iconst 0, 1) := by decide +kernel
theorem dM_weight_37 : decode cM_weight 37 = .ok (.ireturn, 1) := by decide +kernel
theorem dM_weight_38 : decode cM_weight 38 = .ok (.aload_n 0, 1) := by decide +kernel
theorem dM_weight_39 : decode cM_weight 39 = .ok (.getfield 28, 3) := by decide +kernel
theorem dM_weight_42 : decode cM_weight 42 = .ok (.iload_n 1, 1) := by decide +kernel
theorem dM_weight_43 : decode cM_weight 43 = .ok (.iaload, 1) := by decide +kernel
theorem dM_weight_44 : decode cM_weight 44 = .ok (.istore_n 3, 1) := by decide +kernel
theorem dM_weight_45 : decode cM_weight 45 = .ok (.aload_n 0, 1) := by decide +kernel
theorem dM_weight_46 : decode cM_weight 46 = .ok (.getfield 28, 3) := by decide +kernel
theorem dM_weight_49 : decode cM_weight 49 = .ok (.iload_n 1, 1) := by decide +kernel
theorem dM_weight_50 : decode cM_weight 50 = .ok (.iload_n 2, 1) := by decide +kernel
theorem dM_weight_51 : decode cM_weight 51 = .ok (.iastore, 1) := by decide +kernel
theorem dM_weight_52 : decode cM_weight 52 = .ok (.iload_n 3, 1) := by decide +kernel
theorem dM_weight_53 : decode cM_weight 53 = .ok (.ireturn, 1) := by decide +kernel
theorem dM_sum_0 : decode cM_sum 0 = .ok (.aload_n 0, 1) := by decide +kernel
theorem dM_sum_1 : decode cM_sum 1 = .ok (.iload_n 1, 1) := by decide +kernel
theorem dM_sum_2 : decode cM_sum 2 = .ok (.invokestatic 73, 3) := by decide +kernel
theorem dM_sum_5 : decode cM_sum 5 = .ok (.ifCond .ne 7, 3) := by decide +kernel
theorem dM_sum_8 : decode cM_sum 8 = .ok (.iconst 1, 1) := by decide +kernel
theorem dM_sum_9 : decode cM_sum 9 = .ok (.goto 4, 3) := by decide +kernel
theorem dM_sum_12 : decode cM_sum 12 = .ok (.iconst 0, 1) := by decide +kernel
theorem dM_sum_13 : decode cM_sum 13 = .ok (.iconst 0, 1) := by decide +kernel
theorem dM_sum_14 : decode cM_sum 14 = .ok (.iconst 0, 1) := by decide +kernel
theorem dM_sum_15 : decode cM_sum 15 = .ok (.invokevirtual 77, 3) := by decide +kernel
theorem dM_sum_18 : decode cM_sum 18 = .ok (.ifCond .eq 5, 3) := by decide +kernel
theorem dM_sum_21 : decode cM_sum 21 = .ok (.iconst 0, 1) := by decide +kernel
theorem dM_sum_22 : decode cM_sum 22 = .ok (.ireturn, 1) := by decide +kernel
theorem dM_sum_23 : decode cM_sum 23 = .ok (.iconst 0, 1) := by decide +kernel
theorem dM_sum_24 : decode cM_sum 24 = .ok (.istore_n 2, 1) := by decide +kernel
theorem dM_sum_25 : decode cM_sum 25 = .ok (.iconst 0, 1) := by decide +kernel
theorem dM_sum_26 : decode cM_sum 26 = .ok (.istore_n 3, 1) := by decide +kernel
theorem dM_sum_27 : decode cM_sum 27 = .ok (.iload_n 3, 1) := by decide +kernel
theorem dM_sum_28 : decode cM_sum 28 = .ok (.aload_n 0, 1) := by decide +kernel
theorem dM_sum_29 : decode cM_sum 29 = .ok (.getfield 70, 3) := by decide +kernel
theorem dM_sum_32 : decode cM_sum 32 = .ok (.if_icmp .ge 32, 3) := by decide +kernel
theorem dM_sum_35 : decode cM_sum 35 = .ok (.iload_n 2, 1) := by decide +kernel
theorem dM_sum_36 : decode cM_sum 36 = .ok (.aload_n 0, 1) := by decide +kernel
theorem dM_sum_37 : decode cM_sum 37 = .ok (.getfield 7, 3) := by decide +kernel
theorem dM_sum_40 : decode cM_sum 40 = .ok (.iload_n 3, 1) := by decide +kernel
theorem dM_sum_41 : decode cM_sum 41 = .ok (.iaload, 1) := by decide +kernel
theorem dM_sum_42 : decode cM_sum 42 = .ok (.iload_n 1, 1) := by decide +kernel
theorem dM_sum_43 : decode cM_sum 43 = .ok (.if_icmp .ne 12, 3) := by decide +kernel
theorem dM_sum_46 : decode cM_sum 46 = .ok (.aload_n 0, 1) := by decide +kernel
theorem dM_sum_47 : decode cM_sum 47 = .ok (.getfield 28, 3) := by decide +kernel
theorem dM_sum_50 : decode cM_sum 50 = .ok (.iload_n 3, 1) := by decide +kernel
theorem dM_sum_51 : decode cM_sum 51 = .ok (.iaload, 1) := by decide +kernel
theorem dM_sum_52 : decode cM_sum 52 = .ok (.goto 4, 3) := by decide +kernel
theorem dM_sum_55 : decode cM_sum 55 = .ok (.iconst 0, 1) := by decide +kernel
theorem dM_sum_56 : decode cM_sum 56 = .ok (.iadd, 1) := by decide +kernel
theorem dM_sum_57 : decode cM_sum 57 = .ok (.istore_n 2, 1) := by decide +kernel
theorem dM_sum_58 : decode cM_sum 58 = .ok (.iinc 3 1, 3) := by decide +kernel
theorem dM_sum_61 : decode cM_sum 61 = .ok (.goto (-34), 3) := by decide +kernel
theorem dM_sum_64 : decode cM_sum 64 = .ok (.iload_n 2, 1) := by decide +kernel
theorem dM_sum_65 : decode cM_sum 65 = .ok (.ireturn, 1) := by decide +kernel
theorem dM_lessen_0 : decode cM_lessen 0 = .ok (.aload_n 0, 1) := by decide +kernel
theorem dM_lessen_1 : decode cM_lessen 1 = .ok (.iload_n 1, 1) := by decide +kernel
theorem dM_lessen_2 : decode cM_lessen 2 = .ok (.putfield 111, 3) := by decide +kernel
theorem dM_lessen_5 : decode cM_lessen 5 = .ok (.aload_n 0, 1) := by decide +kernel
theorem dM_lessen_6 : decode cM_lessen 6 = .ok (.iload_n 1, 1) := by decide +kernel
theorem dM_lessen_7 : decode cM_lessen 7 = .ok (.ifCond .ne 7, 3) := by decide +kernel
theorem dM_lessen_10 : decode cM_lessen 10 = .ok (.iconst 1, 1) := by decide +kernel
theorem dM_lessen_11 : decode cM_lessen 11 = .ok (.goto 4, 3) := by decide +kernel
theorem dM_lessen_14 : decode cM_lessen 14 = .ok (.iload_n 2, 1) := by decide +kernel
theorem dM_lessen_15 : decode cM_lessen 15 = .ok (.putfield 114, 3) := by decide +kernel
theorem dM_lessen_18 : decode cM_lessen 18 = .ok (.iconst 2, 1) := by decide +kernel
theorem dM_lessen_19 : decode cM_lessen 19 = .ok (.istore_n 3, 1) := by decide +kernel
theorem dM_lessen_20 : decode cM_lessen 20 = .ok (.iload_n 3, 1) := by decide +kernel
theorem dM_lessen_21 : decode cM_lessen 21 = .ok (.aload_n 0, 1) := by decide +kernel
theorem dM_lessen_22 : decode cM_lessen 22 = .ok (.getfield 111, 3) := by decide +kernel
theorem dM_lessen_25 : decode cM_lessen 25 = .ok (.if_icmp .gt 50, 3) := by decide +kernel
theorem dM_lessen_28 : decode cM_lessen 28 = .ok (.aload_n 0, 1) := by decide +kernel
theorem dM_lessen_29 : decode cM_lessen 29 = .ok (.getfield 111, 3) := by decide +kernel
theorem dM_lessen_32 : decode cM_lessen 32 = .ok (.iload_n 3, 1) := by decide +kernel
theorem dM_lessen_33 : decode cM_lessen 33 = .ok (.irem, 1) := by decide +kernel
theorem dM_lessen_34 : decode cM_lessen 34 = .ok (.ifCond .ne 35, 3) := by decide +kernel
theorem dM_lessen_37 : decode cM_lessen 37 = .ok (.aload_n 0, 1) := by decide +kernel
theorem dM_lessen_38 : decode cM_lessen 38 = .ok (.getfield 114, 3) := by decide +kernel
theorem dM_lessen_41 : decode cM_lessen 41 = .ok (.iload_n 3, 1) := by decide +kernel
theorem dM_lessen_42 : decode cM_lessen 42 = .ok (.irem, 1) := by decide +kernel
theorem dM_lessen_43 : decode cM_lessen 43 = .ok (.ifCond .ne 26, 3) := by decide +kernel
theorem dM_lessen_46 : decode cM_lessen 46 = .ok (.aload_n 0, 1) := by decide +kernel
theorem dM_lessen_47 : decode cM_lessen 47 = .ok (.aload_n 0, 1) := by decide +kernel
theorem dM_lessen_48 : decode cM_lessen 48 = .ok (.getfield 111, 3) := by decide +kernel
theorem dM_lessen_51 : decode cM_lessen 51 = .ok (.iload_n 3, 1) := by decide +kernel
theorem dM_lessen_52 : decode cM_lessen 52 = .ok (.idiv, 1) := by decide +kernel
theorem dM_lessen_53 : decode cM_lessen 53 = .ok (.putfield 111, 3) := by decide +kernel
theorem dM_lessen_56 : decode cM_lessen 56 = .ok (.aload_n 0, 1) := by decide +kernel
theorem dM_lessen_57 : decode cM_lessen 57 = .ok (.aload_n 0, 1) := by decide +kernel
theorem dM_lessen_58 : decode cM_lessen 58 = .ok (.getfield 114, 3) := by decide +kernel
theorem dM_lessen_61 : decode cM_lessen 61 = .ok (.iload_n 3, 1) := by decide +kernel
theorem dM_lessen_62 : decode cM_lessen 62 = .ok (.idiv, 1) := by decide +kernel
theorem dM_lessen_63 : decode cM_lessen 63 = .ok (.putfield 114, 3) := by decide +kernel
theorem dM_lessen_66 : decode cM_lessen 66 = .ok (.goto (-38), 3) := by decide +kernel
theorem dM_lessen_69 : decode cM_lessen 69 = .ok (.iinc 3 1, 3) := by decide +kernel
theorem dM_lessen_72 : decode cM_lessen 72 = .ok (.goto (-52), 3) := by decide +kernel
theorem dM_lessen_75 : decode cM_lessen 75 = .ok (.return_, 1) := by decide +kernel
theorem dM_share_0 : decode cM_share 0 = .ok (.aload_n 0, 1) := by decide +kernel
theorem dM_share_1 : decode cM_share 1 = .ok (.iload_n 1, 1) := by decide +kernel
theorem dM_share_2 : decode cM_share 2 = .ok (.invokestatic 73, 3) := by decide +kernel
theorem dM_share_5 : decode cM_share 5 = .ok (.ifCond .eq 12, 3) := by decide +kernel
theorem dM_share_8 : decode cM_share 8 = .ok (.iload_n 2, 1) := by decide +kernel
theorem dM_share_9 : decode cM_share 9 = .ok (.iconst 0, 1) := by decide +kernel
theorem dM_share_10 : decode cM_share 10 = .ok (.iconst 1, 1) := by decide +kernel
theorem dM_share_11 : decode cM_share 11 = .ok (.invokestatic 66, 3) := by decide +kernel
theorem dM_share_14 : decode cM_share 14 = .ok (.ifCond .ne 7, 3) := by decide +kernel
theorem dM_share_17 : decode cM_share 17 = .ok (.iconst 1, 1) := by decide +kernel
theorem dM_share_18 : decode cM_share 18 = .ok (.goto 4, 3) := by decide +kernel
theorem dM_share_21 : decode cM_share 21 = .ok (.iconst 0, 1) := by decide +kernel
theorem dM_share_22 : decode cM_share 22 = .ok (.iconst 0, 1) := by decide +kernel
theorem dM_share_23 : decode cM_share 23 = .ok (.iconst 0, 1) := by decide +kernel
theorem dM_share_24 : decode cM_share 24 = .ok (.invokevirtual 77, 3) := by decide +kernel
theorem dM_share_27 : decode cM_share 27 = .ok (.ifCond .eq 5, 3) := by decide +kernel
theorem dM_share_30 : decode cM_share 30 = .ok (.iconst 0, 1) := by decide +kernel
theorem dM_share_31 : decode cM_share 31 = .ok (.ireturn, 1) := by decide +kernel
theorem dM_share_32 : decode cM_share 32 = .ok (.iconst 0, 1) := by decide +kernel
theorem dM_share_33 : decode cM_share 33 = .ok (.istore_n 3, 1) := by decide +kernel
theorem dM_share_34 : decode cM_share 34 = .ok (.iconst 0, 1) := by decide +kernel
theorem dM_share_35 : decode cM_share 35 = .ok (.istore 4, 2) := by decide +kernel
theorem dM_share_37 : decode cM_share 37 = .ok (.iload 4, 2) := by decide +kernel
theorem dM_share_39 : decode cM_share 39 = .ok (.bipush 6, 2) := by decide +kernel
theorem dM_share_41 : decode cM_share 41 = .ok (.if_icmp .ge 18, 3) := by decide +kernel
theorem dM_share_44 : decode cM_share 44 = .ok (.iload_n 3, 1) := by decide +kernel
theorem dM_share_45 : decode cM_share 45 = .ok (.aload_n 0, 1) := by decide +kernel
theorem dM_share_46 : decode cM_share 46 = .ok (.iload 4, 2) := by decide +kernel
theorem dM_share_48 : decode cM_share 48 = .ok (.invokevirtual 98, 3) := by decide +kernel
theorem dM_share_51 : decode cM_share 51 = .ok (.iadd, 1) := by decide +kernel
theorem dM_share_52 : decode cM_share 52 = .ok (.istore_n 3, 1) := by decide +kernel
theorem dM_share_53 : decode cM_share 53 = .ok (.iinc 4 1, 3) := by decide +kernel
theorem dM_share_56 : decode cM_share 56 = .ok (.goto (-19), 3) := by decide +kernel
theorem dM_share_59 : decode cM_share 59 = .ok (.aload_n 0, 1) := by decide +kernel
theorem dM_share_60 : decode cM_share 60 = .ok (.aload_n 0, 1) := by decide +kernel
theorem dM_share_61 : decode cM_share 61 = .ok (.iload_n 1, 1) := by decide +kernel
theorem dM_share_62 : decode cM_share 62 = .ok (.invokevirtual 98, 3) := by decide +kernel
theorem dM_share_65 : decode cM_share 65 = .ok (.iload_n 3, 1) := by decide +kernel
theorem dM_share_66 : decode cM_share 66 = .ok (.invokevirtual 117, 3) := by decide +kernel
theorem dM_share_69 : decode cM_share 69 = .ok (.iload_n 2, 1) := by decide +kernel
theorem dM_share_70 : decode cM_share 70 = .ok (.ifCond .ne 10, 3) := by decide +kernel
theorem dM_share_73 : decode cM_share 73 = .ok (.aload_n 0, 1) := by decide +kernel
theorem dM_share_74 : decode cM_share 74 = .ok (.getfield 111, 3) := by decide +kernel
theorem dM_share_77 : decode cM_share 77 = .ok (.goto 7, 3) := by decide +kernel
theorem dM_share_80 : decode cM_share 80 = .ok (.aload_n 0, 1) := by decide +kernel
theorem dM_share_81 : decode cM_share 81 = .ok (.getfield 114, 3) := by decide +kernel
theorem dM_share_84 : decode cM_share 84 = .ok (.ireturn, 1) := by decide +kernel
theorem dM_sieve_0 : decode cM_sieve 0 = .ok (.aload_n 0, 1) := by decide +kernel
theorem dM_sieve_1 : decode cM_sieve 1 = .ok (.iload_n 1, 1) := by decide +kernel
theorem dM_sieve_2 : decode cM_sieve 2 = .ok (.invokestatic 73, 3) := by decide +kernel
theorem dM_sieve_5 : decode cM_sieve 5 = .ok (.ifCond .ne 7, 3) := by decide +kernel
theorem dM_sieve_8 : decode cM_sieve 8 = .ok (.iconst 1, 1) := by decide +kernel
theorem dM_sieve_9 : decode cM_sieve 9 = .ok (.goto 4, 3) := by decide +kernel
theorem dM_sieve_12 : decode cM_sieve 12 = .ok (.iconst 0, 1) := by decide +kernel
theorem dM_sieve_13 : decode cM_sieve 13 = .ok (.iload_n 3, 1) := by decide +kernel
theorem dM_sieve_14 : decode cM_sieve 14 = .ok (.iconst 1, 1) := by decide +kernel
theorem dM_sieve_15 : decode cM_sieve 15 = .ok (.if_icmp .lt 15, 3) := by decide +kernel
theorem dM_sieve_18 : decode cM_sieve 18 = .ok (.iload_n 3, 1) := by decide +kernel
theorem dM_sieve_19 : decode cM_sieve 19 = .ok (.iload_n 2, 1) := by decide +kernel
theorem dM_sieve_20 : decode cM_sieve 20 = .ok (.if_icmp .gt 10, 3) := by decide +kernel
theorem dM_sieve_23 : decode cM_sieve 23 = .ok (.iload_n 2, 1) := by decide +kernel
theorem dM_sieve_24 : decode cM_sieve 24 = .ok (.sipush 10000, 3) := by decide +kernel
theorem dM_sieve_27 : decode cM_sieve 27 = .ok (.if_icmp .le 7, 3) := by decide +kernel
theorem dM_sieve_30 : decode cM_sieve 30 = .ok (.iconst 1, 1) := by decide +kernel
theorem dM_sieve_31 : decode cM_sieve 31 = .ok (.goto 4, 3) := by decide +kernel
theorem dM_sieve_34 : decode cM_sieve 34 = .ok (.iconst 0, 1) := by decide +kernel
theorem dM_sieve_35 : decode cM_sieve 35 = .ok (.iconst 0, 1) := by decide +kernel
theorem dM_sieve_36 : decode cM_sieve 36 = .ok (.invokevirtual 77, 3) := by decide +kernel
theorem dM_sieve_39 : decode cM_sieve 39 = .ok (.ifCond .eq 4, 3) := by decide +kernel
theorem dM_sieve_42 : decode cM_sieve 42 = .ok (.return_, 1) := by decide +kernel
theorem dM_sieve_43 : decode cM_sieve 43 = .ok (.aload_n 0, 1) := by decide +kernel
theorem dM_sieve_44 : decode cM_sieve 44 = .ok (.getfield 50, 3) := by decide +kernel
theorem dM_sieve_47 : decode cM_sieve 47 = .ok (.iload_n 1, 1) := by decide +kernel
theorem dM_sieve_48 : decode cM_sieve 48 = .ok (.iload_n 2, 1) := by decide +kernel
theorem dM_sieve_49 : decode cM_sieve 49 = .ok (.iastore, 1) := by decide +kernel
theorem dM_sieve_50 : decode cM_sieve 50 = .ok (.aload_n 0, 1) := by decide +kernel
theorem dM_sieve_51 : decode cM_sieve 51 = .ok (.getfield 53, 3) := by decide +kernel
theorem dM_sieve_54 : decode cM_sieve 54 = .ok (.iload_n 1, 1) := by decide +kernel
theorem dM_sieve_55 : decode cM_sieve 55 = .ok (.iload_n 3, 1) := by decide +kernel
theorem dM_sieve_56 : decode cM_sieve 56 = .ok (.iastore, 1) := by decide +kernel
theorem dM_sieve_57 : decode cM_sieve 57 = .ok (.return_, 1) := by decide +kernel
theorem dM_scaled_0 : decode cM_scaled 0 = .ok (.aload_n 0, 1) := by decide +kernel
theorem dM_scaled_1 : decode cM_scaled 1 = .ok (.iload_n 1, 1) := by decide +kernel
theorem dM_scaled_2 : decode cM_scaled 2 = .ok (.invokestatic 73, 3) := by decide +kernel
theorem dM_scaled_5 : decode cM_scaled 5 = .ok (.ifCond .eq 12, 3) := by decide +kernel
theorem dM_scaled_8 : decode cM_scaled 8 = .ok (.iload_n 2, 1) := by decide +kernel
theorem dM_scaled_9 : decode cM_scaled 9 = .ok (.iconst 0, 1) := by decide +kernel
theorem dM_scaled_10 : decode cM_scaled 10 = .ok (.iconst 2, 1) := by decide +kernel
theorem dM_scaled_11 : decode cM_scaled 11 = .ok (.invokestatic 66, 3) := by decide +kernel
theorem dM_scaled_14 : decode cM_scaled 14 = .ok (.ifCond .ne 7, 3) := by decide +kernel
theorem dM_scaled_17 : decode cM_scaled 17 = .ok (.iconst 1, 1) := by decide +kernel
theorem dM_scaled_18 : decode cM_scaled 18 = .ok (.goto 4, 3) := by decide +kernel
theorem dM_scaled_21 : decode cM_scaled 21 = .ok (.iconst 0, 1) := by decide +kernel
theorem dM_scaled_22 : decode cM_scaled 22 = .ok (.iconst 0, 1) := by decide +kernel
theorem dM_scaled_23 : decode cM_scaled 23 = .ok (.iconst 0, 1) := by decide +kernel
theorem dM_scaled_24 : decode cM_scaled 24 = .ok (.invokevirtual 77, 3) := by decide +kernel
theorem dM_scaled_27 : decode cM_scaled 27 = .ok (.ifCond .eq 5, 3) := by decide +kernel
theorem dM_scaled_30 : decode cM_scaled 30 = .ok (.iconst 0, 1) := by decide +kernel
theorem dM_scaled_31 : decode cM_scaled 31 = .ok (.ireturn, 1) := by decide +kernel
theorem dM_scaled_32 : decode cM_scaled 32 = .ok (.aload_n 0, 1) := by decide +kernel
theorem dM_scaled_33 : decode cM_scaled 33 = .ok (.getfield 31, 3) := by decide +kernel
theorem dM_scaled_36 : decode cM_scaled 36 = .ok (.iload_n 1, 1) := by decide +kernel
theorem dM_scaled_37 : decode cM_scaled 37 = .ok (.iaload, 1) := by decide +kernel
theorem dM_scaled_38 : decode cM_scaled 38 = .ok (.aload_n 0, 1) := by decide +kernel
theorem dM_scaled_39 : decode cM_scaled 39 = .ok (.getfield 50, 3) := by decide +kernel
theorem dM_scaled_42 : decode cM_scaled 42 = .ok (.iload_n 1, 1) := by decide +kernel
theorem dM_scaled_43 : decode cM_scaled 43 = .ok (.iaload, 1) := by decide +kernel
theorem dM_scaled_44 : decode cM_scaled 44 = .ok (.imul, 1) := by decide +kernel
theorem dM_scaled_45 : decode cM_scaled 45 = .ok (.istore_n 3, 1) := by decide +kernel
theorem dM_scaled_46 : decode cM_scaled 46 = .ok (.aload_n 0, 1) := by decide +kernel
theorem dM_scaled_47 : decode cM_scaled 47 = .ok (.iload_n 3, 1) := by decide +kernel
theorem dM_scaled_48 : decode cM_scaled 48 = .ok (.aload_n 0, 1) := by decide +kernel
theorem dM_scaled_49 : decode cM_scaled 49 = .ok (.getfield 53, 3) := by decide +kernel
theorem dM_scaled_52 : decode cM_scaled 52 = .ok (.iload_n 1, 1) := by decide +kernel
theorem dM_scaled_53 : decode cM_scaled 53 = .ok (.iaload, 1) := by decide +kernel
theorem dM_scaled_54 : decode cM_scaled 54 = .ok (.irem, 1) := by decide +kernel
theorem dM_scaled_55 : decode cM_scaled 55 = .ok (.aload_n 0, 1) := by decide +kernel
theorem dM_scaled_56 : decode cM_scaled 56 = .ok (.getfield 53, 3) := by decide +kernel
theorem dM_scaled_59 : decode cM_scaled 59 = .ok (.iload_n 1, 1) := by decide +kernel
theorem dM_scaled_60 : decode cM_scaled 60 = .ok (.iaload, 1) := by decide +kernel
theorem dM_scaled_61 : decode cM_scaled 61 = .ok (.invokevirtual 117, 3) := by decide +kernel
theorem dM_scaled_64 : decode cM_scaled 64 = .ok (.iload_n 2, 1) := by decide +kernel
theorem dM_scaled_65 : decode cM_scaled 65 = .ok (.ifCond .ne 14, 3) := by decide +kernel
theorem dM_scaled_68 : decode cM_scaled 68 = .ok (.iload_n 3, 1) := by decide +kernel
theorem dM_scaled_69 : decode cM_scaled 69 = .ok (.aload_n 0, 1) := by decide +kernel
theorem dM_scaled_70 : decode cM_scaled 70 = .ok (.getfield 53, 3) := by decide +kernel
theorem dM_scaled_73 : decode cM_scaled 73 = .ok (.iload_n 1, 1) := by decide +kernel
theorem dM_scaled_74 : decode cM_scaled 74 = .ok (.iaload, 1) := by decide +kernel
theorem dM_scaled_75 : decode cM_scaled 75 = .ok (.idiv, 1) := by decide +kernel
theorem dM_scaled_76 : decode cM_scaled 76 = .ok (.goto 19, 3) := by decide +kernel
theorem dM_scaled_79 : decode cM_scaled 79 = .ok (.iload_n 2, 1) := by decide +kernel
theorem dM_scaled_80 : decode cM_scaled 80 = .ok (.iconst 1, 1) := by decide +kernel
theorem dM_scaled_81 : decode cM_scaled 81 = .ok (.if_icmp .ne 10, 3) := by decide +kernel
theorem dM_scaled_84 : decode cM_scaled 84 = .ok (.aload_n 0, 1) := by decide +kernel
theorem dM_scaled_85 : decode cM_scaled 85 = .ok (.getfield 111, 3) := by decide +kernel
theorem dM_scaled_88 : decode cM_scaled 88 = .ok (.goto 7, 3) := by decide +kernel
theorem dM_scaled_91 : decode cM_scaled 91 = .ok (.aload_n 0, 1) := by decide +kernel
theorem dM_scaled_92 : decode cM_scaled 92 = .ok (.getfield 114, 3) := by decide +kernel
theorem dM_scaled_95 : decode cM_scaled 95 = .ok (.ireturn, 1) := by decide +kernel
theorem dM_diverse_0 : decode cM_diverse 0 = .ok (.aload_n 0, 1) := by decide +kernel
theorem dM_diverse_1 : decode cM_diverse 1 = .ok (.iload_n 1, 1) := by decide +kernel
theorem dM_diverse_2 : decode cM_diverse 2 = .ok (.iconst 0, 1) := by decide +kernel
theorem dM_diverse_3 : decode cM_diverse 3 = .ok (.iconst 1, 1) := by decide +kernel
theorem dM_diverse_4 : decode cM_diverse 4 = .ok (.invokestatic 66, 3) := by decide +kernel
theorem dM_diverse_7 : decode cM_diverse 7 = .ok (.ifCond .ne 7, 3) := by decide +kernel
theorem dM_diverse_10 : decode cM_diverse 10 = .ok (.iconst 1, 1) := by decide +kernel
theorem dM_diverse_11 : decode cM_diverse 11 = .ok (.goto 4, 3) := by decide +kernel
theorem dM_diverse_14 : decode cM_diverse 14 = .ok (.iconst 0, 1) := by decide +kernel
theorem dM_diverse_15 : decode cM_diverse 15 = .ok (.iconst 0, 1) := by decide +kernel
theorem dM_diverse_16 : decode cM_diverse 16 = .ok (.iconst 0, 1) := by decide +kernel
theorem dM_diverse_17 : decode cM_diverse 17 = .ok (.invokevirtual 77, 3) := by decide +kernel
theorem dM_diverse_20 : decode cM_diverse 20 = .ok (.ifCond .eq 5, 3) := by decide +kernel
theorem dM_diverse_23 : decode cM_diverse 23 = .ok (.iconst 0, 1) := by decide +kernel
theorem dM_diverse_24 : decode cM_diverse 24 = .ok (.ireturn, 1) := by decide +kernel
theorem dM_diverse_25 : decode cM_diverse 25 = .ok (.aload_n 0, 1) := by decide +kernel
theorem dM_diverse_26 : decode cM_diverse 26 = .ok (.getfield 70, 3) := by decide +kernel
theorem dM_diverse_29 : decode cM_diverse 29 = .ok (.aload_n 0, 1) := by decide +kernel
theorem dM_diverse_30 : decode cM_diverse 30 = .ok (.getfield 70, 3) := by decide +kernel
theorem dM_diverse_33 : decode cM_diverse 33 = .ok (.iconst 1, 1) := by decide +kernel
theorem dM_diverse_34 : decode cM_diverse 34 = .ok (.isub, 1) := by decide +kernel
theorem dM_diverse_35 : decode cM_diverse 35 = .ok (.imul, 1) := by decide +kernel
theorem dM_diverse_36 : decode cM_diverse 36 = .ok (.istore_n 2, 1) := by decide +kernel
theorem dM_diverse_37 : decode cM_diverse 37 = .ok (.iconst 0, 1) := by decide +kernel
theorem dM_diverse_38 : decode cM_diverse 38 = .ok (.istore_n 3, 1) := by decide +kernel
theorem dM_diverse_39 : decode cM_diverse 39 = .ok (.iconst 0, 1) := by decide +kernel
theorem dM_diverse_40 : decode cM_diverse 40 = .ok (.istore 4, 2) := by decide +kernel
theorem dM_diverse_42 : decode cM_diverse 42 = .ok (.iload 4, 2) := by decide +kernel
theorem dM_diverse_44 : decode cM_diverse 44 = .ok (.bipush 6, 2) := by decide +kernel
theorem dM_diverse_46 : decode cM_diverse 46 = .ok (.if_icmp .ge 29, 3) := by decide +kernel
theorem dM_diverse_49 : decode cM_diverse 49 = .ok (.iload_n 3, 1) := by decide +kernel
theorem dM_diverse_50 : decode cM_diverse 50 = .ok (.aload_n 0, 1) := by decide +kernel
theorem dM_diverse_51 : decode cM_diverse 51 = .ok (.getfield 31, 3) := by decide +kernel
theorem dM_diverse_54 : decode cM_diverse 54 = .ok (.iload 4, 2) := by decide +kernel
theorem dM_diverse_56 : decode cM_diverse 56 = .ok (.iaload, 1) := by decide +kernel
theorem dM_diverse_57 : decode cM_diverse 57 = .ok (.aload_n 0, 1) := by decide +kernel
theorem dM_diverse_58 : decode cM_diverse 58 = .ok (.getfield 31, 3) := by decide +kernel
theorem dM_diverse_61 : decode cM_diverse 61 = .ok (.iload 4, 2) := by decide +kernel
theorem dM_diverse_63 : decode cM_diverse 63 = .ok (.iaload, 1) := by decide +kernel
theorem dM_diverse_64 : decode cM_diverse 64 = .ok (.iconst 1, 1) := by decide +kernel
theorem dM_diverse_65 : decode cM_diverse 65 = .ok (.isub, 1) := by decide +kernel
theorem dM_diverse_66 : decode cM_diverse 66 = .ok (.imul, 1) := by decide +kernel
theorem dM_diverse_67 : decode cM_diverse 67 = .ok (.iadd, 1) := by decide +kernel
theorem dM_diverse_68 : decode cM_diverse 68 = .ok (.istore_n 3, 1) := by decide +kernel
theorem dM_diverse_69 : decode cM_diverse 69 = .ok (.iinc 4 1, 3) := by decide +kernel
theorem dM_diverse_72 : decode cM_diverse 72 = .ok (.goto (-30), 3) := by decide +kernel
theorem dM_diverse_75 : decode cM_diverse 75 = .ok (.aload_n 0, 1) := by decide +kernel
theorem dM_diverse_76 : decode cM_diverse 76 = .ok (.iload_n 2, 1) := by decide +kernel
theorem dM_diverse_77 : decode cM_diverse 77 = .ok (.iload_n 3, 1) := by decide +kernel
theorem dM_diverse_78 : decode cM_diverse 78 = .ok (.isub, 1) := by decide +kernel
theorem dM_diverse_79 : decode cM_diverse 79 = .ok (.iload_n 2, 1) := by decide +kernel
theorem dM_diverse_80 : decode cM_diverse 80 = .ok (.invokevirtual 117, 3) := by decide +kernel
theorem dM_diverse_83 : decode cM_diverse 83 = .ok (.iload_n 1, 1) := by decide +kernel
theorem dM_diverse_84 : decode cM_diverse 84 = .ok (.ifCond .ne 10, 3) := by decide +kernel
theorem dM_diverse_87 : decode cM_diverse 87 = .ok (.aload_n 0, 1) := by decide +kernel
theorem dM_diverse_88 : decode cM_diverse 88 = .ok (.getfield 111, 3) := by decide +kernel
theorem dM_diverse_91 : decode cM_diverse 91 = .ok (.goto 7, 3) := by decide +kernel
theorem dM_diverse_94 : decode cM_diverse 94 = .ok (.aload_n 0, 1) := by decide +kernel
theorem dM_diverse_95 : decode cM_diverse 95 = .ok (.getfield 114, 3) := by decide +kernel
theorem dM_diverse_98 : decode cM_diverse 98 = .ok (.ireturn, 1) := by decide +kernel
theorem dM_pieces_0 : decode cM_pieces 0 = .ok (.aload_n 0, 1) := by decide +kernel
theorem dM_pieces_1 : decode cM_pieces 1 = .ok (.iload_n 1, 1) := by decide +kernel
theorem dM_pieces_2 : decode cM_pieces 2 = .ok (.iconst (-1), 1) := by decide +kernel
theorem dM_pieces_3 : decode cM_pieces 3 = .ok (.if_icmp .eq 14, 3) := by decide +kernel
theorem dM_pieces_6 : decode cM_pieces 6 = .ok (.iload_n 1, 1) := by decide +kernel
theorem dM_pieces_7 : decode cM_pieces 7 = .ok (.invokestatic 73, 3) := by decide +kernel
theorem dM_pieces_10 : decode cM_pieces 10 = .ok (.ifCond .ne 7, 3) := by decide +kernel
theorem dM_pieces_13 : decode cM_pieces 13 = .ok (.iconst 1, 1) := by decide +kernel
theorem dM_pieces_14 : decode cM_pieces 14 = .ok (.goto 4, 3) := by decide +kernel
theorem dM_pieces_17 : decode cM_pieces 17 = .ok (.iconst 0, 1) := by decide +kernel
theorem dM_pieces_18 : decode cM_pieces 18 = .ok (.iconst 0, 1) := by decide +kernel
theorem dM_pieces_19 : decode cM_pieces 19 = .ok (.iconst 0, 1) := by decide +kernel
theorem dM_pieces_20 : decode cM_pieces 20 = .ok (.invokevirtual 77, 3) := by decide +kernel
theorem dM_pieces_23 : decode cM_pieces 23 = .ok (.ifCond .eq 5, 3) := by decide +kernel
theorem dM_pieces_26 : decode cM_pieces 26 = .ok (.iconst 0, 1) := by decide +kernel
theorem dM_pieces_27 : decode cM_pieces 27 = .ok (.ireturn, 1) := by decide +kernel
theorem dM_pieces_28 : decode cM_pieces 28 = .ok (.iload_n 1, 1) := by decide +kernel
theorem dM_pieces_29 : decode cM_pieces 29 = .ok (.iconst (-1), 1) := by decide +kernel
theorem dM_pieces_30 : decode cM_pieces 30 = .ok (.if_icmp .ne 10, 3) := by decide +kernel
theorem dM_pieces_33 : decode cM_pieces 33 = .ok (.aload_n 0, 1) := by decide +kernel
theorem dM_pieces_34 : decode cM_pieces 34 = .ok (.getfield 70, 3) := by decide +kernel
theorem dM_pieces_37 : decode cM_pieces 37 = .ok (.goto 9, 3) := by decide +kernel
theorem dM_pieces_40 : decode cM_pieces 40 = .ok (.aload_n 0, 1) := by decide +kernel
theorem dM_pieces_41 : decode cM_pieces 41 = .ok (.getfield 31, 3) := by decide +kernel
theorem dM_pieces_44 : decode cM_pieces 44 = .ok (.iload_n 1, 1) := by decide +kernel
theorem dM_pieces_45 : decode cM_pieces 45 = .ok (.iaload, 1) := by decide +kernel
theorem dM_pieces_46 : decode cM_pieces 46 = .ok (.ireturn, 1) := by decide +kernel
end
section
theorem dL_piece_0 : decode cL_piece 0 = .ok (.aload 5, 2) := by decide +kernel
theorem dL_piece_2 : decode cL_piece 2 = .ok (.iconst 0, 1) := by decide +kernel
theorem dL_piece_3 : decode cL_piece 3 = .ok (.aload_n 0, 1) := by decide +kernel
theorem dL_piece_4 : decode cL_piece 4 = .ok (.iload_n 1, 1) := by decide +kernel
theorem dL_piece_5 : decode cL_piece 5 = .ok (.iload_n 2, 1) := by decide +kernel
theorem dL_piece_6 : decode cL_piece 6 = .ok (.iload_n 3, 1) := by decide +kernel
theorem dL_piece_7 : decode cL_piece 7 = .ok (.iload 4, 2) := by decide +kernel
theorem dL_piece_9 : decode cL_piece 9 = .ok (.invokevirtual 7, 3) := by decide +kernel
theorem dL_piece_12 : decode cL_piece 12 = .ok (.i2l, 1) := by decide +kernel
theorem dL_piece_13 : decode cL_piece 13 = .ok (.lastore, 1) := by decide +kernel
theorem dL_piece_14 : decode cL_piece 14 = .ok (.goto 15, 3) := by decide +kernel
theorem dL_piece_17 : decode cL_piece 17 = .ok (.astore 6, 2) := by decide +kernel
theorem dL_piece_19 : decode cL_piece 19 = .ok (.iconst 1, 1) := by decide +kernel
theorem dL_piece_20 : decode cL_piece 20 = .ok (.ireturn, 1) := by decide +kernel
theorem dL_piece_21 : decode cL_piece 21 = .ok (.astore 6, 2) := by decide +kernel
theorem dL_piece_23 : decode cL_piece 23 = .ok (.iconst 2, 1) := by decide +kernel
theorem dL_piece_24 : decode cL_piece 24 = .ok (.ireturn, 1) := by decide +kernel
theorem dL_piece_25 : decode cL_piece 25 = .ok (.astore 6, 2) := by decide +kernel
theorem dL_piece_27 : decode cL_piece 27 = .ok (.iconst 3, 1) := by decide +kernel
theorem dL_piece_28 : decode cL_piece 28 = .ok (.ireturn, 1) := by decide +kernel
theorem dL_piece_29 : decode cL_piece 29 = .ok (.iconst 0, 1) := by decide +kernel
theorem dL_piece_30 : decode cL_piece 30 = .ok (.ireturn, 1) := by decide +kernel
theorem dL_single_0 : decode cL_single 0 = .ok (.aload 4, 2) := by decide +kernel
theorem dL_single_2 : decode cL_single 2 = .ok (.iconst 0, 1) := by decide +kernel
theorem dL_single_3 : decode cL_single 3 = .ok (.aload_n 0, 1) := by decide +kernel
theorem dL_single_4 : decode cL_single 4 = .ok (.iload_n 1, 1) := by decide +kernel
theorem dL_single_5 : decode cL_single 5 = .ok (.iload_n 2, 1) := by decide +kernel
theorem dL_single_6 : decode cL_single 6 = .ok (.iload_n 3, 1) := by decide +kernel
theorem dL_single_7 : decode cL_single 7 = .ok (.invokevirtual 19, 3) := by decide +kernel
theorem dL_single_10 : decode cL_single 10 = .ok (.ifCond .eq 7, 3) := by decide +kernel
theorem dL_single_13 : decode cL_single 13 = .ok (.lconst 1, 1) := by decide +kernel
theorem dL_single_14 : decode cL_single 14 = .ok (.goto 4, 3) := by decide +kernel
theorem dL_single_17 : decode cL_single 17 = .ok (.lconst 0, 1) := by decide +kernel
theorem dL_single_18 : decode cL_single 18 = .ok (.lastore, 1) := by decide +kernel
theorem dL_single_19 : decode cL_single 19 = .ok (.goto 7, 3) := by decide +kernel
theorem dL_single_22 : decode cL_single 22 = .ok (.astore 5, 2) := by decide +kernel
theorem dL_single_24 : decode cL_single 24 = .ok (.iconst 1, 1) := by decide +kernel
theorem dL_single_25 : decode cL_single 25 = .ok (.ireturn, 1) := by decide +kernel
theorem dL_single_26 : decode cL_single 26 = .ok (.iconst 0, 1) := by decide +kernel
theorem dL_single_27 : decode cL_single 27 = .ok (.ireturn, 1) := by decide +kernel
theorem dL_bound_0 : decode cL_bound 0 = .ok (.aload_n 3, 1) := by decide +kernel
theorem dL_bound_1 : decode cL_bound 1 = .ok (.iconst 0, 1) := by decide +kernel
theorem dL_bound_2 : decode cL_bound 2 = .ok (.aload_n 0, 1) := by decide +kernel
theorem dL_bound_3 : decode cL_bound 3 = .ok (.iload_n 1, 1) := by decide +kernel
theorem dL_bound_4 : decode cL_bound 4 = .ok (.iload_n 2, 1) := by decide +kernel
theorem dL_bound_5 : decode cL_bound 5 = .ok (.invokevirtual 23, 3) := by decide +kernel
theorem dL_bound_8 : decode cL_bound 8 = .ok (.i2l, 1) := by decide +kernel
theorem dL_bound_9 : decode cL_bound 9 = .ok (.lastore, 1) := by decide +kernel
theorem dL_bound_10 : decode cL_bound 10 = .ok (.goto 11, 3) := by decide +kernel
theorem dL_bound_13 : decode cL_bound 13 = .ok (.astore 4, 2) := by decide +kernel
theorem dL_bound_15 : decode cL_bound 15 = .ok (.iconst 1, 1) := by decide +kernel
theorem dL_bound_16 : decode cL_bound 16 = .ok (.ireturn, 1) := by decide +kernel
theorem dL_bound_17 : decode cL_bound 17 = .ok (.astore 4, 2) := by decide +kernel
theorem dL_bound_19 : decode cL_bound 19 = .ok (.iconst 2, 1) := by decide +kernel
theorem dL_bound_20 : decode cL_bound 20 = .ok (.ireturn, 1) := by decide +kernel
theorem dL_bound_21 : decode cL_bound 21 = .ok (.iconst 0, 1) := by decide +kernel
theorem dL_bound_22 : decode cL_bound 22 = .ok (.ireturn, 1) := by decide +kernel
theorem dL_table_0 : decode cL_table 0 = .ok (.aload_n 0, 1) := by decide +kernel
theorem dL_table_1 : decode cL_table 1 = .ok (.iload_n 1, 1) := by decide +kernel
theorem dL_table_2 : decode cL_table 2 = .ok (.iload_n 2, 1) := by decide +kernel
theorem dL_table_3 : decode cL_table 3 = .ok (.iload_n 3, 1) := by decide +kernel
theorem dL_table_4 : decode cL_table 4 = .ok (.iload 4, 2) := by decide +kernel
theorem dL_table_6 : decode cL_table 6 = .ok (.invokevirtual 27, 3) := by decide +kernel
theorem dL_table_9 : decode cL_table 9 = .ok (.goto 11, 3) := by decide +kernel
theorem dL_table_12 : decode cL_table 12 = .ok (.astore 5, 2) := by decide +kernel
theorem dL_table_14 : decode cL_table 14 = .ok (.iconst 1, 1) := by decide +kernel
theorem dL_table_15 : decode cL_table 15 = .ok (.ireturn, 1) := by decide +kernel
theorem dL_table_16 : decode cL_table 16 = .ok (.astore 5, 2) := by decide +kernel
theorem dL_table_18 : decode cL_table 18 = .ok (.iconst 2, 1) := by decide +kernel
theorem dL_table_19 : decode cL_table 19 = .ok (.ireturn, 1) := by decide +kernel
theorem dL_table_20 : decode cL_table 20 = .ok (.iconst 0, 1) := by decide +kernel
theorem dL_table_21 : decode cL_table 21 = .ok (.ireturn, 1) := by decide +kernel
theorem dL_worn_0 : decode cL_worn 0 = .ok (.aload_n 0, 1) := by decide +kernel
theorem dL_worn_1 : decode cL_worn 1 = .ok (.iload_n 1, 1) := by decide +kernel
theorem dL_worn_2 : decode cL_worn 2 = .ok (.iload_n 2, 1) := by decide +kernel
theorem dL_worn_3 : decode cL_worn 3 = .ok (.invokevirtual 31, 3) := by decide +kernel
theorem dL_worn_6 : decode cL_worn 6 = .ok (.goto 6, 3) := by decide +kernel
theorem dL_worn_9 : decode cL_worn 9 = .ok (.astore_n 3, 1) := by decide +kernel
theorem dL_worn_10 : decode cL_worn 10 = .ok (.iconst 1, 1) := by decide +kernel
theorem dL_worn_11 : decode cL_worn 11 = .ok (.ireturn, 1) := by decide +kernel
theorem dL_worn_12 : decode cL_worn 12 = .ok (.iconst 0, 1) := by decide +kernel
theorem dL_worn_13 : decode cL_worn 13 = .ok (.ireturn, 1) := by decide +kernel
theorem dL_aged_0 : decode cL_aged 0 = .ok (.aload_n 3, 1) := by decide +kernel
theorem dL_aged_1 : decode cL_aged 1 = .ok (.iconst 0, 1) := by decide +kernel
theorem dL_aged_2 : decode cL_aged 2 = .ok (.aload_n 0, 1) := by decide +kernel
theorem dL_aged_3 : decode cL_aged 3 = .ok (.iload_n 1, 1) := by decide +kernel
theorem dL_aged_4 : decode cL_aged 4 = .ok (.iload_n 2, 1) := by decide +kernel
theorem dL_aged_5 : decode cL_aged 5 = .ok (.invokevirtual 35, 3) := by decide +kernel
theorem dL_aged_8 : decode cL_aged 8 = .ok (.i2l, 1) := by decide +kernel
theorem dL_aged_9 : decode cL_aged 9 = .ok (.lastore, 1) := by decide +kernel
theorem dL_aged_10 : decode cL_aged 10 = .ok (.goto 7, 3) := by decide +kernel
theorem dL_aged_13 : decode cL_aged 13 = .ok (.astore 4, 2) := by decide +kernel
theorem dL_aged_15 : decode cL_aged 15 = .ok (.iconst 1, 1) := by decide +kernel
theorem dL_aged_16 : decode cL_aged 16 = .ok (.ireturn, 1) := by decide +kernel
theorem dL_aged_17 : decode cL_aged 17 = .ok (.iconst 0, 1) := by decide +kernel
theorem dL_aged_18 : decode cL_aged 18 = .ok (.ireturn, 1) := by decide +kernel
theorem dL_unsure_0 : decode cL_unsure 0 = .ok (.aload_n 2, 1) := by decide +kernel
theorem dL_unsure_1 : decode cL_unsure 1 = .ok (.iconst 0, 1) := by decide +kernel
theorem dL_unsure_2 : decode cL_unsure 2 = .ok (.aload_n 0, 1) := by decide +kernel
theorem dL_unsure_3 : decode cL_unsure 3 = .ok (.iload_n 1, 1) := by decide +kernel
theorem dL_unsure_4 : decode cL_unsure 4 = .ok (.invokevirtual 38, 3) := by decide +kernel
theorem dL_unsure_7 : decode cL_unsure 7 = .ok (.ifCond .eq 7, 3) := by decide +kernel
theorem dL_unsure_10 : decode cL_unsure 10 = .ok (.lconst 1, 1) := by decide +kernel
theorem dL_unsure_11 : decode cL_unsure 11 = .ok (.goto 4, 3) := by decide +kernel
theorem dL_unsure_14 : decode cL_unsure 14 = .ok (.lconst 0, 1) := by decide +kernel
theorem dL_unsure_15 : decode cL_unsure 15 = .ok (.lastore, 1) := by decide +kernel
theorem dL_unsure_16 : decode cL_unsure 16 = .ok (.goto 6, 3) := by decide +kernel
theorem dL_unsure_19 : decode cL_unsure 19 = .ok (.astore_n 3, 1) := by decide +kernel
theorem dL_unsure_20 : decode cL_unsure 20 = .ok (.iconst 1, 1) := by decide +kernel
theorem dL_unsure_21 : decode cL_unsure 21 = .ok (.ireturn, 1) := by decide +kernel
theorem dL_unsure_22 : decode cL_unsure 22 = .ok (.iconst 0, 1) := by decide +kernel
theorem dL_unsure_23 : decode cL_unsure 23 = .ok (.ireturn, 1) := by decide +kernel
theorem dL_clash_0 : decode cL_clash 0 = .ok (.aload_n 3, 1) := by decide +kernel
theorem dL_clash_1 : decode cL_clash 1 = .ok (.iconst 0, 1) := by decide +kernel
theorem dL_clash_2 : decode cL_clash 2 = .ok (.aload_n 0, 1) := by decide +kernel
theorem dL_clash_3 : decode cL_clash 3 = .ok (.iload_n 1, 1) := by decide +kernel
theorem dL_clash_4 : decode cL_clash 4 = .ok (.iload_n 2, 1) := by decide +kernel
theorem dL_clash_5 : decode cL_clash 5 = .ok (.invokevirtual 42, 3) := by decide +kernel
theorem dL_clash_8 : decode cL_clash 8 = .ok (.i2l, 1) := by decide +kernel
theorem dL_clash_9 : decode cL_clash 9 = .ok (.lastore, 1) := by decide +kernel
theorem dL_clash_10 : decode cL_clash 10 = .ok (.goto 11, 3) := by decide +kernel
theorem dL_clash_13 : decode cL_clash 13 = .ok (.astore 4, 2) := by decide +kernel
theorem dL_clash_15 : decode cL_clash 15 = .ok (.iconst 1, 1) := by decide +kernel
theorem dL_clash_16 : decode cL_clash 16 = .ok (.ireturn, 1) := by decide +kernel
theorem dL_clash_17 : decode cL_clash 17 = .ok (.astore 4, 2) := by decide +kernel
theorem dL_clash_19 : decode cL_clash 19 = .ok (.iconst 2, 1) := by decide +kernel
theorem dL_clash_20 : decode cL_clash 20 = .ok (.ireturn, 1) := by decide +kernel
theorem dL_clash_21 : decode cL_clash 21 = .ok (.iconst 0, 1) := by decide +kernel
theorem dL_clash_22 : decode cL_clash 22 = .ok (.ireturn, 1) := by decide +kernel
theorem dL_least_0 : decode cL_least 0 = .ok (.aload_n 2, 1) := by decide +kernel
theorem dL_least_1 : decode cL_least 1 = .ok (.iconst 0, 1) := by decide +kernel
theorem dL_least_2 : decode cL_least 2 = .ok (.aload_n 0, 1) := by decide +kernel
theorem dL_least_3 : decode cL_least 3 = .ok (.iload_n 1, 1) := by decide +kernel
theorem dL_least_4 : decode cL_least 4 = .ok (.invokevirtual 45, 3) := by decide +kernel
theorem dL_least_7 : decode cL_least 7 = .ok (.i2l, 1) := by decide +kernel
theorem dL_least_8 : decode cL_least 8 = .ok (.lastore, 1) := by decide +kernel
theorem dL_least_9 : decode cL_least 9 = .ok (.goto 6, 3) := by decide +kernel
theorem dL_least_12 : decode cL_least 12 = .ok (.astore_n 3, 1) := by decide +kernel
theorem dL_least_13 : decode cL_least 13 = .ok (.iconst 1, 1) := by decide +kernel
theorem dL_least_14 : decode cL_least 14 = .ok (.ireturn, 1) := by decide +kernel
theorem dL_least_15 : decode cL_least 15 = .ok (.iconst 0, 1) := by decide +kernel
theorem dL_least_16 : decode cL_least 16 = .ok (.ireturn, 1) := by decide +kernel
theorem dL_animal_0 : decode cL_animal 0 = .ok (.aload_n 2, 1) := by decide +kernel
theorem dL_animal_1 : decode cL_animal 1 = .ok (.iconst 0, 1) := by decide +kernel
theorem dL_animal_2 : decode cL_animal 2 = .ok (.aload_n 0, 1) := by decide +kernel
theorem dL_animal_3 : decode cL_animal 3 = .ok (.iload_n 1, 1) := by decide +kernel
theorem dL_animal_4 : decode cL_animal 4 = .ok (.invokevirtual 49, 3) := by decide +kernel
theorem dL_animal_7 : decode cL_animal 7 = .ok (.i2l, 1) := by decide +kernel
theorem dL_animal_8 : decode cL_animal 8 = .ok (.lastore, 1) := by decide +kernel
theorem dL_animal_9 : decode cL_animal 9 = .ok (.goto 6, 3) := by decide +kernel
theorem dL_animal_12 : decode cL_animal 12 = .ok (.astore_n 3, 1) := by decide +kernel
theorem dL_animal_13 : decode cL_animal 13 = .ok (.iconst 1, 1) := by decide +kernel
theorem dL_animal_14 : decode cL_animal 14 = .ok (.ireturn, 1) := by decide +kernel
theorem dL_animal_15 : decode cL_animal 15 = .ok (.iconst 0, 1) := by decide +kernel
theorem dL_animal_16 : decode cL_animal 16 = .ok (.ireturn, 1) := by decide +kernel
theorem dL_clashing_0 : decode cL_clashing 0 = .ok (.aload_n 3, 1) := by decide +kernel
theorem dL_clashing_1 : decode cL_clashing 1 = .ok (.iconst 0, 1) := by decide +kernel
theorem dL_clashing_2 : decode cL_clashing 2 = .ok (.aload_n 0, 1) := by decide +kernel
theorem dL_clashing_3 : decode cL_clashing 3 = .ok (.iload_n 1, 1) := by decide +kernel
theorem dL_clashing_4 : decode cL_clashing 4 = .ok (.iload_n 2, 1) := by decide +kernel
theorem dL_clashing_5 : decode cL_clashing 5 = .ok (.invokevirtual 52, 3) := by decide +kernel
theorem dL_clashing_8 : decode cL_clashing 8 = .ok (.i2l, 1) := by decide +kernel
theorem dL_clashing_9 : decode cL_clashing 9 = .ok (.lastore, 1) := by decide +kernel
theorem dL_clashing_10 : decode cL_clashing 10 = .ok (.goto 7, 3) := by decide +kernel
theorem dL_clashing_13 : decode cL_clashing 13 = .ok (.astore 4, 2) := by decide +kernel
theorem dL_clashing_15 : decode cL_clashing 15 = .ok (.iconst 1, 1) := by decide +kernel
theorem dL_clashing_16 : decode cL_clashing 16 = .ok (.ireturn, 1) := by decide +kernel
theorem dL_clashing_17 : decode cL_clashing 17 = .ok (.iconst 0, 1) := by decide +kernel
theorem dL_clashing_18 : decode cL_clashing 18 = .ok (.ireturn, 1) := by decide +kernel
theorem dL_weight_0 : decode cL_weight 0 = .ok (.aload_n 3, 1) := by decide +kernel
theorem dL_weight_1 : decode cL_weight 1 = .ok (.iconst 0, 1) := by decide +kernel
theorem dL_weight_2 : decode cL_weight 2 = .ok (.aload_n 0, 1) := by decide +kernel
theorem dL_weight_3 : decode cL_weight 3 = .ok (.iload_n 1, 1) := by decide +kernel
theorem dL_weight_4 : decode cL_weight 4 = .ok (.iload_n 2, 1) := by decide +kernel
theorem dL_weight_5 : decode cL_weight 5 = .ok (.invokevirtual 55, 3) := by decide +kernel
theorem dL_weight_8 : decode cL_weight 8 = .ok (.i2l, 1) := by decide +kernel
theorem dL_weight_9 : decode cL_weight 9 = .ok (.lastore, 1) := by decide +kernel
theorem dL_weight_10 : decode cL_weight 10 = .ok (.goto 11, 3) := by decide +kernel
theorem dL_weight_13 : decode cL_weight 13 = .ok (.astore 4, 2) := by decide +kernel
theorem dL_weight_15 : decode cL_weight 15 = .ok (.iconst 1, 1) := by decide +kernel
theorem dL_weight_16 : decode cL_weight 16 = .ok (.ireturn, 1) := by decide +kernel
theorem dL_weight_17 : decode cL_weight 17 = .ok (.astore 4, 2) := by decide +kernel
theorem dL_weight_19 : decode cL_weight 19 = .ok (.iconst 2, 1) := by decide +kernel
theorem dL_weight_20 : decode cL_weight 20 = .ok (.ireturn, 1) := by decide +kernel
theorem dL_weight_21 : decode cL_weight 21 = .ok (.iconst 0, 1) := by decide +kernel
theorem dL_weight_22 : decode cL_weight 22 = .ok (.ireturn, 1) := by decide +kernel
theorem dL_sum_0 : decode cL_sum 0 = .ok (.aload_n 2, 1) := by decide +kernel
theorem dL_sum_1 : decode cL_sum 1 = .ok (.iconst 0, 1) := by decide +kernel
theorem dL_sum_2 : decode cL_sum 2 = .ok (.aload_n 0, 1) := by decide +kernel
theorem dL_sum_3 : decode cL_sum 3 = .ok (.iload_n 1, 1) := by decide +kernel
theorem dL_sum_4 : decode cL_sum 4 = .ok (.invokevirtual 58, 3) := by decide +kernel
theorem dL_sum_7 : decode cL_sum 7 = .ok (.i2l, 1) := by decide +kernel
theorem dL_sum_8 : decode cL_sum 8 = .ok (.lastore, 1) := by decide +kernel
theorem dL_sum_9 : decode cL_sum 9 = .ok (.goto 6, 3) := by decide +kernel
theorem dL_sum_12 : decode cL_sum 12 = .ok (.astore_n 3, 1) := by decide +kernel
theorem dL_sum_13 : decode cL_sum 13 = .ok (.iconst 1, 1) := by decide +kernel
theorem dL_sum_14 : decode cL_sum 14 = .ok (.ireturn, 1) := by decide +kernel
theorem dL_sum_15 : decode cL_sum 15 = .ok (.iconst 0, 1) := by decide +kernel
theorem dL_sum_16 : decode cL_sum 16 = .ok (.ireturn, 1) := by decide +kernel
theorem dL_share_0 : decode cL_share 0 = .ok (.aload_n 3, 1) := by decide +kernel
theorem dL_share_1 : decode cL_share 1 = .ok (.iconst 0, 1) := by decide +kernel
theorem dL_share_2 : decode cL_share 2 = .ok (.aload_n 0, 1) := by decide +kernel
theorem dL_share_3 : decode cL_share 3 = .ok (.iload_n 1, 1) := by decide +kernel
theorem dL_share_4 : decode cL_share 4 = .ok (.iload_n 2, 1) := by decide +kernel
theorem dL_share_5 : decode cL_share 5 = .ok (.invokevirtual 61, 3) := by decide +kernel
theorem dL_share_8 : decode cL_share 8 = .ok (.i2l, 1) := by decide +kernel
theorem dL_share_9 : decode cL_share 9 = .ok (.lastore, 1) := by decide +kernel
theorem dL_share_10 : decode cL_share 10 = .ok (.goto 7, 3) := by decide +kernel
theorem dL_share_13 : decode cL_share 13 = .ok (.astore 4, 2) := by decide +kernel
theorem dL_share_15 : decode cL_share 15 = .ok (.iconst 1, 1) := by decide +kernel
theorem dL_share_16 : decode cL_share 16 = .ok (.ireturn, 1) := by decide +kernel
theorem dL_share_17 : decode cL_share 17 = .ok (.iconst 0, 1) := by decide +kernel
theorem dL_share_18 : decode cL_share 18 = .ok (.ireturn, 1) := by decide +kernel
theorem dL_sieve_0 : decode cL_sieve 0 = .ok (.aload_n 0, 1) := by decide +kernel
theorem dL_sieve_1 : decode cL_sieve 1 = .ok (.iload_n 1, 1) := by decide +kernel
theorem dL_sieve_2 : decode cL_sieve 2 = .ok (.iload_n 2, 1) := by decide +kernel
theorem dL_sieve_3 : decode cL_sieve 3 = .ok (.iload_n 3, 1) := by decide +kernel
theorem dL_sieve_4 : decode cL_sieve 4 = .ok (.invokevirtual 64, 3) := by decide +kernel
theorem dL_sieve_7 : decode cL_sieve 7 = .ok (.goto 11, 3) := by decide +kernel
theorem dL_sieve_10 : decode cL_sieve 10 = .ok (.astore 4, 2) := by decide +kernel
theorem dL_sieve_12 : decode cL_sieve 12 = .ok (.iconst 1, 1) := by decide +kernel
theorem dL_sieve_13 : decode cL_sieve 13 = .ok (.ireturn, 1) := by decide +kernel
theorem dL_sieve_14 : decode cL_sieve 14 = .ok (.astore 4, 2) := by decide +kernel
theorem dL_sieve_16 : decode cL_sieve 16 = .ok (.iconst 2, 1) := by decide +kernel
theorem dL_sieve_17 : decode cL_sieve 17 = .ok (.ireturn, 1) := by decide +kernel
theorem dL_sieve_18 : decode cL_sieve 18 = .ok (.iconst 0, 1) := by decide +kernel
theorem dL_sieve_19 : decode cL_sieve 19 = .ok (.ireturn, 1) := by decide +kernel
theorem dL_scaled_0 : decode cL_scaled 0 = .ok (.aload_n 3, 1) := by decide +kernel
theorem dL_scaled_1 : decode cL_scaled 1 = .ok (.iconst 0, 1) := by decide +kernel
theorem dL_scaled_2 : decode cL_scaled 2 = .ok (.aload_n 0, 1) := by decide +kernel
theorem dL_scaled_3 : decode cL_scaled 3 = .ok (.iload_n 1, 1) := by decide +kernel
theorem dL_scaled_4 : decode cL_scaled 4 = .ok (.iload_n 2, 1) := by decide +kernel
theorem dL_scaled_5 : decode cL_scaled 5 = .ok (.invokevirtual 68, 3) := by decide +kernel
theorem dL_scaled_8 : decode cL_scaled 8 = .ok (.i2l, 1) := by decide +kernel
theorem dL_scaled_9 : decode cL_scaled 9 = .ok (.lastore, 1) := by decide +kernel
theorem dL_scaled_10 : decode cL_scaled 10 = .ok (.goto 7, 3) := by decide +kernel
theorem dL_scaled_13 : decode cL_scaled 13 = .ok (.astore 4, 2) := by decide +kernel
theorem dL_scaled_15 : decode cL_scaled 15 = .ok (.iconst 1, 1) := by decide +kernel
theorem dL_scaled_16 : decode cL_scaled 16 = .ok (.ireturn, 1) := by decide +kernel
theorem dL_scaled_17 : decode cL_scaled 17 = .ok (.iconst 0, 1) := by decide +kernel
theorem dL_scaled_18 : decode cL_scaled 18 = .ok (.ireturn, 1) := by decide +kernel
theorem dL_diverse_0 : decode cL_diverse 0 = .ok (.aload_n 2, 1) := by decide +kernel
theorem dL_diverse_1 : decode cL_diverse 1 = .ok (.iconst 0, 1) := by decide +kernel
theorem dL_diverse_2 : decode cL_diverse 2 = .ok (.aload_n 0, 1) := by decide +kernel
theorem dL_diverse_3 : decode cL_diverse 3 = .ok (.iload_n 1, 1) := by decide +kernel
theorem dL_diverse_4 : decode cL_diverse 4 = .ok (.invokevirtual 71, 3) := by decide +kernel
theorem dL_diverse_7 : decode cL_diverse 7 = .ok (.i2l, 1) := by decide +kernel
theorem dL_diverse_8 : decode cL_diverse 8 = .ok (.lastore, 1) := by decide +kernel
theorem dL_diverse_9 : decode cL_diverse 9 = .ok (.goto 6, 3) := by decide +kernel
theorem dL_diverse_12 : decode cL_diverse 12 = .ok (.astore_n 3, 1) := by decide +kernel
theorem dL_diverse_13 : decode cL_diverse 13 = .ok (.iconst 1, 1) := by decide +kernel
theorem dL_diverse_14 : decode cL_diverse 14 = .ok (.ireturn, 1) := by decide +kernel
theorem dL_diverse_15 : decode cL_diverse 15 = .ok (.iconst 0, 1) := by decide +kernel
theorem dL_diverse_16 : decode cL_diverse 16 = .ok (.ireturn, 1) := by decide +kernel
theorem dL_pieces_0 : decode cL_pieces 0 = .ok (.aload_n 2, 1) := by decide +kernel
theorem dL_pieces_1 : decode cL_pieces 1 = .ok (.iconst 0, 1) := by decide +kernel
theorem dL_pieces_2 : decode cL_pieces 2 = .ok (.aload_n 0, 1) := by decide +kernel
theorem dL_pieces_3 : decode cL_pieces 3 = .ok (.iload_n 1, 1) := by decide +kernel
theorem dL_pieces_4 : decode cL_pieces 4 = .ok (.invokevirtual 74, 3) := by decide +kernel
theorem dL_pieces_7 : decode cL_pieces 7 = .ok (.i2l, 1) := by decide +kernel
theorem dL_pieces_8 : decode cL_pieces 8 = .ok (.lastore, 1) := by decide +kernel
theorem dL_pieces_9 : decode cL_pieces 9 = .ok (.goto 6, 3) := by decide +kernel
theorem dL_pieces_12 : decode cL_pieces 12 = .ok (.astore_n 3, 1) := by decide +kernel
theorem dL_pieces_13 : decode cL_pieces 13 = .ok (.iconst 1, 1) := by decide +kernel
theorem dL_pieces_14 : decode cL_pieces 14 = .ok (.ireturn, 1) := by decide +kernel
theorem dL_pieces_15 : decode cL_pieces 15 = .ok (.iconst 0, 1) := by decide +kernel
theorem dL_pieces_16 : decode cL_pieces 16 = .ok (.ireturn, 1) := by decide +kernel
end
section
/-! numbered worlds: the i-th cell lies at ad i and holds c i -/
def nw (N : Nat) (ad : Nat → Nat) (c : Nat → va_E) : va_W := (List.range N).map (fun i => (ad i, c i))
theorem nw_get {N : Nat} {ad : Nat → Nat} {c : Nat → va_E} {i : Nat} (h : i < N) : (nw N ad c)[i]? = some (ad i, c i) := by
  simp [nw, h]
theorem nw_getE {N : Nat} {ad : Nat → Nat} {c : Nat → va_E} {i : Nat} {e : va_E} (h : i < N) (he : c i = e) : (nw N ad c)[i]? = some (ad i, e) := by
  rw [nw_get h, he]
theorem nw_get_inv {N : Nat} {ad : Nat → Nat} {c : Nat → va_E} {i : Nat} {q : Nat × va_E} (h : (nw N ad c)[i]? = some q) : i < N ∧ q = (ad i, c i) := by
  by_cases hi : i < N
  · rw [nw_get hi] at h
    exact ⟨hi, (Option.some.inj h).symm⟩
  · have hl : (nw N ad c).length ≤ i := by simp [nw]; omega
    rw [List.getElem?_eq_none hl] at h
    cases h
theorem nw_congr {N : Nat} {ad : Nat → Nat} {c c' : Nat → va_E} (h : ∀ i, i < N → c i = c' i) : nw N ad c = nw N ad c' := by
  unfold nw
  exact List.map_congr_left (fun i hi => by rw [h i (List.mem_range.mp hi)])
theorem nw_set {N : Nat} {ad : Nat → Nat} {c : Nat → va_E} {i : Nat} {a : Nat} {e : va_E} (ha : a = ad i) : (nw N ad c).set i (a, e) = nw N ad (va_up c i e) := by
  subst ha
  apply List.ext_getElem?
  intro j
  rw [List.getElem?_set]
  by_cases hij : i = j
  · subst hij
    by_cases hi : i < N
    · rw [nw_get (c := va_up c i e) hi, va_up_self, if_pos rfl, if_pos (by simp [nw]; exact hi)]
    · have hl : (nw N ad c).length ≤ i := by simp [nw]; omega
      have hl2 : (nw N ad (va_up c i e)).length ≤ i := by simp [nw]; omega
      rw [List.getElem?_eq_none hl2]
      simp [Nat.not_lt.mpr hl]
  · rw [if_neg hij]
    by_cases hj : j < N
    · rw [nw_get hj, nw_get hj, va_up_ne _ _ (fun h => hij h.symm)]
    · have hl : (nw N ad c).length ≤ j := by simp [nw]; omega
      have hl2 : (nw N ad (va_up c i e)).length ≤ j := by simp [nw]; omega
      rw [List.getElem?_eq_none hl, List.getElem?_eq_none hl2]
theorem nw_setE {N : Nat} {ad : Nat → Nat} {c c' : Nat → va_E} {i : Nat} {a : Nat} {e : va_E} (ha : a = ad i) (h : ∀ j, j < N → va_up c i e j = c' j) : (nw N ad c).set i (a, e) = nw N ad c' := by
  rw [nw_set ha]
  exact nw_congr h
theorem nw_push {N : Nat} {ad : Nat → Nat} {c : Nat → va_E} {q : Nat} {e : va_E} : nw N ad c ++ [(q, e)] = nw (N + 1) (va_up ad N q) (va_up c N e) := by
  unfold nw
  rw [List.range_succ, List.map_append]
  congr 1
  · apply List.map_congr_left
    intro i hi
    have : i ≠ N := Nat.ne_of_lt (List.mem_range.mp hi)
    rw [va_up_ne _ _ this, va_up_ne _ _ this]
  · simp [va_up_self]
theorem nw_P {D : va_G} {cl : List vw_C} {N : Nat} {ad : Nat → Nat} {c : Nat → va_E} {H : Heap} : va_P D cl (nw N ad c) H ↔ ∀ i, i < N → va_at D cl (ad i, c i) H := by
  constructor
  · intro h i hi
    exact h i _ (nw_get hi)
  · intro h k q hq
    obtain ⟨hk, rfl⟩ := nw_get_inv hq
    exact h k hk
theorem nw_D {A : Nat → Prop} {N : Nat} {ad : Nat → Nat} {c : Nat → va_E} : va_D A (nw N ad c) ↔ (∀ i j, i < N → j < N → ad i = ad j → i = j) ∧ ∀ i, i < N → A (ad i) := by
  constructor
  · intro h
    exact ⟨fun i j hi hj e => h.1 i j _ _ (nw_get hi) (nw_get hj) e, fun i hi => h.2 i _ (nw_get hi)⟩
  · intro h
    refine ⟨fun i j p q hp hq e => ?_, fun k q hq => ?_⟩
    · obtain ⟨hi, rfl⟩ := nw_get_inv hp
      obtain ⟨hj, rfl⟩ := nw_get_inv hq
      exact h.1 i j hi hj e
    · obtain ⟨hk, rfl⟩ := nw_get_inv hq
      exact h.2 k hk
theorem nw_Dc {A : Nat → Prop} {N : Nat} {ad : Nat → Nat} {c c' : Nat → va_E} (h : va_D A (nw N ad c)) : va_D A (nw N ad c') := nw_D.mpr (nw_D.mp h)
/-- the cells of a numbered world, and all that come from sz on -/
def nA (N : Nat) (ad : Nat → Nat) (sz : Nat) : Nat → Prop := fun q => (∃ i, i < N ∧ q = ad i) ∨ sz ≤ q
theorem nA_self {A : Nat → Prop} {N sz : Nat} {ad : Nat → Nat} {c : Nat → va_E} (h : va_D A (nw N ad c)) : va_D (nA N ad sz) (nw N ad c) := nw_D.mpr ⟨(nw_D.mp h).1, fun i hi => Or.inl ⟨i, hi, rfl⟩⟩
theorem nA_mono {N sz sz' : Nat} {ad : Nat → Nat} (h : sz ≤ sz') : ∀ q, nA N ad sz' q → nA N ad sz q := fun _ hq => hq.elim Or.inl (fun h2 => Or.inr (Nat.le_trans h h2))
/-- two parts of a world: a call that knows the first alone -/
theorem nj {A0 A1 : Nat → Prop} {D : va_G} {cl : List vw_C} {wA wB wA' : va_W} {H H1 : Heap} (hP : va_P D cl (wA ++ wB) H) (hD : va_D A0 (wA ++ wB)) (hk : ∀ q : Nat, q < H.size → ¬ A1 q → H1[q]? = H[q]?)
    (hA : ∀ q, A1 q → q < H.size → ∃ (k : Nat) (e : va_E), wA[k]? = some (q, e)) (hP1 : va_P D cl wA' H1) (hD1 : va_D A1 wA') (h10 : ∀ q, A1 q → A0 q) : va_P D cl (wA' ++ wB) H1 ∧ va_D A0 (wA' ++ wB) := by
  have apart : ∀ (k : Nat) (q : Nat × va_E), wB[k]? = some q → q.1 < H.size ∧ ¬ A1 q.1 := by
    intro k q hq
    have h1 : (wA ++ wB)[wA.length + k]? = some q := by
      rw [List.getElem?_append_right (by omega)]
      rw [show wA.length + k - wA.length = k by omega]
      exact hq
    have hl := (hP _ _ h1).lt
    refine ⟨hl, fun h => ?_⟩
    obtain ⟨k2, e, h2⟩ := hA q.1 h hl
    have hk2 : k2 < wA.length := (List.getElem?_eq_some_iff.mp h2).1
    have h3 : (wA ++ wB)[k2]? = some (q.1, e) := by rw [List.getElem?_append_left hk2]; exact h2
    have := hD.1 _ _ _ _ h1 h3 rfl
    omega
  refine ⟨va_P.app hP1 (fun k q hq => ?_), va_D.app (hD1.weaken (fun k q _ h => h10 q.1 h)) ?_ (fun i j x y hx hy hxy => ?_)⟩
  · have h1 : (wA ++ wB)[wA.length + k]? = some q := by
      rw [List.getElem?_append_right (by omega)]
      rw [show wA.length + k - wA.length = k by omega]
      exact hq
    obtain ⟨g1, g2⟩ := apart k q hq
    exact (hP _ _ h1).kept (hk q.1 g1 g2)
  · refine ⟨fun i j p q hp hq e => ?_, fun k q hq => ?_⟩
    · have h1 : (wA ++ wB)[wA.length + i]? = some p := by
        rw [List.getElem?_append_right (by omega), show wA.length + i - wA.length = i by omega]; exact hp
      have h2 : (wA ++ wB)[wA.length + j]? = some q := by
        rw [List.getElem?_append_right (by omega), show wA.length + j - wA.length = j by omega]; exact hq
      have := hD.1 _ _ _ _ h1 h2 e
      omega
    · have h1 : (wA ++ wB)[wA.length + k]? = some q := by
        rw [List.getElem?_append_right (by omega), show wA.length + k - wA.length = k by omega]; exact hq
      exact hD.2 _ _ h1
  · obtain ⟨g1, g2⟩ := apart j y hy
    exact g2 (by rw [← hxy]; exact hD1.2 i x hx)
/-- one number of a table of tables changed -/
def u2 (g : Nat → Nat → Int32) (i j : Nat) (v : Int32) : Nat → Nat → Int32 := fun a b => if a = i ∧ b = j then v else g a b
theorem u2_s {g : Nat → Nat → Int32} {i j : Nat} {v : Int32} : u2 g i j v i j = v := by simp [u2]
theorem u2_n {g : Nat → Nat → Int32} {i j a b : Nat} {v : Int32} (h : a ≠ i) : u2 g i j v a b = g a b := by simp [u2, h]
theorem u2_m {g : Nat → Nat → Int32} {i j a b : Nat} {v : Int32} (h : b ≠ j) : u2 g i j v a b = g a b := by simp [u2, h]
theorem u2_upd {g : Nat → Nat → Int32} {i j : Nat} {v : Int32} : upd (g i) j v = u2 g i j v i := by
  funext b
  simp [u2, upd]
theorem u2_row {g : Nat → Nat → Int32} {i j a : Nat} {v : Int32} (h : a ≠ i) : u2 g i j v a = g a := by
  funext b
  simp [u2, h]
end
section
/-! the class's world: place 0 the object, 1 its kinds, 2 what was found, 3 + 9 k .. 11 + 9 k the kind k with its arrays and its parting, 57 + p the piece p. Every int of the world stands in g (place, slot); h 0 0: how many pieces, h 1 k: how many of kind k, h 2 p: the kind of piece p, h (3 + k) j: the j-th piece of kind k. CA: the classes of the arrays of int, boolean, Kind, Piece -/
abbrev aI (n : Nat) (f : Nat → Int32) : vp_A := (n, .inl f)
abbrev aR (n : Nat) (f : Nat → Option Nat) : vp_A := (n, .inr (.inr (.inr (.inr f))))
def kc (CA : Nat → ClassId) (g : Nat → Nat → Int32) (h : Nat → Nat → Nat) (ad : Nat → Nat) (k j : Nat) : va_E :=
  if j = 0 then .inr (1, [.ref (ad (4 + 9 * k)), .ref (ad (5 + 9 * k)), .ref (ad (6 + 9 * k)), .int (g (3 + 9 * k) 3), .int (g (3 + 9 * k) 4), .int (g (3 + 9 * k) 5), .int (g (3 + 9 * k) 6), .int (g (3 + 9 * k) 7), .ref (ad (7 + 9 * k)), .ref (ad (8 + 9 * k))])
  else if j = 1 then .inl (CA 1, aI 16 (g (4 + 9 * k)))
  else if j = 2 then .inl (CA 0, aI 16 (g (5 + 9 * k)))
  else if j = 3 then .inl (CA 0, aI 16 (g (6 + 9 * k)))
  else if j = 4 then .inl (CA 3, aR 12 (fun q => if q < h 1 k then some (ad (57 + h (3 + k) q)) else none))
  else if j = 5 then .inr (2, [.int (g (8 + 9 * k) 0), .int (g (8 + 9 * k) 1), .int (g (8 + 9 * k) 2), .ref (ad (9 + 9 * k)), .ref (ad (10 + 9 * k)), .ref (ad (11 + 9 * k))])
  else if j = 6 then .inl (CA 0, aI 12 (g (9 + 9 * k)))
  else if j = 7 then .inl (CA 0, aI 12 (g (10 + 9 * k)))
  else .inl (CA 0, aI 12 (g (11 + 9 * k)))
def cc (CA : Nat → ClassId) (g : Nat → Nat → Int32) (h : Nat → Nat → Nat) (ad : Nat → Nat) (i : Nat) : va_E :=
  if i = 0 then .inr (0, [.ref (ad 1), .ref (ad 2), .int (g 0 2)])
  else if i = 1 then .inl (CA 2, aR 6 (fun q => if q < 6 then some (ad (3 + 9 * q)) else none))
  else if i = 2 then .inl (CA 3, aR 72 (fun q => if q < h 0 0 then some (ad (57 + q)) else none))
  else if i < 57 then kc CA g h ad ((i - 3) / 9) ((i - 3) % 9)
  else .inr (3, [.ref (ad (3 + 9 * h 2 (i - 57))), .int (g i 1), .int (g i 2), .int (g i 3), .int (g i 4), .int (g i 5), .int (g i 6), .int (g i 7), .int (g i 8)])
def cw (CA : Nat → ClassId) (g : Nat → Nat → Int32) (h : Nat → Nat → Nat) (ad : Nat → Nat) : va_W := nw (57 + h 0 0) ad (cc CA g h ad)
section CW
variable {CA : Nat → ClassId} {g : Nat → Nat → Int32} {h : Nat → Nat → Nat} {ad : Nat → Nat}
theorem cc_k {i k j : Nat} (hk : k < 6) (hj : j < 9) (hi : i = 3 + 9 * k + j) : cc CA g h ad i = kc CA g h ad k j := by
  subst hi
  have h1 : (3 + 9 * k + j - 3) / 9 = k := by omega
  have h2 : (3 + 9 * k + j - 3) % 9 = j := by omega
  unfold cc
  rw [if_neg (by omega), if_neg (by omega), if_neg (by omega), if_pos (by omega), h1, h2]
theorem cw_X : (cw CA g h ad)[0]? = some (ad 0, .inr (0, [.ref (ad 1), .ref (ad 2), .int (g 0 2)])) := nw_getE (by omega) rfl
theorem cw_KA : (cw CA g h ad)[1]? = some (ad 1, .inl (CA 2, aR 6 (fun q => if q < 6 then some (ad (3 + 9 * q)) else none))) := nw_getE (by omega) rfl
theorem cw_FA : (cw CA g h ad)[2]? = some (ad 2, .inl (CA 3, aR 72 (fun q => if q < h 0 0 then some (ad (57 + q)) else none))) := nw_getE (by omega) rfl
theorem cw_K {k : Nat} (hk : k < 6) : (cw CA g h ad)[3 + 9 * k]? = some (ad (3 + 9 * k), .inr (1, [.ref (ad (4 + 9 * k)), .ref (ad (5 + 9 * k)), .ref (ad (6 + 9 * k)), .int (g (3 + 9 * k) 3), .int (g (3 + 9 * k) 4), .int (g (3 + 9 * k) 5), .int (g (3 + 9 * k) 6), .int (g (3 + 9 * k) 7), .ref (ad (7 + 9 * k)), .ref (ad (8 + 9 * k))])) := nw_getE (by omega) ((cc_k hk (j := 0) (by omega) (by omega)).trans rfl)
theorem cw_AL {k : Nat} (hk : k < 6) : (cw CA g h ad)[4 + 9 * k]? = some (ad (4 + 9 * k), .inl (CA 1, aI 16 (g (4 + 9 * k)))) := nw_getE (by omega) ((cc_k hk (j := 1) (by omega) (by omega)).trans rfl)
theorem cw_WF {k : Nat} (hk : k < 6) : (cw CA g h ad)[5 + 9 * k]? = some (ad (5 + 9 * k), .inl (CA 0, aI 16 (g (5 + 9 * k)))) := nw_getE (by omega) ((cc_k hk (j := 2) (by omega) (by omega)).trans rfl)
theorem cw_WT {k : Nat} (hk : k < 6) : (cw CA g h ad)[6 + 9 * k]? = some (ad (6 + 9 * k), .inl (CA 0, aI 16 (g (6 + 9 * k)))) := nw_getE (by omega) ((cc_k hk (j := 3) (by omega) (by omega)).trans rfl)
theorem cw_OW {k : Nat} (hk : k < 6) : (cw CA g h ad)[7 + 9 * k]? = some (ad (7 + 9 * k), .inl (CA 3, aR 12 (fun q => if q < h 1 k then some (ad (57 + h (3 + k) q)) else none))) := nw_getE (by omega) ((cc_k hk (j := 4) (by omega) (by omega)).trans rfl)
theorem cw_PT {k : Nat} (hk : k < 6) : (cw CA g h ad)[8 + 9 * k]? = some (ad (8 + 9 * k), .inr (2, [.int (g (8 + 9 * k) 0), .int (g (8 + 9 * k) 1), .int (g (8 + 9 * k) 2), .ref (ad (9 + 9 * k)), .ref (ad (10 + 9 * k)), .ref (ad (11 + 9 * k))])) := nw_getE (by omega) ((cc_k hk (j := 5) (by omega) (by omega)).trans rfl)
theorem cw_FO {k : Nat} (hk : k < 6) : (cw CA g h ad)[9 + 9 * k]? = some (ad (9 + 9 * k), .inl (CA 0, aI 12 (g (9 + 9 * k)))) := nw_getE (by omega) ((cc_k hk (j := 6) (by omega) (by omega)).trans rfl)
theorem cw_SO {k : Nat} (hk : k < 6) : (cw CA g h ad)[10 + 9 * k]? = some (ad (10 + 9 * k), .inl (CA 0, aI 12 (g (10 + 9 * k)))) := nw_getE (by omega) ((cc_k hk (j := 7) (by omega) (by omega)).trans rfl)
theorem cw_IS {k : Nat} (hk : k < 6) : (cw CA g h ad)[11 + 9 * k]? = some (ad (11 + 9 * k), .inl (CA 0, aI 12 (g (11 + 9 * k)))) := nw_getE (by omega) ((cc_k hk (j := 8) (by omega) (by omega)).trans rfl)
theorem cc_q (p : Nat) : cc CA g h ad (57 + p) = .inr (3, [.ref (ad (3 + 9 * h 2 p)), .int (g (57 + p) 1), .int (g (57 + p) 2), .int (g (57 + p) 3), .int (g (57 + p) 4), .int (g (57 + p) 5), .int (g (57 + p) 6), .int (g (57 + p) 7), .int (g (57 + p) 8)]) := by
  unfold cc
  rw [if_neg (by omega), if_neg (by omega), if_neg (by omega), if_neg (by omega), show 57 + p - 57 = p by omega]
theorem cw_Q {p : Nat} (hp : p < h 0 0) : (cw CA g h ad)[57 + p]? = some (ad (57 + p), .inr (3, [.ref (ad (3 + 9 * h 2 p)), .int (g (57 + p) 1), .int (g (57 + p) 2), .int (g (57 + p) 3), .int (g (57 + p) 4), .int (g (57 + p) 5), .int (g (57 + p) 6), .int (g (57 + p) 7), .int (g (57 + p) 8)])) := nw_getE (by omega) (cc_q p)
theorem cc_loc {g' : Nat → Nat → Int32} {i : Nat} (hg : g i = g' i) : cc CA g h ad i = cc CA g' h ad i := by
  by_cases h0 : i = 0
  · subst h0; simp [cc, hg]
  · by_cases h57 : i < 57
    · by_cases h1 : i = 1
      · subst h1; rfl
      · by_cases h2 : i = 2
        · subst h2; rfl
        · obtain ⟨k, j, hk, hj, rfl⟩ : ∃ k j, k < 6 ∧ j < 9 ∧ i = 3 + 9 * k + j := ⟨(i - 3) / 9, (i - 3) % 9, by omega, by omega, by omega⟩
          rw [cc_k hk hj rfl, cc_k hk hj rfl]
          rcases (show j = 0 ∨ j = 1 ∨ j = 2 ∨ j = 3 ∨ j = 4 ∨ j = 5 ∨ j = 6 ∨ j = 7 ∨ j = 8 by omega) with rfl | rfl | rfl | rfl | rfl | rfl | rfl | rfl | rfl
          · rw [show 3 + 9 * k + 0 = 3 + 9 * k by omega] at hg; simp [kc, hg]
          · rw [show 3 + 9 * k + 1 = 4 + 9 * k by omega] at hg; simp [kc, hg]
          · rw [show 3 + 9 * k + 2 = 5 + 9 * k by omega] at hg; simp [kc, hg]
          · rw [show 3 + 9 * k + 3 = 6 + 9 * k by omega] at hg; simp [kc, hg]
          · rfl
          · rw [show 3 + 9 * k + 5 = 8 + 9 * k by omega] at hg; simp [kc, hg]
          · rw [show 3 + 9 * k + 6 = 9 + 9 * k by omega] at hg; simp [kc, hg]
          · rw [show 3 + 9 * k + 7 = 10 + 9 * k by omega] at hg; simp [kc, hg]
          · rw [show 3 + 9 * k + 8 = 11 + 9 * k by omega] at hg; simp [kc, hg]
    · obtain ⟨p, rfl⟩ : ∃ p, i = 57 + p := ⟨i - 57, by omega⟩
      rw [cc_q, cc_q, hg]
/-- a number of a cell is written -/
theorem cw_set {i j : Nat} {v : Int32} {e : va_E} (he : cc CA (u2 g i j v) h ad i = e) : (cw CA g h ad).set i (ad i, e) = cw CA (u2 g i j v) h ad := by
  refine nw_setE rfl (fun a _ => ?_)
  by_cases ha : a = i
  · subst ha
    rw [va_up_self, he]
  · rw [va_up_ne _ _ ha]
    exact cc_loc (u2_row ha).symm
theorem cw_sX {v : Int32} : (cw CA g h ad).set 0 (ad 0, .inr (0, List.set [.ref (ad 1), .ref (ad 2), .int (g 0 2)] 2 (.int v))) = cw CA (u2 g 0 2 v) h ad := cw_set (by simp [cc, u2])
theorem cw_sK {k j : Nat} {v : Int32} (hk : k < 6) (hj : j = 3 ∨ j = 4 ∨ j = 5 ∨ j = 6 ∨ j = 7) : (cw CA g h ad).set (3 + 9 * k) (ad (3 + 9 * k), .inr (1, List.set [.ref (ad (4 + 9 * k)), .ref (ad (5 + 9 * k)), .ref (ad (6 + 9 * k)), .int (g (3 + 9 * k) 3), .int (g (3 + 9 * k) 4), .int (g (3 + 9 * k) 5), .int (g (3 + 9 * k) 6), .int (g (3 + 9 * k) 7), .ref (ad (7 + 9 * k)), .ref (ad (8 + 9 * k))] j (.int v))) = cw CA (u2 g (3 + 9 * k) j v) h ad := cw_set (by
  rw [cc_k hk (j := 0) (by omega) (by omega)]
  rcases hj with rfl | rfl | rfl | rfl | rfl <;> simp [kc, u2])
theorem cw_sP {k j : Nat} {v : Int32} (hk : k < 6) (hj : j = 0 ∨ j = 1 ∨ j = 2) : (cw CA g h ad).set (8 + 9 * k) (ad (8 + 9 * k), .inr (2, List.set [.int (g (8 + 9 * k) 0), .int (g (8 + 9 * k) 1), .int (g (8 + 9 * k) 2), .ref (ad (9 + 9 * k)), .ref (ad (10 + 9 * k)), .ref (ad (11 + 9 * k))] j (.int v))) = cw CA (u2 g (8 + 9 * k) j v) h ad := cw_set (by
  rw [cc_k hk (j := 5) (by omega) (by omega)]
  rcases hj with rfl | rfl | rfl <;> simp [kc, u2])
theorem cw_sQ {p j : Nat} {v : Int32} (hj : j = 1 ∨ j = 2 ∨ j = 3 ∨ j = 4 ∨ j = 5 ∨ j = 6 ∨ j = 7 ∨ j = 8) : (cw CA g h ad).set (57 + p) (ad (57 + p), .inr (3, List.set [.ref (ad (3 + 9 * h 2 p)), .int (g (57 + p) 1), .int (g (57 + p) 2), .int (g (57 + p) 3), .int (g (57 + p) 4), .int (g (57 + p) 5), .int (g (57 + p) 6), .int (g (57 + p) 7), .int (g (57 + p) 8)] j (.int v))) = cw CA (u2 g (57 + p) j v) h ad := cw_set (by
  rw [cc_q]
  rcases hj with rfl | rfl | rfl | rfl | rfl | rfl | rfl | rfl <;> simp [u2])
theorem cw_sAL {k b : Nat} {v : Int32} (hk : k < 6) : (cw CA g h ad).set (4 + 9 * k) (ad (4 + 9 * k), .inl (CA 1, 16, .inl (upd (g (4 + 9 * k)) b v))) = cw CA (u2 g (4 + 9 * k) b v) h ad := cw_set (by rw [cc_k hk (j := 1) (by omega) (by omega), u2_upd]; rfl)
theorem cw_sWF {k b : Nat} {v : Int32} (hk : k < 6) : (cw CA g h ad).set (5 + 9 * k) (ad (5 + 9 * k), .inl (CA 0, 16, .inl (upd (g (5 + 9 * k)) b v))) = cw CA (u2 g (5 + 9 * k) b v) h ad := cw_set (by rw [cc_k hk (j := 2) (by omega) (by omega), u2_upd]; rfl)
theorem cw_sWT {k b : Nat} {v : Int32} (hk : k < 6) : (cw CA g h ad).set (6 + 9 * k) (ad (6 + 9 * k), .inl (CA 0, 16, .inl (upd (g (6 + 9 * k)) b v))) = cw CA (u2 g (6 + 9 * k) b v) h ad := cw_set (by rw [cc_k hk (j := 3) (by omega) (by omega), u2_upd]; rfl)
theorem cw_sFO {k b : Nat} {v : Int32} (hk : k < 6) : (cw CA g h ad).set (9 + 9 * k) (ad (9 + 9 * k), .inl (CA 0, 12, .inl (upd (g (9 + 9 * k)) b v))) = cw CA (u2 g (9 + 9 * k) b v) h ad := cw_set (by rw [cc_k hk (j := 6) (by omega) (by omega), u2_upd]; rfl)
theorem cw_sSO {k b : Nat} {v : Int32} (hk : k < 6) : (cw CA g h ad).set (10 + 9 * k) (ad (10 + 9 * k), .inl (CA 0, 12, .inl (upd (g (10 + 9 * k)) b v))) = cw CA (u2 g (10 + 9 * k) b v) h ad := cw_set (by rw [cc_k hk (j := 7) (by omega) (by omega), u2_upd]; rfl)
theorem cw_sIS {k b : Nat} {v : Int32} (hk : k < 6) : (cw CA g h ad).set (11 + 9 * k) (ad (11 + 9 * k), .inl (CA 0, 12, .inl (upd (g (11 + 9 * k)) b v))) = cw CA (u2 g (11 + 9 * k) b v) h ad := cw_set (by rw [cc_k hk (j := 8) (by omega) (by omega), u2_upd]; rfl)
end CW
abbrev cty (CA : Nat → ClassId) : List (ClassId × FieldType) := [(CA 0, .int), (CA 1, .boolean), (CA 2, .object "CountLeast$Kind"), (CA 3, .object "CountLeast$Piece")]
/-- the set that a method of the class may write -/
abbrev cA (h : Nat → Nat → Nat) (ad : Nat → Nat) (sz : Nat) : Nat → Prop := nA (57 + h 0 0) ad sz
end
section
/-! rooms by levels; worlds at a call -/
def rm (d c s : Nat) : Room := { frames := 6 + d, cells := c, slots := s, locals := 90 + 30 * d }
def gpre (D : va_G) (tys : List (ClassId × FieldType)) (w : va_W) (sz : Nat) (U : State) : Prop := U.heap.size = sz ∧ va_P D vwCl w U.heap ∧ va_K D vwCl tys U ∧ va_D (fun _ => True) w
def gpost (D : va_G) (tys : List (ClassId × FieldType)) (w : va_W) (A : Nat → Prop) (t : State) : Prop := va_P D vwCl w t.heap ∧ va_K D vwCl tys t ∧ va_D A w
theorem gpre_blind {D : va_G} {tys : List (ClassId × FieldType)} {w : va_W} {sz : Nat} {U : State} (fr : JFrame) (mk : MethodId) (a : Array Value) (q : gpre D tys w sz U) : gpre D tys w sz (U.calling fr mk a) := by
  obtain ⟨q1, qP, qK, qD⟩ := q
  exact ⟨q1, qP, va_K.moved (u := U) (U := U.calling fr mk a) (Vm.Alike.refl U.vm) qK, qD⟩
theorem gpre_at {D : va_G} {tys : List (ClassId × FieldType)} {w : va_W} {s U : State} {H : Heap} {A : Nat → Prop} (hP : va_P D vwCl w H) (hK : va_K D vwCl tys s) (hD : va_D A w) (hU : U.heap = H) (hW : s.WarmedH U.vm) : gpre D tys w H.size U :=
  ⟨by rw [hU], by rw [hU]; exact hP, va_K.moved hW.alike hK, hD.weaken (fun _ _ _ _ => trivial)⟩
theorem gpost_at {D : va_G} {tys : List (ClassId × FieldType)} {w : va_W} {s t : State} {H : Heap} {A : Nat → Prop} (hP : va_P D vwCl w H) (hK : va_K D vwCl tys s) (hD : va_D A w) (ht : t.heap = H) (hW : s.vm.Alike t.vm) : gpost D tys w A t :=
  ⟨by rw [ht]; exact hP, va_K.moved hW hK, hD⟩
/-! what a throw asks beside the words: two statics of Throwable, words that no reader of steady words carries, the texts -/
def xwl : List Cond := [.castable "java/lang/IndexOutOfBoundsException" "java/lang/IndexOutOfBoundsException", .castable "java/lang/IllegalArgumentException" "java/lang/IllegalArgumentException", .castable "java/lang/IllegalStateException" "java/lang/IllegalStateException", .declares ⟨"java/lang/RuntimeException", "<init>", "()V"⟩, .declares ⟨"java/lang/RuntimeException", "<init>", "(Ljava/lang/String;)V"⟩, .declares ⟨"java/lang/Exception", "<init>", "()V"⟩, .declares ⟨"java/lang/Exception", "<init>", "(Ljava/lang/String;)V"⟩, .declares ⟨"java/lang/Throwable", "<init>", "()V"⟩, .declares ⟨"java/lang/Throwable", "<init>", "(Ljava/lang/String;)V"⟩]
def xw (U : State) : Prop := ∀ w ∈ xwl, va_Nw w U
theorem xw_warm {s U : State} (hW : s.WarmedH U.vm) (h : xw s) : xw U := by
  intro w hw
  have h1 := h w hw
  simp only [xwl, List.mem_cons, List.not_mem_nil, or_false] at hw
  rcases hw with rfl | rfl | rfl | rfl | rfl | rfl | rfl | rfl | rfl
  · exact va_Nw.warmC hW h1
  · exact va_Nw.warmC hW h1
  · exact va_Nw.warmC hW h1
  · exact va_Nw.warmD hW h1
  · exact va_Nw.warmD hW h1
  · exact va_Nw.warmD hW h1
  · exact va_Nw.warmD hW h1
  · exact va_Nw.warmD hW h1
  · exact va_Nw.warmD hW h1
theorem xw_on : ∀ w ∈ xwl, w.onTables = true := by decide +kernel
theorem xw_same {U V : State} (h : U.vm = V.vm) (hx : xw U) : xw V := fun w hw => va_Nw.same (xw_on w hw) h (hx w hw)
def xs (sa : Nat → Nat) (U : State) : Prop := vk_R "CountLeast" 154 "no such kind" (sa 0) U ∧ vk_R "CountLeast" 158 "no such part, wear or place" (sa 1) U ∧ vk_R "CountLeast" 160 "out of its range" (sa 2) U ∧ vk_R "CountLeast" 43 "the kind has twelve pieces" (sa 3) U ∧ vk_R "CountLeast" 156 "no such piece" (sa 4) U ∧ vk_R "CountLeast" 95 "not two pieces of one kind" (sa 5) U ∧ vk_R "CountLeast" 120 "no such place" (sa 6) U
theorem xs_warm {sa : Nat → Nat} {s U : State} (hW : s.WarmedH U.vm) (h : xs sa s) : xs sa U := by
  obtain ⟨a, b, c, d, e, f, i⟩ := h
  exact ⟨vk_R.warm hW a, vk_R.warm hW b, vk_R.warm hW c, vk_R.warm hW d, vk_R.warm hW e, vk_R.warm hW f, vk_R.warm hW i⟩
theorem xs_same {sa : Nat → Nat} {U V : State} (hv : V.vm = U.vm) (h : xs sa U) : xs sa V := by
  obtain ⟨a, b, c, d, e, f, i⟩ := h
  exact ⟨vk_R.same hv a, vk_R.same hv b, vk_R.same hv c, vk_R.same hv d, vk_R.same hv e, vk_R.same hv f, vk_R.same hv i⟩
def xz (A : Nat → Prop) (sa : Nat → Nat) (U : State) (H : Heap) : Prop := vx_Zq Bundle.tN "UNASSIGNED_STACK" Bundle.steD A U H ∧ vx_Zq Bundle.tN "SUPPRESSED_SENTINEL" Bundle.listD A U H ∧ xw U ∧ xs sa U
theorem xz_at {A B : Nat → Prop} {sa : Nat → Nat} {s U : State} {H : Heap} {locs : List Loc} (h : xz A sa s s.heap) (hS : va_S A s.heap H locs) (hAB : ∀ q, B q → A q) (hU : U.heap = H) (hW : s.WarmedH U.vm) : xz B sa U U.heap := by
  obtain ⟨h1, h2, h3, h4⟩ := h
  subst hU
  exact ⟨vx_Zq.narrow (vx_Zq.moved hW.alike (h1.kept hS.2.1)) hAB, vx_Zq.narrow (vx_Zq.moved hW.alike (h2.kept hS.2.1)) hAB, xw_warm hW h3, xs_warm hW h4⟩
theorem xz_blind {A : Nat → Prop} {sa : Nat → Nat} {U : State} (fr : JFrame) (mk : MethodId) (a : Array Value) (h : xz A sa U U.heap) : xz A sa (U.calling fr mk a) (U.calling fr mk a).heap := by
  obtain ⟨h1, h2, h3, h4⟩ := h
  exact ⟨vx_Zq.moved (u := U) (U := U.calling fr mk a) (Vm.Alike.refl U.vm) h1, vx_Zq.moved (u := U) (U := U.calling fr mk a) (Vm.Alike.refl U.vm) h2, xw_same (U := U) (V := U.calling fr mk a) rfl h3, xs_same (U := U) (V := U.calling fr mk a) rfl h4⟩
/-- the throws' words -/
theorem xat_in {L : List Cond} (h1 : ∀ w ∈ L.filter goodWord, w ∈ lw_tbl) (h2 : ∀ w ∈ L.filter (fun w => !goodWord w), w ∈ xwl) {args : Array Value} {s : State} (hT : ∀ w ∈ TB, w.before args s = true) (hx : xw s) : ∀ w ∈ L, w.before args s = true :=
  vx_hat (fun w hw => hT w (List.mem_filter.mpr ⟨h1 w hw, (List.mem_filter.mp hw).2⟩)) h2 (fun w hw => va_Nw.use (xw_on w hw) (hx w hw))
abbrev xE1 : String := "java/lang/IndexOutOfBoundsException"
abbrev xE2 : String := "java/lang/IllegalArgumentException"
abbrev xE3 : String := "java/lang/IllegalStateException"
abbrev xnm : List String := ["java/lang/RuntimeException", "java/lang/Exception"]
theorem xa1 : ∀ w ∈ (vx_atS "CountLeast" 122 xE1 xnm).filter goodWord, w ∈ lw_tbl := by decide +kernel
theorem xa2 : ∀ w ∈ (vx_atS "CountLeast" 97 xE2 xnm).filter goodWord, w ∈ lw_tbl := by decide +kernel
theorem xa3 : ∀ w ∈ (vx_atS "CountLeast" 45 xE3 xnm).filter goodWord, w ∈ lw_tbl := by decide +kernel
theorem xb1 : ∀ w ∈ (vx_atS "CountLeast" 122 xE1 xnm).filter (fun w => !goodWord w), w ∈ xwl := by decide +kernel
theorem xb2 : ∀ w ∈ (vx_atS "CountLeast" 97 xE2 xnm).filter (fun w => !goodWord w), w ∈ xwl := by decide +kernel
theorem xb3 : ∀ w ∈ (vx_atS "CountLeast" 45 xE3 xnm).filter (fun w => !goodWord w), w ∈ xwl := by decide +kernel
theorem xg1 : ∀ w ∈ Cond.classLink "CountLeast" 118 xE1 :: Cond.initialized xE1 :: vx_atS "CountLeast" 122 xE1 xnm, vx_ot w = true := by decide +kernel
theorem xg2 : ∀ w ∈ Cond.classLink "CountLeast" 93 xE2 :: Cond.initialized xE2 :: vx_atS "CountLeast" 97 xE2 xnm, vx_ot w = true := by decide +kernel
theorem xg3 : ∀ w ∈ Cond.classLink "CountLeast" 41 xE3 :: Cond.initialized xE3 :: vx_atS "CountLeast" 45 xE3 xnm, vx_ot w = true := by decide +kernel
section XT
variable {p : Program} {l : Launch} {e : Env} {R : Room} {s : State} {m : MethodId} {args : Array Value} {below : List Frame} {meth : Method} {c : Code} {H : Heap} {locs : List Loc} {cells slots : Nat}
variable {cc : ByteArray} {pc : Nat} {ls : Array Slot} {rest : List Value} {A : Nat → Prop} {sa : Nat → Nat} {free : Addr → Prop} {Qc : Array Value → State → Outcome → State → Prop} {XC : String → State → State → Prop}
theorem xt1 {is q mc ms nL : Nat} {text : String} (hx : p.tables.exec = Jvm.exec) (hb : c.code = cc) (hl : l.stackTraces = false) (hown : s.vm.findClass RC = some m.cls) (hT : ∀ w ∈ TB, w.before args s = true) (hZ : xz A sa s s.heap) (hstr : vk_R "CountLeast" is text q s) (hS : va_S A s.heap H locs) (hml : c.maxLocals = nL) (hsz : ls.size = nL)
    (d0 : decode cc pc = .ok (.new 118, 3)) (d3 : decode cc (pc + 3) = .ok (.dup, 1)) (d4 : decode cc (pc + 4) = .ok (.ldc is, 2)) (d6 : decode cc (pc + 6) = .ok (.invokespecial 122, 3)) (d9 : decode cc (pc + 9) = .ok (.athrow, 1)) (hno : ∀ x ∈ c.exceptionTable.toList, False)
    (hR1 : 5 < R.frames) (hR2 : (rest.map fun v => v.category).sum + 82 ≤ R.locals) (hR3 : cells + 1 ≤ R.cells) (hR4 : slots + 6 ≤ R.slots) (hlocks : meth.locks = false) (hX : ∀ t : State, s.vm.Alike t.vm → H.size ≤ t.heap.size → (∀ q : Nat, q < H.size → t.heap[q]? = H[q]?) → XC xE1 s t) (hf : ∀ z ∈ locs, free z.base) (hc : cells + 1 ≤ mc) (hs : slots + 6 ≤ ms) :
    W p l e R s m args below meth c H locs cells slots (vx_MQ below Qc XC args s mc ms free) (F0 m pc ls rest) :=
  vx_throwS hx hb hl (own := "CountLeast") (cls := xE1) (names := xnm) (ik := 118) (ic := 122) (is := is) (text := text) (sa := q) (A := A) hown (by decide +kernel) (by decide +kernel) (hT _ wm_124) (hT _ wm_8) hstr (xat_in xa1 xb1 hT hZ.2.2.1) xg1 hZ.1 hZ.2.1 hS (hsz.trans hml.symm) d0 d3 d4 d6 d9 (fun x hx => (hno x hx).elim) hR1 hR2 hR3 hR4 hlocks hX hf hc hs
theorem xt2 {is q mc ms nL : Nat} {text : String} (hx : p.tables.exec = Jvm.exec) (hb : c.code = cc) (hl : l.stackTraces = false) (hown : s.vm.findClass RC = some m.cls) (hT : ∀ w ∈ TB, w.before args s = true) (hZ : xz A sa s s.heap) (hstr : vk_R "CountLeast" is text q s) (hS : va_S A s.heap H locs) (hml : c.maxLocals = nL) (hsz : ls.size = nL)
    (d0 : decode cc pc = .ok (.new 93, 3)) (d3 : decode cc (pc + 3) = .ok (.dup, 1)) (d4 : decode cc (pc + 4) = .ok (.ldc is, 2)) (d6 : decode cc (pc + 6) = .ok (.invokespecial 97, 3)) (d9 : decode cc (pc + 9) = .ok (.athrow, 1)) (hno : ∀ x ∈ c.exceptionTable.toList, False)
    (hR1 : 5 < R.frames) (hR2 : (rest.map fun v => v.category).sum + 82 ≤ R.locals) (hR3 : cells + 1 ≤ R.cells) (hR4 : slots + 6 ≤ R.slots) (hlocks : meth.locks = false) (hX : ∀ t : State, s.vm.Alike t.vm → H.size ≤ t.heap.size → (∀ q : Nat, q < H.size → t.heap[q]? = H[q]?) → XC xE2 s t) (hf : ∀ z ∈ locs, free z.base) (hc : cells + 1 ≤ mc) (hs : slots + 6 ≤ ms) :
    W p l e R s m args below meth c H locs cells slots (vx_MQ below Qc XC args s mc ms free) (F0 m pc ls rest) :=
  vx_throwS hx hb hl (own := "CountLeast") (cls := xE2) (names := xnm) (ik := 93) (ic := 97) (is := is) (text := text) (sa := q) (A := A) hown (by decide +kernel) (by decide +kernel) (hT _ wm_199) (hT _ wm_9) hstr (xat_in xa2 xb2 hT hZ.2.2.1) xg2 hZ.1 hZ.2.1 hS (hsz.trans hml.symm) d0 d3 d4 d6 d9 (fun x hx => (hno x hx).elim) hR1 hR2 hR3 hR4 hlocks hX hf hc hs
theorem xt3 {is q mc ms nL : Nat} {text : String} (hx : p.tables.exec = Jvm.exec) (hb : c.code = cc) (hl : l.stackTraces = false) (hown : s.vm.findClass RC = some m.cls) (hT : ∀ w ∈ TB, w.before args s = true) (hZ : xz A sa s s.heap) (hstr : vk_R "CountLeast" is text q s) (hS : va_S A s.heap H locs) (hml : c.maxLocals = nL) (hsz : ls.size = nL)
    (d0 : decode cc pc = .ok (.new 41, 3)) (d3 : decode cc (pc + 3) = .ok (.dup, 1)) (d4 : decode cc (pc + 4) = .ok (.ldc is, 2)) (d6 : decode cc (pc + 6) = .ok (.invokespecial 45, 3)) (d9 : decode cc (pc + 9) = .ok (.athrow, 1)) (hno : ∀ x ∈ c.exceptionTable.toList, False)
    (hR1 : 5 < R.frames) (hR2 : (rest.map fun v => v.category).sum + 82 ≤ R.locals) (hR3 : cells + 1 ≤ R.cells) (hR4 : slots + 6 ≤ R.slots) (hlocks : meth.locks = false) (hX : ∀ t : State, s.vm.Alike t.vm → H.size ≤ t.heap.size → (∀ q : Nat, q < H.size → t.heap[q]? = H[q]?) → XC xE3 s t) (hf : ∀ z ∈ locs, free z.base) (hc : cells + 1 ≤ mc) (hs : slots + 6 ≤ ms) :
    W p l e R s m args below meth c H locs cells slots (vx_MQ below Qc XC args s mc ms free) (F0 m pc ls rest) :=
  vx_throwS hx hb hl (own := "CountLeast") (cls := xE3) (names := xnm) (ik := 41) (ic := 45) (is := is) (text := text) (sa := q) (A := A) hown (by decide +kernel) (by decide +kernel) (hT _ wm_215) (hT _ wm_10) hstr (xat_in xa3 xb3 hT hZ.2.2.1) xg3 hZ.1 hZ.2.1 hS (hsz.trans hml.symm) d0 d3 d4 d6 d9 (fun x hx => (hno x hx).elim) hR1 hR2 hR3 hR4 hlocks hX hf hc hs
end XT
/-! calls -/
theorem gi_cons {a : Cond} {ws : List Cond} (h1 : a ∈ TB) (h2 : GoodIn TB ws) : GoodIn TB (a :: ws) := fun w hw => (List.mem_cons.mp hw).elim (fun e => by rw [e]; exact ⟨h1, good_of_word (List.mem_filter.mp h1).2⟩) (h2 w)
theorem gi_TB : GoodIn TB TB := fun w hw => ⟨hw, good_of_word (List.mem_filter.mp hw).2⟩
theorem gi_V {own C : String} {idx : Nat} {y : MethodName} {a : Cond} (h1 : Cond.methodLink own idx y ∈ TB) (h2 : Cond.instanceMethod y ∈ TB) (h3 : Cond.selects C y y ∈ TB) (h4 : Cond.initialized C ∈ TB) (h5 : a ∈ TB) : GoodIn TB (wsV own idx C y (a :: TB)) := gi_cons h1 (gi_cons h2 (gi_cons h3 (gi_cons h4 (gi_cons h5 gi_TB))))
theorem gi_S {own : String} {idx : Nat} {y : MethodName} {a : Cond} (h1 : Cond.methodLink own idx y ∈ TB) (h2 : Cond.static y ∈ TB) (h3 : Cond.initialized y.cls ∈ TB) (h5 : a ∈ TB) : GoodIn TB (va_wsS own idx y (a :: TB)) := gi_cons h1 (gi_cons h2 (gi_cons h3 (gi_cons h5 gi_TB)))
section KC
variable {p : Program} {l : Launch} {e : Env} {R : Room} {s : State} {m : MethodId} {args : Array Value} {below : List Frame} {meth : Method} {c : Code} {H : Heap} {locs : List Loc} {cells slots : Nat} {Q : State → Prop}
variable {cc : ByteArray} {nL : Nat} {own : String} {D : va_G} {tys : List (ClassId × FieldType)} {A0 : Nat → Prop} {A1 : Nat → Nat → Prop} {pc : Nat} {ls : Array Slot} {rest st0 : List Value}
variable {σ : Type} {w0 : va_W} {wd : σ → va_W} {y : MethodName} {C : String} {index maxL mc ms n b : Nat} {bytes : ByteArray} {ret : Option FieldType} {rc : Room} {As : List Value}
/-- a virtual call in a numbered world, an int comes back -/
theorem kVi {post : Int32 → σ → Prop} (S : CallFix p m c cc nL s args TB own) (hM : Met l y (.code y bytes maxL ret :: TB) rc (va_Pc (.ref b :: As) (gpre D tys w0 H.size)) (va_Qi post (fun u t => gpost D tys (wd u) (A1 H.size) t) (A1 H.size)) mc ms (A1 H.size))
    (hw : GoodIn TB (wsV own index C y (.code y bytes maxL ret :: TB))) (hrc : rc.cells = mc) (hrs : rc.slots = ms) (hd : y.cls = C ∧ y.cls ≠ "java/lang/invoke/MethodHandle" ∧ y.cls ≠ "java/lang/invoke/VarHandle" ∧ (parseMethodDescriptor y.desc).map (fun d => d.parameters.length) = some n) (hR : rc.frames + 1 ≤ R.frames ∧ 8 + (maxL + 11) + rc.locals ≤ R.locals)
    (hrv : ∃ cellB : Cell, H[b]? = some cellB ∧ cellB.vm.isStatics = false ∧ s.vm.findClass C = some cellB.cls) (hK : va_K D vwCl tys s) (hP : va_P D vwCl w0 H) (hD : va_D A0 w0) (hS : va_S A0 s.heap H locs) (hAA : ∀ q, A1 s.heap.size q → A0 q) (hAm : ∀ q, A1 H.size q → A1 s.heap.size q)
    (hn : As.length = n) (hsize : ls.size = nL) (hst : st0 = As.reverse ++ .ref b :: rest) (hW : (rest.map fun v => v.category).sum ≤ 8) (hdg : decode cc pc = .ok (.invokevirtual index, 3)) (hf : cells + mc ≤ R.cells ∧ slots + ms ≤ R.slots)
    (kk : ∀ (r : Int32) (u : σ) (H1 : Heap) (locs1 : List Loc), post r u → H.size ≤ H1.size → va_P D vwCl (wd u) H1 → va_D A0 (wd u) → va_S A0 s.heap H1 locs1 → W p l e R s m args below meth c H1 locs1 (cells + mc) (slots + ms) Q (F0 m (pc + 3) ls (.int r :: rest))) : W p l e R s m args below meth c H locs cells slots Q (F0 m pc ls st0) := by
  have hA : ∀ q, A1 H.size q → A0 q := fun q h => hAA q (hAm q h)
  refine va_calli (va_runV (As := As) (rest := rest) S hM (cwV n S.2.2.2.2 hw rfl hrc hrs hd hR) ⟨fun a U fr mk q => ⟨q.1, gpre_blind fr mk a q.2⟩, hrv, fun U hU hW9 => ⟨rfl, gpre_at hP hK hD hU hW9⟩⟩ rfl hn hsize hst (lv_room hW) hdg hf) hS (fun q _ h => hA q h) hA (fun r u t H1 locs1 ht hvm hpo hB hz1 hk1 hS1 => ?_)
  obtain ⟨hP1, hK1, hD1⟩ := hB
  rw [ht] at hP1
  exact kk r u H1 locs1 hpo hz1 hP1 (hD1.weaken (fun _ q _ h => hA q.1 h)) hS1
/-- nothing comes back -/
theorem kVv {post : σ → Prop} (S : CallFix p m c cc nL s args TB own) (hM : Met l y (.code y bytes maxL ret :: TB) rc (va_Pc (.ref b :: As) (gpre D tys w0 H.size)) (va_Qv post (fun u t => gpost D tys (wd u) (A1 H.size) t) (A1 H.size)) mc ms (A1 H.size))
    (hw : GoodIn TB (wsV own index C y (.code y bytes maxL ret :: TB))) (hrc : rc.cells = mc) (hrs : rc.slots = ms) (hd : y.cls = C ∧ y.cls ≠ "java/lang/invoke/MethodHandle" ∧ y.cls ≠ "java/lang/invoke/VarHandle" ∧ (parseMethodDescriptor y.desc).map (fun d => d.parameters.length) = some n) (hR : rc.frames + 1 ≤ R.frames ∧ 8 + (maxL + 11) + rc.locals ≤ R.locals)
    (hrv : ∃ cellB : Cell, H[b]? = some cellB ∧ cellB.vm.isStatics = false ∧ s.vm.findClass C = some cellB.cls) (hK : va_K D vwCl tys s) (hP : va_P D vwCl w0 H) (hD : va_D A0 w0) (hS : va_S A0 s.heap H locs) (hAA : ∀ q, A1 s.heap.size q → A0 q) (hAm : ∀ q, A1 H.size q → A1 s.heap.size q)
    (hn : As.length = n) (hsize : ls.size = nL) (hst : st0 = As.reverse ++ .ref b :: rest) (hW : (rest.map fun v => v.category).sum ≤ 8) (hdg : decode cc pc = .ok (.invokevirtual index, 3)) (hf : cells + mc ≤ R.cells ∧ slots + ms ≤ R.slots)
    (kk : ∀ (u : σ) (H1 : Heap) (locs1 : List Loc), post u → H.size ≤ H1.size → va_P D vwCl (wd u) H1 → va_D A0 (wd u) → va_S A0 s.heap H1 locs1 → W p l e R s m args below meth c H1 locs1 (cells + mc) (slots + ms) Q (F0 m (pc + 3) ls rest)) : W p l e R s m args below meth c H locs cells slots Q (F0 m pc ls st0) := by
  have hA : ∀ q, A1 H.size q → A0 q := fun q h => hAA q (hAm q h)
  refine va_callv (va_runV (As := As) (rest := rest) S hM (cwV n S.2.2.2.2 hw rfl hrc hrs hd hR) ⟨fun a U fr mk q => ⟨q.1, gpre_blind fr mk a q.2⟩, hrv, fun U hU hW9 => ⟨rfl, gpre_at hP hK hD hU hW9⟩⟩ rfl hn hsize hst (lv_room hW) hdg hf) hS (fun q _ h => hA q h) hA (fun u t H1 locs1 ht hvm hpo hB hz1 hk1 hS1 => ?_)
  obtain ⟨hP1, hK1, hD1⟩ := hB
  rw [ht] at hP1
  exact kk u H1 locs1 hpo hz1 hP1 (hD1.weaken (fun _ q _ h => hA q.1 h)) hS1
/-- a reference comes back -/
theorem kVr {post : σ → Prop} {pa : σ → Nat → Prop} (S : CallFix p m c cc nL s args TB own) (hM : Met l y (.code y bytes maxL ret :: TB) rc (va_Pc (.ref b :: As) (gpre D tys w0 H.size)) (va_Qr post (fun u a t => pa u a ∧ gpost D tys (wd u) (A1 H.size) t) (A1 H.size)) mc ms (A1 H.size))
    (hw : GoodIn TB (wsV own index C y (.code y bytes maxL ret :: TB))) (hrc : rc.cells = mc) (hrs : rc.slots = ms) (hd : y.cls = C ∧ y.cls ≠ "java/lang/invoke/MethodHandle" ∧ y.cls ≠ "java/lang/invoke/VarHandle" ∧ (parseMethodDescriptor y.desc).map (fun d => d.parameters.length) = some n) (hR : rc.frames + 1 ≤ R.frames ∧ 8 + (maxL + 11) + rc.locals ≤ R.locals)
    (hrv : ∃ cellB : Cell, H[b]? = some cellB ∧ cellB.vm.isStatics = false ∧ s.vm.findClass C = some cellB.cls) (hK : va_K D vwCl tys s) (hP : va_P D vwCl w0 H) (hD : va_D A0 w0) (hS : va_S A0 s.heap H locs) (hAA : ∀ q, A1 s.heap.size q → A0 q) (hAm : ∀ q, A1 H.size q → A1 s.heap.size q)
    (hn : As.length = n) (hsize : ls.size = nL) (hst : st0 = As.reverse ++ .ref b :: rest) (hW : (rest.map fun v => v.category).sum ≤ 8) (hdg : decode cc pc = .ok (.invokevirtual index, 3)) (hf : cells + mc ≤ R.cells ∧ slots + ms ≤ R.slots)
    (kk : ∀ (u : σ) (a : Nat) (H1 : Heap) (locs1 : List Loc), post u → pa u a → H.size ≤ H1.size → va_P D vwCl (wd u) H1 → va_D A0 (wd u) → va_S A0 s.heap H1 locs1 → W p l e R s m args below meth c H1 locs1 (cells + mc) (slots + ms) Q (F0 m (pc + 3) ls (.ref a :: rest))) : W p l e R s m args below meth c H locs cells slots Q (F0 m pc ls st0) := by
  have hA : ∀ q, A1 H.size q → A0 q := fun q h => hAA q (hAm q h)
  refine va_callr (va_runV (As := As) (rest := rest) S hM (cwV n S.2.2.2.2 hw rfl hrc hrs hd hR) ⟨fun a U fr mk q => ⟨q.1, gpre_blind fr mk a q.2⟩, hrv, fun U hU hW9 => ⟨rfl, gpre_at hP hK hD hU hW9⟩⟩ rfl hn hsize hst (lv_room hW) hdg hf) hS (fun q _ h => hA q h) hA (fun u a t H1 locs1 ht hvm hpo hB hz1 hk1 hS1 => ?_)
  obtain ⟨hpa, hP1, hK1, hD1⟩ := hB
  rw [ht] at hP1
  exact kk u a H1 locs1 hpo hpa hz1 hP1 (hD1.weaken (fun _ q _ h => hA q.1 h)) hS1
/-- a static function of numbers: the heap stays -/
theorem kSi {f : Int32 → Prop} (S : CallFix p m c cc nL s args TB own) (hM : Met l y (.code y bytes maxL ret :: TB) rc (va_Pc As (fun _ => True)) (va_Qi (fun r (_ : Unit) => f r) (fun _ _ => True) (fun _ => False)) 0 0 (fun _ => False))
    (hw : GoodIn TB (va_wsS own index y (.code y bytes maxL ret :: TB))) (hrc : rc.cells = 0) (hrs : rc.slots = 0) (hd : y.cls ≠ "java/lang/invoke/MethodHandle" ∧ y.cls ≠ "java/lang/invoke/VarHandle" ∧ (parseMethodDescriptor y.desc).map (fun d => d.parameters.length) = some n) (hR : rc.frames + 1 ≤ R.frames ∧ 8 + (maxL + 11) + rc.locals ≤ R.locals)
    (hP : va_P D vwCl w0 H) (hS : va_S A0 s.heap H locs) (hn : As.length = n) (hsize : ls.size = nL) (hst : st0 = As.reverse ++ rest) (hW : (rest.map fun v => v.category).sum ≤ 8) (hdg : decode cc pc = .ok (.invokestatic index, 3)) (hf : cells + 0 ≤ R.cells ∧ slots + 0 ≤ R.slots)
    (kk : ∀ (r : Int32) (H1 : Heap) (locs1 : List Loc), f r → H.size ≤ H1.size → va_P D vwCl w0 H1 → va_S A0 s.heap H1 locs1 → W p l e R s m args below meth c H1 locs1 cells slots Q (F0 m (pc + 3) ls (.int r :: rest))) : W p l e R s m args below meth c H locs cells slots Q (F0 m pc ls st0) := by
  refine va_calli (va_runS (As := As) (rest := rest) S hM (va_cwS n S.2.2.2.2 hw rfl hrc hrs hd hR) ⟨fun a U fr mk q => ⟨q.1, trivial⟩, fun U hU hW9 => ⟨rfl, trivial⟩⟩ rfl hn hsize hst (lv_room hW) hdg hf) hS (fun q _ h => h.elim) (fun q h => h.elim) (fun r u t H1 locs1 ht hvm hpo hB hz1 hk1 hS1 => ?_)
  exact kk r H1 locs1 hpo hz1 (hP.kept (fun k q hq => hk1 q.1 (hP k q hq).lt (fun h => h))) hS1
/-- a static check that may throw, in a method without a table: the heap's old cells stay -/
theorem kSx {ok : Prop} {bad te : String → Prop} {sa : Nat → Nat} {Qc : Array Value → State → Outcome → State → Prop} {mc0 ms0 : Nat} {free : Addr → Prop} {σ0 : σ} (hl : c.maxLocals = nL) (S : CallFix p m c cc nL s args TB own)
    (hM : vx_Met l y (.code y bytes maxL ret :: TB) rc (va_Pc As (fun U => xz (fun q => H.size ≤ q) sa U U.heap)) (va_Qv (fun (_ : Unit) => ok) (fun _ _ => True) (fun _ => False)) (vx_X (fun (_ : Unit) => True) (fun E _ _ => bad E) (fun _ => False)) 1 6 (fun q => H.size ≤ q))
    (hw : GoodIn TB (va_wsS own index y (.code y bytes maxL ret :: TB))) (hrc : rc.cells = 1) (hrs : rc.slots = 6) (hd : y.cls ≠ "java/lang/invoke/MethodHandle" ∧ y.cls ≠ "java/lang/invoke/VarHandle" ∧ (parseMethodDescriptor y.desc).map (fun d => d.parameters.length) = some n) (hR : rc.frames + 1 ≤ R.frames ∧ 8 + (maxL + 11) + rc.locals ≤ R.locals)
    (hlocks : meth.locks = false) (hno : ∀ x ∈ c.exceptionTable.toList, False) (hZ : xz A0 sa s s.heap) (hA0 : ∀ q, s.heap.size ≤ q → A0 q) (hfr : ∀ q, A0 q → free q)
    (hK : va_K D vwCl tys s) (hP : va_P D vwCl (wd σ0) H) (hD : va_D A0 (wd σ0)) (hS : va_S A0 s.heap H locs) (hte : ∀ E, bad E → te E)
    (hn : As.length = n) (hsize : ls.size = nL) (hst : st0 = As.reverse ++ rest) (hW : (rest.map fun v => v.category).sum ≤ 8) (hdg : decode cc pc = .ok (.invokestatic index, 3)) (hf : cells + 1 ≤ R.cells ∧ slots + 6 ≤ R.slots) (hmc : cells + 1 ≤ mc0) (hms : slots + 6 ≤ ms0)
    (kk : ∀ (H1 : Heap) (locs1 : List Loc), ok → H.size ≤ H1.size → va_P D vwCl (wd σ0) H1 → va_S A0 s.heap H1 locs1 → W p l e R s m args below meth c H1 locs1 (cells + 1) (slots + 6) (vx_MQ below Qc (vx_X (fun u : σ => u = σ0) (fun E u t => te E ∧ gpost D tys (wd u) A0 t) A0) args s mc0 ms0 free) (F0 m (pc + 3) ls rest)) :
    W p l e R s m args below meth c H locs cells slots (vx_MQ below Qc (vx_X (fun u : σ => u = σ0) (fun E u t => te E ∧ gpost D tys (wd u) A0 t) A0) args s mc0 ms0 free) (F0 m pc ls st0) := by
  refine vx_callv (vx_runS (As := As) (rest := rest) S hM (va_cwS n S.2.2.2.2 hw rfl hrc hrs hd hR) ⟨fun a U fr mk q => ⟨q.1, xz_blind fr mk a q.2⟩, fun U hU hW9 => ⟨rfl, xz_at hZ hS (fun q h => hA0 q (Nat.le_trans hS.1 h)) hU hW9⟩⟩ rfl hn hsize hst (lv_room hW) hdg hf) hS (fun q _ h => h.elim) (fun q h => hA0 q (Nat.le_trans hS.1 h)) (fun q _ h => h.elim) (fun E ce q9 u t H1 locs1 ht hvm _ hbad hz1 hk1 hS1 hce hcv hcl => ?_) (fun u t H1 locs1 ht hvm hpo _ hz1 hk1 hS1 => ?_)
  · have hP1 : va_P D vwCl (wd σ0) H1 := hP.kept (fun k q hq => hk1 q.1 (hP k q hq).lt (fun h => h))
    refine vx_out (fun x hx => (hno x hx).elim) hlocks hce hcv hcl (fun t2 ht2 ha2 => ?_) (fun z hz => hfr _ (hS1.2.2 z hz)) hmc hms
    exact ⟨σ0, rfl, ⟨hte E hbad, gpost_at hP1 hK hD ht2 ha2⟩, hS1.F ht2⟩
  · exact kk H1 locs1 hpo hz1 (hP.kept (fun k q hq => hk1 q.1 (hP k q hq).lt (fun h => h))) hS1
end KC
end
section
/-! calls that may throw, in a numbered world -/
theorem ff0 {s t : State} (ht : t.heap = s.heap) : va_F (fun _ => False) s t := ⟨by rw [ht]; exact Nat.le_refl _, fun q _ _ => by rw [ht]⟩
section KX
variable {p : Program} {l : Launch} {e : Env} {R : Room} {s : State} {m : MethodId} {args : Array Value} {below : List Frame} {meth : Method} {c : Code} {H : Heap} {locs : List Loc} {cells slots : Nat} {Q : State → Prop}
variable {cc : ByteArray} {nL : Nat} {own : String} {D : va_G} {tys : List (ClassId × FieldType)} {A0 : Nat → Prop} {A1 : Nat → Nat → Prop} {pc : Nat} {ls : Array Slot} {rest st0 : List Value}
variable {σ : Type} {w0 : va_W} {wd : σ → va_W} {y : MethodName} {C : String} {index maxL mc ms n b : Nat} {bytes : ByteArray} {ret : Option FieldType} {rc : Room} {As : List Value} {sa : Nat → Nat}
theorem xout {te : String → Prop} {σ0 : σ} {E : String} {t : State} (hK : va_K D vwCl tys s) (hP : va_P D vwCl (wd σ0) H) (hD : va_D A0 (wd σ0)) (hS : va_S A0 s.heap H locs) (ha : s.vm.Alike t.vm) (h1 : H.size ≤ t.heap.size) (h2 : ∀ q : Nat, q < H.size → t.heap[q]? = H[q]?) (hte : te E) :
    vx_X (fun u : σ => u = σ0) (fun E u t => te E ∧ gpost D tys (wd u) A0 t) A0 E s t :=
  ⟨σ0, rfl, ⟨hte, hP.kept (fun k q hq => h2 q.1 (hP k q hq).lt), va_K.moved ha hK, hD⟩, Nat.le_trans hS.1 h1, fun q a b => (h2 q (Nat.lt_of_lt_of_le a hS.1)).trans (hS.2.1 q a b)⟩
theorem vx_callr {S SX : Type} {A1 : Nat → Prop} {H0 : Heap} {a : Array Value} {free : Addr → Prop} {post : S → Prop} {px : SX → Prop} {B : S → Nat → State → Prop} {BX : String → SX → State → Prop} {AX : Nat → Prop} (hr : vx_Run p l e R s m args below meth c H locs cells slots mc ms (F0 m pc ls st0) rest (va_Qr post B A1 a) (vx_X px BX AX) free) (hS : va_S A0 H0 H locs) (hA : ∀ q, q < H.size → A1 q → A0 q) (hf : ∀ q, free q → A0 q) (hAX : ∀ q, q < H.size → AX q → A0 q)
    (kx : ∀ (E : String) (ce : Cell) (q9 : Addr) (u : SX) (t : State) (H1 : Heap) (locs1 : List Loc), t.heap = H1 → s.vm.Alike t.vm → px u → BX E u t → H.size ≤ H1.size → (∀ q : Nat, q < H.size → ¬ AX q → H1[q]? = H[q]?) → va_S A0 H0 H1 locs1 → H1[q9]? = some ce → ce.vm = .none → s.vm.findClass E = some ce.cls → vx_W p l e R s m args below meth c H1 locs1 (cells + mc) (slots + ms) Q (F0 m pc ls rest) q9)
    (kk : ∀ (u : S) (ra : Nat) (t : State) (H1 : Heap) (locs1 : List Loc), t.heap = H1 → s.vm.Alike t.vm → post u → B u ra t → H.size ≤ H1.size → (∀ q : Nat, q < H.size → ¬ A1 q → H1[q]? = H[q]?) → va_S A0 H0 H1 locs1 → W p l e R s m args below meth c H1 locs1 (cells + mc) (slots + ms) Q (F0 m (pc + 3) ls (.ref ra :: rest))) : W p l e R s m args below meth c H locs cells slots Q (F0 m pc ls st0) := by
  intro T hT X
  rcases hr T hT X with ⟨v, st₀, t, T', L, h0, X', hL, e1, e2, ⟨⟨u, ra, hv, hp, hb⟩, hF⟩, st⟩ | ⟨q, st₀, t, T', L, E, ce, h0, X', hL, e1, e2, ⟨u, hp, hb, hF⟩, hce, hcv, hcl, st⟩
  · cases hv
    obtain ⟨k1, k2, k3⟩ := vx_keep h0 e1 hS hA hf hL hF
    obtain ⟨t2, a1, b1⟩ := kk u ra t T'.heap (locs ++ L) e1.symm (by rw [← e2]; exact X'.warmed.alike) hp hb k1 k2 k3 T' rfl X'
    exact ⟨t2, st t2 a1, b1⟩
  · obtain ⟨k1, k2, k3⟩ := vx_keep h0 e1 hS hAX hf hL hF
    obtain ⟨t2, a1, b1⟩ := kx E ce q u t T'.heap (locs ++ L) e1.symm (by rw [← e2]; exact X'.warmed.alike) hp hb k1 k2 k3 (by rw [e1]; exact hce) hcv hcl T' rfl X'
    exact ⟨t2, st.trans a1, b1⟩
/-- a virtual call that gives a reference or throws, the world the same, in a method without a table -/
theorem kVx {pa : Nat → Prop} {bad te : String → Prop} {Qc : Array Value → State → Outcome → State → Prop} {mc0 ms0 : Nat} {free : Addr → Prop} {σ0 : σ} (S : CallFix p m c cc nL s args TB own)
    (hM : vx_Met l y (.code y bytes maxL ret :: TB) rc (va_Pc (.ref b :: As) (fun U => gpre D tys (wd σ0) H.size U ∧ xz (A1 H.size) sa U U.heap)) (va_Qr (fun u : σ => u = σ0) (fun u a t => pa a ∧ gpost D tys (wd u) (A1 H.size) t) (A1 H.size)) (vx_X (fun u : σ => u = σ0) (fun E u t => bad E ∧ gpost D tys (wd u) (A1 H.size) t) (A1 H.size)) mc ms (A1 H.size))
    (hw : GoodIn TB (wsV own index C y (.code y bytes maxL ret :: TB))) (hrc : rc.cells = mc) (hrs : rc.slots = ms) (hd : y.cls = C ∧ y.cls ≠ "java/lang/invoke/MethodHandle" ∧ y.cls ≠ "java/lang/invoke/VarHandle" ∧ (parseMethodDescriptor y.desc).map (fun d => d.parameters.length) = some n) (hR : rc.frames + 1 ≤ R.frames ∧ 8 + (maxL + 11) + rc.locals ≤ R.locals)
    (hrv : ∃ cellB : Cell, H[b]? = some cellB ∧ cellB.vm.isStatics = false ∧ s.vm.findClass C = some cellB.cls) (hlocks : meth.locks = false) (hno : ∀ x ∈ c.exceptionTable.toList, False) (hZ : xz A0 sa s s.heap) (hfr : ∀ q, A0 q → free q)
    (hK : va_K D vwCl tys s) (hP : va_P D vwCl (wd σ0) H) (hD : va_D A0 (wd σ0)) (hS : va_S A0 s.heap H locs) (hAA : ∀ q, A1 s.heap.size q → A0 q) (hAm : ∀ q, A1 H.size q → A1 s.heap.size q) (hte : ∀ E, bad E → te E)
    (hn : As.length = n) (hsize : ls.size = nL) (hst : st0 = As.reverse ++ .ref b :: rest) (hW : (rest.map fun v => v.category).sum ≤ 8) (hdg : decode cc pc = .ok (.invokevirtual index, 3)) (hf : cells + mc ≤ R.cells ∧ slots + ms ≤ R.slots) (hmc : cells + mc ≤ mc0) (hms : slots + ms ≤ ms0)
    (kk : ∀ (a : Nat) (H1 : Heap) (locs1 : List Loc), pa a → H.size ≤ H1.size → va_P D vwCl (wd σ0) H1 → va_S A0 s.heap H1 locs1 → W p l e R s m args below meth c H1 locs1 (cells + mc) (slots + ms) (vx_MQ below Qc (vx_X (fun u : σ => u = σ0) (fun E u t => te E ∧ gpost D tys (wd u) A0 t) A0) args s mc0 ms0 free) (F0 m (pc + 3) ls (.ref a :: rest))) :
    W p l e R s m args below meth c H locs cells slots (vx_MQ below Qc (vx_X (fun u : σ => u = σ0) (fun E u t => te E ∧ gpost D tys (wd u) A0 t) A0) args s mc0 ms0 free) (F0 m pc ls st0) := by
  have hA : ∀ q, A1 H.size q → A0 q := fun q h => hAA q (hAm q h)
  refine vx_callr (vx_runV (As := As) (rest := rest) S hM (cwV n S.2.2.2.2 hw rfl hrc hrs hd hR) ⟨fun a U fr mk q => ⟨q.1, gpre_blind fr mk a q.2.1, xz_blind fr mk a q.2.2⟩, hrv, fun U hU hW9 => ⟨rfl, gpre_at hP hK hD hU hW9, xz_at hZ hS hA hU hW9⟩⟩ rfl hn hsize hst (lv_room hW) hdg hf) hS (fun q _ h => hA q h) hA (fun q _ h => hA q h) (fun E ce q9 u t H1 locs1 ht hvm hu hbad hz1 hk1 hS1 hce hcv hcl => ?_) (fun u a t H1 locs1 ht hvm hu hB hz1 hk1 hS1 => ?_)
  · subst hu
    obtain ⟨hbad, hP1, hK1, hD1⟩ := hbad
    rw [ht] at hP1
    refine vx_out (fun x hx => (hno x hx).elim) hlocks hce hcv hcl (fun t2 ht2 ha2 => ?_) (fun z hz => hfr _ (hS1.2.2 z hz)) hmc hms
    exact ⟨u, rfl, ⟨hte E hbad, gpost_at hP1 hK hD ht2 ha2⟩, hS1.F ht2⟩
  · subst hu
    obtain ⟨hpa, hP1, hK1, hD1⟩ := hB
    rw [ht] at hP1
    exact kk a H1 locs1 hpa hz1 hP1 hS1
end KX
end
section
/-! numbers out of a range -/
abbrev ib (x n : Int32) : Prop := x < 0 ∨ ¬ x < n
abbrev rb (v a b : Int32) : Prop := v < a ∨ ¬ v ≤ b
set_option maxHeartbeats 4000000 in
set_option maxRecDepth 100000 in
theorem kC_checkIndex (l : Launch) (hlt : l.stackTraces = false) (sa : Nat → Nat) (sz : Nat) (i n : Int32) : vx_Met l yC_checkIndex wC_checkIndex (rm 0 1 6) (va_Pc [.int i, .int n] (fun U => xz (fun q => sz ≤ q) sa U U.heap)) (va_Qv (fun (_ : Unit) => ¬ ib i n) (fun _ _ => True) (fun _ => False)) (vx_X (fun (_ : Unit) => True) (fun E _ _ => E = xE1 ∧ ib i n) (fun _ => False)) 1 6 (fun q => sz ≤ q) := by
  refine vx_ofW (cc := cC_checkIndex) (maxL := 2) (ret := none) (by decide) rfl ?_
  intro p e s m args below meth c s₁ B hml hno hv
  obtain ⟨rfl, hZ⟩ := hv
  have hx := B.exec
  have hb := B.bytes
  have hr := B.returns
  have hT : ∀ w ∈ TB, w.before _ s = true := fun w hw => atoms_spec (ws := wC_checkIndex) B.pre w (List.mem_cons_of_mem _ hw)
  have hown : s.vm.findClass "CountLeast" = some m.cls := findClass_of_methodNamed B.named
  have hlocks := B.notSynchronized
  have hS : va_S (fun q => sz ≤ q) s.heap s.heap [] := va_S.rf
  have hl := lv_entry ([.int i, .int n]) (n := 2) (Nat.le_of_ble_eq_true rfl)
  rw [lg_entry_eq]
  generalize (lg_sl ([.int i, .int n]) ++ List.replicate (2 - (lg_sl ([.int i, .int n])).length) Slot.unset).toArray = ls at hl ⊢
  have hl : lv_has ls 2 [(0, .int i), (1, .int n)] := hl
  refine lv_iload_n hx hb dC_checkIndex_0 rfl (lv_at hl 0 rfl) ?_
  refine lv_if_lt (tgt := 9) hx hb dC_checkIndex_1 (by decide) (fun c_1 => ?_) (fun c_1 => ?_)
  · exact xt1 (is := 158) (text := "no such part, wear or place") hx hb hlt hown hT hZ hZ.2.2.2.2.1 hS hml hl.1 dC_checkIndex_9 dC_checkIndex_12 dC_checkIndex_13 dC_checkIndex_15 dC_checkIndex_18 hno (Nat.le_of_ble_eq_true rfl) (Nat.le_of_ble_eq_true rfl) (Nat.le_of_ble_eq_true rfl) (Nat.le_of_ble_eq_true rfl) hlocks (fun t ha h1 h2 => ⟨(), trivial, ⟨rfl, by first | exact Or.inl c_1 | exact Or.inr c_2⟩, h1, fun q a _ => h2 q a⟩) hS.2.2 (Nat.le_of_ble_eq_true rfl) (Nat.le_of_ble_eq_true rfl)
  · refine lv_iload_n hx hb dC_checkIndex_4 rfl (lv_at hl 0 rfl) ?_
    refine lv_iload_n hx hb dC_checkIndex_5 rfl (lv_at hl 1 rfl) ?_
    refine lv_icmp_lt (tgt := 19) hx hb dC_checkIndex_6 (by decide) (fun c_2 => ?_) (fun c_2 => ?_)
    · refine W.widen (k := 1) (n := 6) (Nat.le_of_ble_eq_true rfl) (Nat.le_of_ble_eq_true rfl) ?_
      refine vx_ret ?_
      exact W.vret hx hb hr (fun t ht hW => ⟨⟨(), rfl, not_or.mpr ⟨c_1, fun q => q c_2⟩, trivial⟩, ff0 ht⟩) (fun _ h => by cases h) dC_checkIndex_19
    · exact xt1 (is := 158) (text := "no such part, wear or place") hx hb hlt hown hT hZ hZ.2.2.2.2.1 hS hml hl.1 dC_checkIndex_9 dC_checkIndex_12 dC_checkIndex_13 dC_checkIndex_15 dC_checkIndex_18 hno (Nat.le_of_ble_eq_true rfl) (Nat.le_of_ble_eq_true rfl) (Nat.le_of_ble_eq_true rfl) (Nat.le_of_ble_eq_true rfl) hlocks (fun t ha h1 h2 => ⟨(), trivial, ⟨rfl, by first | exact Or.inl c_1 | exact Or.inr c_2⟩, h1, fun q a _ => h2 q a⟩) hS.2.2 (Nat.le_of_ble_eq_true rfl) (Nat.le_of_ble_eq_true rfl)
set_option maxHeartbeats 4000000 in
set_option maxRecDepth 100000 in
theorem kC_checkRange (l : Launch) (hlt : l.stackTraces = false) (sa : Nat → Nat) (sz : Nat) (v a b : Int32) : vx_Met l yC_checkRange wC_checkRange (rm 0 1 6) (va_Pc [.int v, .int a, .int b] (fun U => xz (fun q => sz ≤ q) sa U U.heap)) (va_Qv (fun (_ : Unit) => ¬ rb v a b) (fun _ _ => True) (fun _ => False)) (vx_X (fun (_ : Unit) => True) (fun E _ _ => E = xE2 ∧ rb v a b) (fun _ => False)) 1 6 (fun q => sz ≤ q) := by
  refine vx_ofW (cc := cC_checkRange) (maxL := 3) (ret := none) (by decide) rfl ?_
  intro p e s m args below meth c s₁ B hml hno hv
  obtain ⟨rfl, hZ⟩ := hv
  have hx := B.exec
  have hb := B.bytes
  have hr := B.returns
  have hT : ∀ w ∈ TB, w.before _ s = true := fun w hw => atoms_spec (ws := wC_checkRange) B.pre w (List.mem_cons_of_mem _ hw)
  have hown : s.vm.findClass "CountLeast" = some m.cls := findClass_of_methodNamed B.named
  have hlocks := B.notSynchronized
  have hS : va_S (fun q => sz ≤ q) s.heap s.heap [] := va_S.rf
  have hl := lv_entry ([.int v, .int a, .int b]) (n := 3) (Nat.le_of_ble_eq_true rfl)
  rw [lg_entry_eq]
  generalize (lg_sl ([.int v, .int a, .int b]) ++ List.replicate (3 - (lg_sl ([.int v, .int a, .int b])).length) Slot.unset).toArray = ls at hl ⊢
  have hl : lv_has ls 3 [(0, .int v), (1, .int a), (2, .int b)] := hl
  refine lv_iload_n hx hb dC_checkRange_0 rfl (lv_at hl 0 rfl) ?_
  refine lv_iload_n hx hb dC_checkRange_1 rfl (lv_at hl 1 rfl) ?_
  refine lv_icmp_lt (tgt := 10) hx hb dC_checkRange_2 (by decide) (fun c_1 => ?_) (fun c_1 => ?_)
  · exact xt2 (is := 160) (text := "out of its range") hx hb hlt hown hT hZ hZ.2.2.2.2.2.1 hS hml hl.1 dC_checkRange_10 dC_checkRange_13 dC_checkRange_14 dC_checkRange_16 dC_checkRange_19 hno (Nat.le_of_ble_eq_true rfl) (Nat.le_of_ble_eq_true rfl) (Nat.le_of_ble_eq_true rfl) (Nat.le_of_ble_eq_true rfl) hlocks (fun t ha h1 h2 => ⟨(), trivial, ⟨rfl, by first | exact Or.inl c_1 | exact Or.inr c_2⟩, h1, fun q a _ => h2 q a⟩) hS.2.2 (Nat.le_of_ble_eq_true rfl) (Nat.le_of_ble_eq_true rfl)
  · refine lv_iload_n hx hb dC_checkRange_5 rfl (lv_at hl 0 rfl) ?_
    refine lv_iload_n hx hb dC_checkRange_6 rfl (lv_at hl 2 rfl) ?_
    refine lv_icmp_le (tgt := 20) hx hb dC_checkRange_7 (by decide) (fun c_2 => ?_) (fun c_2 => ?_)
    · refine W.widen (k := 1) (n := 6) (Nat.le_of_ble_eq_true rfl) (Nat.le_of_ble_eq_true rfl) ?_
      refine vx_ret ?_
      exact W.vret hx hb hr (fun t ht hW => ⟨⟨(), rfl, not_or.mpr ⟨c_1, fun q => q c_2⟩, trivial⟩, ff0 ht⟩) (fun _ h => by cases h) dC_checkRange_20
    · exact xt2 (is := 160) (text := "out of its range") hx hb hlt hown hT hZ hZ.2.2.2.2.2.1 hS hml hl.1 dC_checkRange_10 dC_checkRange_13 dC_checkRange_14 dC_checkRange_16 dC_checkRange_19 hno (Nat.le_of_ble_eq_true rfl) (Nat.le_of_ble_eq_true rfl) (Nat.le_of_ble_eq_true rfl) (Nat.le_of_ble_eq_true rfl) hlocks (fun t ha h1 h2 => ⟨(), trivial, ⟨rfl, by first | exact Or.inl c_1 | exact Or.inr c_2⟩, h1, fun q a _ => h2 q a⟩) hS.2.2 (Nat.le_of_ble_eq_true rfl) (Nat.le_of_ble_eq_true rfl)
set_option maxHeartbeats 4000000 in
set_option maxRecDepth 100000 in
theorem kC_orderedPairs (l : Launch) (n : Int32) : Met l yC_orderedPairs wC_orderedPairs (rm 0 0 0) (va_Pc [.int n] (fun _ => True)) (va_Qi (fun r (_ : Unit) => r = n * (n - 1)) (fun _ _ => True) (fun _ => False)) 0 0 (fun _ => False) := by
  refine Met.ofW (cc := cC_orderedPairs) (maxL := 1) (ret := (some .int)) (by decide) rfl ?_
  intro p e s m args below meth c s₁ B hml hv
  obtain ⟨rfl, -⟩ := hv
  have hx := B.exec
  have hb := B.bytes
  have hr := B.returns
  have hT : ∀ w ∈ TB, w.before _ s = true := fun w hw => atoms_spec (ws := wC_orderedPairs) B.pre w (List.mem_cons_of_mem _ hw)
  have hown : s.vm.findClass "CountLeast" = some m.cls := findClass_of_methodNamed B.named
  have hlocks := B.notSynchronized
  have hS : va_S (fun _ => False) s.heap s.heap [] := va_S.rf
  have hl := lv_entry ([.int n]) (n := 1) (Nat.le_of_ble_eq_true rfl)
  rw [lg_entry_eq]
  generalize (lg_sl ([.int n]) ++ List.replicate (1 - (lg_sl ([.int n])).length) Slot.unset).toArray = ls at hl ⊢
  have hl : lv_has ls 1 [(0, .int n)] := hl
  refine lv_iload_n hx hb dC_orderedPairs_0 rfl (lv_at hl 0 rfl) ?_
  refine lv_iload_n hx hb dC_orderedPairs_1 rfl (lv_at hl 0 rfl) ?_
  refine lv_iconst (v := 1) hx hb dC_orderedPairs_2 (by decide) ?_
  refine lv_isub hx hb dC_orderedPairs_3 ?_
  refine lv_imul hx hb dC_orderedPairs_4 ?_
  exact W.iret (v := n * (n - 1)) hx hb hr (fun t ht hW => ⟨⟨_, (), rfl, rfl, trivial⟩, hS.F ht⟩) hS.2.2 dC_orderedPairs_5
set_option maxHeartbeats 4000000 in
set_option maxRecDepth 100000 in
theorem kC_quotient (l : Launch) (a b : Int32) : Met l yC_quotient wC_quotient (rm 0 0 0) (va_Pc [.int a, .int b] (fun _ => True)) (va_Qi (fun r (_ : Unit) => r = if b = 0 then 0 else a / b) (fun _ _ => True) (fun _ => False)) 0 0 (fun _ => False) := by
  refine Met.ofW (cc := cC_quotient) (maxL := 2) (ret := (some .int)) (by decide) rfl ?_
  intro p e s m args below meth c s₁ B hml hv
  obtain ⟨rfl, -⟩ := hv
  have hx := B.exec
  have hb := B.bytes
  have hr := B.returns
  have hT : ∀ w ∈ TB, w.before _ s = true := fun w hw => atoms_spec (ws := wC_quotient) B.pre w (List.mem_cons_of_mem _ hw)
  have hown : s.vm.findClass "CountLeast" = some m.cls := findClass_of_methodNamed B.named
  have hlocks := B.notSynchronized
  have hS : va_S (fun _ => False) s.heap s.heap [] := va_S.rf
  have hl := lv_entry ([.int a, .int b]) (n := 2) (Nat.le_of_ble_eq_true rfl)
  rw [lg_entry_eq]
  generalize (lg_sl ([.int a, .int b]) ++ List.replicate (2 - (lg_sl ([.int a, .int b])).length) Slot.unset).toArray = ls at hl ⊢
  have hl : lv_has ls 2 [(0, .int a), (1, .int b)] := hl
  refine lv_iload_n hx hb dC_quotient_0 rfl (lv_at hl 1 rfl) ?_
  refine lv_if_ne (tgt := 8) hx hb dC_quotient_1 (by decide) (fun c_1 => ?_) (fun c_1 => ?_)
  · refine lv_iload_n hx hb dC_quotient_8 rfl (lv_at hl 0 rfl) ?_
    refine lv_iload_n hx hb dC_quotient_9 rfl (lv_at hl 1 rfl) ?_
    refine lv_idiv hx hb dC_quotient_10 c_1 ?_
    exact W.iret (v := a / b) hx hb hr (fun t ht hW => ⟨⟨_, (), rfl, by simp [c_1], trivial⟩, hS.F ht⟩) hS.2.2 dC_quotient_11
  · refine lv_iconst (v := 0) hx hb dC_quotient_4 (by decide) ?_
    refine lv_goto (tgt := 11) hx hb dC_quotient_5 (by decide) ?_
    exact W.iret (v := 0) hx hb hr (fun t ht hW => ⟨⟨_, (), rfl, by simp [c_1], trivial⟩, hS.F ht⟩) hS.2.2 dC_quotient_11
end
section
/-! numbers in a range, and not -/
theorem ibn {x : Int32} {n : Nat} (hn : n < 2 ^ 31) (h : ¬ ib x (nI n)) : ∃ j : Nat, j < n ∧ x = nI j := by
  rcases pk_ix x hn with h1 | h1 | h1
  · exact absurd (Or.inl h1) h
  · exact absurd (Or.inr (by rw [Int32.not_lt]; exact h1)) h
  · exact h1
theorem nib {k n : Nat} (h : k < n) (hn : n < 2 ^ 31) : ¬ ib (nI k) (nI n) := by
  intro hh
  rcases hh with h1 | h1
  · exact nI_pos (by omega) h1
  · exact h1 (nI_lt h hn)
theorem rbn {x : Int32} {n : Nat} (hn : n < 2 ^ 31) (h : ¬ rb x 0 (nI n)) : ∃ j : Nat, j ≤ n ∧ x = nI j := by
  have h1 : ¬ x < 0 := fun q => h (Or.inl q)
  have h2 : x ≤ nI n := Decidable.not_not.mp (fun q => h (Or.inr q))
  exact nI_of2 (nI_toInt hn) h1 h2
/-- which exception: the first of three conditions that holds -/
def te3 (b1 b2 b3 : Prop) (E : String) : Prop := (E = xE1 ∧ b1) ∨ (E = xE2 ∧ ¬ b1 ∧ b2) ∨ (E = xE3 ∧ ¬ b1 ∧ ¬ b2 ∧ b3)
/-- Euclid's steps -/
def ed : Nat → Nat → Nat → Nat
  | 0, x, _ => x
  | f + 1, x, y => if y = 0 then x else ed f y (x % y)
set_option maxHeartbeats 4000000 in
set_option maxRecDepth 100000 in
theorem kC_kindAt (l : Launch) (hlt : l.stackTraces = false) (D : va_G) (CA : Nat → ClassId) (g : Nat → Nat → Int32) (h : Nat → Nat → Nat) (ad : Nat → Nat) (sz : Nat) (sa : Nat → Nat) (nn : Int32) : vx_Met l yC_kindAt wC_kindAt (rm 0 1 6) (va_Pc [.ref (ad 0), .int nn] (fun U => gpre D (cty CA) (cw CA g h ad) sz U ∧ xz (cA h ad sz) sa U U.heap)) (va_Qr (fun u : Nat → Nat → Int32 => u = g) (fun u a t => (∃ k, k < 6 ∧ nn = nI k ∧ a = ad (3 + 9 * k)) ∧ gpost D (cty CA) (cw CA u h ad) (cA h ad sz) t) (cA h ad sz)) (vx_X (fun u : Nat → Nat → Int32 => u = g) (fun E u t => (E = xE1 ∧ ib nn 6) ∧ gpost D (cty CA) (cw CA u h ad) (cA h ad sz) t) (cA h ad sz)) 1 6 (cA h ad sz) := by
  refine vx_ofW (cc := cC_kindAt) (maxL := 2) (ret := (some (.object "CountLeast$Kind"))) (by decide) rfl ?_
  intro p e s m args below meth c s₁ B hml hno hv
  obtain ⟨rfl, ⟨hsz, hP, hK, hD0⟩, hZ⟩ := hv
  have hx := B.exec
  have hb := B.bytes
  have hr := B.returns
  have hT : ∀ w ∈ TB, w.before _ s = true := fun w hw => atoms_spec (ws := wC_kindAt) B.pre w (List.mem_cons_of_mem _ hw)
  have hown : s.vm.findClass "CountLeast" = some m.cls := findClass_of_methodNamed B.named
  have hlocks := B.notSynchronized
  subst hsz
  have hD := nA_self (sz := s.heap.size) hD0
  have hS : va_S (cA h ad s.heap.size) s.heap s.heap [] := va_S.rf
  have hP : va_P D vwCl (cw CA g h ad) s.heap := hP
  have hl := lv_entry ([.ref (ad 0), .int nn]) (n := 2) (Nat.le_of_ble_eq_true rfl)
  rw [lg_entry_eq]
  generalize (lg_sl ([.ref (ad 0), .int nn]) ++ List.replicate (2 - (lg_sl ([.ref (ad 0), .int nn])).length) Slot.unset).toArray = ls at hl ⊢
  have hl : lv_has ls 2 [(0, .ref (ad 0)), (1, .int nn)] := hl
  refine lv_iload_n hx hb dC_kindAt_0 rfl (lv_at hl 1 rfl) ?_
  refine lv_if_lt (tgt := 10) hx hb dC_kindAt_1 (by decide) (fun c_1 => ?_) (fun c_1 => ?_)
  · exact xt1 (is := 154) (text := "no such kind") hx hb hlt hown hT hZ hZ.2.2.2.1 hS hml hl.1 dC_kindAt_10 dC_kindAt_13 dC_kindAt_14 dC_kindAt_16 dC_kindAt_19 hno (Nat.le_of_ble_eq_true rfl) (Nat.le_of_ble_eq_true rfl) (Nat.le_of_ble_eq_true rfl) (Nat.le_of_ble_eq_true rfl) hlocks (fun t ha h1 h2 => xout (wd := fun z => cw CA z h ad) (te := fun E => E = xE1 ∧ ib nn 6) hK hP hD hS ha h1 h2 ⟨rfl, by first | exact Or.inl c_1 | exact Or.inr c_2⟩) hS.2.2 (Nat.le_of_ble_eq_true rfl) (Nat.le_of_ble_eq_true rfl)
  · refine lv_iload_n hx hb dC_kindAt_4 rfl (lv_at hl 1 rfl) ?_
    refine lv_bipush (v := 6) hx hb dC_kindAt_5 (by decide) ?_
    refine lv_icmp_lt (tgt := 20) hx hb dC_kindAt_7 (by decide) (fun c_2 => ?_) (fun c_2 => ?_)
    · obtain ⟨j, hj, rfl⟩ := ibn (n := 6) (by decide) (show ¬ ib nn (nI 6) from not_or.mpr ⟨c_1, fun q => q c_2⟩)
      refine lv_aload_n hx hb dC_kindAt_20 rfl (lv_at hl 0 rfl) ?_
      refine va_get (D := D) (ci := 0) (C := RC) (T := TC) (N := 3) hx hb hT inC hown hK hP (0) (cw_X) rfl 0 (by decide) (hT _ wm_100) (fun _ h9 => h9) rfl dC_kindAt_21 ?_
      refine lv_iload_n hx hb dC_kindAt_24 rfl (lv_at hl 1 rfl) ?_
      refine va_aldq (D := D) hx hb hK hP (1) 2 (cw_KA) rfl (vp_in_nI hj (by decide)) dC_kindAt_25 ?_
      refine W.eq (g2 := F0 m 26 ls [.ref (ad (3 + 9 * j))]) (by rw [nI_clamp (n := j) (by omega)]; simp [va_rf, hj]) ?_
      refine W.widen (k := 1) (n := 6) (Nat.le_of_ble_eq_true rfl) (Nat.le_of_ble_eq_true rfl) ?_
      refine vx_ret ?_
      exact W.aret (v := .ref (ad (3 + 9 * j))) hx hb hr (Or.inl ⟨_, rfl⟩) (Or.inr ⟨_, rfl⟩) (fun t ht hW => ⟨⟨g, _, rfl, rfl, ⟨j, hj, rfl, rfl⟩, gpost_at hP hK hD ht hW.alike⟩, hS.F ht⟩) hS.2.2 dC_kindAt_26
    · exact xt1 (is := 154) (text := "no such kind") hx hb hlt hown hT hZ hZ.2.2.2.1 hS hml hl.1 dC_kindAt_10 dC_kindAt_13 dC_kindAt_14 dC_kindAt_16 dC_kindAt_19 hno (Nat.le_of_ble_eq_true rfl) (Nat.le_of_ble_eq_true rfl) (Nat.le_of_ble_eq_true rfl) (Nat.le_of_ble_eq_true rfl) hlocks (fun t ha h1 h2 => xout (wd := fun z => cw CA z h ad) (te := fun E => E = xE1 ∧ ib nn 6) hK hP hD hS ha h1 h2 ⟨rfl, by first | exact Or.inl c_1 | exact Or.inr c_2⟩) hS.2.2 (Nat.le_of_ble_eq_true rfl) (Nat.le_of_ble_eq_true rfl)
set_option maxHeartbeats 4000000 in
set_option maxRecDepth 100000 in
theorem kC_pieceAt (l : Launch) (hlt : l.stackTraces = false) (D : va_G) (CA : Nat → ClassId) (g : Nat → Nat → Int32) (h : Nat → Nat → Nat) (ad : Nat → Nat) (sz : Nat) (sa : Nat → Nat) (nn : Int32) (hn72 : h 0 0 ≤ 72) (hg0 : g 0 2 = nI (h 0 0)) : vx_Met l yC_pieceAt wC_pieceAt (rm 0 1 6) (va_Pc [.ref (ad 0), .int nn] (fun U => gpre D (cty CA) (cw CA g h ad) sz U ∧ xz (cA h ad sz) sa U U.heap)) (va_Qr (fun u : Nat → Nat → Int32 => u = g) (fun u a t => (∃ k, k < h 0 0 ∧ nn = nI k ∧ a = ad (57 + k)) ∧ gpost D (cty CA) (cw CA u h ad) (cA h ad sz) t) (cA h ad sz)) (vx_X (fun u : Nat → Nat → Int32 => u = g) (fun E u t => (E = xE1 ∧ ib nn (g 0 2)) ∧ gpost D (cty CA) (cw CA u h ad) (cA h ad sz) t) (cA h ad sz)) 1 6 (cA h ad sz) := by
  refine vx_ofW (cc := cC_pieceAt) (maxL := 2) (ret := (some (.object "CountLeast$Piece"))) (by decide) rfl ?_
  intro p e s m args below meth c s₁ B hml hno hv
  obtain ⟨rfl, ⟨hsz, hP, hK, hD0⟩, hZ⟩ := hv
  have hx := B.exec
  have hb := B.bytes
  have hr := B.returns
  have hT : ∀ w ∈ TB, w.before _ s = true := fun w hw => atoms_spec (ws := wC_pieceAt) B.pre w (List.mem_cons_of_mem _ hw)
  have hown : s.vm.findClass "CountLeast" = some m.cls := findClass_of_methodNamed B.named
  have hlocks := B.notSynchronized
  subst hsz
  have hD := nA_self (sz := s.heap.size) hD0
  have hS : va_S (cA h ad s.heap.size) s.heap s.heap [] := va_S.rf
  have hP : va_P D vwCl (cw CA g h ad) s.heap := hP
  have hl := lv_entry ([.ref (ad 0), .int nn]) (n := 2) (Nat.le_of_ble_eq_true rfl)
  rw [lg_entry_eq]
  generalize (lg_sl ([.ref (ad 0), .int nn]) ++ List.replicate (2 - (lg_sl ([.ref (ad 0), .int nn])).length) Slot.unset).toArray = ls at hl ⊢
  have hl : lv_has ls 2 [(0, .ref (ad 0)), (1, .int nn)] := hl
  refine lv_iload_n hx hb dC_pieceAt_0 rfl (lv_at hl 1 rfl) ?_
  refine lv_if_lt (tgt := 12) hx hb dC_pieceAt_1 (by decide) (fun c_1 => ?_) (fun c_1 => ?_)
  · exact xt1 (is := 156) (text := "no such piece") hx hb hlt hown hT hZ hZ.2.2.2.2.2.2.2.1 hS hml hl.1 dC_pieceAt_12 dC_pieceAt_15 dC_pieceAt_16 dC_pieceAt_18 dC_pieceAt_21 hno (Nat.le_of_ble_eq_true rfl) (Nat.le_of_ble_eq_true rfl) (Nat.le_of_ble_eq_true rfl) (Nat.le_of_ble_eq_true rfl) hlocks (fun t ha h1 h2 => xout (wd := fun z => cw CA z h ad) (te := fun E => E = xE1 ∧ ib nn (g 0 2)) hK hP hD hS ha h1 h2 ⟨rfl, by first | exact Or.inl c_1 | exact Or.inr c_2⟩) hS.2.2 (Nat.le_of_ble_eq_true rfl) (Nat.le_of_ble_eq_true rfl)
  · refine lv_iload_n hx hb dC_pieceAt_4 rfl (lv_at hl 1 rfl) ?_
    refine lv_aload_n hx hb dC_pieceAt_5 rfl (lv_at hl 0 rfl) ?_
    refine va_get (D := D) (ci := 0) (C := RC) (T := TC) (N := 3) hx hb hT inC hown hK hP (0) (cw_X) rfl 2 (by decide) (hT _ wm_102) (fun _ h9 => h9) rfl dC_pieceAt_6 ?_
    refine lv_icmp_lt (tgt := 22) hx hb dC_pieceAt_9 (by decide) (fun c_2 => ?_) (fun c_2 => ?_)
    · obtain ⟨j, hj, rfl⟩ := ibn (n := h 0 0) (by omega) (show ¬ ib nn (nI (h 0 0)) from not_or.mpr ⟨c_1, fun q => q (by rw [← hg0]; exact c_2)⟩)
      refine lv_aload_n hx hb dC_pieceAt_22 rfl (lv_at hl 0 rfl) ?_
      refine va_get (D := D) (ci := 0) (C := RC) (T := TC) (N := 3) hx hb hT inC hown hK hP (0) (cw_X) rfl 1 (by decide) (hT _ wm_101) (fun _ h9 => h9) rfl dC_pieceAt_23 ?_
      refine lv_iload_n hx hb dC_pieceAt_26 rfl (lv_at hl 1 rfl) ?_
      refine va_aldq (D := D) hx hb hK hP (2) 3 (cw_FA) rfl (vp_in_nI (by omega) (by decide)) dC_pieceAt_27 ?_
      refine W.eq (g2 := F0 m 28 ls [.ref (ad (57 + j))]) (by rw [nI_clamp (n := j) (by omega)]; simp [va_rf, hj]) ?_
      refine W.widen (k := 1) (n := 6) (Nat.le_of_ble_eq_true rfl) (Nat.le_of_ble_eq_true rfl) ?_
      refine vx_ret ?_
      exact W.aret (v := .ref (ad (57 + j))) hx hb hr (Or.inl ⟨_, rfl⟩) (Or.inr ⟨_, rfl⟩) (fun t ht hW => ⟨⟨g, _, rfl, rfl, ⟨j, hj, rfl, rfl⟩, gpost_at hP hK hD ht hW.alike⟩, hS.F ht⟩) hS.2.2 dC_pieceAt_28
    · exact xt1 (is := 156) (text := "no such piece") hx hb hlt hown hT hZ hZ.2.2.2.2.2.2.2.1 hS hml hl.1 dC_pieceAt_12 dC_pieceAt_15 dC_pieceAt_16 dC_pieceAt_18 dC_pieceAt_21 hno (Nat.le_of_ble_eq_true rfl) (Nat.le_of_ble_eq_true rfl) (Nat.le_of_ble_eq_true rfl) (Nat.le_of_ble_eq_true rfl) hlocks (fun t ha h1 h2 => xout (wd := fun z => cw CA z h ad) (te := fun E => E = xE1 ∧ ib nn (g 0 2)) hK hP hD hS ha h1 h2 ⟨rfl, by first | exact Or.inl c_1 | exact Or.inr c_2⟩) hS.2.2 (Nat.le_of_ble_eq_true rfl) (Nat.le_of_ble_eq_true rfl)
end
section
set_option maxHeartbeats 4000000 in
set_option maxRecDepth 100000 in
theorem kC_bound (l : Launch) (hlt : l.stackTraces = false) (D : va_G) (CA : Nat → ClassId) (g : Nat → Nat → Int32) (h : Nat → Nat → Nat) (ad : Nat → Nat) (sz : Nat) (sa : Nat → Nat) (kd tn : Int32) : vx_Met l yC_bound wC_bound (rm 1 2 12) (va_Pc [.ref (ad 0), .int kd, .int tn] (fun U => gpre D (cty CA) (cw CA g h ad) sz U ∧ xz (cA h ad sz) sa U U.heap)) (va_Qi (fun r (u : Nat → Nat → Int32) => ¬ (ib kd 6) ∧ ¬ (rb tn 0 30000) ∧ ∃ k, k < 6 ∧ kd = nI k ∧ r = g (3 + 9 * k) 3 ∧ u = (u2 (u2 g (3 + 9 * k) 3 tn) (3 + 9 * k) 7 1)) (fun u t => gpost D (cty CA) (cw CA u h ad) (cA h ad sz) t) (cA h ad sz)) (vx_X (fun u : Nat → Nat → Int32 => u = g) (fun E u t => te3 (ib kd 6) (rb tn 0 30000) False E ∧ gpost D (cty CA) (cw CA u h ad) (cA h ad sz) t) (cA h ad sz)) 2 12 (cA h ad sz) := by
  refine vx_ofW (cc := cC_bound) (maxL := 5) (ret := (some .int)) (by decide) rfl ?_
  intro p e s m args below meth c s₁ B hml hno hv
  obtain ⟨rfl, ⟨hsz, hP, hK, hD0⟩, hZ⟩ := hv
  have hx := B.exec
  have hb := B.bytes
  have hr := B.returns
  have hT : ∀ w ∈ TB, w.before _ s = true := fun w hw => atoms_spec (ws := wC_bound) B.pre w (List.mem_cons_of_mem _ hw)
  have hown : s.vm.findClass "CountLeast" = some m.cls := findClass_of_methodNamed B.named
  have hlocks := B.notSynchronized
  subst hsz
  have hD := nA_self (sz := s.heap.size) hD0
  have hS : va_S (cA h ad s.heap.size) s.heap s.heap [] := va_S.rf
  have hP : va_P D vwCl (cw CA g h ad) s.heap := hP
  have hl := lv_entry ([.ref (ad 0), .int kd, .int tn]) (n := 5) (Nat.le_of_ble_eq_true rfl)
  rw [lg_entry_eq]
  generalize (lg_sl ([.ref (ad 0), .int kd, .int tn]) ++ List.replicate (5 - (lg_sl ([.ref (ad 0), .int kd, .int tn])).length) Slot.unset).toArray = ls at hl ⊢
  have hl : lv_has ls 5 [(0, .ref (ad 0)), (1, .int kd), (2, .int tn)] := hl
  refine lv_aload_n hx hb dC_bound_0 rfl (lv_at hl 0 rfl) ?_
  refine lv_iload_n hx hb dC_bound_1 rfl (lv_at hl 1 rfl) ?_
  refine kVx (n := 1) (D := D) (wd := fun z => cw CA z h ad) (A1 := fun sz => cA h ad sz) (As := [.int kd]) (rest := []) (te := (te3 (ib kd 6) (rb tn 0 30000) False)) ⟨hx, hb, hml, hown, hT⟩ (kC_kindAt l hlt D CA g h ad s.heap.size sa kd) (gi_V wm_120 wm_122 wp_0 wm_1 wm_123) rfl rfl (by decide +kernel) ⟨(Nat.le_of_ble_eq_true rfl), (Nat.le_of_ble_eq_true rfl)⟩ (va_recv hK hP (ci := 0) (q0 := 0) rfl cw_X) hlocks hno hZ (fun _ h9 => h9) hK hP hD hS (fun _ h9 => h9) (nA_mono hS.1) (fun E h9 => Or.inl ⟨h9.1, h9.2⟩) rfl hl.1 rfl (Nat.le_of_ble_eq_true rfl) dC_bound_2 ⟨(Nat.le_of_ble_eq_true rfl), (Nat.le_of_ble_eq_true rfl)⟩ (Nat.le_of_ble_eq_true rfl) (Nat.le_of_ble_eq_true rfl) (fun a9 H locs ha hz hP hS => ?_)
  obtain ⟨k, hk, rfl, rfl⟩ := ha
  have f_1 : ¬ ib (nI k) 6 := nib hk (by decide)
  refine lv_astore_n (lv' := [(3, .ref (ad (3 + 9 * k))), (0, .ref (ad 0)), (1, .int (nI k)), (2, .int tn)]) hx hb dC_bound_5 rfl hl (by decide) rfl (fun ls hl => ?_)
  refine lv_iload_n hx hb dC_bound_6 rfl (lv_at hl 3 rfl) ?_
  refine lv_iconst (v := 0) hx hb dC_bound_7 (by decide) ?_
  refine lv_sipush (v := 30000) hx hb dC_bound_8 (by decide) ?_
  refine kSx (n := 3) (D := D) (wd := fun z => cw CA z h ad) (As := [.int tn, .int 0, .int 30000]) (rest := []) (te := (te3 (ib (nI k) 6) (rb tn 0 30000) False)) hml ⟨hx, hb, hml, hown, hT⟩ (kC_checkRange l hlt sa H.size tn 0 30000) (gi_S wm_196 wm_197 wm_1 wm_198) rfl rfl (by decide +kernel) ⟨(Nat.le_of_ble_eq_true rfl), (Nat.le_of_ble_eq_true rfl)⟩ hlocks hno hZ (fun _ h9 => Or.inr h9) (fun _ h9 => h9) hK hP hD hS (fun E h9 => Or.inr (Or.inl ⟨h9.1, f_1, h9.2⟩)) rfl hl.1 rfl (Nat.le_of_ble_eq_true rfl) dC_bound_11 ⟨(Nat.le_of_ble_eq_true rfl), (Nat.le_of_ble_eq_true rfl)⟩ (Nat.le_of_ble_eq_true rfl) (Nat.le_of_ble_eq_true rfl) (fun H locs hok hz hP hS => ?_)
  have f_2 := hok
  refine lv_aload_n hx hb dC_bound_14 rfl (lv_at hl 0 rfl) ?_
  refine va_get (D := D) (ci := 1) (C := RK) (T := TK) (N := 10) hx hb hT inK hown hK hP (3 + 9 * k) (cw_K hk) rfl 3 (by decide) (hT _ wm_67) (fun _ h9 => h9) rfl dC_bound_15 ?_
  refine lv_istore (lv' := [(4, .int (g (3 + 9 * k) 3)), (3, .ref (ad (3 + 9 * k))), (0, .ref (ad 0)), (1, .int (nI k)), (2, .int tn)]) hx hb dC_bound_18 hl (by decide) rfl (fun ls hl => ?_)
  refine lv_aload_n hx hb dC_bound_20 rfl (lv_at hl 1 rfl) ?_
  refine lv_iload_n hx hb dC_bound_21 rfl (lv_at hl 4 rfl) ?_
  refine va_put (D := D) (ci := 1) (v := .int tn) (ty := .int) (C := RK) (T := TK) (N := 10) hx hb hT inK tyK tyokK nmK hown hK hP hD hS (3 + 9 * k) (cw_K hk) rfl 3 (by decide) (hT _ wm_67) (fun _ h9 => h9) rfl (by decide +kernel) rfl rfl (Nat.le_of_ble_eq_true rfl) dC_bound_22 (fun H locs hP hD hS => ?_)
  rw [cw_sK hk (by simp)] at hP hD
  refine lv_aload_n hx hb dC_bound_25 rfl (lv_at hl 1 rfl) ?_
  refine lv_iconst (v := 1) hx hb dC_bound_26 (by decide) ?_
  refine va_put (D := D) (ci := 1) (v := .int 1) (ty := .boolean) (C := RK) (T := TK) (N := 10) hx hb hT inK tyK tyokK nmK hown hK hP hD hS (3 + 9 * k) (cw_K hk) rfl 7 (by decide) (hT _ wm_76) (fun _ h9 => h9) rfl (by decide +kernel) rfl rfl (Nat.le_of_ble_eq_true rfl) dC_bound_27 (fun H locs hP hD hS => ?_)
  rw [cw_sK hk (by simp)] at hP hD
  refine lv_iload hx hb dC_bound_30 (lv_at hl 0 rfl) ?_
  refine vx_ret ?_
  exact W.iret (v := g (3 + 9 * k) 3) hx hb hr (fun t ht hW => ⟨⟨_, (u2 (u2 g (3 + 9 * k) 3 tn) (3 + 9 * k) 7 1), rfl, ⟨f_1, f_2, k, hk, rfl, rfl, rfl⟩, gpost_at hP hK hD ht hW.alike⟩, hS.F ht⟩) hS.2.2 dC_bound_32
set_option maxHeartbeats 4000000 in
set_option maxRecDepth 100000 in
theorem kC_single (l : Launch) (hlt : l.stackTraces = false) (D : va_G) (CA : Nat → ClassId) (g : Nat → Nat → Int32) (h : Nat → Nat → Nat) (ad : Nat → Nat) (sz : Nat) (sa : Nat → Nat) (kd pt z : Int32) (hz9 : z = 0 ∨ z = 1) : vx_Met l yC_single wC_single (rm 1 2 12) (va_Pc [.ref (ad 0), .int kd, .int pt, .int z] (fun U => gpre D (cty CA) (cw CA g h ad) sz U ∧ xz (cA h ad sz) sa U U.heap)) (va_Qi (fun r (u : Nat → Nat → Int32) => ¬ (ib kd 6 ∨ ib pt 16) ∧ ∃ k j, k < 6 ∧ j < 16 ∧ kd = nI k ∧ pt = nI j ∧ r = (if g (4 + 9 * k) j = z then 0 else 1) ∧ u = (u2 (u2 g (4 + 9 * k) j z) (3 + 9 * k) 7 1)) (fun u t => gpost D (cty CA) (cw CA u h ad) (cA h ad sz) t) (cA h ad sz)) (vx_X (fun u : Nat → Nat → Int32 => u = g) (fun E u t => te3 (ib kd 6 ∨ ib pt 16) False False E ∧ gpost D (cty CA) (cw CA u h ad) (cA h ad sz) t) (cA h ad sz)) 2 12 (cA h ad sz) := by
  refine vx_ofW (cc := cC_single) (maxL := 6) (ret := (some .boolean)) (by decide) rfl ?_
  intro p e s m args below meth c s₁ B hml hno hv
  obtain ⟨rfl, ⟨hsz, hP, hK, hD0⟩, hZ⟩ := hv
  have hx := B.exec
  have hb := B.bytes
  have hr := B.returns
  have hT : ∀ w ∈ TB, w.before _ s = true := fun w hw => atoms_spec (ws := wC_single) B.pre w (List.mem_cons_of_mem _ hw)
  have hown : s.vm.findClass "CountLeast" = some m.cls := findClass_of_methodNamed B.named
  have hlocks := B.notSynchronized
  subst hsz
  have hD := nA_self (sz := s.heap.size) hD0
  have hS : va_S (cA h ad s.heap.size) s.heap s.heap [] := va_S.rf
  have hP : va_P D vwCl (cw CA g h ad) s.heap := hP
  have hl := lv_entry ([.ref (ad 0), .int kd, .int pt, .int z]) (n := 6) (Nat.le_of_ble_eq_true rfl)
  rw [lg_entry_eq]
  generalize (lg_sl ([.ref (ad 0), .int kd, .int pt, .int z]) ++ List.replicate (6 - (lg_sl ([.ref (ad 0), .int kd, .int pt, .int z])).length) Slot.unset).toArray = ls at hl ⊢
  have hl : lv_has ls 6 [(0, .ref (ad 0)), (1, .int kd), (2, .int pt), (3, .int z)] := hl
  have hnz : vp_nar .boolean z = z := by rcases hz9 with rfl | rfl <;> rfl
  refine lv_aload_n hx hb dC_single_0 rfl (lv_at hl 0 rfl) ?_
  refine lv_iload_n hx hb dC_single_1 rfl (lv_at hl 1 rfl) ?_
  refine kVx (n := 1) (D := D) (wd := fun z => cw CA z h ad) (A1 := fun sz => cA h ad sz) (As := [.int kd]) (rest := []) (te := (te3 (ib kd 6 ∨ ib pt 16) False False)) ⟨hx, hb, hml, hown, hT⟩ (kC_kindAt l hlt D CA g h ad s.heap.size sa kd) (gi_V wm_120 wm_122 wp_0 wm_1 wm_123) rfl rfl (by decide +kernel) ⟨(Nat.le_of_ble_eq_true rfl), (Nat.le_of_ble_eq_true rfl)⟩ (va_recv hK hP (ci := 0) (q0 := 0) rfl cw_X) hlocks hno hZ (fun _ h9 => h9) hK hP hD hS (fun _ h9 => h9) (nA_mono hS.1) (fun E h9 => Or.inl ⟨h9.1, (Or.inl h9.2)⟩) rfl hl.1 rfl (Nat.le_of_ble_eq_true rfl) dC_single_2 ⟨(Nat.le_of_ble_eq_true rfl), (Nat.le_of_ble_eq_true rfl)⟩ (Nat.le_of_ble_eq_true rfl) (Nat.le_of_ble_eq_true rfl) (fun a9 H locs ha hz hP hS => ?_)
  obtain ⟨k, hk, rfl, rfl⟩ := ha
  have f_1 : ¬ ib (nI k) 6 := nib hk (by decide)
  refine lv_astore (lv' := [(4, .ref (ad (3 + 9 * k))), (0, .ref (ad 0)), (1, .int (nI k)), (2, .int pt), (3, .int z)]) hx hb dC_single_5 hl (by decide) rfl (fun ls hl => ?_)
  refine lv_iload_n hx hb dC_single_7 rfl (lv_at hl 3 rfl) ?_
  refine lv_bipush (v := 16) hx hb dC_single_8 (by decide) ?_
  refine kSx (n := 2) (D := D) (wd := fun z => cw CA z h ad) (As := [.int pt, .int 16]) (rest := []) (te := (te3 (ib (nI k) 6 ∨ ib pt 16) False False)) hml ⟨hx, hb, hml, hown, hT⟩ (kC_checkIndex l hlt sa H.size pt 16) (gi_S wm_192 wm_193 wm_1 wm_194) rfl rfl (by decide +kernel) ⟨(Nat.le_of_ble_eq_true rfl), (Nat.le_of_ble_eq_true rfl)⟩ hlocks hno hZ (fun _ h9 => Or.inr h9) (fun _ h9 => h9) hK hP hD hS (fun E h9 => Or.inl ⟨h9.1, (Or.inr h9.2)⟩) rfl hl.1 rfl (Nat.le_of_ble_eq_true rfl) dC_single_10 ⟨(Nat.le_of_ble_eq_true rfl), (Nat.le_of_ble_eq_true rfl)⟩ (Nat.le_of_ble_eq_true rfl) (Nat.le_of_ble_eq_true rfl) (fun H locs hok hz hP hS => ?_)
  have f_2 := hok
  obtain ⟨j, hj, rfl⟩ := ibn (n := 16)  (by decide) f_2
  refine lv_aload hx hb dC_single_13 (lv_at hl 0 rfl) ?_
  refine va_get (D := D) (ci := 1) (C := RK) (T := TK) (N := 10) hx hb hT inK hown hK hP (3 + 9 * k) (cw_K hk) rfl 0 (by decide) (hT _ wm_61) (fun _ h9 => h9) rfl dC_single_15 ?_
  refine lv_iload_n hx hb dC_single_18 rfl (lv_at hl 3 rfl) ?_
  refine va_zald (D := D) hx hb hK hP (4 + 9 * k) 1 (cw_AL hk) rfl (vp_in_nI (by omega) (by decide)) dC_single_19 ?_
  rw [nI_clamp (n := j) (by omega)]
  refine lv_iload_n hx hb dC_single_20 rfl (lv_at hl 4 rfl) ?_
  refine lv_icmp_eq (tgt := 28) hx hb dC_single_21 (by decide) (fun c_3 => ?_) (fun c_3 => ?_)
  · refine lv_iconst (v := 0) hx hb dC_single_28 (by decide) ?_
    refine lv_istore (lv' := [(5, .int 0), (4, .ref (ad (3 + 9 * k))), (0, .ref (ad 0)), (1, .int (nI k)), (2, .int (nI j)), (3, .int z)]) hx hb dC_single_29 hl (by decide) rfl (fun ls hl => ?_)
    refine lv_aload hx hb dC_single_31 (lv_at hl 1 rfl) ?_
    refine va_get (D := D) (ci := 1) (C := RK) (T := TK) (N := 10) hx hb hT inK hown hK hP (3 + 9 * k) (cw_K hk) rfl 0 (by decide) (hT _ wm_61) (fun _ h9 => h9) rfl dC_single_33 ?_
    refine lv_iload_n hx hb dC_single_36 rfl (lv_at hl 4 rfl) ?_
    refine lv_iload_n hx hb dC_single_37 rfl (lv_at hl 5 rfl) ?_
    refine va_zast (D := D) hx hb hK hP hD hS (4 + 9 * k) 1 (cw_AL hk) rfl (vp_in_nI (by omega) (by decide)) dC_single_38 (fun H locs hP hD hS => ?_)
    rw [nI_clamp (n := j) (by omega), hnz, cw_sAL hk] at hP hD
    refine lv_aload hx hb dC_single_39 (lv_at hl 1 rfl) ?_
    refine lv_iconst (v := 1) hx hb dC_single_41 (by decide) ?_
    refine va_put (D := D) (ci := 1) (v := .int 1) (ty := .boolean) (C := RK) (T := TK) (N := 10) hx hb hT inK tyK tyokK nmK hown hK hP hD hS (3 + 9 * k) (cw_K hk) rfl 7 (by decide) (hT _ wm_76) (fun _ h9 => h9) rfl (by decide +kernel) rfl rfl (Nat.le_of_ble_eq_true rfl) dC_single_42 (fun H locs hP hD hS => ?_)
    rw [cw_sK hk (by simp)] at hP hD
    refine lv_iload hx hb dC_single_45 (lv_at hl 0 rfl) ?_
    refine vx_ret ?_
    exact W.zret (v := 0) hx hb hr rfl (fun t ht hW => ⟨⟨_, (u2 (u2 g (4 + 9 * k) j z) (3 + 9 * k) 7 1), rfl, ⟨(not_or.mpr ⟨f_1, f_2⟩), k, j, hk, hj, rfl, rfl, by simp [c_3], rfl⟩, gpost_at hP hK hD ht hW.alike⟩, hS.F ht⟩) hS.2.2 dC_single_47
  · refine lv_iconst (v := 1) hx hb dC_single_24 (by decide) ?_
    refine lv_goto (tgt := 29) hx hb dC_single_25 (by decide) ?_
    refine lv_istore (lv' := [(5, .int 1), (4, .ref (ad (3 + 9 * k))), (0, .ref (ad 0)), (1, .int (nI k)), (2, .int (nI j)), (3, .int z)]) hx hb dC_single_29 hl (by decide) rfl (fun ls hl => ?_)
    refine lv_aload hx hb dC_single_31 (lv_at hl 1 rfl) ?_
    refine va_get (D := D) (ci := 1) (C := RK) (T := TK) (N := 10) hx hb hT inK hown hK hP (3 + 9 * k) (cw_K hk) rfl 0 (by decide) (hT _ wm_61) (fun _ h9 => h9) rfl dC_single_33 ?_
    refine lv_iload_n hx hb dC_single_36 rfl (lv_at hl 4 rfl) ?_
    refine lv_iload_n hx hb dC_single_37 rfl (lv_at hl 5 rfl) ?_
    refine va_zast (D := D) hx hb hK hP hD hS (4 + 9 * k) 1 (cw_AL hk) rfl (vp_in_nI (by omega) (by decide)) dC_single_38 (fun H locs hP hD hS => ?_)
    rw [nI_clamp (n := j) (by omega), hnz, cw_sAL hk] at hP hD
    refine lv_aload hx hb dC_single_39 (lv_at hl 1 rfl) ?_
    refine lv_iconst (v := 1) hx hb dC_single_41 (by decide) ?_
    refine va_put (D := D) (ci := 1) (v := .int 1) (ty := .boolean) (C := RK) (T := TK) (N := 10) hx hb hT inK tyK tyokK nmK hown hK hP hD hS (3 + 9 * k) (cw_K hk) rfl 7 (by decide) (hT _ wm_76) (fun _ h9 => h9) rfl (by decide +kernel) rfl rfl (Nat.le_of_ble_eq_true rfl) dC_single_42 (fun H locs hP hD hS => ?_)
    rw [cw_sK hk (by simp)] at hP hD
    refine lv_iload hx hb dC_single_45 (lv_at hl 0 rfl) ?_
    refine vx_ret ?_
    exact W.zret (v := 1) hx hb hr rfl (fun t ht hW => ⟨⟨_, (u2 (u2 g (4 + 9 * k) j z) (3 + 9 * k) 7 1), rfl, ⟨(not_or.mpr ⟨f_1, f_2⟩), k, j, hk, hj, rfl, rfl, by simp [c_3], rfl⟩, gpost_at hP hK hD ht hW.alike⟩, hS.F ht⟩) hS.2.2 dC_single_47
set_option maxHeartbeats 4000000 in
set_option maxRecDepth 100000 in
theorem kC_table (l : Launch) (hlt : l.stackTraces = false) (D : va_G) (CA : Nat → ClassId) (g : Nat → Nat → Int32) (h : Nat → Nat → Nat) (ad : Nat → Nat) (sz : Nat) (sa : Nat → Nat) (kd wr fr tt : Int32) : vx_Met l yC_table wC_table (rm 1 4 24) (va_Pc [.ref (ad 0), .int kd, .int wr, .int fr, .int tt] (fun U => gpre D (cty CA) (cw CA g h ad) sz U ∧ xz (cA h ad sz) sa U U.heap)) (va_Qv (fun (u : Nat → Nat → Int32) => ¬ (ib kd 6 ∨ ib wr 16) ∧ ¬ (rb tt 0 999 ∨ rb fr 0 tt) ∧ ∃ k j, k < 6 ∧ j < 16 ∧ kd = nI k ∧ wr = nI j ∧ u = (u2 (u2 g (5 + 9 * k) j fr) (6 + 9 * k) j tt)) (fun u t => gpost D (cty CA) (cw CA u h ad) (cA h ad sz) t) (cA h ad sz)) (vx_X (fun u : Nat → Nat → Int32 => u = g) (fun E u t => te3 (ib kd 6 ∨ ib wr 16) (rb tt 0 999 ∨ rb fr 0 tt) False E ∧ gpost D (cty CA) (cw CA u h ad) (cA h ad sz) t) (cA h ad sz)) 4 24 (cA h ad sz) := by
  refine vx_ofW (cc := cC_table) (maxL := 6) (ret := none) (by decide) rfl ?_
  intro p e s m args below meth c s₁ B hml hno hv
  obtain ⟨rfl, ⟨hsz, hP, hK, hD0⟩, hZ⟩ := hv
  have hx := B.exec
  have hb := B.bytes
  have hr := B.returns
  have hT : ∀ w ∈ TB, w.before _ s = true := fun w hw => atoms_spec (ws := wC_table) B.pre w (List.mem_cons_of_mem _ hw)
  have hown : s.vm.findClass "CountLeast" = some m.cls := findClass_of_methodNamed B.named
  have hlocks := B.notSynchronized
  subst hsz
  have hD := nA_self (sz := s.heap.size) hD0
  have hS : va_S (cA h ad s.heap.size) s.heap s.heap [] := va_S.rf
  have hP : va_P D vwCl (cw CA g h ad) s.heap := hP
  have hl := lv_entry ([.ref (ad 0), .int kd, .int wr, .int fr, .int tt]) (n := 6) (Nat.le_of_ble_eq_true rfl)
  rw [lg_entry_eq]
  generalize (lg_sl ([.ref (ad 0), .int kd, .int wr, .int fr, .int tt]) ++ List.replicate (6 - (lg_sl ([.ref (ad 0), .int kd, .int wr, .int fr, .int tt])).length) Slot.unset).toArray = ls at hl ⊢
  have hl : lv_has ls 6 [(0, .ref (ad 0)), (1, .int kd), (2, .int wr), (3, .int fr), (4, .int tt)] := hl
  refine lv_aload_n hx hb dC_table_0 rfl (lv_at hl 0 rfl) ?_
  refine lv_iload_n hx hb dC_table_1 rfl (lv_at hl 1 rfl) ?_
  refine kVx (n := 1) (D := D) (wd := fun z => cw CA z h ad) (A1 := fun sz => cA h ad sz) (As := [.int kd]) (rest := []) (te := (te3 (ib kd 6 ∨ ib wr 16) (rb tt 0 999 ∨ rb fr 0 tt) False)) ⟨hx, hb, hml, hown, hT⟩ (kC_kindAt l hlt D CA g h ad s.heap.size sa kd) (gi_V wm_120 wm_122 wp_0 wm_1 wm_123) rfl rfl (by decide +kernel) ⟨(Nat.le_of_ble_eq_true rfl), (Nat.le_of_ble_eq_true rfl)⟩ (va_recv hK hP (ci := 0) (q0 := 0) rfl cw_X) hlocks hno hZ (fun _ h9 => h9) hK hP hD hS (fun _ h9 => h9) (nA_mono hS.1) (fun E h9 => Or.inl ⟨h9.1, (Or.inl h9.2)⟩) rfl hl.1 rfl (Nat.le_of_ble_eq_true rfl) dC_table_2 ⟨(Nat.le_of_ble_eq_true rfl), (Nat.le_of_ble_eq_true rfl)⟩ (Nat.le_of_ble_eq_true rfl) (Nat.le_of_ble_eq_true rfl) (fun a9 H locs ha hz hP hS => ?_)
  obtain ⟨k, hk, rfl, rfl⟩ := ha
  have f_1 : ¬ ib (nI k) 6 := nib hk (by decide)
  refine lv_astore (lv' := [(5, .ref (ad (3 + 9 * k))), (0, .ref (ad 0)), (1, .int (nI k)), (2, .int wr), (3, .int fr), (4, .int tt)]) hx hb dC_table_5 hl (by decide) rfl (fun ls hl => ?_)
  refine lv_iload_n hx hb dC_table_7 rfl (lv_at hl 3 rfl) ?_
  refine lv_bipush (v := 16) hx hb dC_table_8 (by decide) ?_
  refine kSx (n := 2) (D := D) (wd := fun z => cw CA z h ad) (As := [.int wr, .int 16]) (rest := []) (te := (te3 (ib (nI k) 6 ∨ ib wr 16) (rb tt 0 999 ∨ rb fr 0 tt) False)) hml ⟨hx, hb, hml, hown, hT⟩ (kC_checkIndex l hlt sa H.size wr 16) (gi_S wm_192 wm_193 wm_1 wm_194) rfl rfl (by decide +kernel) ⟨(Nat.le_of_ble_eq_true rfl), (Nat.le_of_ble_eq_true rfl)⟩ hlocks hno hZ (fun _ h9 => Or.inr h9) (fun _ h9 => h9) hK hP hD hS (fun E h9 => Or.inl ⟨h9.1, (Or.inr h9.2)⟩) rfl hl.1 rfl (Nat.le_of_ble_eq_true rfl) dC_table_10 ⟨(Nat.le_of_ble_eq_true rfl), (Nat.le_of_ble_eq_true rfl)⟩ (Nat.le_of_ble_eq_true rfl) (Nat.le_of_ble_eq_true rfl) (fun H locs hok hz hP hS => ?_)
  have f_2 := hok
  obtain ⟨j, hj, rfl⟩ := ibn (n := 16)  (by decide) f_2
  refine lv_iload hx hb dC_table_13 (lv_at hl 5 rfl) ?_
  refine lv_iconst (v := 0) hx hb dC_table_15 (by decide) ?_
  refine lv_sipush (v := 999) hx hb dC_table_16 (by decide) ?_
  refine kSx (n := 3) (D := D) (wd := fun z => cw CA z h ad) (As := [.int tt, .int 0, .int 999]) (rest := []) (te := (te3 (ib (nI k) 6 ∨ ib (nI j) 16) (rb tt 0 999 ∨ rb fr 0 tt) False)) hml ⟨hx, hb, hml, hown, hT⟩ (kC_checkRange l hlt sa H.size tt 0 999) (gi_S wm_196 wm_197 wm_1 wm_198) rfl rfl (by decide +kernel) ⟨(Nat.le_of_ble_eq_true rfl), (Nat.le_of_ble_eq_true rfl)⟩ hlocks hno hZ (fun _ h9 => Or.inr h9) (fun _ h9 => h9) hK hP hD hS (fun E h9 => Or.inr (Or.inl ⟨h9.1, (not_or.mpr ⟨f_1, f_2⟩), (Or.inl h9.2)⟩)) rfl hl.1 rfl (Nat.le_of_ble_eq_true rfl) dC_table_19 ⟨(Nat.le_of_ble_eq_true rfl), (Nat.le_of_ble_eq_true rfl)⟩ (Nat.le_of_ble_eq_true rfl) (Nat.le_of_ble_eq_true rfl) (fun H locs hok hz hP hS => ?_)
  have f_3 := hok
  refine lv_iload_n hx hb dC_table_22 rfl (lv_at hl 4 rfl) ?_
  refine lv_iconst (v := 0) hx hb dC_table_23 (by decide) ?_
  refine lv_iload hx hb dC_table_24 (lv_at hl 5 rfl) ?_
  refine kSx (n := 3) (D := D) (wd := fun z => cw CA z h ad) (As := [.int fr, .int 0, .int tt]) (rest := []) (te := (te3 (ib (nI k) 6 ∨ ib (nI j) 16) (rb tt 0 999 ∨ rb fr 0 tt) False)) hml ⟨hx, hb, hml, hown, hT⟩ (kC_checkRange l hlt sa H.size fr 0 tt) (gi_S wm_196 wm_197 wm_1 wm_198) rfl rfl (by decide +kernel) ⟨(Nat.le_of_ble_eq_true rfl), (Nat.le_of_ble_eq_true rfl)⟩ hlocks hno hZ (fun _ h9 => Or.inr h9) (fun _ h9 => h9) hK hP hD hS (fun E h9 => Or.inr (Or.inl ⟨h9.1, (not_or.mpr ⟨f_1, f_2⟩), (Or.inr h9.2)⟩)) rfl hl.1 rfl (Nat.le_of_ble_eq_true rfl) dC_table_26 ⟨(Nat.le_of_ble_eq_true rfl), (Nat.le_of_ble_eq_true rfl)⟩ (Nat.le_of_ble_eq_true rfl) (Nat.le_of_ble_eq_true rfl) (fun H locs hok hz hP hS => ?_)
  have f_4 := hok
  refine lv_aload hx hb dC_table_29 (lv_at hl 0 rfl) ?_
  refine va_get (D := D) (ci := 1) (C := RK) (T := TK) (N := 10) hx hb hT inK hown hK hP (3 + 9 * k) (cw_K hk) rfl 1 (by decide) (hT _ wm_63) (fun _ h9 => h9) rfl dC_table_31 ?_
  refine lv_iload_n hx hb dC_table_34 rfl (lv_at hl 3 rfl) ?_
  refine lv_iload_n hx hb dC_table_35 rfl (lv_at hl 4 rfl) ?_
  refine va_iast (D := D) hx hb hK hP hD hS (5 + 9 * k) 0 (cw_WF hk) rfl (vp_in_nI (by omega) (by decide)) dC_table_36 (fun H locs hP hD hS => ?_)
  rw [nI_clamp (n := j) (by omega), cw_sWF hk] at hP hD
  refine lv_aload hx hb dC_table_37 (lv_at hl 0 rfl) ?_
  refine va_get (D := D) (ci := 1) (C := RK) (T := TK) (N := 10) hx hb hT inK hown hK hP (3 + 9 * k) (cw_K hk) rfl 2 (by decide) (hT _ wm_65) (fun _ h9 => h9) rfl dC_table_39 ?_
  refine lv_iload_n hx hb dC_table_42 rfl (lv_at hl 3 rfl) ?_
  refine lv_iload hx hb dC_table_43 (lv_at hl 5 rfl) ?_
  refine va_iast (D := D) hx hb hK hP hD hS (6 + 9 * k) 0 (cw_WT hk) rfl (vp_in_nI (by omega) (by decide)) dC_table_45 (fun H locs hP hD hS => ?_)
  rw [nI_clamp (n := j) (by omega), cw_sWT hk] at hP hD
  refine vx_ret ?_
  exact W.vret hx hb hr (fun t ht hW => ⟨⟨(u2 (u2 g (5 + 9 * k) j fr) (6 + 9 * k) j tt), rfl, ⟨(not_or.mpr ⟨f_1, f_2⟩), (not_or.mpr ⟨f_3, f_4⟩), k, j, hk, hj, rfl, rfl, rfl⟩, gpost_at hP hK hD ht hW.alike⟩, hS.F ht⟩) hS.2.2 dC_table_46
set_option maxHeartbeats 4000000 in
set_option maxRecDepth 100000 in
theorem kC_worn (l : Launch) (hlt : l.stackTraces = false) (D : va_G) (CA : Nat → ClassId) (g : Nat → Nat → Int32) (h : Nat → Nat → Nat) (ad : Nat → Nat) (sz : Nat) (sa : Nat → Nat) (pn wr : Int32) (hn72 : h 0 0 ≤ 72) (hg0 : g 0 2 = nI (h 0 0)) (hq6 : ∀ p, p < h 0 0 → h 2 p < 6) : vx_Met l yC_worn wC_worn (rm 1 2 12) (va_Pc [.ref (ad 0), .int pn, .int wr] (fun U => gpre D (cty CA) (cw CA g h ad) sz U ∧ xz (cA h ad sz) sa U U.heap)) (va_Qv (fun (u : Nat → Nat → Int32) => ¬ (ib pn (g 0 2) ∨ ib wr 16) ∧ ∃ p j, p < h 0 0 ∧ j < 16 ∧ pn = nI p ∧ wr = nI j ∧ u = (u2 (u2 (u2 g (57 + p) 6 (g (5 + 9 * (h 2 p)) j)) (57 + p) 7 ((u2 g (57 + p) 6 (g (5 + 9 * (h 2 p)) j)) (6 + 9 * (h 2 p)) j)) (3 + 9 * (h 2 p)) 7 1)) (fun u t => gpost D (cty CA) (cw CA u h ad) (cA h ad sz) t) (cA h ad sz)) (vx_X (fun u : Nat → Nat → Int32 => u = g) (fun E u t => te3 (ib pn (g 0 2) ∨ ib wr 16) False False E ∧ gpost D (cty CA) (cw CA u h ad) (cA h ad sz) t) (cA h ad sz)) 2 12 (cA h ad sz) := by
  refine vx_ofW (cc := cC_worn) (maxL := 4) (ret := none) (by decide) rfl ?_
  intro p e s m args below meth c s₁ B hml hno hv
  obtain ⟨rfl, ⟨hsz, hP, hK, hD0⟩, hZ⟩ := hv
  have hx := B.exec
  have hb := B.bytes
  have hr := B.returns
  have hT : ∀ w ∈ TB, w.before _ s = true := fun w hw => atoms_spec (ws := wC_worn) B.pre w (List.mem_cons_of_mem _ hw)
  have hown : s.vm.findClass "CountLeast" = some m.cls := findClass_of_methodNamed B.named
  have hlocks := B.notSynchronized
  subst hsz
  have hD := nA_self (sz := s.heap.size) hD0
  have hS : va_S (cA h ad s.heap.size) s.heap s.heap [] := va_S.rf
  have hP : va_P D vwCl (cw CA g h ad) s.heap := hP
  have hl := lv_entry ([.ref (ad 0), .int pn, .int wr]) (n := 4) (Nat.le_of_ble_eq_true rfl)
  rw [lg_entry_eq]
  generalize (lg_sl ([.ref (ad 0), .int pn, .int wr]) ++ List.replicate (4 - (lg_sl ([.ref (ad 0), .int pn, .int wr])).length) Slot.unset).toArray = ls at hl ⊢
  have hl : lv_has ls 4 [(0, .ref (ad 0)), (1, .int pn), (2, .int wr)] := hl
  refine lv_aload_n hx hb dC_worn_0 rfl (lv_at hl 0 rfl) ?_
  refine lv_iload_n hx hb dC_worn_1 rfl (lv_at hl 1 rfl) ?_
  refine kVx (n := 1) (D := D) (wd := fun z => cw CA z h ad) (A1 := fun sz => cA h ad sz) (As := [.int pn]) (rest := []) (te := (te3 (ib pn (g 0 2) ∨ ib wr 16) False False)) ⟨hx, hb, hml, hown, hT⟩ (kC_pieceAt l hlt D CA g h ad s.heap.size sa pn hn72 hg0) (gi_V wm_310 wm_312 wp_2 wm_1 wm_313) rfl rfl (by decide +kernel) ⟨(Nat.le_of_ble_eq_true rfl), (Nat.le_of_ble_eq_true rfl)⟩ (va_recv hK hP (ci := 0) (q0 := 0) rfl cw_X) hlocks hno hZ (fun _ h9 => h9) hK hP hD hS (fun _ h9 => h9) (nA_mono hS.1) (fun E h9 => Or.inl ⟨h9.1, (Or.inl h9.2)⟩) rfl hl.1 rfl (Nat.le_of_ble_eq_true rfl) dC_worn_2 ⟨(Nat.le_of_ble_eq_true rfl), (Nat.le_of_ble_eq_true rfl)⟩ (Nat.le_of_ble_eq_true rfl) (Nat.le_of_ble_eq_true rfl) (fun a9 H locs ha hz hP hS => ?_)
  obtain ⟨p, hp, rfl, rfl⟩ := ha
  have f_1 : ¬ ib (nI p) (g 0 2) := by rw [hg0]; exact nib hp (by omega)
  refine lv_astore_n (lv' := [(3, .ref (ad (57 + p))), (0, .ref (ad 0)), (1, .int (nI p)), (2, .int wr)]) hx hb dC_worn_5 rfl hl (by decide) rfl (fun ls hl => ?_)
  refine lv_iload_n hx hb dC_worn_6 rfl (lv_at hl 3 rfl) ?_
  refine lv_bipush (v := 16) hx hb dC_worn_7 (by decide) ?_
  refine kSx (n := 2) (D := D) (wd := fun z => cw CA z h ad) (As := [.int wr, .int 16]) (rest := []) (te := (te3 (ib (nI p) (g 0 2) ∨ ib wr 16) False False)) hml ⟨hx, hb, hml, hown, hT⟩ (kC_checkIndex l hlt sa H.size wr 16) (gi_S wm_192 wm_193 wm_1 wm_194) rfl rfl (by decide +kernel) ⟨(Nat.le_of_ble_eq_true rfl), (Nat.le_of_ble_eq_true rfl)⟩ hlocks hno hZ (fun _ h9 => Or.inr h9) (fun _ h9 => h9) hK hP hD hS (fun E h9 => Or.inl ⟨h9.1, (Or.inr h9.2)⟩) rfl hl.1 rfl (Nat.le_of_ble_eq_true rfl) dC_worn_9 ⟨(Nat.le_of_ble_eq_true rfl), (Nat.le_of_ble_eq_true rfl)⟩ (Nat.le_of_ble_eq_true rfl) (Nat.le_of_ble_eq_true rfl) (fun H locs hok hz hP hS => ?_)
  have f_2 := hok
  obtain ⟨j, hj, rfl⟩ := ibn (n := 16)  (by decide) f_2
  refine lv_aload_n hx hb dC_worn_12 rfl (lv_at hl 0 rfl) ?_
  refine lv_aload_n hx hb dC_worn_13 rfl (lv_at hl 0 rfl) ?_
  refine va_get (D := D) (ci := 3) (C := RQ) (T := TQ) (N := 9) hx hb hT inQ hown hK hP (57 + p) (cw_Q hp) rfl 0 (by decide) (hT _ wm_237) (fun _ h9 => h9) rfl dC_worn_14 ?_
  refine va_get (D := D) (ci := 1) (C := RK) (T := TK) (N := 10) hx hb hT inK hown hK hP (3 + 9 * (h 2 p)) (cw_K (hq6 p hp)) rfl 1 (by decide) (hT _ wm_63) (fun _ h9 => h9) rfl dC_worn_17 ?_
  refine lv_iload_n hx hb dC_worn_20 rfl (lv_at hl 3 rfl) ?_
  refine va_iald (D := D) hx hb hK hP (5 + 9 * (h 2 p)) 0 (cw_WF (hq6 p hp)) rfl (vp_in_nI (by omega) (by decide)) dC_worn_21 ?_
  rw [nI_clamp (n := j) (by omega)]
  refine va_put (D := D) (ci := 3) (v := .int (g (5 + 9 * (h 2 p)) j)) (ty := .int) (C := RQ) (T := TQ) (N := 9) hx hb hT inQ tyQ tyokQ nmQ hown hK hP hD hS (57 + p) (cw_Q hp) rfl 6 (by decide) (hT _ wm_252) (fun _ h9 => h9) rfl (by decide +kernel) rfl rfl (Nat.le_of_ble_eq_true rfl) dC_worn_22 (fun H locs hP hD hS => ?_)
  rw [cw_sQ (by simp)] at hP hD
  refine lv_aload_n hx hb dC_worn_25 rfl (lv_at hl 0 rfl) ?_
  refine lv_aload_n hx hb dC_worn_26 rfl (lv_at hl 0 rfl) ?_
  refine va_get (D := D) (ci := 3) (C := RQ) (T := TQ) (N := 9) hx hb hT inQ hown hK hP (57 + p) (cw_Q hp) rfl 0 (by decide) (hT _ wm_237) (fun _ h9 => h9) rfl dC_worn_27 ?_
  refine va_get (D := D) (ci := 1) (C := RK) (T := TK) (N := 10) hx hb hT inK hown hK hP (3 + 9 * (h 2 p)) (cw_K (hq6 p hp)) rfl 2 (by decide) (hT _ wm_65) (fun _ h9 => h9) rfl dC_worn_30 ?_
  refine lv_iload_n hx hb dC_worn_33 rfl (lv_at hl 3 rfl) ?_
  refine va_iald (D := D) hx hb hK hP (6 + 9 * (h 2 p)) 0 (cw_WT (hq6 p hp)) rfl (vp_in_nI (by omega) (by decide)) dC_worn_34 ?_
  rw [nI_clamp (n := j) (by omega)]
  refine va_put (D := D) (ci := 3) (v := .int ((u2 g (57 + p) 6 (g (5 + 9 * (h 2 p)) j)) (6 + 9 * (h 2 p)) j)) (ty := .int) (C := RQ) (T := TQ) (N := 9) hx hb hT inQ tyQ tyokQ nmQ hown hK hP hD hS (57 + p) (cw_Q hp) rfl 7 (by decide) (hT _ wm_255) (fun _ h9 => h9) rfl (by decide +kernel) rfl rfl (Nat.le_of_ble_eq_true rfl) dC_worn_35 (fun H locs hP hD hS => ?_)
  rw [cw_sQ (by simp)] at hP hD
  refine lv_aload_n hx hb dC_worn_38 rfl (lv_at hl 0 rfl) ?_
  refine va_get (D := D) (ci := 3) (C := RQ) (T := TQ) (N := 9) hx hb hT inQ hown hK hP (57 + p) (cw_Q hp) rfl 0 (by decide) (hT _ wm_237) (fun _ h9 => h9) rfl dC_worn_39 ?_
  refine lv_iconst (v := 1) hx hb dC_worn_42 (by decide) ?_
  refine va_put (D := D) (ci := 1) (v := .int 1) (ty := .boolean) (C := RK) (T := TK) (N := 10) hx hb hT inK tyK tyokK nmK hown hK hP hD hS (3 + 9 * (h 2 p)) (cw_K (hq6 p hp)) rfl 7 (by decide) (hT _ wm_76) (fun _ h9 => h9) rfl (by decide +kernel) rfl rfl (Nat.le_of_ble_eq_true rfl) dC_worn_43 (fun H locs hP hD hS => ?_)
  rw [cw_sK (hq6 p hp) (by simp)] at hP hD
  refine vx_ret ?_
  exact W.vret hx hb hr (fun t ht hW => ⟨⟨(u2 (u2 (u2 g (57 + p) 6 (g (5 + 9 * (h 2 p)) j)) (57 + p) 7 ((u2 g (57 + p) 6 (g (5 + 9 * (h 2 p)) j)) (6 + 9 * (h 2 p)) j)) (3 + 9 * (h 2 p)) 7 1), rfl, ⟨(not_or.mpr ⟨f_1, f_2⟩), p, j, hp, hj, rfl, rfl, rfl⟩, gpost_at hP hK hD ht hW.alike⟩, hS.F ht⟩) hS.2.2 dC_worn_46
set_option maxHeartbeats 4000000 in
set_option maxRecDepth 100000 in
theorem kC_aged (l : Launch) (hlt : l.stackTraces = false) (D : va_G) (CA : Nat → ClassId) (g : Nat → Nat → Int32) (h : Nat → Nat → Nat) (ad : Nat → Nat) (sz : Nat) (sa : Nat → Nat) (pn en : Int32) (hn72 : h 0 0 ≤ 72) (hg0 : g 0 2 = nI (h 0 0)) : vx_Met l yC_aged wC_aged (rm 1 2 12) (va_Pc [.ref (ad 0), .int pn, .int en] (fun U => gpre D (cty CA) (cw CA g h ad) sz U ∧ xz (cA h ad sz) sa U U.heap)) (va_Qi (fun r (u : Nat → Nat → Int32) => ¬ (ib pn (g 0 2) ∨ ib en 2) ∧ ∃ p, p < h 0 0 ∧ pn = nI p ∧ r = (if en = 0 then g (57 + p) 6 else g (57 + p) 7) ∧ u = g) (fun u t => gpost D (cty CA) (cw CA u h ad) (cA h ad sz) t) (cA h ad sz)) (vx_X (fun u : Nat → Nat → Int32 => u = g) (fun E u t => te3 (ib pn (g 0 2) ∨ ib en 2) False False E ∧ gpost D (cty CA) (cw CA u h ad) (cA h ad sz) t) (cA h ad sz)) 2 12 (cA h ad sz) := by
  refine vx_ofW (cc := cC_aged) (maxL := 4) (ret := (some .int)) (by decide) rfl ?_
  intro p e s m args below meth c s₁ B hml hno hv
  obtain ⟨rfl, ⟨hsz, hP, hK, hD0⟩, hZ⟩ := hv
  have hx := B.exec
  have hb := B.bytes
  have hr := B.returns
  have hT : ∀ w ∈ TB, w.before _ s = true := fun w hw => atoms_spec (ws := wC_aged) B.pre w (List.mem_cons_of_mem _ hw)
  have hown : s.vm.findClass "CountLeast" = some m.cls := findClass_of_methodNamed B.named
  have hlocks := B.notSynchronized
  subst hsz
  have hD := nA_self (sz := s.heap.size) hD0
  have hS : va_S (cA h ad s.heap.size) s.heap s.heap [] := va_S.rf
  have hP : va_P D vwCl (cw CA g h ad) s.heap := hP
  have hl := lv_entry ([.ref (ad 0), .int pn, .int en]) (n := 4) (Nat.le_of_ble_eq_true rfl)
  rw [lg_entry_eq]
  generalize (lg_sl ([.ref (ad 0), .int pn, .int en]) ++ List.replicate (4 - (lg_sl ([.ref (ad 0), .int pn, .int en])).length) Slot.unset).toArray = ls at hl ⊢
  have hl : lv_has ls 4 [(0, .ref (ad 0)), (1, .int pn), (2, .int en)] := hl
  refine lv_aload_n hx hb dC_aged_0 rfl (lv_at hl 0 rfl) ?_
  refine lv_iload_n hx hb dC_aged_1 rfl (lv_at hl 1 rfl) ?_
  refine kVx (n := 1) (D := D) (wd := fun z => cw CA z h ad) (A1 := fun sz => cA h ad sz) (As := [.int pn]) (rest := []) (te := (te3 (ib pn (g 0 2) ∨ ib en 2) False False)) ⟨hx, hb, hml, hown, hT⟩ (kC_pieceAt l hlt D CA g h ad s.heap.size sa pn hn72 hg0) (gi_V wm_310 wm_312 wp_2 wm_1 wm_313) rfl rfl (by decide +kernel) ⟨(Nat.le_of_ble_eq_true rfl), (Nat.le_of_ble_eq_true rfl)⟩ (va_recv hK hP (ci := 0) (q0 := 0) rfl cw_X) hlocks hno hZ (fun _ h9 => h9) hK hP hD hS (fun _ h9 => h9) (nA_mono hS.1) (fun E h9 => Or.inl ⟨h9.1, (Or.inl h9.2)⟩) rfl hl.1 rfl (Nat.le_of_ble_eq_true rfl) dC_aged_2 ⟨(Nat.le_of_ble_eq_true rfl), (Nat.le_of_ble_eq_true rfl)⟩ (Nat.le_of_ble_eq_true rfl) (Nat.le_of_ble_eq_true rfl) (fun a9 H locs ha hz hP hS => ?_)
  obtain ⟨p, hp, rfl, rfl⟩ := ha
  have f_1 : ¬ ib (nI p) (g 0 2) := by rw [hg0]; exact nib hp (by omega)
  refine lv_astore_n (lv' := [(3, .ref (ad (57 + p))), (0, .ref (ad 0)), (1, .int (nI p)), (2, .int en)]) hx hb dC_aged_5 rfl hl (by decide) rfl (fun ls hl => ?_)
  refine lv_iload_n hx hb dC_aged_6 rfl (lv_at hl 3 rfl) ?_
  refine lv_iconst (v := 2) hx hb dC_aged_7 (by decide) ?_
  refine kSx (n := 2) (D := D) (wd := fun z => cw CA z h ad) (As := [.int en, .int 2]) (rest := []) (te := (te3 (ib (nI p) (g 0 2) ∨ ib en 2) False False)) hml ⟨hx, hb, hml, hown, hT⟩ (kC_checkIndex l hlt sa H.size en 2) (gi_S wm_192 wm_193 wm_1 wm_194) rfl rfl (by decide +kernel) ⟨(Nat.le_of_ble_eq_true rfl), (Nat.le_of_ble_eq_true rfl)⟩ hlocks hno hZ (fun _ h9 => Or.inr h9) (fun _ h9 => h9) hK hP hD hS (fun E h9 => Or.inl ⟨h9.1, (Or.inr h9.2)⟩) rfl hl.1 rfl (Nat.le_of_ble_eq_true rfl) dC_aged_8 ⟨(Nat.le_of_ble_eq_true rfl), (Nat.le_of_ble_eq_true rfl)⟩ (Nat.le_of_ble_eq_true rfl) (Nat.le_of_ble_eq_true rfl) (fun H locs hok hz hP hS => ?_)
  have f_2 := hok
  refine lv_iload_n hx hb dC_aged_11 rfl (lv_at hl 3 rfl) ?_
  refine lv_if_ne (tgt := 22) hx hb dC_aged_12 (by decide) (fun c_3 => ?_) (fun c_3 => ?_)
  · refine lv_aload_n hx hb dC_aged_22 rfl (lv_at hl 0 rfl) ?_
    refine va_get (D := D) (ci := 3) (C := RQ) (T := TQ) (N := 9) hx hb hT inQ hown hK hP (57 + p) (cw_Q hp) rfl 7 (by decide) (hT _ wm_255) (fun _ h9 => h9) rfl dC_aged_23 ?_
    refine vx_ret ?_
    exact W.iret (v := g (57 + p) 7) hx hb hr (fun t ht hW => ⟨⟨_, g, rfl, ⟨(not_or.mpr ⟨f_1, f_2⟩), p, hp, rfl, by simp [c_3], rfl⟩, gpost_at hP hK hD ht hW.alike⟩, hS.F ht⟩) hS.2.2 dC_aged_26
  · refine lv_aload_n hx hb dC_aged_15 rfl (lv_at hl 0 rfl) ?_
    refine va_get (D := D) (ci := 3) (C := RQ) (T := TQ) (N := 9) hx hb hT inQ hown hK hP (57 + p) (cw_Q hp) rfl 6 (by decide) (hT _ wm_252) (fun _ h9 => h9) rfl dC_aged_16 ?_
    refine lv_goto (tgt := 26) hx hb dC_aged_19 (by decide) ?_
    refine vx_ret ?_
    exact W.iret (v := g (57 + p) 6) hx hb hr (fun t ht hW => ⟨⟨_, g, rfl, ⟨(not_or.mpr ⟨f_1, f_2⟩), p, hp, rfl, by simp [c_3], rfl⟩, gpost_at hP hK hD ht hW.alike⟩, hS.F ht⟩) hS.2.2 dC_aged_26
set_option maxHeartbeats 4000000 in
set_option maxRecDepth 100000 in
theorem kC_unsure (l : Launch) (hlt : l.stackTraces = false) (D : va_G) (CA : Nat → ClassId) (g : Nat → Nat → Int32) (h : Nat → Nat → Nat) (ad : Nat → Nat) (sz : Nat) (sa : Nat → Nat) (pn : Int32) (hn72 : h 0 0 ≤ 72) (hg0 : g 0 2 = nI (h 0 0)) (hq6 : ∀ p, p < h 0 0 → h 2 p < 6) : vx_Met l yC_unsure wC_unsure (rm 1 1 6) (va_Pc [.ref (ad 0), .int pn] (fun U => gpre D (cty CA) (cw CA g h ad) sz U ∧ xz (cA h ad sz) sa U U.heap)) (va_Qi (fun r (u : Nat → Nat → Int32) => ¬ (ib pn (g 0 2)) ∧ ∃ p, p < h 0 0 ∧ pn = nI p ∧ r = (if g (57 + p) 5 = 3 then 0 else 1) ∧ u = (u2 (u2 g (57 + p) 5 3) (3 + 9 * (h 2 p)) 7 1)) (fun u t => gpost D (cty CA) (cw CA u h ad) (cA h ad sz) t) (cA h ad sz)) (vx_X (fun u : Nat → Nat → Int32 => u = g) (fun E u t => te3 (ib pn (g 0 2)) False False E ∧ gpost D (cty CA) (cw CA u h ad) (cA h ad sz) t) (cA h ad sz)) 1 6 (cA h ad sz) := by
  refine vx_ofW (cc := cC_unsure) (maxL := 4) (ret := (some .boolean)) (by decide) rfl ?_
  intro p e s m args below meth c s₁ B hml hno hv
  obtain ⟨rfl, ⟨hsz, hP, hK, hD0⟩, hZ⟩ := hv
  have hx := B.exec
  have hb := B.bytes
  have hr := B.returns
  have hT : ∀ w ∈ TB, w.before _ s = true := fun w hw => atoms_spec (ws := wC_unsure) B.pre w (List.mem_cons_of_mem _ hw)
  have hown : s.vm.findClass "CountLeast" = some m.cls := findClass_of_methodNamed B.named
  have hlocks := B.notSynchronized
  subst hsz
  have hD := nA_self (sz := s.heap.size) hD0
  have hS : va_S (cA h ad s.heap.size) s.heap s.heap [] := va_S.rf
  have hP : va_P D vwCl (cw CA g h ad) s.heap := hP
  have hl := lv_entry ([.ref (ad 0), .int pn]) (n := 4) (Nat.le_of_ble_eq_true rfl)
  rw [lg_entry_eq]
  generalize (lg_sl ([.ref (ad 0), .int pn]) ++ List.replicate (4 - (lg_sl ([.ref (ad 0), .int pn])).length) Slot.unset).toArray = ls at hl ⊢
  have hl : lv_has ls 4 [(0, .ref (ad 0)), (1, .int pn)] := hl
  refine lv_aload_n hx hb dC_unsure_0 rfl (lv_at hl 0 rfl) ?_
  refine lv_iload_n hx hb dC_unsure_1 rfl (lv_at hl 1 rfl) ?_
  refine kVx (n := 1) (D := D) (wd := fun z => cw CA z h ad) (A1 := fun sz => cA h ad sz) (As := [.int pn]) (rest := []) (te := (te3 (ib pn (g 0 2)) False False)) ⟨hx, hb, hml, hown, hT⟩ (kC_pieceAt l hlt D CA g h ad s.heap.size sa pn hn72 hg0) (gi_V wm_310 wm_312 wp_2 wm_1 wm_313) rfl rfl (by decide +kernel) ⟨(Nat.le_of_ble_eq_true rfl), (Nat.le_of_ble_eq_true rfl)⟩ (va_recv hK hP (ci := 0) (q0 := 0) rfl cw_X) hlocks hno hZ (fun _ h9 => h9) hK hP hD hS (fun _ h9 => h9) (nA_mono hS.1) (fun E h9 => Or.inl ⟨h9.1, h9.2⟩) rfl hl.1 rfl (Nat.le_of_ble_eq_true rfl) dC_unsure_2 ⟨(Nat.le_of_ble_eq_true rfl), (Nat.le_of_ble_eq_true rfl)⟩ (Nat.le_of_ble_eq_true rfl) (Nat.le_of_ble_eq_true rfl) (fun a9 H locs ha hz hP hS => ?_)
  obtain ⟨p, hp, rfl, rfl⟩ := ha
  have f_1 : ¬ ib (nI p) (g 0 2) := by rw [hg0]; exact nib hp (by omega)
  refine lv_astore_n (lv' := [(2, .ref (ad (57 + p))), (0, .ref (ad 0)), (1, .int (nI p))]) hx hb dC_unsure_5 rfl hl (by decide) rfl (fun ls hl => ?_)
  refine lv_aload_n hx hb dC_unsure_6 rfl (lv_at hl 0 rfl) ?_
  refine va_get (D := D) (ci := 3) (C := RQ) (T := TQ) (N := 9) hx hb hT inQ hown hK hP (57 + p) (cw_Q hp) rfl 5 (by decide) (hT _ wm_249) (fun _ h9 => h9) rfl dC_unsure_7 ?_
  refine lv_iconst (v := 3) hx hb dC_unsure_10 (by decide) ?_
  refine lv_icmp_eq (tgt := 18) hx hb dC_unsure_11 (by decide) (fun c_2 => ?_) (fun c_2 => ?_)
  · refine lv_iconst (v := 0) hx hb dC_unsure_18 (by decide) ?_
    refine lv_istore_n (lv' := [(3, .int 0), (2, .ref (ad (57 + p))), (0, .ref (ad 0)), (1, .int (nI p))]) hx hb dC_unsure_19 rfl hl (by decide) rfl (fun ls hl => ?_)
    refine lv_aload_n hx hb dC_unsure_20 rfl (lv_at hl 1 rfl) ?_
    refine lv_iconst (v := 3) hx hb dC_unsure_21 (by decide) ?_
    refine va_put (D := D) (ci := 3) (v := .int 3) (ty := .int) (C := RQ) (T := TQ) (N := 9) hx hb hT inQ tyQ tyokQ nmQ hown hK hP hD hS (57 + p) (cw_Q hp) rfl 5 (by decide) (hT _ wm_249) (fun _ h9 => h9) rfl (by decide +kernel) rfl rfl (Nat.le_of_ble_eq_true rfl) dC_unsure_22 (fun H locs hP hD hS => ?_)
    rw [cw_sQ (by simp)] at hP hD
    refine lv_aload_n hx hb dC_unsure_25 rfl (lv_at hl 1 rfl) ?_
    refine va_get (D := D) (ci := 3) (C := RQ) (T := TQ) (N := 9) hx hb hT inQ hown hK hP (57 + p) (cw_Q hp) rfl 0 (by decide) (hT _ wm_237) (fun _ h9 => h9) rfl dC_unsure_26 ?_
    refine lv_iconst (v := 1) hx hb dC_unsure_29 (by decide) ?_
    refine va_put (D := D) (ci := 1) (v := .int 1) (ty := .boolean) (C := RK) (T := TK) (N := 10) hx hb hT inK tyK tyokK nmK hown hK hP hD hS (3 + 9 * (h 2 p)) (cw_K (hq6 p hp)) rfl 7 (by decide) (hT _ wm_76) (fun _ h9 => h9) rfl (by decide +kernel) rfl rfl (Nat.le_of_ble_eq_true rfl) dC_unsure_30 (fun H locs hP hD hS => ?_)
    rw [cw_sK (hq6 p hp) (by simp)] at hP hD
    refine lv_iload_n hx hb dC_unsure_33 rfl (lv_at hl 0 rfl) ?_
    refine vx_ret ?_
    exact W.zret (v := 0) hx hb hr rfl (fun t ht hW => ⟨⟨_, (u2 (u2 g (57 + p) 5 3) (3 + 9 * (h 2 p)) 7 1), rfl, ⟨f_1, p, hp, rfl, by simp [c_2], rfl⟩, gpost_at hP hK hD ht hW.alike⟩, hS.F ht⟩) hS.2.2 dC_unsure_34
  · refine lv_iconst (v := 1) hx hb dC_unsure_14 (by decide) ?_
    refine lv_goto (tgt := 19) hx hb dC_unsure_15 (by decide) ?_
    refine lv_istore_n (lv' := [(3, .int 1), (2, .ref (ad (57 + p))), (0, .ref (ad 0)), (1, .int (nI p))]) hx hb dC_unsure_19 rfl hl (by decide) rfl (fun ls hl => ?_)
    refine lv_aload_n hx hb dC_unsure_20 rfl (lv_at hl 1 rfl) ?_
    refine lv_iconst (v := 3) hx hb dC_unsure_21 (by decide) ?_
    refine va_put (D := D) (ci := 3) (v := .int 3) (ty := .int) (C := RQ) (T := TQ) (N := 9) hx hb hT inQ tyQ tyokQ nmQ hown hK hP hD hS (57 + p) (cw_Q hp) rfl 5 (by decide) (hT _ wm_249) (fun _ h9 => h9) rfl (by decide +kernel) rfl rfl (Nat.le_of_ble_eq_true rfl) dC_unsure_22 (fun H locs hP hD hS => ?_)
    rw [cw_sQ (by simp)] at hP hD
    refine lv_aload_n hx hb dC_unsure_25 rfl (lv_at hl 1 rfl) ?_
    refine va_get (D := D) (ci := 3) (C := RQ) (T := TQ) (N := 9) hx hb hT inQ hown hK hP (57 + p) (cw_Q hp) rfl 0 (by decide) (hT _ wm_237) (fun _ h9 => h9) rfl dC_unsure_26 ?_
    refine lv_iconst (v := 1) hx hb dC_unsure_29 (by decide) ?_
    refine va_put (D := D) (ci := 1) (v := .int 1) (ty := .boolean) (C := RK) (T := TK) (N := 10) hx hb hT inK tyK tyokK nmK hown hK hP hD hS (3 + 9 * (h 2 p)) (cw_K (hq6 p hp)) rfl 7 (by decide) (hT _ wm_76) (fun _ h9 => h9) rfl (by decide +kernel) rfl rfl (Nat.le_of_ble_eq_true rfl) dC_unsure_30 (fun H locs hP hD hS => ?_)
    rw [cw_sK (hq6 p hp) (by simp)] at hP hD
    refine lv_iload_n hx hb dC_unsure_33 rfl (lv_at hl 0 rfl) ?_
    refine vx_ret ?_
    exact W.zret (v := 1) hx hb hr rfl (fun t ht hW => ⟨⟨_, (u2 (u2 g (57 + p) 5 3) (3 + 9 * (h 2 p)) 7 1), rfl, ⟨f_1, p, hp, rfl, by simp [c_2], rfl⟩, gpost_at hP hK hD ht hW.alike⟩, hS.F ht⟩) hS.2.2 dC_unsure_34
set_option maxHeartbeats 4000000 in
set_option maxRecDepth 100000 in
theorem kC_weight (l : Launch) (hlt : l.stackTraces = false) (D : va_G) (CA : Nat → ClassId) (g : Nat → Nat → Int32) (h : Nat → Nat → Nat) (ad : Nat → Nat) (sz : Nat) (sa : Nat → Nat) (pn gr : Int32) (hn72 : h 0 0 ≤ 72) (hg0 : g 0 2 = nI (h 0 0)) : vx_Met l yC_weight wC_weight (rm 1 2 12) (va_Pc [.ref (ad 0), .int pn, .int gr] (fun U => gpre D (cty CA) (cw CA g h ad) sz U ∧ xz (cA h ad sz) sa U U.heap)) (va_Qi (fun r (u : Nat → Nat → Int32) => ¬ (ib pn (g 0 2)) ∧ ¬ (rb gr 0 1000000) ∧ ∃ p, p < h 0 0 ∧ pn = nI p ∧ r = g (57 + p) 8 ∧ u = (u2 g (57 + p) 8 gr)) (fun u t => gpost D (cty CA) (cw CA u h ad) (cA h ad sz) t) (cA h ad sz)) (vx_X (fun u : Nat → Nat → Int32 => u = g) (fun E u t => te3 (ib pn (g 0 2)) (rb gr 0 1000000) False E ∧ gpost D (cty CA) (cw CA u h ad) (cA h ad sz) t) (cA h ad sz)) 2 12 (cA h ad sz) := by
  refine vx_ofW (cc := cC_weight) (maxL := 5) (ret := (some .int)) (by decide) rfl ?_
  intro p e s m args below meth c s₁ B hml hno hv
  obtain ⟨rfl, ⟨hsz, hP, hK, hD0⟩, hZ⟩ := hv
  have hx := B.exec
  have hb := B.bytes
  have hr := B.returns
  have hT : ∀ w ∈ TB, w.before _ s = true := fun w hw => atoms_spec (ws := wC_weight) B.pre w (List.mem_cons_of_mem _ hw)
  have hown : s.vm.findClass "CountLeast" = some m.cls := findClass_of_methodNamed B.named
  have hlocks := B.notSynchronized
  subst hsz
  have hD := nA_self (sz := s.heap.size) hD0
  have hS : va_S (cA h ad s.heap.size) s.heap s.heap [] := va_S.rf
  have hP : va_P D vwCl (cw CA g h ad) s.heap := hP
  have hl := lv_entry ([.ref (ad 0), .int pn, .int gr]) (n := 5) (Nat.le_of_ble_eq_true rfl)
  rw [lg_entry_eq]
  generalize (lg_sl ([.ref (ad 0), .int pn, .int gr]) ++ List.replicate (5 - (lg_sl ([.ref (ad 0), .int pn, .int gr])).length) Slot.unset).toArray = ls at hl ⊢
  have hl : lv_has ls 5 [(0, .ref (ad 0)), (1, .int pn), (2, .int gr)] := hl
  refine lv_aload_n hx hb dC_weight_0 rfl (lv_at hl 0 rfl) ?_
  refine lv_iload_n hx hb dC_weight_1 rfl (lv_at hl 1 rfl) ?_
  refine kVx (n := 1) (D := D) (wd := fun z => cw CA z h ad) (A1 := fun sz => cA h ad sz) (As := [.int pn]) (rest := []) (te := (te3 (ib pn (g 0 2)) (rb gr 0 1000000) False)) ⟨hx, hb, hml, hown, hT⟩ (kC_pieceAt l hlt D CA g h ad s.heap.size sa pn hn72 hg0) (gi_V wm_310 wm_312 wp_2 wm_1 wm_313) rfl rfl (by decide +kernel) ⟨(Nat.le_of_ble_eq_true rfl), (Nat.le_of_ble_eq_true rfl)⟩ (va_recv hK hP (ci := 0) (q0 := 0) rfl cw_X) hlocks hno hZ (fun _ h9 => h9) hK hP hD hS (fun _ h9 => h9) (nA_mono hS.1) (fun E h9 => Or.inl ⟨h9.1, h9.2⟩) rfl hl.1 rfl (Nat.le_of_ble_eq_true rfl) dC_weight_2 ⟨(Nat.le_of_ble_eq_true rfl), (Nat.le_of_ble_eq_true rfl)⟩ (Nat.le_of_ble_eq_true rfl) (Nat.le_of_ble_eq_true rfl) (fun a9 H locs ha hz hP hS => ?_)
  obtain ⟨p, hp, rfl, rfl⟩ := ha
  have f_1 : ¬ ib (nI p) (g 0 2) := by rw [hg0]; exact nib hp (by omega)
  refine lv_astore_n (lv' := [(3, .ref (ad (57 + p))), (0, .ref (ad 0)), (1, .int (nI p)), (2, .int gr)]) hx hb dC_weight_5 rfl hl (by decide) rfl (fun ls hl => ?_)
  refine lv_iload_n hx hb dC_weight_6 rfl (lv_at hl 3 rfl) ?_
  refine lv_iconst (v := 0) hx hb dC_weight_7 (by decide) ?_
  refine lv_ldc (own := "CountLeast") (v := 1000000) hx hb hown (hT _ wm_434) dC_weight_8 ?_
  refine kSx (n := 3) (D := D) (wd := fun z => cw CA z h ad) (As := [.int gr, .int 0, .int 1000000]) (rest := []) (te := (te3 (ib (nI p) (g 0 2)) (rb gr 0 1000000) False)) hml ⟨hx, hb, hml, hown, hT⟩ (kC_checkRange l hlt sa H.size gr 0 1000000) (gi_S wm_196 wm_197 wm_1 wm_198) rfl rfl (by decide +kernel) ⟨(Nat.le_of_ble_eq_true rfl), (Nat.le_of_ble_eq_true rfl)⟩ hlocks hno hZ (fun _ h9 => Or.inr h9) (fun _ h9 => h9) hK hP hD hS (fun E h9 => Or.inr (Or.inl ⟨h9.1, f_1, h9.2⟩)) rfl hl.1 rfl (Nat.le_of_ble_eq_true rfl) dC_weight_10 ⟨(Nat.le_of_ble_eq_true rfl), (Nat.le_of_ble_eq_true rfl)⟩ (Nat.le_of_ble_eq_true rfl) (Nat.le_of_ble_eq_true rfl) (fun H locs hok hz hP hS => ?_)
  have f_2 := hok
  refine lv_aload_n hx hb dC_weight_13 rfl (lv_at hl 0 rfl) ?_
  refine va_get (D := D) (ci := 3) (C := RQ) (T := TQ) (N := 9) hx hb hT inQ hown hK hP (57 + p) (cw_Q hp) rfl 8 (by decide) (hT _ wm_258) (fun _ h9 => h9) rfl dC_weight_14 ?_
  refine lv_istore (lv' := [(4, .int (g (57 + p) 8)), (3, .ref (ad (57 + p))), (0, .ref (ad 0)), (1, .int (nI p)), (2, .int gr)]) hx hb dC_weight_17 hl (by decide) rfl (fun ls hl => ?_)
  refine lv_aload_n hx hb dC_weight_19 rfl (lv_at hl 1 rfl) ?_
  refine lv_iload_n hx hb dC_weight_20 rfl (lv_at hl 4 rfl) ?_
  refine va_put (D := D) (ci := 3) (v := .int gr) (ty := .int) (C := RQ) (T := TQ) (N := 9) hx hb hT inQ tyQ tyokQ nmQ hown hK hP hD hS (57 + p) (cw_Q hp) rfl 8 (by decide) (hT _ wm_258) (fun _ h9 => h9) rfl (by decide +kernel) rfl rfl (Nat.le_of_ble_eq_true rfl) dC_weight_21 (fun H locs hP hD hS => ?_)
  rw [cw_sQ (by simp)] at hP hD
  refine lv_iload hx hb dC_weight_24 (lv_at hl 0 rfl) ?_
  refine vx_ret ?_
  exact W.iret (v := g (57 + p) 8) hx hb hr (fun t ht hW => ⟨⟨_, (u2 g (57 + p) 8 gr), rfl, ⟨f_1, f_2, p, hp, rfl, rfl, rfl⟩, gpost_at hP hK hD ht hW.alike⟩, hS.F ht⟩) hS.2.2 dC_weight_26
set_option maxHeartbeats 4000000 in
set_option maxRecDepth 100000 in
theorem kC_sieve (l : Launch) (hlt : l.stackTraces = false) (D : va_G) (CA : Nat → ClassId) (g : Nat → Nat → Int32) (h : Nat → Nat → Nat) (ad : Nat → Nat) (sz : Nat) (sa : Nat → Nat) (kd av bv : Int32) : vx_Met l yC_sieve wC_sieve (rm 1 3 18) (va_Pc [.ref (ad 0), .int kd, .int av, .int bv] (fun U => gpre D (cty CA) (cw CA g h ad) sz U ∧ xz (cA h ad sz) sa U U.heap)) (va_Qv (fun (u : Nat → Nat → Int32) => ¬ (ib kd 6) ∧ ¬ (rb av 1 10000 ∨ rb bv 1 av) ∧ ∃ k, k < 6 ∧ kd = nI k ∧ u = (u2 (u2 g (3 + 9 * k) 4 av) (3 + 9 * k) 5 bv)) (fun u t => gpost D (cty CA) (cw CA u h ad) (cA h ad sz) t) (cA h ad sz)) (vx_X (fun u : Nat → Nat → Int32 => u = g) (fun E u t => te3 (ib kd 6) (rb av 1 10000 ∨ rb bv 1 av) False E ∧ gpost D (cty CA) (cw CA u h ad) (cA h ad sz) t) (cA h ad sz)) 3 18 (cA h ad sz) := by
  refine vx_ofW (cc := cC_sieve) (maxL := 5) (ret := none) (by decide) rfl ?_
  intro p e s m args below meth c s₁ B hml hno hv
  obtain ⟨rfl, ⟨hsz, hP, hK, hD0⟩, hZ⟩ := hv
  have hx := B.exec
  have hb := B.bytes
  have hr := B.returns
  have hT : ∀ w ∈ TB, w.before _ s = true := fun w hw => atoms_spec (ws := wC_sieve) B.pre w (List.mem_cons_of_mem _ hw)
  have hown : s.vm.findClass "CountLeast" = some m.cls := findClass_of_methodNamed B.named
  have hlocks := B.notSynchronized
  subst hsz
  have hD := nA_self (sz := s.heap.size) hD0
  have hS : va_S (cA h ad s.heap.size) s.heap s.heap [] := va_S.rf
  have hP : va_P D vwCl (cw CA g h ad) s.heap := hP
  have hl := lv_entry ([.ref (ad 0), .int kd, .int av, .int bv]) (n := 5) (Nat.le_of_ble_eq_true rfl)
  rw [lg_entry_eq]
  generalize (lg_sl ([.ref (ad 0), .int kd, .int av, .int bv]) ++ List.replicate (5 - (lg_sl ([.ref (ad 0), .int kd, .int av, .int bv])).length) Slot.unset).toArray = ls at hl ⊢
  have hl : lv_has ls 5 [(0, .ref (ad 0)), (1, .int kd), (2, .int av), (3, .int bv)] := hl
  refine lv_aload_n hx hb dC_sieve_0 rfl (lv_at hl 0 rfl) ?_
  refine lv_iload_n hx hb dC_sieve_1 rfl (lv_at hl 1 rfl) ?_
  refine kVx (n := 1) (D := D) (wd := fun z => cw CA z h ad) (A1 := fun sz => cA h ad sz) (As := [.int kd]) (rest := []) (te := (te3 (ib kd 6) (rb av 1 10000 ∨ rb bv 1 av) False)) ⟨hx, hb, hml, hown, hT⟩ (kC_kindAt l hlt D CA g h ad s.heap.size sa kd) (gi_V wm_120 wm_122 wp_0 wm_1 wm_123) rfl rfl (by decide +kernel) ⟨(Nat.le_of_ble_eq_true rfl), (Nat.le_of_ble_eq_true rfl)⟩ (va_recv hK hP (ci := 0) (q0 := 0) rfl cw_X) hlocks hno hZ (fun _ h9 => h9) hK hP hD hS (fun _ h9 => h9) (nA_mono hS.1) (fun E h9 => Or.inl ⟨h9.1, h9.2⟩) rfl hl.1 rfl (Nat.le_of_ble_eq_true rfl) dC_sieve_2 ⟨(Nat.le_of_ble_eq_true rfl), (Nat.le_of_ble_eq_true rfl)⟩ (Nat.le_of_ble_eq_true rfl) (Nat.le_of_ble_eq_true rfl) (fun a9 H locs ha hz hP hS => ?_)
  obtain ⟨k, hk, rfl, rfl⟩ := ha
  have f_1 : ¬ ib (nI k) 6 := nib hk (by decide)
  refine lv_astore (lv' := [(4, .ref (ad (3 + 9 * k))), (0, .ref (ad 0)), (1, .int (nI k)), (2, .int av), (3, .int bv)]) hx hb dC_sieve_5 hl (by decide) rfl (fun ls hl => ?_)
  refine lv_iload_n hx hb dC_sieve_7 rfl (lv_at hl 3 rfl) ?_
  refine lv_iconst (v := 1) hx hb dC_sieve_8 (by decide) ?_
  refine lv_sipush (v := 10000) hx hb dC_sieve_9 (by decide) ?_
  refine kSx (n := 3) (D := D) (wd := fun z => cw CA z h ad) (As := [.int av, .int 1, .int 10000]) (rest := []) (te := (te3 (ib (nI k) 6) (rb av 1 10000 ∨ rb bv 1 av) False)) hml ⟨hx, hb, hml, hown, hT⟩ (kC_checkRange l hlt sa H.size av 1 10000) (gi_S wm_196 wm_197 wm_1 wm_198) rfl rfl (by decide +kernel) ⟨(Nat.le_of_ble_eq_true rfl), (Nat.le_of_ble_eq_true rfl)⟩ hlocks hno hZ (fun _ h9 => Or.inr h9) (fun _ h9 => h9) hK hP hD hS (fun E h9 => Or.inr (Or.inl ⟨h9.1, f_1, (Or.inl h9.2)⟩)) rfl hl.1 rfl (Nat.le_of_ble_eq_true rfl) dC_sieve_12 ⟨(Nat.le_of_ble_eq_true rfl), (Nat.le_of_ble_eq_true rfl)⟩ (Nat.le_of_ble_eq_true rfl) (Nat.le_of_ble_eq_true rfl) (fun H locs hok hz hP hS => ?_)
  have f_2 := hok
  refine lv_iload_n hx hb dC_sieve_15 rfl (lv_at hl 4 rfl) ?_
  refine lv_iconst (v := 1) hx hb dC_sieve_16 (by decide) ?_
  refine lv_iload_n hx hb dC_sieve_17 rfl (lv_at hl 3 rfl) ?_
  refine kSx (n := 3) (D := D) (wd := fun z => cw CA z h ad) (As := [.int bv, .int 1, .int av]) (rest := []) (te := (te3 (ib (nI k) 6) (rb av 1 10000 ∨ rb bv 1 av) False)) hml ⟨hx, hb, hml, hown, hT⟩ (kC_checkRange l hlt sa H.size bv 1 av) (gi_S wm_196 wm_197 wm_1 wm_198) rfl rfl (by decide +kernel) ⟨(Nat.le_of_ble_eq_true rfl), (Nat.le_of_ble_eq_true rfl)⟩ hlocks hno hZ (fun _ h9 => Or.inr h9) (fun _ h9 => h9) hK hP hD hS (fun E h9 => Or.inr (Or.inl ⟨h9.1, f_1, (Or.inr h9.2)⟩)) rfl hl.1 rfl (Nat.le_of_ble_eq_true rfl) dC_sieve_18 ⟨(Nat.le_of_ble_eq_true rfl), (Nat.le_of_ble_eq_true rfl)⟩ (Nat.le_of_ble_eq_true rfl) (Nat.le_of_ble_eq_true rfl) (fun H locs hok hz hP hS => ?_)
  have f_3 := hok
  refine lv_aload hx hb dC_sieve_21 (lv_at hl 0 rfl) ?_
  refine lv_iload_n hx hb dC_sieve_23 rfl (lv_at hl 3 rfl) ?_
  refine va_put (D := D) (ci := 1) (v := .int av) (ty := .int) (C := RK) (T := TK) (N := 10) hx hb hT inK tyK tyokK nmK hown hK hP hD hS (3 + 9 * k) (cw_K hk) rfl 4 (by decide) (hT _ wm_69) (fun _ h9 => h9) rfl (by decide +kernel) rfl rfl (Nat.le_of_ble_eq_true rfl) dC_sieve_24 (fun H locs hP hD hS => ?_)
  rw [cw_sK hk (by simp)] at hP hD
  refine lv_aload hx hb dC_sieve_27 (lv_at hl 0 rfl) ?_
  refine lv_iload_n hx hb dC_sieve_29 rfl (lv_at hl 4 rfl) ?_
  refine va_put (D := D) (ci := 1) (v := .int bv) (ty := .int) (C := RK) (T := TK) (N := 10) hx hb hT inK tyK tyokK nmK hown hK hP hD hS (3 + 9 * k) (cw_K hk) rfl 5 (by decide) (hT _ wm_71) (fun _ h9 => h9) rfl (by decide +kernel) rfl rfl (Nat.le_of_ble_eq_true rfl) dC_sieve_30 (fun H locs hP hD hS => ?_)
  rw [cw_sK hk (by simp)] at hP hD
  refine vx_ret ?_
  exact W.vret hx hb hr (fun t ht hW => ⟨⟨(u2 (u2 g (3 + 9 * k) 4 av) (3 + 9 * k) 5 bv), rfl, ⟨f_1, (not_or.mpr ⟨f_2, f_3⟩), k, hk, rfl, rfl⟩, gpost_at hP hK hD ht hW.alike⟩, hS.F ht⟩) hS.2.2 dC_sieve_33
set_option maxHeartbeats 4000000 in
set_option maxRecDepth 100000 in
theorem kC_pieces (l : Launch) (hlt : l.stackTraces = false) (D : va_G) (CA : Nat → ClassId) (g : Nat → Nat → Int32) (h : Nat → Nat → Nat) (ad : Nat → Nat) (sz : Nat) (sa : Nat → Nat) (kd : Int32) : vx_Met l yC_pieces wC_pieces (rm 1 1 6) (va_Pc [.ref (ad 0), .int kd] (fun U => gpre D (cty CA) (cw CA g h ad) sz U ∧ xz (cA h ad sz) sa U U.heap)) (va_Qi (fun r (u : Nat → Nat → Int32) => ¬ ((¬ kd = -1 ∧ ib kd 6)) ∧ (kd = -1 ∧ r = g 0 2 ∨ ∃ k, k < 6 ∧ kd = nI k ∧ r = g (3 + 9 * k) 6) ∧ u = g) (fun u t => gpost D (cty CA) (cw CA u h ad) (cA h ad sz) t) (cA h ad sz)) (vx_X (fun u : Nat → Nat → Int32 => u = g) (fun E u t => te3 ((¬ kd = -1 ∧ ib kd 6)) False False E ∧ gpost D (cty CA) (cw CA u h ad) (cA h ad sz) t) (cA h ad sz)) 1 6 (cA h ad sz) := by
  refine vx_ofW (cc := cC_pieces) (maxL := 2) (ret := (some .int)) (by decide) rfl ?_
  intro p e s m args below meth c s₁ B hml hno hv
  obtain ⟨rfl, ⟨hsz, hP, hK, hD0⟩, hZ⟩ := hv
  have hx := B.exec
  have hb := B.bytes
  have hr := B.returns
  have hT : ∀ w ∈ TB, w.before _ s = true := fun w hw => atoms_spec (ws := wC_pieces) B.pre w (List.mem_cons_of_mem _ hw)
  have hown : s.vm.findClass "CountLeast" = some m.cls := findClass_of_methodNamed B.named
  have hlocks := B.notSynchronized
  subst hsz
  have hD := nA_self (sz := s.heap.size) hD0
  have hS : va_S (cA h ad s.heap.size) s.heap s.heap [] := va_S.rf
  have hP : va_P D vwCl (cw CA g h ad) s.heap := hP
  have hl := lv_entry ([.ref (ad 0), .int kd]) (n := 2) (Nat.le_of_ble_eq_true rfl)
  rw [lg_entry_eq]
  generalize (lg_sl ([.ref (ad 0), .int kd]) ++ List.replicate (2 - (lg_sl ([.ref (ad 0), .int kd])).length) Slot.unset).toArray = ls at hl ⊢
  have hl : lv_has ls 2 [(0, .ref (ad 0)), (1, .int kd)] := hl
  refine lv_iload_n hx hb dC_pieces_0 rfl (lv_at hl 1 rfl) ?_
  refine lv_iconst (v := (-1)) hx hb dC_pieces_1 (by decide) ?_
  refine lv_icmp_ne (tgt := 12) hx hb dC_pieces_2 (by decide) (fun c_1 => ?_) (fun c_1 => ?_)
  · refine lv_aload_n hx hb dC_pieces_12 rfl (lv_at hl 0 rfl) ?_
    refine lv_iload_n hx hb dC_pieces_13 rfl (lv_at hl 1 rfl) ?_
    refine kVx (n := 1) (D := D) (wd := fun z => cw CA z h ad) (A1 := fun sz => cA h ad sz) (As := [.int kd]) (rest := []) (te := (te3 ((¬ kd = -1 ∧ ib kd 6)) False False)) ⟨hx, hb, hml, hown, hT⟩ (kC_kindAt l hlt D CA g h ad s.heap.size sa kd) (gi_V wm_120 wm_122 wp_0 wm_1 wm_123) rfl rfl (by decide +kernel) ⟨(Nat.le_of_ble_eq_true rfl), (Nat.le_of_ble_eq_true rfl)⟩ (va_recv hK hP (ci := 0) (q0 := 0) rfl cw_X) hlocks hno hZ (fun _ h9 => h9) hK hP hD hS (fun _ h9 => h9) (nA_mono hS.1) (fun E h9 => Or.inl ⟨h9.1, ⟨c_1, h9.2⟩⟩) rfl hl.1 rfl (Nat.le_of_ble_eq_true rfl) dC_pieces_14 ⟨(Nat.le_of_ble_eq_true rfl), (Nat.le_of_ble_eq_true rfl)⟩ (Nat.le_of_ble_eq_true rfl) (Nat.le_of_ble_eq_true rfl) (fun a9 H locs ha hz hP hS => ?_)
    obtain ⟨k, hk, rfl, rfl⟩ := ha
    have f_2 : ¬ ib (nI k) 6 := nib hk (by decide)
    refine va_get (D := D) (ci := 1) (C := RK) (T := TK) (N := 10) hx hb hT inK hown hK hP (3 + 9 * k) (cw_K hk) rfl 6 (by decide) (hT _ wm_74) (fun _ h9 => h9) rfl dC_pieces_17 ?_
    refine vx_ret ?_
    exact W.iret (v := g (3 + 9 * k) 6) hx hb hr (fun t ht hW => ⟨⟨_, g, rfl, ⟨(fun q => f_2 q.2), Or.inr ⟨k, hk, rfl, rfl⟩, rfl⟩, gpost_at hP hK hD ht hW.alike⟩, hS.F ht⟩) hS.2.2 dC_pieces_20
  · refine lv_aload_n hx hb dC_pieces_5 rfl (lv_at hl 0 rfl) ?_
    refine va_get (D := D) (ci := 0) (C := RC) (T := TC) (N := 3) hx hb hT inC hown hK hP (0) (cw_X) rfl 2 (by decide) (hT _ wm_102) (fun _ h9 => h9) rfl dC_pieces_6 ?_
    refine lv_goto (tgt := 20) hx hb dC_pieces_9 (by decide) ?_
    refine W.widen (k := 1) (n := 6) (Nat.le_of_ble_eq_true rfl) (Nat.le_of_ble_eq_true rfl) ?_
    refine vx_ret ?_
    exact W.iret (v := g 0 2) hx hb hr (fun t ht hW => ⟨⟨_, g, rfl, ⟨(fun q => q.1 c_1), Or.inl ⟨c_1, rfl⟩, rfl⟩, gpost_at hP hK hD ht hW.alike⟩, hS.F ht⟩) hS.2.2 dC_pieces_20
end
section
/-! by which rule two pieces cannot be one, on the numbers -/
def sdB (x y al : Int32) : Bool := x == y && (x == 0 || x == 1 || (x == 2 && al != 0))
def abD (x y : Int32) : Int32 := if 0 ≤ x - y then x - y else 0 - (x - y)
def szB (x y bd : Int32) : Bool := x != 0 && y != 0 && !decide (abD x y ≤ bd)
def agB (f1 t1 f2 t2 : Int32) : Bool := decide (t2 < f1) || !decide (f2 ≤ t1)
def ruI (g : Nat → Nat → Int32) (k ja a b : Nat) : Int32 :=
  if (g (57 + a) 3 == g (57 + b) 3 && sdB (g (57 + a) 5) (g (57 + b) 5) (g (4 + 9 * k) ja)) = true then 1
  else if agB (g (57 + a) 6) (g (57 + a) 7) (g (57 + b) 6) (g (57 + b) 7) = true then 2
  else if (g (57 + a) 3 == g (57 + b) 3 && szB (g (57 + a) 4) (g (57 + b) 4) (g (3 + 9 * k) 3)) = true then 3 else 0
theorem if01 {b : Bool} {r : Int32} (h : r = if b = true then 1 else 0) : r = 0 ↔ b = false := by
  cases b <;> simp [h]
theorem if01t {b : Bool} {r : Int32} (h : r = if b = true then 1 else 0) (c : ¬ r = 0) : b = true := by
  cases b
  · exact absurd (by simp [h]) c
  · rfl
set_option maxHeartbeats 4000000 in
set_option maxRecDepth 100000 in
theorem kK_numberAt (l : Launch) (D : va_G) (CA : Nat → ClassId) (g : Nat → Nat → Int32) (h : Nat → Nat → Nat) (ad : Nat → Nat) (sz : Nat) (k : Nat) (hk : k < 6) (x : Int32) (hc : g (3 + 9 * k) 6 = nI (h 1 k)) (hc12 : h 1 k ≤ 12) (ho : ∀ j, j < h 1 k → h (3 + k) j < h 0 0) : Met l yK_numberAt wK_numberAt (rm 0 0 0) (va_Pc [.ref (ad (3 + 9 * k)), .int x] (gpre D (cty CA) (cw CA g h ad) sz)) (va_Qi (fun r (u : Nat → Nat → Int32) => (∀ j, j < h 1 k → x = nI j → r = g (57 + h (3 + k) j) 1) ∧ (ib x (nI (h 1 k)) → r = -1) ∧ u = g) (fun u t => gpost D (cty CA) (cw CA u h ad) (cA h ad sz) t) (cA h ad sz)) 0 0 (cA h ad sz) := by
  refine Met.ofW (cc := cK_numberAt) (maxL := 2) (ret := (some .int)) (by decide) rfl ?_
  intro p e s m args below meth c s₁ B hml hv
  obtain ⟨rfl, hsz, hP, hK, hD0⟩ := hv
  have hx := B.exec
  have hb := B.bytes
  have hr := B.returns
  have hT : ∀ w ∈ TB, w.before _ s = true := fun w hw => atoms_spec (ws := wK_numberAt) B.pre w (List.mem_cons_of_mem _ hw)
  have hown : s.vm.findClass "CountLeast$Kind" = some m.cls := findClass_of_methodNamed B.named
  have hlocks := B.notSynchronized
  subst hsz
  have hD := nA_self (sz := s.heap.size) hD0
  have hS : va_S (cA h ad s.heap.size) s.heap s.heap [] := va_S.rf
  have hP : va_P D vwCl (cw CA g h ad) s.heap := hP
  have hl := lv_entry ([.ref (ad (3 + 9 * k)), .int x]) (n := 2) (Nat.le_of_ble_eq_true rfl)
  rw [lg_entry_eq]
  generalize (lg_sl ([.ref (ad (3 + 9 * k)), .int x]) ++ List.replicate (2 - (lg_sl ([.ref (ad (3 + 9 * k)), .int x])).length) Slot.unset).toArray = ls at hl ⊢
  have hl : lv_has ls 2 [(0, .ref (ad (3 + 9 * k))), (1, .int x)] := hl
  refine lv_iload_n hx hb dK_numberAt_0 rfl (lv_at hl 1 rfl) ?_
  refine lv_if_lt (tgt := 12) hx hb dK_numberAt_1 (by decide) (fun c_1 => ?_) (fun c_1 => ?_)
  · refine lv_iconst (v := (-1)) hx hb dK_numberAt_12 (by decide) ?_
    refine lv_goto (tgt := 25) hx hb dK_numberAt_13 (by decide) ?_
    exact W.iret (v := (-1)) hx hb hr (fun t ht hW => ⟨⟨_, g, rfl, ⟨fun j9 hj9 e9 => absurd (show ib x (nI (h 1 k)) by first | exact Or.inl c_1 | exact Or.inr (by rw [← hc]; exact c_2)) (by rw [e9]; exact nib hj9 (by omega)), fun _ => rfl, rfl⟩, gpost_at hP hK hD ht hW.alike⟩, hS.F ht⟩) hS.2.2 dK_numberAt_25
  · refine lv_iload_n hx hb dK_numberAt_4 rfl (lv_at hl 1 rfl) ?_
    refine lv_aload_n hx hb dK_numberAt_5 rfl (lv_at hl 0 rfl) ?_
    refine va_get (D := D) (ci := 1) (C := RK) (T := TK) (N := 10) hx hb hT inK hown hK hP (3 + 9 * k) (cw_K hk) rfl 6 (by decide) (hT _ wm_73) (fun _ h9 => h9) rfl dK_numberAt_6 ?_
    refine lv_icmp_lt (tgt := 16) hx hb dK_numberAt_9 (by decide) (fun c_2 => ?_) (fun c_2 => ?_)
    · obtain ⟨j, hj, rfl⟩ := ibn (n := h 1 k) (by omega) (show ¬ ib x (nI (h 1 k)) from not_or.mpr ⟨c_1, fun q => q (by rw [← hc]; exact c_2)⟩)
      refine lv_aload_n hx hb dK_numberAt_16 rfl (lv_at hl 0 rfl) ?_
      refine va_get (D := D) (ci := 1) (C := RK) (T := TK) (N := 10) hx hb hT inK hown hK hP (3 + 9 * k) (cw_K hk) rfl 8 (by decide) (hT _ wm_77) (fun _ h9 => h9) rfl dK_numberAt_17 ?_
      refine lv_iload_n hx hb dK_numberAt_20 rfl (lv_at hl 1 rfl) ?_
      refine va_aldq (D := D) hx hb hK hP (7 + 9 * k) 3 (cw_OW hk) rfl (vp_in_nI (by omega) (by decide)) dK_numberAt_21 ?_
      refine W.eq (g2 := F0 m 22 ls [.ref (ad (57 + (h (3 + k) j)))]) (by rw [nI_clamp (n := j) (by omega)]; simp [va_rf, show j < h 1 k by omega]) ?_
      refine va_get (D := D) (ci := 3) (C := RQ) (T := TQ) (N := 9) hx hb hT inQ hown hK hP (57 + (h (3 + k) j)) (cw_Q (ho j (by omega))) rfl 1 (by decide) (hT _ wm_240) (fun _ h9 => h9) rfl dK_numberAt_22 ?_
      exact W.iret (v := g (57 + (h (3 + k) j)) 1) hx hb hr (fun t ht hW => ⟨⟨_, g, rfl, ⟨fun j9 hj9 e9 => by rw [(nI_eq (by omega) (by omega)).mp e9], fun q => absurd q (nib hj (by omega)), rfl⟩, gpost_at hP hK hD ht hW.alike⟩, hS.F ht⟩) hS.2.2 dK_numberAt_25
    · refine lv_iconst (v := (-1)) hx hb dK_numberAt_12 (by decide) ?_
      refine lv_goto (tgt := 25) hx hb dK_numberAt_13 (by decide) ?_
      exact W.iret (v := (-1)) hx hb hr (fun t ht hW => ⟨⟨_, g, rfl, ⟨fun j9 hj9 e9 => absurd (show ib x (nI (h 1 k)) by first | exact Or.inl c_1 | exact Or.inr (by rw [← hc]; exact c_2)) (by rw [e9]; exact nib hj9 (by omega)), fun _ => rfl, rfl⟩, gpost_at hP hK hD ht hW.alike⟩, hS.F ht⟩) hS.2.2 dK_numberAt_25
set_option maxHeartbeats 4000000 in
set_option maxRecDepth 100000 in
theorem loK_gramsTogether {p : Program} {l : Launch} {e : Env} {s : State} {m : MethodId} {args : Array Value} {below : List Frame} {meth : Method} {c : Code} {Q : State → Prop} {cells slots : Nat} {D : va_G} {CA : Nat → ClassId} {g : Nat → Nat → Int32} {h : Nat → Nat → Nat} {ad : Nat → Nat} {H : Heap} {locs : List Loc} {R : Room} {k : Nat} (hk : k < 6) (hc : g (3 + 9 * k) 6 = nI (h 1 k)) (hc12 : h 1 k ≤ 12) (ho : ∀ j, j < h 1 k → h (3 + k) j < h 0 0) (hx : p.tables.exec = Jvm.exec) (hb : c.code = cK_gramsTogether) (hml : c.maxLocals = 3) (hown : s.vm.findClass "CountLeast$Kind" = some m.cls) (hT : ∀ w ∈ TB, w.before args s = true) (hK : va_K D vwCl (cty CA) s) (hP : va_P D vwCl (cw CA g h ad) H) (kx : ∀ ls, lv_has ls 3 [(2, .int (nI (h 1 k))), (1, .int (l_sum (fun j => g (57 + h (3 + k) j) 8) (h 1 k))), (0, .ref (ad (3 + 9 * k)))] → W p l e R s m args below meth c H locs cells slots Q (F0 m 30 ls [])) :
    ∀ (n i : Nat), i + n = h 1 k → ∀ ls, lv_has ls 3 [(2, .int (nI i)), (1, .int (l_sum (fun j => g (57 + h (3 + k) j) 8) i)), (0, .ref (ad (3 + 9 * k)))] → W p l e R s m args below meth c H locs cells slots Q (F0 m 4 ls []) := by
  intro n
  induction n with
  | zero =>
    intro i hi ls hl
    have hi : i = h 1 k := by omega
    subst hi
    refine lv_iload_n hx hb dK_gramsTogether_4 rfl (lv_at hl 0 rfl) ?_
    refine lv_aload_n hx hb dK_gramsTogether_5 rfl (lv_at hl 2 rfl) ?_
    refine va_get (D := D) (ci := 1) (C := RK) (T := TK) (N := 10) hx hb hT inK hown hK hP (3 + 9 * k) (cw_K hk) rfl 6 (by decide) (hT _ wm_73) (fun _ h9 => h9) rfl dK_gramsTogether_6 ?_
    refine lv_icmp_ge (tgt := 30) hx hb dK_gramsTogether_9 (by decide) (fun c_1 => ?_) (fun c_1 => absurd (by rw [hc]; exact nI_le (Nat.le_refl _) (by omega)) c_1)
    exact kx ls hl
  | succ n ih =>
    intro i hi ls hl
    refine lv_iload_n hx hb dK_gramsTogether_4 rfl (lv_at hl 0 rfl) ?_
    refine lv_aload_n hx hb dK_gramsTogether_5 rfl (lv_at hl 2 rfl) ?_
    refine va_get (D := D) (ci := 1) (C := RK) (T := TK) (N := 10) hx hb hT inK hown hK hP (3 + 9 * k) (cw_K hk) rfl 6 (by decide) (hT _ wm_73) (fun _ h9 => h9) rfl dK_gramsTogether_6 ?_
    refine lv_icmp_ge (tgt := 30) hx hb dK_gramsTogether_9 (by decide) (fun c_1 => absurd c_1 (by rw [hc]; exact nI_ge (by omega) (by omega))) (fun c_1 => ?_)
    refine lv_iload_n hx hb dK_gramsTogether_12 rfl (lv_at hl 1 rfl) ?_
    refine lv_aload_n hx hb dK_gramsTogether_13 rfl (lv_at hl 2 rfl) ?_
    refine va_get (D := D) (ci := 1) (C := RK) (T := TK) (N := 10) hx hb hT inK hown hK hP (3 + 9 * k) (cw_K hk) rfl 8 (by decide) (hT _ wm_77) (fun _ h9 => h9) rfl dK_gramsTogether_14 ?_
    refine lv_iload_n hx hb dK_gramsTogether_17 rfl (lv_at hl 0 rfl) ?_
    refine va_aldq (D := D) hx hb hK hP (7 + 9 * k) 3 (cw_OW hk) rfl (vp_in_nI (by omega) (by decide)) dK_gramsTogether_18 ?_
    refine W.eq (g2 := F0 m 19 ls [.ref (ad (57 + (h (3 + k) i))), .int (l_sum (fun j => g (57 + h (3 + k) j) 8) i)]) (by rw [nI_clamp (n := i) (by omega)]; simp [va_rf, show i < h 1 k by omega]) ?_
    refine va_get (D := D) (ci := 3) (C := RQ) (T := TQ) (N := 9) hx hb hT inQ hown hK hP (57 + (h (3 + k) i)) (cw_Q (ho i (by omega))) rfl 8 (by decide) (hT _ wm_257) (fun _ h9 => h9) rfl dK_gramsTogether_19 ?_
    refine lv_iadd hx hb dK_gramsTogether_22 ?_
    refine lv_istore_n (lv' := [(1, .int ((l_sum (fun j => g (57 + h (3 + k) j) 8) i) + (g (57 + (h (3 + k) i)) 8))), (2, .int (nI i)), (0, .ref (ad (3 + 9 * k)))]) hx hb dK_gramsTogether_23 rfl hl (by decide) rfl (fun ls hl => ?_)
    refine lv_iinc (v := nI (i + 1)) (lv' := [(2, .int (nI (i + 1))), (1, .int ((l_sum (fun j => g (57 + h (3 + k) j) 8) i) + (g (57 + (h (3 + k) i)) 8))), (0, .ref (ad (3 + 9 * k)))]) hx hb dK_gramsTogether_24 hl (k := 1) rfl (nI_1 _) (by decide) rfl (fun ls hl => ?_)
    refine lv_goto (tgt := 4) hx hb dK_gramsTogether_27 (by decide) ?_
    exact ih (i + 1) (by omega) ls (lv_sub hl [0, 1, 2] rfl)
set_option maxHeartbeats 4000000 in
set_option maxRecDepth 100000 in
theorem kK_gramsTogether (l : Launch) (D : va_G) (CA : Nat → ClassId) (g : Nat → Nat → Int32) (h : Nat → Nat → Nat) (ad : Nat → Nat) (sz : Nat) (k : Nat) (hk : k < 6) (hc : g (3 + 9 * k) 6 = nI (h 1 k)) (hc12 : h 1 k ≤ 12) (ho : ∀ j, j < h 1 k → h (3 + k) j < h 0 0) : Met l yK_gramsTogether wK_gramsTogether (rm 0 0 0) (va_Pc [.ref (ad (3 + 9 * k))] (gpre D (cty CA) (cw CA g h ad) sz)) (va_Qi (fun r (u : Nat → Nat → Int32) => r = l_sum (fun j => g (57 + h (3 + k) j) 8) (h 1 k) ∧ u = g) (fun u t => gpost D (cty CA) (cw CA u h ad) (cA h ad sz) t) (cA h ad sz)) 0 0 (cA h ad sz) := by
  refine Met.ofW (cc := cK_gramsTogether) (maxL := 3) (ret := (some .int)) (by decide) rfl ?_
  intro p e s m args below meth c s₁ B hml hv
  obtain ⟨rfl, hsz, hP, hK, hD0⟩ := hv
  have hx := B.exec
  have hb := B.bytes
  have hr := B.returns
  have hT : ∀ w ∈ TB, w.before _ s = true := fun w hw => atoms_spec (ws := wK_gramsTogether) B.pre w (List.mem_cons_of_mem _ hw)
  have hown : s.vm.findClass "CountLeast$Kind" = some m.cls := findClass_of_methodNamed B.named
  have hlocks := B.notSynchronized
  subst hsz
  have hD := nA_self (sz := s.heap.size) hD0
  have hS : va_S (cA h ad s.heap.size) s.heap s.heap [] := va_S.rf
  have hP : va_P D vwCl (cw CA g h ad) s.heap := hP
  have hl := lv_entry ([.ref (ad (3 + 9 * k))]) (n := 3) (Nat.le_of_ble_eq_true rfl)
  rw [lg_entry_eq]
  generalize (lg_sl ([.ref (ad (3 + 9 * k))]) ++ List.replicate (3 - (lg_sl ([.ref (ad (3 + 9 * k))])).length) Slot.unset).toArray = ls at hl ⊢
  have hl : lv_has ls 3 [(0, .ref (ad (3 + 9 * k)))] := hl
  refine lv_iconst (v := 0) hx hb dK_gramsTogether_0 (by decide) ?_
  refine lv_istore_n (lv' := [(1, .int 0), (0, .ref (ad (3 + 9 * k)))]) hx hb dK_gramsTogether_1 rfl hl (by decide) rfl (fun ls hl => ?_)
  refine lv_iconst (v := 0) hx hb dK_gramsTogether_2 (by decide) ?_
  refine lv_istore_n (lv' := [(2, .int 0), (1, .int 0), (0, .ref (ad (3 + 9 * k)))]) hx hb dK_gramsTogether_3 rfl hl (by decide) rfl (fun ls hl => ?_)
  refine loK_gramsTogether hk hc hc12 ho hx hb hml hown hT hK hP (fun ls hl => ?_) (h 1 k) 0 (by omega) ls (lv_sub hl [0, 1, 2] rfl)
  refine lv_iload_n hx hb dK_gramsTogether_30 rfl (lv_at hl 1 rfl) ?_
  exact W.iret (v := l_sum (fun j => g (57 + h (3 + k) j) 8) (h 1 k)) hx hb hr (fun t ht hW => ⟨⟨_, g, rfl, ⟨rfl, rfl⟩, gpost_at hP hK hD ht hW.alike⟩, hS.F ht⟩) hS.2.2 dK_gramsTogether_31
set_option maxHeartbeats 4000000 in
set_option maxRecDepth 100000 in
theorem kK_sidesClash (l : Launch) (D : va_G) (CA : Nat → ClassId) (g : Nat → Nat → Int32) (h : Nat → Nat → Nat) (ad : Nat → Nat) (sz : Nat) (k : Nat) (hk : k < 6) (a b : Nat) (ha : a < h 0 0) (hb9 : b < h 0 0) (ja : Nat) (hja : ja < 16) (eja : g (57 + a) 3 = nI ja) : Met l yK_sidesClash wK_sidesClash (rm 0 0 0) (va_Pc [.ref (ad (3 + 9 * k)), .ref (ad (57 + a)), .ref (ad (57 + b))] (gpre D (cty CA) (cw CA g h ad) sz)) (va_Qi (fun r (u : Nat → Nat → Int32) => r = (if sdB (g (57 + a) 5) (g (57 + b) 5) (g (4 + 9 * k) ja) = true then 1 else 0) ∧ u = g) (fun u t => gpost D (cty CA) (cw CA u h ad) (cA h ad sz) t) (cA h ad sz)) 0 0 (cA h ad sz) := by
  refine Met.ofW (cc := cK_sidesClash) (maxL := 3) (ret := (some .boolean)) (by decide) rfl ?_
  intro p e s m args below meth c s₁ B hml hv
  obtain ⟨rfl, hsz, hP, hK, hD0⟩ := hv
  have hx := B.exec
  have hb := B.bytes
  have hr := B.returns
  have hT : ∀ w ∈ TB, w.before _ s = true := fun w hw => atoms_spec (ws := wK_sidesClash) B.pre w (List.mem_cons_of_mem _ hw)
  have hown : s.vm.findClass "CountLeast$Kind" = some m.cls := findClass_of_methodNamed B.named
  have hlocks := B.notSynchronized
  subst hsz
  have hD := nA_self (sz := s.heap.size) hD0
  have hS : va_S (cA h ad s.heap.size) s.heap s.heap [] := va_S.rf
  have hP : va_P D vwCl (cw CA g h ad) s.heap := hP
  have hl := lv_entry ([.ref (ad (3 + 9 * k)), .ref (ad (57 + a)), .ref (ad (57 + b))]) (n := 3) (Nat.le_of_ble_eq_true rfl)
  rw [lg_entry_eq]
  generalize (lg_sl ([.ref (ad (3 + 9 * k)), .ref (ad (57 + a)), .ref (ad (57 + b))]) ++ List.replicate (3 - (lg_sl ([.ref (ad (3 + 9 * k)), .ref (ad (57 + a)), .ref (ad (57 + b))])).length) Slot.unset).toArray = ls at hl ⊢
  have hl : lv_has ls 3 [(0, .ref (ad (3 + 9 * k))), (1, .ref (ad (57 + a))), (2, .ref (ad (57 + b)))] := hl
  refine lv_aload_n hx hb dK_sidesClash_0 rfl (lv_at hl 1 rfl) ?_
  refine va_get (D := D) (ci := 3) (C := RQ) (T := TQ) (N := 9) hx hb hT inQ hown hK hP (57 + a) (cw_Q ha) rfl 5 (by decide) (hT _ wm_248) (fun _ h9 => h9) rfl dK_sidesClash_1 ?_
  refine lv_aload_n hx hb dK_sidesClash_4 rfl (lv_at hl 2 rfl) ?_
  refine va_get (D := D) (ci := 3) (C := RQ) (T := TQ) (N := 9) hx hb hT inQ hown hK hP (57 + b) (cw_Q hb9) rfl 5 (by decide) (hT _ wm_248) (fun _ h9 => h9) rfl dK_sidesClash_5 ?_
  refine lv_icmp_eq (tgt := 13) hx hb dK_sidesClash_8 (by decide) (fun c_1 => ?_) (fun c_1 => ?_)
  · refine lv_aload_n hx hb dK_sidesClash_13 rfl (lv_at hl 1 rfl) ?_
    refine va_get (D := D) (ci := 3) (C := RQ) (T := TQ) (N := 9) hx hb hT inQ hown hK hP (57 + a) (cw_Q ha) rfl 5 (by decide) (hT _ wm_248) (fun _ h9 => h9) rfl dK_sidesClash_14 ?_
    refine lv_if_eq (tgt := 48) hx hb dK_sidesClash_17 (by decide) (fun c_2 => ?_) (fun c_2 => ?_)
    · refine lv_iconst (v := 1) hx hb dK_sidesClash_48 (by decide) ?_
      refine lv_goto (tgt := 53) hx hb dK_sidesClash_49 (by decide) ?_
      exact W.zret (v := 1) hx hb hr rfl (fun t ht hW => ⟨⟨_, g, rfl, ⟨by simp [sdB, ← c_1, c_2], rfl⟩, gpost_at hP hK hD ht hW.alike⟩, hS.F ht⟩) hS.2.2 dK_sidesClash_53
    · refine lv_aload_n hx hb dK_sidesClash_20 rfl (lv_at hl 1 rfl) ?_
      refine va_get (D := D) (ci := 3) (C := RQ) (T := TQ) (N := 9) hx hb hT inQ hown hK hP (57 + a) (cw_Q ha) rfl 5 (by decide) (hT _ wm_248) (fun _ h9 => h9) rfl dK_sidesClash_21 ?_
      refine lv_iconst (v := 1) hx hb dK_sidesClash_24 (by decide) ?_
      refine lv_icmp_eq (tgt := 48) hx hb dK_sidesClash_25 (by decide) (fun c_3 => ?_) (fun c_3 => ?_)
      · refine lv_iconst (v := 1) hx hb dK_sidesClash_48 (by decide) ?_
        refine lv_goto (tgt := 53) hx hb dK_sidesClash_49 (by decide) ?_
        exact W.zret (v := 1) hx hb hr rfl (fun t ht hW => ⟨⟨_, g, rfl, ⟨by simp [sdB, ← c_1, c_2, c_3], rfl⟩, gpost_at hP hK hD ht hW.alike⟩, hS.F ht⟩) hS.2.2 dK_sidesClash_53
      · refine lv_aload_n hx hb dK_sidesClash_28 rfl (lv_at hl 1 rfl) ?_
        refine va_get (D := D) (ci := 3) (C := RQ) (T := TQ) (N := 9) hx hb hT inQ hown hK hP (57 + a) (cw_Q ha) rfl 5 (by decide) (hT _ wm_248) (fun _ h9 => h9) rfl dK_sidesClash_29 ?_
        refine lv_iconst (v := 2) hx hb dK_sidesClash_32 (by decide) ?_
        refine lv_icmp_ne (tgt := 52) hx hb dK_sidesClash_33 (by decide) (fun c_4 => ?_) (fun c_4 => ?_)
        · refine lv_iconst (v := 0) hx hb dK_sidesClash_52 (by decide) ?_
          exact W.zret (v := 0) hx hb hr rfl (fun t ht hW => ⟨⟨_, g, rfl, ⟨by simp [sdB, ← c_1, c_2, c_3, c_4], rfl⟩, gpost_at hP hK hD ht hW.alike⟩, hS.F ht⟩) hS.2.2 dK_sidesClash_53
        · refine lv_aload_n hx hb dK_sidesClash_36 rfl (lv_at hl 0 rfl) ?_
          refine va_get (D := D) (ci := 1) (C := RK) (T := TK) (N := 10) hx hb hT inK hown hK hP (3 + 9 * k) (cw_K hk) rfl 0 (by decide) (hT _ wm_60) (fun _ h9 => h9) rfl dK_sidesClash_37 ?_
          refine lv_aload_n hx hb dK_sidesClash_40 rfl (lv_at hl 1 rfl) ?_
          refine va_get (D := D) (ci := 3) (C := RQ) (T := TQ) (N := 9) hx hb hT inQ hown hK hP (57 + a) (cw_Q ha) rfl 3 (by decide) (hT _ wm_244) (fun _ h9 => h9) rfl dK_sidesClash_41 ?_
          refine W.eq (g2 := F0 m 44 ls [.int (nI ja), .ref (ad (4 + 9 * k))]) (by rw [eja]) ?_
          refine va_zald (D := D) hx hb hK hP (4 + 9 * k) 1 (cw_AL hk) rfl (vp_in_nI (by omega) (by decide)) dK_sidesClash_44 ?_
          rw [nI_clamp (n := ja) (by omega)]
          refine lv_if_eq (tgt := 52) hx hb dK_sidesClash_45 (by decide) (fun c_5 => ?_) (fun c_5 => ?_)
          · refine lv_iconst (v := 0) hx hb dK_sidesClash_52 (by decide) ?_
            exact W.zret (v := 0) hx hb hr rfl (fun t ht hW => ⟨⟨_, g, rfl, ⟨by simp [sdB, ← c_1, c_2, c_3, c_4, c_5], rfl⟩, gpost_at hP hK hD ht hW.alike⟩, hS.F ht⟩) hS.2.2 dK_sidesClash_53
          · refine lv_iconst (v := 1) hx hb dK_sidesClash_48 (by decide) ?_
            refine lv_goto (tgt := 53) hx hb dK_sidesClash_49 (by decide) ?_
            exact W.zret (v := 1) hx hb hr rfl (fun t ht hW => ⟨⟨_, g, rfl, ⟨by simp [sdB, ← c_1, c_2, c_3, c_4, c_5], rfl⟩, gpost_at hP hK hD ht hW.alike⟩, hS.F ht⟩) hS.2.2 dK_sidesClash_53
  · refine lv_iconst (v := 0) hx hb dK_sidesClash_11 (by decide) ?_
    exact W.zret (v := 0) hx hb hr rfl (fun t ht hW => ⟨⟨_, g, rfl, ⟨by simp [sdB, c_1], rfl⟩, gpost_at hP hK hD ht hW.alike⟩, hS.F ht⟩) hS.2.2 dK_sidesClash_12
set_option maxHeartbeats 4000000 in
set_option maxRecDepth 100000 in
theorem kK_sizesClash (l : Launch) (D : va_G) (CA : Nat → ClassId) (g : Nat → Nat → Int32) (h : Nat → Nat → Nat) (ad : Nat → Nat) (sz : Nat) (k : Nat) (hk : k < 6) (a b : Nat) (ha : a < h 0 0) (hb9 : b < h 0 0) : Met l yK_sizesClash wK_sizesClash (rm 0 0 0) (va_Pc [.ref (ad (3 + 9 * k)), .ref (ad (57 + a)), .ref (ad (57 + b))] (gpre D (cty CA) (cw CA g h ad) sz)) (va_Qi (fun r (u : Nat → Nat → Int32) => r = (if szB (g (57 + a) 4) (g (57 + b) 4) (g (3 + 9 * k) 3) = true then 1 else 0) ∧ u = g) (fun u t => gpost D (cty CA) (cw CA u h ad) (cA h ad sz) t) (cA h ad sz)) 0 0 (cA h ad sz) := by
  refine Met.ofW (cc := cK_sizesClash) (maxL := 3) (ret := (some .boolean)) (by decide) rfl ?_
  intro p e s m args below meth c s₁ B hml hv
  obtain ⟨rfl, hsz, hP, hK, hD0⟩ := hv
  have hx := B.exec
  have hb := B.bytes
  have hr := B.returns
  have hT : ∀ w ∈ TB, w.before _ s = true := fun w hw => atoms_spec (ws := wK_sizesClash) B.pre w (List.mem_cons_of_mem _ hw)
  have hown : s.vm.findClass "CountLeast$Kind" = some m.cls := findClass_of_methodNamed B.named
  have hlocks := B.notSynchronized
  subst hsz
  have hD := nA_self (sz := s.heap.size) hD0
  have hS : va_S (cA h ad s.heap.size) s.heap s.heap [] := va_S.rf
  have hP : va_P D vwCl (cw CA g h ad) s.heap := hP
  have hl := lv_entry ([.ref (ad (3 + 9 * k)), .ref (ad (57 + a)), .ref (ad (57 + b))]) (n := 3) (Nat.le_of_ble_eq_true rfl)
  rw [lg_entry_eq]
  generalize (lg_sl ([.ref (ad (3 + 9 * k)), .ref (ad (57 + a)), .ref (ad (57 + b))]) ++ List.replicate (3 - (lg_sl ([.ref (ad (3 + 9 * k)), .ref (ad (57 + a)), .ref (ad (57 + b))])).length) Slot.unset).toArray = ls at hl ⊢
  have hl : lv_has ls 3 [(0, .ref (ad (3 + 9 * k))), (1, .ref (ad (57 + a))), (2, .ref (ad (57 + b)))] := hl
  refine lv_aload_n hx hb dK_sizesClash_0 rfl (lv_at hl 1 rfl) ?_
  refine va_get (D := D) (ci := 3) (C := RQ) (T := TQ) (N := 9) hx hb hT inQ hown hK hP (57 + a) (cw_Q ha) rfl 4 (by decide) (hT _ wm_246) (fun _ h9 => h9) rfl dK_sizesClash_1 ?_
  refine lv_if_eq (tgt := 37) hx hb dK_sizesClash_4 (by decide) (fun c_1 => ?_) (fun c_1 => ?_)
  · refine lv_iconst (v := 0) hx hb dK_sizesClash_37 (by decide) ?_
    exact W.zret (v := 0) hx hb hr rfl (fun t ht hW => ⟨⟨_, g, rfl, ⟨by simp [szB, c_1], rfl⟩, gpost_at hP hK hD ht hW.alike⟩, hS.F ht⟩) hS.2.2 dK_sizesClash_38
  · refine lv_aload_n hx hb dK_sizesClash_7 rfl (lv_at hl 2 rfl) ?_
    refine va_get (D := D) (ci := 3) (C := RQ) (T := TQ) (N := 9) hx hb hT inQ hown hK hP (57 + b) (cw_Q hb9) rfl 4 (by decide) (hT _ wm_246) (fun _ h9 => h9) rfl dK_sizesClash_8 ?_
    refine lv_if_eq (tgt := 37) hx hb dK_sizesClash_11 (by decide) (fun c_2 => ?_) (fun c_2 => ?_)
    · refine lv_iconst (v := 0) hx hb dK_sizesClash_37 (by decide) ?_
      exact W.zret (v := 0) hx hb hr rfl (fun t ht hW => ⟨⟨_, g, rfl, ⟨by simp [szB, c_1, c_2], rfl⟩, gpost_at hP hK hD ht hW.alike⟩, hS.F ht⟩) hS.2.2 dK_sizesClash_38
    · refine lv_aload_n hx hb dK_sizesClash_14 rfl (lv_at hl 1 rfl) ?_
      refine va_get (D := D) (ci := 3) (C := RQ) (T := TQ) (N := 9) hx hb hT inQ hown hK hP (57 + a) (cw_Q ha) rfl 4 (by decide) (hT _ wm_246) (fun _ h9 => h9) rfl dK_sizesClash_15 ?_
      refine lv_aload_n hx hb dK_sizesClash_18 rfl (lv_at hl 2 rfl) ?_
      refine va_get (D := D) (ci := 3) (C := RQ) (T := TQ) (N := 9) hx hb hT inQ hown hK hP (57 + b) (cw_Q hb9) rfl 4 (by decide) (hT _ wm_246) (fun _ h9 => h9) rfl dK_sizesClash_19 ?_
      refine lv_isub hx hb dK_sizesClash_22 ?_
      refine va_mabs hx hb (hml.trans hl.1.symm) (own := "CountLeast$Kind") hown (hT _ wm_349) (hT _ wm_350) (hT _ wm_12) (hT _ wm_351) (Nat.le_of_ble_eq_true rfl) (Nat.le_of_ble_eq_true rfl) (Nat.le_of_ble_eq_true rfl) (Nat.le_of_ble_eq_true rfl) dK_sizesClash_23 ?_
      refine lv_aload_n hx hb dK_sizesClash_26 rfl (lv_at hl 0 rfl) ?_
      refine va_get (D := D) (ci := 1) (C := RK) (T := TK) (N := 10) hx hb hT inK hown hK hP (3 + 9 * k) (cw_K hk) rfl 3 (by decide) (hT _ wm_66) (fun _ h9 => h9) rfl dK_sizesClash_27 ?_
      refine lv_icmp_le (tgt := 37) hx hb dK_sizesClash_30 (by decide) (fun c_3 => ?_) (fun c_3 => ?_)
      · refine lv_iconst (v := 0) hx hb dK_sizesClash_37 (by decide) ?_
        exact W.zret (v := 0) hx hb hr rfl (fun t ht hW => ⟨⟨_, g, rfl, ⟨by simp [szB, c_1, c_2, show (abD (g (57 + a) 4) (g (57 + b) 4) ≤ g (3 + 9 * k) 3) from c_3], rfl⟩, gpost_at hP hK hD ht hW.alike⟩, hS.F ht⟩) hS.2.2 dK_sizesClash_38
      · refine lv_iconst (v := 1) hx hb dK_sizesClash_33 (by decide) ?_
        refine lv_goto (tgt := 38) hx hb dK_sizesClash_34 (by decide) ?_
        exact W.zret (v := 1) hx hb hr rfl (fun t ht hW => ⟨⟨_, g, rfl, ⟨by simp [szB, c_1, c_2, show ¬ (abD (g (57 + a) 4) (g (57 + b) 4) ≤ g (3 + 9 * k) 3) from c_3], rfl⟩, gpost_at hP hK hD ht hW.alike⟩, hS.F ht⟩) hS.2.2 dK_sizesClash_38
set_option maxHeartbeats 4000000 in
set_option maxRecDepth 100000 in
theorem kK_ruleBetween (l : Launch) (D : va_G) (CA : Nat → ClassId) (g : Nat → Nat → Int32) (h : Nat → Nat → Nat) (ad : Nat → Nat) (sz : Nat) (k : Nat) (hk : k < 6) (a b : Nat) (ha : a < h 0 0) (hb9 : b < h 0 0) (ja : Nat) (hja : ja < 16) (eja : g (57 + a) 3 = nI ja) : Met l yK_ruleBetween wK_ruleBetween (rm 1 0 0) (va_Pc [.ref (ad (3 + 9 * k)), .ref (ad (57 + a)), .ref (ad (57 + b))] (gpre D (cty CA) (cw CA g h ad) sz)) (va_Qi (fun r (u : Nat → Nat → Int32) => r = ruI g k ja a b ∧ u = g) (fun u t => gpost D (cty CA) (cw CA u h ad) (cA h ad sz) t) (cA h ad sz)) 0 0 (cA h ad sz) := by
  refine Met.ofW (cc := cK_ruleBetween) (maxL := 3) (ret := (some .int)) (by decide) rfl ?_
  intro p e s m args below meth c s₁ B hml hv
  obtain ⟨rfl, hsz, hP, hK, hD0⟩ := hv
  have hx := B.exec
  have hb := B.bytes
  have hr := B.returns
  have hT : ∀ w ∈ TB, w.before _ s = true := fun w hw => atoms_spec (ws := wK_ruleBetween) B.pre w (List.mem_cons_of_mem _ hw)
  have hown : s.vm.findClass "CountLeast$Kind" = some m.cls := findClass_of_methodNamed B.named
  have hlocks := B.notSynchronized
  subst hsz
  have hD := nA_self (sz := s.heap.size) hD0
  have hS : va_S (cA h ad s.heap.size) s.heap s.heap [] := va_S.rf
  have hP : va_P D vwCl (cw CA g h ad) s.heap := hP
  have hl := lv_entry ([.ref (ad (3 + 9 * k)), .ref (ad (57 + a)), .ref (ad (57 + b))]) (n := 3) (Nat.le_of_ble_eq_true rfl)
  rw [lg_entry_eq]
  generalize (lg_sl ([.ref (ad (3 + 9 * k)), .ref (ad (57 + a)), .ref (ad (57 + b))]) ++ List.replicate (3 - (lg_sl ([.ref (ad (3 + 9 * k)), .ref (ad (57 + a)), .ref (ad (57 + b))])).length) Slot.unset).toArray = ls at hl ⊢
  have hl : lv_has ls 3 [(0, .ref (ad (3 + 9 * k))), (1, .ref (ad (57 + a))), (2, .ref (ad (57 + b)))] := hl
  refine lv_aload_n hx hb dK_ruleBetween_0 rfl (lv_at hl 1 rfl) ?_
  refine va_get (D := D) (ci := 3) (C := RQ) (T := TQ) (N := 9) hx hb hT inQ hown hK hP (57 + a) (cw_Q ha) rfl 3 (by decide) (hT _ wm_244) (fun _ h9 => h9) rfl dK_ruleBetween_1 ?_
  refine lv_aload_n hx hb dK_ruleBetween_4 rfl (lv_at hl 2 rfl) ?_
  refine va_get (D := D) (ci := 3) (C := RQ) (T := TQ) (N := 9) hx hb hT inQ hown hK hP (57 + b) (cw_Q hb9) rfl 3 (by decide) (hT _ wm_244) (fun _ h9 => h9) rfl dK_ruleBetween_5 ?_
  refine lv_icmp_ne (tgt := 22) hx hb dK_ruleBetween_8 (by decide) (fun c_1 => ?_) (fun c_1 => ?_)
  · refine lv_aload_n hx hb dK_ruleBetween_22 rfl (lv_at hl 1 rfl) ?_
    refine va_get (D := D) (ci := 3) (C := RQ) (T := TQ) (N := 9) hx hb hT inQ hown hK hP (57 + a) (cw_Q ha) rfl 6 (by decide) (hT _ wm_251) (fun _ h9 => h9) rfl dK_ruleBetween_23 ?_
    refine lv_aload_n hx hb dK_ruleBetween_26 rfl (lv_at hl 2 rfl) ?_
    refine va_get (D := D) (ci := 3) (C := RQ) (T := TQ) (N := 9) hx hb hT inQ hown hK hP (57 + b) (cw_Q hb9) rfl 7 (by decide) (hT _ wm_254) (fun _ h9 => h9) rfl dK_ruleBetween_27 ?_
    refine lv_icmp_gt (tgt := 44) hx hb dK_ruleBetween_30 (by decide) (fun c_2 => ?_) (fun c_2 => ?_)
    · refine lv_iconst (v := 2) hx hb dK_ruleBetween_44 (by decide) ?_
      exact W.iret (v := 2) hx hb hr (fun t ht hW => ⟨⟨_, g, rfl, ⟨by simp [ruI, agB, c_1, c_2], rfl⟩, gpost_at hP hK hD ht hW.alike⟩, hS.F ht⟩) hS.2.2 dK_ruleBetween_45
    · refine lv_aload_n hx hb dK_ruleBetween_33 rfl (lv_at hl 2 rfl) ?_
      refine va_get (D := D) (ci := 3) (C := RQ) (T := TQ) (N := 9) hx hb hT inQ hown hK hP (57 + b) (cw_Q hb9) rfl 6 (by decide) (hT _ wm_251) (fun _ h9 => h9) rfl dK_ruleBetween_34 ?_
      refine lv_aload_n hx hb dK_ruleBetween_37 rfl (lv_at hl 1 rfl) ?_
      refine va_get (D := D) (ci := 3) (C := RQ) (T := TQ) (N := 9) hx hb hT inQ hown hK hP (57 + a) (cw_Q ha) rfl 7 (by decide) (hT _ wm_254) (fun _ h9 => h9) rfl dK_ruleBetween_38 ?_
      refine lv_icmp_le (tgt := 46) hx hb dK_ruleBetween_41 (by decide) (fun c_3 => ?_) (fun c_3 => ?_)
      · refine lv_aload_n hx hb dK_ruleBetween_46 rfl (lv_at hl 1 rfl) ?_
        refine va_get (D := D) (ci := 3) (C := RQ) (T := TQ) (N := 9) hx hb hT inQ hown hK hP (57 + a) (cw_Q ha) rfl 3 (by decide) (hT _ wm_244) (fun _ h9 => h9) rfl dK_ruleBetween_47 ?_
        refine lv_aload_n hx hb dK_ruleBetween_50 rfl (lv_at hl 2 rfl) ?_
        refine va_get (D := D) (ci := 3) (C := RQ) (T := TQ) (N := 9) hx hb hT inQ hown hK hP (57 + b) (cw_Q hb9) rfl 3 (by decide) (hT _ wm_244) (fun _ h9 => h9) rfl dK_ruleBetween_51 ?_
        refine lv_icmp_ne (tgt := 68) hx hb dK_ruleBetween_54 (by decide) (fun c_4 => ?_) (fun c_4 => absurd c_4 c_1)
        refine lv_iconst (v := 0) hx hb dK_ruleBetween_68 (by decide) ?_
        exact W.iret (v := 0) hx hb hr (fun t ht hW => ⟨⟨_, g, rfl, ⟨by simp [ruI, agB, c_1, c_2, c_3], rfl⟩, gpost_at hP hK hD ht hW.alike⟩, hS.F ht⟩) hS.2.2 dK_ruleBetween_69
      · refine lv_iconst (v := 2) hx hb dK_ruleBetween_44 (by decide) ?_
        exact W.iret (v := 2) hx hb hr (fun t ht hW => ⟨⟨_, g, rfl, ⟨by simp [ruI, agB, c_1, c_2, c_3], rfl⟩, gpost_at hP hK hD ht hW.alike⟩, hS.F ht⟩) hS.2.2 dK_ruleBetween_45
  · refine lv_aload_n hx hb dK_ruleBetween_11 rfl (lv_at hl 0 rfl) ?_
    refine lv_aload_n hx hb dK_ruleBetween_12 rfl (lv_at hl 1 rfl) ?_
    refine lv_aload_n hx hb dK_ruleBetween_13 rfl (lv_at hl 2 rfl) ?_
    refine kVi (n := 2) (D := D) (wd := fun z => cw CA z h ad) (A1 := fun sz => cA h ad sz) (As := [.ref (ad (57 + a)), .ref (ad (57 + b))]) (rest := []) ⟨hx, hb, hml, hown, hT⟩ (kK_sidesClash l D CA g h ad s.heap.size k hk a b ha hb9 ja hja eja) (gi_V wm_341 wm_343 wp_3 wm_2 wm_344) rfl rfl (by decide +kernel) ⟨(Nat.le_of_ble_eq_true rfl), (Nat.le_of_ble_eq_true rfl)⟩ (va_recv hK hP (ci := 1) (q0 := 3 + 9 * k) rfl (cw_K hk)) hK hP hD hS (fun _ h9 => h9) (nA_mono hS.1) rfl hl.1 rfl (Nat.le_of_ble_eq_true rfl) dK_ruleBetween_14 ⟨(Nat.le_of_ble_eq_true rfl), (Nat.le_of_ble_eq_true rfl)⟩ (fun r_5 u_6 H locs w_7 hz hP hD hS => ?_)
    obtain ⟨w_7, hu9⟩ := w_7
    rw [hu9] at hP hD
    refine lv_if_eq (tgt := 22) hx hb dK_ruleBetween_17 (by decide) (fun c_9 => ?_) (fun c_9 => ?_)
    · refine lv_aload_n hx hb dK_ruleBetween_22 rfl (lv_at hl 1 rfl) ?_
      refine va_get (D := D) (ci := 3) (C := RQ) (T := TQ) (N := 9) hx hb hT inQ hown hK hP (57 + a) (cw_Q ha) rfl 6 (by decide) (hT _ wm_251) (fun _ h9 => h9) rfl dK_ruleBetween_23 ?_
      refine lv_aload_n hx hb dK_ruleBetween_26 rfl (lv_at hl 2 rfl) ?_
      refine va_get (D := D) (ci := 3) (C := RQ) (T := TQ) (N := 9) hx hb hT inQ hown hK hP (57 + b) (cw_Q hb9) rfl 7 (by decide) (hT _ wm_254) (fun _ h9 => h9) rfl dK_ruleBetween_27 ?_
      refine lv_icmp_gt (tgt := 44) hx hb dK_ruleBetween_30 (by decide) (fun c_10 => ?_) (fun c_10 => ?_)
      · refine lv_iconst (v := 2) hx hb dK_ruleBetween_44 (by decide) ?_
        exact W.iret (v := 2) hx hb hr (fun t ht hW => ⟨⟨_, g, rfl, ⟨by simp [ruI, agB, c_1, (if01 w_7).mp c_9, c_10], rfl⟩, gpost_at hP hK hD ht hW.alike⟩, hS.F ht⟩) hS.2.2 dK_ruleBetween_45
      · refine lv_aload_n hx hb dK_ruleBetween_33 rfl (lv_at hl 2 rfl) ?_
        refine va_get (D := D) (ci := 3) (C := RQ) (T := TQ) (N := 9) hx hb hT inQ hown hK hP (57 + b) (cw_Q hb9) rfl 6 (by decide) (hT _ wm_251) (fun _ h9 => h9) rfl dK_ruleBetween_34 ?_
        refine lv_aload_n hx hb dK_ruleBetween_37 rfl (lv_at hl 1 rfl) ?_
        refine va_get (D := D) (ci := 3) (C := RQ) (T := TQ) (N := 9) hx hb hT inQ hown hK hP (57 + a) (cw_Q ha) rfl 7 (by decide) (hT _ wm_254) (fun _ h9 => h9) rfl dK_ruleBetween_38 ?_
        refine lv_icmp_le (tgt := 46) hx hb dK_ruleBetween_41 (by decide) (fun c_11 => ?_) (fun c_11 => ?_)
        · refine lv_aload_n hx hb dK_ruleBetween_46 rfl (lv_at hl 1 rfl) ?_
          refine va_get (D := D) (ci := 3) (C := RQ) (T := TQ) (N := 9) hx hb hT inQ hown hK hP (57 + a) (cw_Q ha) rfl 3 (by decide) (hT _ wm_244) (fun _ h9 => h9) rfl dK_ruleBetween_47 ?_
          refine lv_aload_n hx hb dK_ruleBetween_50 rfl (lv_at hl 2 rfl) ?_
          refine va_get (D := D) (ci := 3) (C := RQ) (T := TQ) (N := 9) hx hb hT inQ hown hK hP (57 + b) (cw_Q hb9) rfl 3 (by decide) (hT _ wm_244) (fun _ h9 => h9) rfl dK_ruleBetween_51 ?_
          refine lv_icmp_ne (tgt := 68) hx hb dK_ruleBetween_54 (by decide) (fun c_12 => absurd c_1 c_12) (fun c_12 => ?_)
          refine lv_aload_n hx hb dK_ruleBetween_57 rfl (lv_at hl 0 rfl) ?_
          refine lv_aload_n hx hb dK_ruleBetween_58 rfl (lv_at hl 1 rfl) ?_
          refine lv_aload_n hx hb dK_ruleBetween_59 rfl (lv_at hl 2 rfl) ?_
          refine kVi (n := 2) (D := D) (wd := fun z => cw CA z h ad) (A1 := fun sz => cA h ad sz) (As := [.ref (ad (57 + a)), .ref (ad (57 + b))]) (rest := []) ⟨hx, hb, hml, hown, hT⟩ (kK_sizesClash l D CA g h ad H.size k hk a b ha hb9) (gi_V wm_345 wm_347 wp_4 wm_2 wm_348) rfl rfl (by decide +kernel) ⟨(Nat.le_of_ble_eq_true rfl), (Nat.le_of_ble_eq_true rfl)⟩ (va_recv hK hP (ci := 1) (q0 := 3 + 9 * k) rfl (cw_K hk)) hK hP hD hS (fun _ h9 => h9) (nA_mono hS.1) rfl hl.1 rfl (Nat.le_of_ble_eq_true rfl) dK_ruleBetween_60 ⟨(Nat.le_of_ble_eq_true rfl), (Nat.le_of_ble_eq_true rfl)⟩ (fun r_13 u_14 H locs w_15 hz hP hD hS => ?_)
          obtain ⟨w_15, hu9⟩ := w_15
          rw [hu9] at hP hD
          refine lv_if_eq (tgt := 68) hx hb dK_ruleBetween_63 (by decide) (fun c_17 => ?_) (fun c_17 => ?_)
          · refine lv_iconst (v := 0) hx hb dK_ruleBetween_68 (by decide) ?_
            exact W.iret (v := 0) hx hb hr (fun t ht hW => ⟨⟨_, g, rfl, ⟨by simp [ruI, agB, c_1, (if01 w_7).mp c_9, c_10, c_11, (if01 w_15).mp c_17], rfl⟩, gpost_at hP hK hD ht hW.alike⟩, hS.F ht⟩) hS.2.2 dK_ruleBetween_69
          · refine lv_iconst (v := 3) hx hb dK_ruleBetween_66 (by decide) ?_
            exact W.iret (v := 3) hx hb hr (fun t ht hW => ⟨⟨_, g, rfl, ⟨by simp [ruI, agB, c_1, (if01 w_7).mp c_9, c_10, c_11, if01t w_15 c_17], rfl⟩, gpost_at hP hK hD ht hW.alike⟩, hS.F ht⟩) hS.2.2 dK_ruleBetween_67
        · refine lv_iconst (v := 2) hx hb dK_ruleBetween_44 (by decide) ?_
          exact W.iret (v := 2) hx hb hr (fun t ht hW => ⟨⟨_, g, rfl, ⟨by simp [ruI, agB, c_1, (if01 w_7).mp c_9, c_10, c_11], rfl⟩, gpost_at hP hK hD ht hW.alike⟩, hS.F ht⟩) hS.2.2 dK_ruleBetween_45
    · refine lv_iconst (v := 1) hx hb dK_ruleBetween_20 (by decide) ?_
      exact W.iret (v := 1) hx hb hr (fun t ht hW => ⟨⟨_, g, rfl, ⟨by simp [ruI, agB, c_1, if01t w_7 c_9], rfl⟩, gpost_at hP hK hD ht hW.alike⟩, hS.F ht⟩) hS.2.2 dK_ruleBetween_21
end
section
/-! how many bits a set of twelve places has -/
def pop (m : Nat) : Nat := ((List.range 12).filter (fun i => m.testBit i)).length
theorem dI_bitCount_0 : decode cI_bitCount 0 = .ok (.iload_n 0, 1) := by decide +kernel
theorem dI_bitCount_1 : decode cI_bitCount 1 = .ok (.iload_n 0, 1) := by decide +kernel
theorem dI_bitCount_2 : decode cI_bitCount 2 = .ok (.iconst 1, 1) := by decide +kernel
theorem dI_bitCount_3 : decode cI_bitCount 3 = .ok (.iushr, 1) := by decide +kernel
theorem dI_bitCount_4 : decode cI_bitCount 4 = .ok (.ldc_w 265, 3) := by decide +kernel
theorem dI_bitCount_7 : decode cI_bitCount 7 = .ok (.iand, 1) := by decide +kernel
theorem dI_bitCount_8 : decode cI_bitCount 8 = .ok (.isub, 1) := by decide +kernel
theorem dI_bitCount_9 : decode cI_bitCount 9 = .ok (.istore_n 0, 1) := by decide +kernel
theorem dI_bitCount_10 : decode cI_bitCount 10 = .ok (.iload_n 0, 1) := by decide +kernel
theorem dI_bitCount_11 : decode cI_bitCount 11 = .ok (.ldc_w 266, 3) := by decide +kernel
theorem dI_bitCount_14 : decode cI_bitCount 14 = .ok (.iand, 1) := by decide +kernel
theorem dI_bitCount_15 : decode cI_bitCount 15 = .ok (.iload_n 0, 1) := by decide +kernel
theorem dI_bitCount_16 : decode cI_bitCount 16 = .ok (.iconst 2, 1) := by decide +kernel
theorem dI_bitCount_17 : decode cI_bitCount 17 = .ok (.iushr, 1) := by decide +kernel
theorem dI_bitCount_18 : decode cI_bitCount 18 = .ok (.ldc_w 266, 3) := by decide +kernel
theorem dI_bitCount_21 : decode cI_bitCount 21 = .ok (.iand, 1) := by decide +kernel
theorem dI_bitCount_22 : decode cI_bitCount 22 = .ok (.iadd, 1) := by decide +kernel
theorem dI_bitCount_23 : decode cI_bitCount 23 = .ok (.istore_n 0, 1) := by decide +kernel
theorem dI_bitCount_24 : decode cI_bitCount 24 = .ok (.iload_n 0, 1) := by decide +kernel
theorem dI_bitCount_25 : decode cI_bitCount 25 = .ok (.iload_n 0, 1) := by decide +kernel
theorem dI_bitCount_26 : decode cI_bitCount 26 = .ok (.iconst 4, 1) := by decide +kernel
theorem dI_bitCount_27 : decode cI_bitCount 27 = .ok (.iushr, 1) := by decide +kernel
theorem dI_bitCount_28 : decode cI_bitCount 28 = .ok (.iadd, 1) := by decide +kernel
theorem dI_bitCount_29 : decode cI_bitCount 29 = .ok (.ldc_w 267, 3) := by decide +kernel
theorem dI_bitCount_32 : decode cI_bitCount 32 = .ok (.iand, 1) := by decide +kernel
theorem dI_bitCount_33 : decode cI_bitCount 33 = .ok (.istore_n 0, 1) := by decide +kernel
theorem dI_bitCount_34 : decode cI_bitCount 34 = .ok (.iload_n 0, 1) := by decide +kernel
theorem dI_bitCount_35 : decode cI_bitCount 35 = .ok (.iload_n 0, 1) := by decide +kernel
theorem dI_bitCount_36 : decode cI_bitCount 36 = .ok (.bipush 8, 2) := by decide +kernel
theorem dI_bitCount_38 : decode cI_bitCount 38 = .ok (.iushr, 1) := by decide +kernel
theorem dI_bitCount_39 : decode cI_bitCount 39 = .ok (.iadd, 1) := by decide +kernel
theorem dI_bitCount_40 : decode cI_bitCount 40 = .ok (.istore_n 0, 1) := by decide +kernel
theorem dI_bitCount_41 : decode cI_bitCount 41 = .ok (.iload_n 0, 1) := by decide +kernel
theorem dI_bitCount_42 : decode cI_bitCount 42 = .ok (.iload_n 0, 1) := by decide +kernel
theorem dI_bitCount_43 : decode cI_bitCount 43 = .ok (.bipush 16, 2) := by decide +kernel
theorem dI_bitCount_45 : decode cI_bitCount 45 = .ok (.iushr, 1) := by decide +kernel
theorem dI_bitCount_46 : decode cI_bitCount 46 = .ok (.iadd, 1) := by decide +kernel
theorem dI_bitCount_47 : decode cI_bitCount 47 = .ok (.istore_n 0, 1) := by decide +kernel
theorem dI_bitCount_48 : decode cI_bitCount 48 = .ok (.iload_n 0, 1) := by decide +kernel
theorem dI_bitCount_49 : decode cI_bitCount 49 = .ok (.bipush 63, 2) := by decide +kernel
theorem dI_bitCount_51 : decode cI_bitCount 51 = .ok (.iand, 1) := by decide +kernel
theorem dI_bitCount_52 : decode cI_bitCount 52 = .ok (.ireturn, 1) := by decide +kernel
def bc1 (x : Int32) : Int32 := x - ((x.toUInt32 >>> ((1 : Int32).toUInt32 &&& Int32.toUInt32 31)).toInt32 &&& 1431655765)
def bc2 (x : Int32) : Int32 := (x &&& 858993459) + ((x.toUInt32 >>> ((2 : Int32).toUInt32 &&& Int32.toUInt32 31)).toInt32 &&& 858993459)
def bc3 (x : Int32) : Int32 := (x + (x.toUInt32 >>> ((4 : Int32).toUInt32 &&& Int32.toUInt32 31)).toInt32) &&& 252645135
def bc4 (x : Int32) : Int32 := x + (x.toUInt32 >>> ((8 : Int32).toUInt32 &&& Int32.toUInt32 31)).toInt32
def bc5 (x : Int32) : Int32 := x + (x.toUInt32 >>> ((16 : Int32).toUInt32 &&& Int32.toUInt32 31)).toInt32
def bcE (x : Int32) : Int32 := bc5 (bc4 (bc3 (bc2 (bc1 x)))) &&& 63
set_option maxHeartbeats 4000000 in
set_option maxRecDepth 100000 in
theorem kI_bitCount0 (l : Launch) (x : Int32) : Met l yI_bitCount wI_bitCount (rm 0 0 0) (va_Pc [.int x] (fun _ => True)) (va_Qi (fun r (_ : Unit) => r = bcE x) (fun _ _ => True) (fun _ => False)) 0 0 (fun _ => False) := by
  refine Met.ofW (cc := cI_bitCount) (maxL := 1) (ret := (some .int)) (by decide) rfl ?_
  intro p e s m args below meth c s₁ B hml hv
  obtain ⟨rfl, -⟩ := hv
  have hx := B.exec
  have hb := B.bytes
  have hr := B.returns
  have hT : ∀ w ∈ TB, w.before _ s = true := fun w hw => atoms_spec (ws := wI_bitCount) B.pre w (List.mem_cons_of_mem _ hw)
  have hown : s.vm.findClass "java/lang/Integer" = some m.cls := findClass_of_methodNamed B.named
  have hlocks := B.notSynchronized
  have hS : va_S (fun _ => False) s.heap s.heap [] := va_S.rf
  have hl := lv_entry ([.int x]) (n := 1) (Nat.le_of_ble_eq_true rfl)
  rw [lg_entry_eq]
  generalize (lg_sl ([.int x]) ++ List.replicate (1 - (lg_sl ([.int x])).length) Slot.unset).toArray = ls at hl ⊢
  have hl : lv_has ls 1 [(0, .int x)] := hl
  refine lv_iload_n hx hb dI_bitCount_0 rfl (lv_at hl 0 rfl) ?_
  refine lv_iload_n hx hb dI_bitCount_1 rfl (lv_at hl 0 rfl) ?_
  refine lv_iconst (v := 1) hx hb dI_bitCount_2 (by decide) ?_
  refine lv_iushr hx hb dI_bitCount_3 rfl ?_
  refine lv_ldcw (own := "java/lang/Integer") (v := 1431655765) hx hb hown (hT _ wm_393) dI_bitCount_4 ?_
  refine lv_iand hx hb dI_bitCount_7 ?_
  refine lv_isub hx hb dI_bitCount_8 ?_
  refine lv_topi (fun y_1 ey_1 => ?_)
  refine lv_istore_n (lv' := [(0, .int y_1)]) hx hb dI_bitCount_9 rfl hl (by decide) rfl (fun ls hl => ?_)
  refine lv_iload_n hx hb dI_bitCount_10 rfl (lv_at hl 0 rfl) ?_
  refine lv_ldcw (own := "java/lang/Integer") (v := 858993459) hx hb hown (hT _ wm_394) dI_bitCount_11 ?_
  refine lv_iand hx hb dI_bitCount_14 ?_
  refine lv_iload_n hx hb dI_bitCount_15 rfl (lv_at hl 0 rfl) ?_
  refine lv_iconst (v := 2) hx hb dI_bitCount_16 (by decide) ?_
  refine lv_iushr hx hb dI_bitCount_17 rfl ?_
  refine lv_ldcw (own := "java/lang/Integer") (v := 858993459) hx hb hown (hT _ wm_394) dI_bitCount_18 ?_
  refine lv_iand hx hb dI_bitCount_21 ?_
  refine lv_iadd hx hb dI_bitCount_22 ?_
  refine lv_topi (fun y_2 ey_2 => ?_)
  refine lv_istore_n (lv' := [(0, .int y_2)]) hx hb dI_bitCount_23 rfl hl (by decide) rfl (fun ls hl => ?_)
  refine lv_iload_n hx hb dI_bitCount_24 rfl (lv_at hl 0 rfl) ?_
  refine lv_iload_n hx hb dI_bitCount_25 rfl (lv_at hl 0 rfl) ?_
  refine lv_iconst (v := 4) hx hb dI_bitCount_26 (by decide) ?_
  refine lv_iushr hx hb dI_bitCount_27 rfl ?_
  refine lv_iadd hx hb dI_bitCount_28 ?_
  refine lv_ldcw (own := "java/lang/Integer") (v := 252645135) hx hb hown (hT _ wm_395) dI_bitCount_29 ?_
  refine lv_iand hx hb dI_bitCount_32 ?_
  refine lv_topi (fun y_3 ey_3 => ?_)
  refine lv_istore_n (lv' := [(0, .int y_3)]) hx hb dI_bitCount_33 rfl hl (by decide) rfl (fun ls hl => ?_)
  refine lv_iload_n hx hb dI_bitCount_34 rfl (lv_at hl 0 rfl) ?_
  refine lv_iload_n hx hb dI_bitCount_35 rfl (lv_at hl 0 rfl) ?_
  refine lv_bipush (v := 8) hx hb dI_bitCount_36 (by decide) ?_
  refine lv_iushr hx hb dI_bitCount_38 rfl ?_
  refine lv_iadd hx hb dI_bitCount_39 ?_
  refine lv_topi (fun y_4 ey_4 => ?_)
  refine lv_istore_n (lv' := [(0, .int y_4)]) hx hb dI_bitCount_40 rfl hl (by decide) rfl (fun ls hl => ?_)
  refine lv_iload_n hx hb dI_bitCount_41 rfl (lv_at hl 0 rfl) ?_
  refine lv_iload_n hx hb dI_bitCount_42 rfl (lv_at hl 0 rfl) ?_
  refine lv_bipush (v := 16) hx hb dI_bitCount_43 (by decide) ?_
  refine lv_iushr hx hb dI_bitCount_45 rfl ?_
  refine lv_iadd hx hb dI_bitCount_46 ?_
  refine lv_topi (fun y_5 ey_5 => ?_)
  refine lv_istore_n (lv' := [(0, .int y_5)]) hx hb dI_bitCount_47 rfl hl (by decide) rfl (fun ls hl => ?_)
  refine lv_iload_n hx hb dI_bitCount_48 rfl (lv_at hl 0 rfl) ?_
  refine lv_bipush (v := 63) hx hb dI_bitCount_49 (by decide) ?_
  refine lv_iand hx hb dI_bitCount_51 ?_
  refine lv_topi (fun y_6 ey_6 => ?_)
  exact W.iret (v := y_6) hx hb hr (fun t ht hW => ⟨⟨_, (), rfl, by subst ey_6 ey_5 ey_4 ey_3 ey_2 ey_1; rfl, trivial⟩, hS.F ht⟩) hS.2.2 dI_bitCount_52
set_option maxRecDepth 100000 in
theorem bc_ok : ∀ m : Fin 4096, bcE (nI m.val) = nI (pop m.val) := by decide +kernel
theorem kI_bitCount (l : Launch) (n : Nat) (hn : n < 4096) : Met l yI_bitCount wI_bitCount (rm 0 0 0) (va_Pc [.int (nI n)] (fun _ => True)) (va_Qi (fun r (_ : Unit) => r = nI (pop n)) (fun _ _ => True) (fun _ => False)) 0 0 (fun _ => False) := by
  have h := kI_bitCount0 l (nI n)
  rw [bc_ok ⟨n, hn⟩] at h
  exact h
end
section
/-! the parting's cells -/
def zg (k : Nat) (g : Nat → Nat → Int32) (i : Nat) : Nat → Nat → Int32 := fun a b => if (a = 9 + 9 * k ∨ a = 11 + 9 * k) ∧ b < i then 0 else g a b
theorem zg_0 {k : Nat} {g : Nat → Nat → Int32} : zg k g 0 = g := by
  funext a b
  simp [zg]
theorem zg_s {k i : Nat} {g : Nat → Nat → Int32} : u2 (u2 (zg k g i) (9 + 9 * k) i 0) (11 + 9 * k) i 0 = zg k g (i + 1) := by
  funext a b
  by_cases h1 : a = 9 + 9 * k
  · subst h1
    by_cases h2 : b = i
    · subst h2; simp [u2, zg]
    · have : b < i ↔ b < i + 1 := by omega
      simp [u2, zg, h2, this]
  · by_cases h1 : a = 11 + 9 * k
    · subst h1
      by_cases h2 : b = i
      · subst h2; simp [u2, zg]
      · have : b < i ↔ b < i + 1 := by omega
        simp [u2, zg, h2, this]
    · simp [u2, zg, *]
theorem mm12 : ∀ n, n < 13 → (if 0 < (if (12 : Int32) < nI n then 12 else nI n) then (if (12 : Int32) < nI n then 12 else nI n) else 0) = nI n := by decide +kernel
/-- the k-th set bit among the first n places, from place i on, q bits passed: its place, or -1 -/
def pof (m : Nat) (x : Int32) : Nat → Nat → Nat → Int32
  | 0, _, _ => -1
  | n + 1, i, q => if m.testBit i = false then pof m x n (i + 1) q else if nI q = x then nI i else pof m x n (i + 1) (q + 1)
theorem shb (m i : Nat) (hm : m < 4096) (hi : i < 12) : (nI m >>> (nI i &&& 31)) &&& 1 = 0 ↔ m.testBit i = false := by
  have e1 : nI m >>> (nI i &&& 31) = nI (m / 2 ^ i) := pk_shrN (by omega) (nI i &&& 31) i (by
    have : ∀ i : Fin 12, ((nI i.val &&& 31).toBitVec.smod 32).toNat = i.val := by decide +kernel
    exact this ⟨i, hi⟩)
  have hlt : m / 2 ^ i < 2 ^ 32 := Nat.lt_of_le_of_lt (Nat.div_le_self _ _) (by omega)
  rw [e1, pk_andN hlt 1 (by decide), show (0 : Int32) = nI 0 from rfl, nI_eq (by have := Nat.mod_lt (m / 2 ^ i) (show 0 < 2 ^ 1 by decide); omega) (by decide)]
  rw [Nat.testBit_eq_decide_div_mod_eq]
  have := Nat.mod_lt (m / 2 ^ i) (show 0 < 2 by decide)
  simp
set_option maxHeartbeats 4000000 in
set_option maxRecDepth 100000 in
theorem loC_commonDivisor {p : Program} {l : Launch} {e : Env} {s : State} {m : MethodId} {args : Array Value} {below : List Frame} {meth : Method} {c : Code} {Q : State → Prop} {cells slots : Nat} {H : Heap} {locs : List Loc} {R : Room} (hx : p.tables.exec = Jvm.exec) (hb : c.code = cC_commonDivisor) (hml : c.maxLocals = 6) (hown : s.vm.findClass "CountLeast" = some m.cls) (hT : ∀ w ∈ TB, w.before args s = true) :
    ∀ (n i x y : Nat), i + n = 64 → x < 2 ^ 31 → y < 2 ^ 31 → (∀ ls, lv_has ls 6 [(2, .int (nI (ed n x y)))] → W p l e R s m args below meth c H locs cells slots Q (F0 m 34 ls [])) → ∀ ls, lv_has ls 6 [(4, .int (nI i)), (3, .int (nI y)), (2, .int (nI x))] → W p l e R s m args below meth c H locs cells slots Q (F0 m 7 ls []) := by
  intro n
  induction n with
  | zero =>
    intro i x y hi hx9 hy9 kx ls hl
    have hi : i = 64 := by omega
    subst hi
    refine lv_iload hx hb dC_commonDivisor_7 (lv_at hl 0 rfl) ?_
    refine lv_bipush (v := 64) hx hb dC_commonDivisor_9 (by decide) ?_
    refine lv_icmp_ge (tgt := 34) hx hb dC_commonDivisor_11 (by decide) (fun c_1 => ?_) (fun c_1 => absurd (by decide) c_1)
    exact kx ls (lv_sub hl [2] rfl)
  | succ n ih =>
    intro i x y hi hx9 hy9 kx ls hl
    refine lv_iload hx hb dC_commonDivisor_7 (lv_at hl 0 rfl) ?_
    refine lv_bipush (v := 64) hx hb dC_commonDivisor_9 (by decide) ?_
    refine lv_icmp_ge (tgt := 34) hx hb dC_commonDivisor_11 (by decide) (fun c_1 => absurd c_1 (nI_ge (b := 64) (by omega) (by decide))) (fun c_1 => ?_)
    refine lv_iload_n hx hb dC_commonDivisor_14 rfl (lv_at hl 1 rfl) ?_
    refine lv_if_eq (tgt := 34) hx hb dC_commonDivisor_15 (by decide) (fun c_2 => ?_) (fun c_2 => ?_)
    · have hy0 : y = 0 := (nI_eq hy9 (by decide)).mp c_2
      exact kx ls (by rw [ed, if_pos hy0]; exact lv_sub hl [2] rfl)
    · have hy0 : ¬ y = 0 := fun q => c_2 (by rw [q]; rfl)
      refine lv_iload_n hx hb dC_commonDivisor_18 rfl (lv_at hl 2 rfl) ?_
      refine lv_iload_n hx hb dC_commonDivisor_19 rfl (lv_at hl 1 rfl) ?_
      refine lv_irem hx hb dC_commonDivisor_20 c_2 ?_
      refine W.eq (g2 := F0 m 21 ls [.int (nI (x % y))]) (by rw [pk_rem hx9 (Nat.pos_of_ne_zero hy0) hy9]) ?_
      refine lv_istore (lv' := [(5, .int (nI (x % y))), (4, .int (nI i)), (3, .int (nI y)), (2, .int (nI x))]) hx hb dC_commonDivisor_21 hl (by decide) rfl (fun ls hl => ?_)
      refine lv_iload_n hx hb dC_commonDivisor_23 rfl (lv_at hl 2 rfl) ?_
      refine lv_istore_n (lv' := [(2, .int (nI y)), (5, .int (nI (x % y))), (4, .int (nI i)), (3, .int (nI y))]) hx hb dC_commonDivisor_24 rfl hl (by decide) rfl (fun ls hl => ?_)
      refine lv_iload hx hb dC_commonDivisor_25 (lv_at hl 1 rfl) ?_
      refine lv_istore_n (lv' := [(3, .int (nI (x % y))), (2, .int (nI y)), (5, .int (nI (x % y))), (4, .int (nI i))]) hx hb dC_commonDivisor_27 rfl hl (by decide) rfl (fun ls hl => ?_)
      refine lv_iinc (v := nI (i + 1)) (lv' := [(4, .int (nI (i + 1))), (3, .int (nI (x % y))), (2, .int (nI y)), (5, .int (nI (x % y)))]) hx hb dC_commonDivisor_28 hl (k := 3) rfl (nI_1 _) (by decide) rfl (fun ls hl => ?_)
      refine lv_goto (tgt := 7) hx hb dC_commonDivisor_31 (by decide) ?_
      exact ih (i + 1) y (x % y) (by omega) hy9 (Nat.lt_trans (Nat.mod_lt _ (by omega)) hy9) (fun ls hl => kx ls (by rw [ed, if_neg hy0]; exact hl)) ls (lv_sub hl [0, 1, 2] rfl)
set_option maxHeartbeats 4000000 in
set_option maxRecDepth 100000 in
theorem kC_commonDivisor (l : Launch) (a b : Nat) (ha9 : a < 2 ^ 31) (hb9 : b < 2 ^ 31) : Met l yC_commonDivisor wC_commonDivisor (rm 0 0 0) (va_Pc [.int (nI a), .int (nI b)] (fun _ => True)) (va_Qi (fun r (_ : Unit) => r = nI (ed 64 a b)) (fun _ _ => True) (fun _ => False)) 0 0 (fun _ => False) := by
  refine Met.ofW (cc := cC_commonDivisor) (maxL := 6) (ret := (some .int)) (by decide) rfl ?_
  intro p e s m args below meth c s₁ B hml hv
  obtain ⟨rfl, -⟩ := hv
  have hx := B.exec
  have hb := B.bytes
  have hr := B.returns
  have hT : ∀ w ∈ TB, w.before _ s = true := fun w hw => atoms_spec (ws := wC_commonDivisor) B.pre w (List.mem_cons_of_mem _ hw)
  have hown : s.vm.findClass "CountLeast" = some m.cls := findClass_of_methodNamed B.named
  have hlocks := B.notSynchronized
  have hS : va_S (fun _ => False) s.heap s.heap [] := va_S.rf
  have hl := lv_entry ([.int (nI a), .int (nI b)]) (n := 6) (Nat.le_of_ble_eq_true rfl)
  rw [lg_entry_eq]
  generalize (lg_sl ([.int (nI a), .int (nI b)]) ++ List.replicate (6 - (lg_sl ([.int (nI a), .int (nI b)])).length) Slot.unset).toArray = ls at hl ⊢
  have hl : lv_has ls 6 [(0, .int (nI a)), (1, .int (nI b))] := hl
  refine lv_iload_n hx hb dC_commonDivisor_0 rfl (lv_at hl 0 rfl) ?_
  refine lv_istore_n (lv' := [(2, .int (nI a)), (0, .int (nI a)), (1, .int (nI b))]) hx hb dC_commonDivisor_1 rfl hl (by decide) rfl (fun ls hl => ?_)
  refine lv_iload_n hx hb dC_commonDivisor_2 rfl (lv_at hl 2 rfl) ?_
  refine lv_istore_n (lv' := [(3, .int (nI b)), (2, .int (nI a)), (0, .int (nI a)), (1, .int (nI b))]) hx hb dC_commonDivisor_3 rfl hl (by decide) rfl (fun ls hl => ?_)
  refine lv_iconst (v := 0) hx hb dC_commonDivisor_4 (by decide) ?_
  refine lv_istore (lv' := [(4, .int 0), (3, .int (nI b)), (2, .int (nI a)), (0, .int (nI a)), (1, .int (nI b))]) hx hb dC_commonDivisor_5 hl (by decide) rfl (fun ls hl => ?_)
  refine loC_commonDivisor hx hb hml hown hT 64 0 a b (by omega) ha9 hb9 (fun ls hl => ?_) ls (lv_sub hl [0, 1, 2] rfl)
  refine lv_iload_n hx hb dC_commonDivisor_34 rfl (lv_at hl 0 rfl) ?_
  exact W.iret (v := nI (ed 64 a b)) hx hb hr (fun t ht hW => ⟨⟨_, (), rfl, rfl, trivial⟩, hS.F ht⟩) hS.2.2 dC_commonDivisor_35
set_option maxHeartbeats 4000000 in
set_option maxRecDepth 100000 in
theorem loP_begin {p : Program} {l : Launch} {e : Env} {s : State} {m : MethodId} {args : Array Value} {below : List Frame} {meth : Method} {c : Code} {Q : State → Prop} {cells slots : Nat} {R : Room} {D : va_G} {CA : Nat → ClassId} {g : Nat → Nat → Int32} {h : Nat → Nat → Nat} {ad : Nat → Nat} {k : Nat} (hk : k < 6) (hx : p.tables.exec = Jvm.exec) (hb : c.code = cP_begin) (hml : c.maxLocals = 3) (hown : s.vm.findClass "CountLeast$Parting" = some m.cls) (hT : ∀ w ∈ TB, w.before args s = true) (hK : va_K D vwCl (cty CA) s) (kx : ∀ (H : Heap) (locs : List Loc), va_P D vwCl (cw CA (zg k g 12) h ad) H → va_D (cA h ad s.heap.size) (cw CA (zg k g 12) h ad) → va_S (cA h ad s.heap.size) s.heap H locs → ∀ ls, lv_has ls 3 [(0, .ref (ad (8 + 9 * k)))] → W p l e R s m args below meth c H locs cells slots Q (F0 m 42 ls [])) :
    ∀ (n i : Nat), i + n = 12 → ∀ (H : Heap) (locs : List Loc), va_P D vwCl (cw CA (zg k g i) h ad) H → va_D (cA h ad s.heap.size) (cw CA (zg k g i) h ad) → va_S (cA h ad s.heap.size) s.heap H locs → ∀ ls, lv_has ls 3 [(2, .int (nI i)), (0, .ref (ad (8 + 9 * k)))] → W p l e R s m args below meth c H locs cells slots Q (F0 m 16 ls []) := by
  intro n
  induction n with
  | zero =>
    intro i hi H locs hP hD hS ls hl
    have hi : i = 12 := by omega
    subst hi
    refine lv_iload_n hx hb dP_begin_16 rfl (lv_at hl 0 rfl) ?_
    refine lv_bipush (v := 12) hx hb dP_begin_17 (by decide) ?_
    refine lv_icmp_ge (tgt := 42) hx hb dP_begin_19 (by decide) (fun c_1 => ?_) (fun c_1 => absurd (by decide) c_1)
    exact kx H locs hP hD hS ls (lv_sub hl [1] rfl)
  | succ n ih =>
    intro i hi H locs hP hD hS ls hl
    refine lv_iload_n hx hb dP_begin_16 rfl (lv_at hl 0 rfl) ?_
    refine lv_bipush (v := 12) hx hb dP_begin_17 (by decide) ?_
    refine lv_icmp_ge (tgt := 42) hx hb dP_begin_19 (by decide) (fun c_1 => absurd c_1 (nI_ge (b := 12) (by omega) (by decide))) (fun c_1 => ?_)
    refine lv_aload_n hx hb dP_begin_22 rfl (lv_at hl 1 rfl) ?_
    refine va_get (D := D) (ci := 2) (C := RP) (T := TP) (N := 6) hx hb hT inP hown hK hP (8 + 9 * k) (cw_PT hk) rfl 3 (by decide) (hT _ wm_42) (fun _ h9 => h9) rfl dP_begin_23 ?_
    refine lv_iload_n hx hb dP_begin_26 rfl (lv_at hl 0 rfl) ?_
    refine lv_iconst (v := 0) hx hb dP_begin_27 (by decide) ?_
    refine va_iast (D := D) hx hb hK hP hD hS (9 + 9 * k) 0 (cw_FO hk) rfl (vp_in_nI (by omega) (by decide)) dP_begin_28 (fun H locs hP hD hS => ?_)
    rw [nI_clamp (n := i) (by omega), cw_sFO hk] at hP hD
    refine lv_aload_n hx hb dP_begin_29 rfl (lv_at hl 1 rfl) ?_
    refine va_get (D := D) (ci := 2) (C := RP) (T := TP) (N := 6) hx hb hT inP hown hK hP (8 + 9 * k) (cw_PT hk) rfl 5 (by decide) (hT _ wm_44) (fun _ h9 => h9) rfl dP_begin_30 ?_
    refine lv_iload_n hx hb dP_begin_33 rfl (lv_at hl 0 rfl) ?_
    refine lv_iconst (v := 0) hx hb dP_begin_34 (by decide) ?_
    refine va_iast (D := D) hx hb hK hP hD hS (11 + 9 * k) 0 (cw_IS hk) rfl (vp_in_nI (by omega) (by decide)) dP_begin_35 (fun H locs hP hD hS => ?_)
    rw [nI_clamp (n := i) (by omega), cw_sIS hk] at hP hD
    refine lv_iinc (v := nI (i + 1)) (lv' := [(2, .int (nI (i + 1))), (0, .ref (ad (8 + 9 * k)))]) hx hb dP_begin_36 hl (k := 0) rfl (nI_1 _) (by decide) rfl (fun ls hl => ?_)
    refine lv_goto (tgt := 16) hx hb dP_begin_39 (by decide) ?_
    rw [zg_s] at hP hD
    exact ih (i + 1) (by omega) H locs hP hD hS ls (lv_sub hl [0, 1] rfl)
set_option maxHeartbeats 4000000 in
set_option maxRecDepth 100000 in
theorem kP_begin (l : Launch) (D : va_G) (CA : Nat → ClassId) (g : Nat → Nat → Int32) (h : Nat → Nat → Nat) (ad : Nat → Nat) (sz : Nat) (k : Nat) (hk : k < 6) (n : Nat) (hn : n < 13) : Met l yP_begin wP_begin (rm 0 0 0) (va_Pc [.ref (ad (8 + 9 * k)), .int (nI n)] (gpre D (cty CA) (cw CA g h ad) sz)) (va_Qv (fun (u : Nat → Nat → Int32) => u = (zg k (u2 g (8 + 9 * k) 1 (nI n)) 12)) (fun u t => gpost D (cty CA) (cw CA u h ad) (cA h ad sz) t) (cA h ad sz)) 0 0 (cA h ad sz) := by
  refine Met.ofW (cc := cP_begin) (maxL := 3) (ret := none) (by decide) rfl ?_
  intro p e s m args below meth c s₁ B hml hv
  obtain ⟨rfl, hsz, hP, hK, hD0⟩ := hv
  have hx := B.exec
  have hb := B.bytes
  have hr := B.returns
  have hT : ∀ w ∈ TB, w.before _ s = true := fun w hw => atoms_spec (ws := wP_begin) B.pre w (List.mem_cons_of_mem _ hw)
  have hown : s.vm.findClass "CountLeast$Parting" = some m.cls := findClass_of_methodNamed B.named
  have hlocks := B.notSynchronized
  subst hsz
  have hD := nA_self (sz := s.heap.size) hD0
  have hS : va_S (cA h ad s.heap.size) s.heap s.heap [] := va_S.rf
  have hP : va_P D vwCl (cw CA g h ad) s.heap := hP
  have hl := lv_entry ([.ref (ad (8 + 9 * k)), .int (nI n)]) (n := 3) (Nat.le_of_ble_eq_true rfl)
  rw [lg_entry_eq]
  generalize (lg_sl ([.ref (ad (8 + 9 * k)), .int (nI n)]) ++ List.replicate (3 - (lg_sl ([.ref (ad (8 + 9 * k)), .int (nI n)])).length) Slot.unset).toArray = ls at hl ⊢
  have hl : lv_has ls 3 [(0, .ref (ad (8 + 9 * k))), (1, .int (nI n))] := hl
  refine lv_aload_n hx hb dP_begin_0 rfl (lv_at hl 0 rfl) ?_
  refine lv_iconst (v := 0) hx hb dP_begin_1 (by decide) ?_
  refine lv_iload_n hx hb dP_begin_2 rfl (lv_at hl 1 rfl) ?_
  refine lv_bipush (v := 12) hx hb dP_begin_3 (by decide) ?_
  refine va_mmin hx hb (hml.trans hl.1.symm) (own := "CountLeast$Parting") hown (hT _ wm_367) (hT _ wm_368) (hT _ wm_12) (hT _ wm_369) (Nat.le_of_ble_eq_true rfl) (Nat.le_of_ble_eq_true rfl) (Nat.le_of_ble_eq_true rfl) (Nat.le_of_ble_eq_true rfl) dP_begin_5 ?_
  refine va_mmax hx hb (hml.trans hl.1.symm) (own := "CountLeast$Parting") hown (hT _ wm_370) (hT _ wm_371) (hT _ wm_12) (hT _ wm_372) (Nat.le_of_ble_eq_true rfl) (Nat.le_of_ble_eq_true rfl) (Nat.le_of_ble_eq_true rfl) (Nat.le_of_ble_eq_true rfl) dP_begin_8 ?_
  refine W.eq (g2 := F0 m 11 ls [.int (nI n), .ref (ad (8 + 9 * k))]) (by rw [mm12 n hn]) ?_
  refine va_put (D := D) (ci := 2) (v := .int (nI n)) (ty := .int) (C := RP) (T := TP) (N := 6) hx hb hT inP tyP tyokP nmP hown hK hP hD hS (8 + 9 * k) (cw_PT hk) rfl 1 (by decide) (hT _ wm_40) (fun _ h9 => h9) rfl (by decide +kernel) rfl rfl (Nat.le_of_ble_eq_true rfl) dP_begin_11 (fun H locs hP hD hS => ?_)
  rw [cw_sP hk (by simp)] at hP hD
  refine lv_iconst (v := 0) hx hb dP_begin_14 (by decide) ?_
  refine lv_istore_n (lv' := [(2, .int 0), (0, .ref (ad (8 + 9 * k))), (1, .int (nI n))]) hx hb dP_begin_15 rfl hl (by decide) rfl (fun ls hl => ?_)
  rw [← zg_0 (k := k) (g := (u2 g (8 + 9 * k) 1 (nI n)))] at hP hD
  refine loP_begin hk hx hb hml hown hT hK (fun H locs hP hD hS ls hl => ?_) 12 0 (by omega) H locs hP hD hS ls (lv_sub hl [0, 1] rfl)
  exact W.vret hx hb hr (fun t ht hW => ⟨⟨(zg k (u2 g (8 + 9 * k) 1 (nI n)) 12), rfl, rfl, gpost_at hP hK hD ht hW.alike⟩, hS.F ht⟩) hS.2.2 dP_begin_42
set_option maxHeartbeats 4000000 in
set_option maxRecDepth 100000 in
theorem kP_setApart (l : Launch) (D : va_G) (CA : Nat → ClassId) (g : Nat → Nat → Int32) (h : Nat → Nat → Nat) (ad : Nat → Nat) (sz : Nat) (k : Nat) (hk : k < 6) (i j n : Nat) (hc : g (8 + 9 * k) 1 = nI n) (hn : n < 13) (hi : i < n) (hj : j < n) : Met l yP_setApart wP_setApart (rm 0 0 0) (va_Pc [.ref (ad (8 + 9 * k)), .int (nI i), .int (nI j)] (gpre D (cty CA) (cw CA g h ad) sz)) (va_Qv (fun (u : Nat → Nat → Int32) => u = (u2 (u2 g (9 + 9 * k) i ((g (9 + 9 * k) i) ||| (1 <<< ((nI j) &&& 31)))) (9 + 9 * k) j (((u2 g (9 + 9 * k) i ((g (9 + 9 * k) i) ||| (1 <<< ((nI j) &&& 31)))) (9 + 9 * k) j) ||| (1 <<< ((nI i) &&& 31))))) (fun u t => gpost D (cty CA) (cw CA u h ad) (cA h ad sz) t) (cA h ad sz)) 0 0 (cA h ad sz) := by
  refine Met.ofW (cc := cP_setApart) (maxL := 3) (ret := none) (by decide) rfl ?_
  intro p e s m args below meth c s₁ B hml hv
  obtain ⟨rfl, hsz, hP, hK, hD0⟩ := hv
  have hx := B.exec
  have hb := B.bytes
  have hr := B.returns
  have hT : ∀ w ∈ TB, w.before _ s = true := fun w hw => atoms_spec (ws := wP_setApart) B.pre w (List.mem_cons_of_mem _ hw)
  have hown : s.vm.findClass "CountLeast$Parting" = some m.cls := findClass_of_methodNamed B.named
  have hlocks := B.notSynchronized
  subst hsz
  have hD := nA_self (sz := s.heap.size) hD0
  have hS : va_S (cA h ad s.heap.size) s.heap s.heap [] := va_S.rf
  have hP : va_P D vwCl (cw CA g h ad) s.heap := hP
  have hl := lv_entry ([.ref (ad (8 + 9 * k)), .int (nI i), .int (nI j)]) (n := 3) (Nat.le_of_ble_eq_true rfl)
  rw [lg_entry_eq]
  generalize (lg_sl ([.ref (ad (8 + 9 * k)), .int (nI i), .int (nI j)]) ++ List.replicate (3 - (lg_sl ([.ref (ad (8 + 9 * k)), .int (nI i), .int (nI j)])).length) Slot.unset).toArray = ls at hl ⊢
  have hl : lv_has ls 3 [(0, .ref (ad (8 + 9 * k))), (1, .int (nI i)), (2, .int (nI j))] := hl
  refine lv_iload_n hx hb dP_setApart_0 rfl (lv_at hl 1 rfl) ?_
  refine lv_if_lt (tgt := 48) hx hb dP_setApart_1 (by decide) (fun c_1 => absurd c_1 (nI_pos (by omega))) (fun c_1 => ?_)
  refine lv_iload_n hx hb dP_setApart_4 rfl (lv_at hl 1 rfl) ?_
  refine lv_aload_n hx hb dP_setApart_5 rfl (lv_at hl 0 rfl) ?_
  refine va_get (D := D) (ci := 2) (C := RP) (T := TP) (N := 6) hx hb hT inP hown hK hP (8 + 9 * k) (cw_PT hk) rfl 1 (by decide) (hT _ wm_40) (fun _ h9 => h9) rfl dP_setApart_6 ?_
  refine lv_icmp_ge (tgt := 48) hx hb dP_setApart_9 (by decide) (fun c_2 => absurd c_2 (by rw [hc]; exact nI_ge hi (by omega))) (fun c_2 => ?_)
  refine lv_iload_n hx hb dP_setApart_12 rfl (lv_at hl 2 rfl) ?_
  refine lv_if_lt (tgt := 48) hx hb dP_setApart_13 (by decide) (fun c_3 => absurd c_3 (nI_pos (by omega))) (fun c_3 => ?_)
  refine lv_iload_n hx hb dP_setApart_16 rfl (lv_at hl 2 rfl) ?_
  refine lv_aload_n hx hb dP_setApart_17 rfl (lv_at hl 0 rfl) ?_
  refine va_get (D := D) (ci := 2) (C := RP) (T := TP) (N := 6) hx hb hT inP hown hK hP (8 + 9 * k) (cw_PT hk) rfl 1 (by decide) (hT _ wm_40) (fun _ h9 => h9) rfl dP_setApart_18 ?_
  refine lv_icmp_ge (tgt := 48) hx hb dP_setApart_21 (by decide) (fun c_4 => absurd c_4 (by rw [hc]; exact nI_ge hj (by omega))) (fun c_4 => ?_)
  refine lv_aload_n hx hb dP_setApart_24 rfl (lv_at hl 0 rfl) ?_
  refine va_get (D := D) (ci := 2) (C := RP) (T := TP) (N := 6) hx hb hT inP hown hK hP (8 + 9 * k) (cw_PT hk) rfl 3 (by decide) (hT _ wm_42) (fun _ h9 => h9) rfl dP_setApart_25 ?_
  refine lv_iload_n hx hb dP_setApart_28 rfl (lv_at hl 1 rfl) ?_
  refine lv_dup2_11 hx hb dP_setApart_29 rfl rfl ?_
  refine va_iald (D := D) hx hb hK hP (9 + 9 * k) 0 (cw_FO hk) rfl (vp_in_nI (by omega) (by decide)) dP_setApart_30 ?_
  rw [nI_clamp (n := i) (by omega)]
  refine lv_iconst (v := 1) hx hb dP_setApart_31 (by decide) ?_
  refine lv_iload_n hx hb dP_setApart_32 rfl (lv_at hl 2 rfl) ?_
  refine lv_ishl hx hb dP_setApart_33 ?_
  refine lv_ior hx hb dP_setApart_34 ?_
  refine va_iast (D := D) hx hb hK hP hD hS (9 + 9 * k) 0 (cw_FO hk) rfl (vp_in_nI (by omega) (by decide)) dP_setApart_35 (fun H locs hP hD hS => ?_)
  rw [nI_clamp (n := i) (by omega), cw_sFO hk] at hP hD
  refine lv_aload_n hx hb dP_setApart_36 rfl (lv_at hl 0 rfl) ?_
  refine va_get (D := D) (ci := 2) (C := RP) (T := TP) (N := 6) hx hb hT inP hown hK hP (8 + 9 * k) (cw_PT hk) rfl 3 (by decide) (hT _ wm_42) (fun _ h9 => h9) rfl dP_setApart_37 ?_
  refine lv_iload_n hx hb dP_setApart_40 rfl (lv_at hl 2 rfl) ?_
  refine lv_dup2_11 hx hb dP_setApart_41 rfl rfl ?_
  refine va_iald (D := D) hx hb hK hP (9 + 9 * k) 0 (cw_FO hk) rfl (vp_in_nI (by omega) (by decide)) dP_setApart_42 ?_
  rw [nI_clamp (n := j) (by omega)]
  refine lv_iconst (v := 1) hx hb dP_setApart_43 (by decide) ?_
  refine lv_iload_n hx hb dP_setApart_44 rfl (lv_at hl 1 rfl) ?_
  refine lv_ishl hx hb dP_setApart_45 ?_
  refine lv_ior hx hb dP_setApart_46 ?_
  refine va_iast (D := D) hx hb hK hP hD hS (9 + 9 * k) 0 (cw_FO hk) rfl (vp_in_nI (by omega) (by decide)) dP_setApart_47 (fun H locs hP hD hS => ?_)
  rw [nI_clamp (n := j) (by omega), cw_sFO hk] at hP hD
  exact W.vret hx hb hr (fun t ht hW => ⟨⟨(u2 (u2 g (9 + 9 * k) i ((g (9 + 9 * k) i) ||| (1 <<< ((nI j) &&& 31)))) (9 + 9 * k) j (((u2 g (9 + 9 * k) i ((g (9 + 9 * k) i) ||| (1 <<< ((nI j) &&& 31)))) (9 + 9 * k) j) ||| (1 <<< ((nI i) &&& 31)))), rfl, rfl, gpost_at hP hK hD ht hW.alike⟩, hS.F ht⟩) hS.2.2 dP_setApart_48
set_option maxHeartbeats 4000000 in
set_option maxRecDepth 100000 in
theorem kP_setOf (l : Launch) (D : va_G) (CA : Nat → ClassId) (g : Nat → Nat → Int32) (h : Nat → Nat → Nat) (ad : Nat → Nat) (sz : Nat) (k : Nat) (hk : k < 6) (x : Int32) (n : Nat) (hc : g (8 + 9 * k) 1 = nI n) (hn : n < 13) : Met l yP_setOf wP_setOf (rm 0 0 0) (va_Pc [.ref (ad (8 + 9 * k)), .int x] (gpre D (cty CA) (cw CA g h ad) sz)) (va_Qi (fun r (u : Nat → Nat → Int32) => (∀ j, j < n → x = nI j → r = g (10 + 9 * k) j) ∧ (ib x (nI n) → r = -1) ∧ u = g) (fun u t => gpost D (cty CA) (cw CA u h ad) (cA h ad sz) t) (cA h ad sz)) 0 0 (cA h ad sz) := by
  refine Met.ofW (cc := cP_setOf) (maxL := 2) (ret := (some .int)) (by decide) rfl ?_
  intro p e s m args below meth c s₁ B hml hv
  obtain ⟨rfl, hsz, hP, hK, hD0⟩ := hv
  have hx := B.exec
  have hb := B.bytes
  have hr := B.returns
  have hT : ∀ w ∈ TB, w.before _ s = true := fun w hw => atoms_spec (ws := wP_setOf) B.pre w (List.mem_cons_of_mem _ hw)
  have hown : s.vm.findClass "CountLeast$Parting" = some m.cls := findClass_of_methodNamed B.named
  have hlocks := B.notSynchronized
  subst hsz
  have hD := nA_self (sz := s.heap.size) hD0
  have hS : va_S (cA h ad s.heap.size) s.heap s.heap [] := va_S.rf
  have hP : va_P D vwCl (cw CA g h ad) s.heap := hP
  have hl := lv_entry ([.ref (ad (8 + 9 * k)), .int x]) (n := 2) (Nat.le_of_ble_eq_true rfl)
  rw [lg_entry_eq]
  generalize (lg_sl ([.ref (ad (8 + 9 * k)), .int x]) ++ List.replicate (2 - (lg_sl ([.ref (ad (8 + 9 * k)), .int x])).length) Slot.unset).toArray = ls at hl ⊢
  have hl : lv_has ls 2 [(0, .ref (ad (8 + 9 * k))), (1, .int x)] := hl
  refine lv_iload_n hx hb dP_setOf_0 rfl (lv_at hl 1 rfl) ?_
  refine lv_if_lt (tgt := 12) hx hb dP_setOf_1 (by decide) (fun c_1 => ?_) (fun c_1 => ?_)
  · refine lv_iconst (v := (-1)) hx hb dP_setOf_12 (by decide) ?_
    refine lv_goto (tgt := 22) hx hb dP_setOf_13 (by decide) ?_
    exact W.iret (v := (-1)) hx hb hr (fun t ht hW => ⟨⟨_, g, rfl, ⟨fun j9 hj9 e9 => absurd (show ib x (nI n) by first | exact Or.inl c_1 | exact Or.inr (by rw [← hc]; exact c_2)) (by rw [e9]; exact nib hj9 (by omega)), fun _ => rfl, rfl⟩, gpost_at hP hK hD ht hW.alike⟩, hS.F ht⟩) hS.2.2 dP_setOf_22
  · refine lv_iload_n hx hb dP_setOf_4 rfl (lv_at hl 1 rfl) ?_
    refine lv_aload_n hx hb dP_setOf_5 rfl (lv_at hl 0 rfl) ?_
    refine va_get (D := D) (ci := 2) (C := RP) (T := TP) (N := 6) hx hb hT inP hown hK hP (8 + 9 * k) (cw_PT hk) rfl 1 (by decide) (hT _ wm_40) (fun _ h9 => h9) rfl dP_setOf_6 ?_
    refine lv_icmp_lt (tgt := 16) hx hb dP_setOf_9 (by decide) (fun c_2 => ?_) (fun c_2 => ?_)
    · obtain ⟨j, hj, rfl⟩ := ibn (n := n) (by omega) (show ¬ ib x (nI n) from not_or.mpr ⟨c_1, fun q => q (by rw [← hc]; exact c_2)⟩)
      refine lv_aload_n hx hb dP_setOf_16 rfl (lv_at hl 0 rfl) ?_
      refine va_get (D := D) (ci := 2) (C := RP) (T := TP) (N := 6) hx hb hT inP hown hK hP (8 + 9 * k) (cw_PT hk) rfl 4 (by decide) (hT _ wm_43) (fun _ h9 => h9) rfl dP_setOf_17 ?_
      refine lv_iload_n hx hb dP_setOf_20 rfl (lv_at hl 1 rfl) ?_
      refine va_iald (D := D) hx hb hK hP (10 + 9 * k) 0 (cw_SO hk) rfl (vp_in_nI (by omega) (by decide)) dP_setOf_21 ?_
      rw [nI_clamp (n := j) (by omega)]
      exact W.iret (v := g (10 + 9 * k) j) hx hb hr (fun t ht hW => ⟨⟨_, g, rfl, ⟨fun j9 hj9 e9 => by rw [(nI_eq (by omega) (by omega)).mp e9], fun q => absurd q (nib hj (by omega)), rfl⟩, gpost_at hP hK hD ht hW.alike⟩, hS.F ht⟩) hS.2.2 dP_setOf_22
    · refine lv_iconst (v := (-1)) hx hb dP_setOf_12 (by decide) ?_
      refine lv_goto (tgt := 22) hx hb dP_setOf_13 (by decide) ?_
      exact W.iret (v := (-1)) hx hb hr (fun t ht hW => ⟨⟨_, g, rfl, ⟨fun j9 hj9 e9 => absurd (show ib x (nI n) by first | exact Or.inl c_1 | exact Or.inr (by rw [← hc]; exact c_2)) (by rw [e9]; exact nib hj9 (by omega)), fun _ => rfl, rfl⟩, gpost_at hP hK hD ht hW.alike⟩, hS.F ht⟩) hS.2.2 dP_setOf_22
set_option maxHeartbeats 4000000 in
set_option maxRecDepth 100000 in
theorem loP_placeOfFoe {p : Program} {l : Launch} {e : Env} {s : State} {m : MethodId} {args : Array Value} {below : List Frame} {meth : Method} {c : Code} {Q : State → Prop} {cells slots : Nat} {R : Room} {D : va_G} {CA : Nat → ClassId} {g : Nat → Nat → Int32} {h : Nat → Nat → Nat} {ad : Nat → Nat} {k : Nat} (hk : k < 6) {H : Heap} {locs : List Loc} {c9 m9 : Nat} {x : Int32} (hc : g (8 + 9 * k) 1 = nI c9) (hc12 : c9 < 13) (hg : g (8 + 9 * k) 2 = nI m9) (hm : m9 < 4096) (hx : p.tables.exec = Jvm.exec) (hb : c.code = cP_placeOfFoe) (hml : c.maxLocals = 4) (hown : s.vm.findClass "CountLeast$Parting" = some m.cls) (hT : ∀ w ∈ TB, w.before args s = true) (hK : va_K D vwCl (cty CA) s) (hP : va_P D vwCl (cw CA g h ad) H) :
    ∀ (n i q : Nat), i + n = c9 → q ≤ i → (∀ r, r = pof m9 x n i q → (∀ ls, W p l e R s m args below meth c H locs cells slots Q (F0 m 40 ls [.int r])) ∧ ∀ ls, W p l e R s m args below meth c H locs cells slots Q (F0 m 29 ls [.int r])) → ∀ ls, lv_has ls 4 [(3, .int (nI i)), (2, .int (nI q)), (0, .ref (ad (8 + 9 * k))), (1, .int x)] → W p l e R s m args below meth c H locs cells slots Q (F0 m 4 ls []) := by
  intro n
  induction n with
  | zero =>
    intro i q hi hq kx ls hl
    have hi : i = c9 := by omega
    subst hi
    refine lv_iload_n hx hb dP_placeOfFoe_4 rfl (lv_at hl 0 rfl) ?_
    refine lv_aload_n hx hb dP_placeOfFoe_5 rfl (lv_at hl 2 rfl) ?_
    refine va_get (D := D) (ci := 2) (C := RP) (T := TP) (N := 6) hx hb hT inP hown hK hP (8 + 9 * k) (cw_PT hk) rfl 1 (by decide) (hT _ wm_40) (fun _ h9 => h9) rfl dP_placeOfFoe_6 ?_
    refine lv_icmp_ge (tgt := 39) hx hb dP_placeOfFoe_9 (by decide) (fun c_1 => ?_) (fun c_1 => absurd (by rw [hc]; exact nI_le (Nat.le_refl _) (by omega)) c_1)
    refine lv_iconst (v := (-1)) hx hb dP_placeOfFoe_39 (by decide) ?_
    exact (kx _ rfl).1 ls
  | succ n ih =>
    intro i q hi hq kx ls hl
    refine lv_iload_n hx hb dP_placeOfFoe_4 rfl (lv_at hl 0 rfl) ?_
    refine lv_aload_n hx hb dP_placeOfFoe_5 rfl (lv_at hl 2 rfl) ?_
    refine va_get (D := D) (ci := 2) (C := RP) (T := TP) (N := 6) hx hb hT inP hown hK hP (8 + 9 * k) (cw_PT hk) rfl 1 (by decide) (hT _ wm_40) (fun _ h9 => h9) rfl dP_placeOfFoe_6 ?_
    refine lv_icmp_ge (tgt := 39) hx hb dP_placeOfFoe_9 (by decide) (fun c_1 => absurd c_1 (by rw [hc]; exact nI_ge (by omega) (by omega))) (fun c_1 => ?_)
    refine lv_aload_n hx hb dP_placeOfFoe_12 rfl (lv_at hl 2 rfl) ?_
    refine va_get (D := D) (ci := 2) (C := RP) (T := TP) (N := 6) hx hb hT inP hown hK hP (8 + 9 * k) (cw_PT hk) rfl 2 (by decide) (hT _ wm_41) (fun _ h9 => h9) rfl dP_placeOfFoe_13 ?_
    refine lv_iload_n hx hb dP_placeOfFoe_16 rfl (lv_at hl 0 rfl) ?_
    refine lv_ishr hx hb dP_placeOfFoe_17 ?_
    refine lv_iconst (v := 1) hx hb dP_placeOfFoe_18 (by decide) ?_
    refine lv_iand hx hb dP_placeOfFoe_19 ?_
    refine lv_if_eq (tgt := 33) hx hb dP_placeOfFoe_20 (by decide) (fun c_2 => ?_) (fun c_2 => ?_)
    · refine lv_iinc (v := nI (i + 1)) (lv' := [(3, .int (nI (i + 1))), (2, .int (nI q)), (0, .ref (ad (8 + 9 * k))), (1, .int x)]) hx hb dP_placeOfFoe_33 hl (k := 0) rfl (nI_1 _) (by decide) rfl (fun ls hl => ?_)
      refine lv_goto (tgt := 4) hx hb dP_placeOfFoe_36 (by decide) ?_
      exact ih (i + 1) q (by omega) (by omega) (fun r hr => kx r (by rw [hr, pof, if_pos ((shb m9 i hm (by omega)).mp (by rw [← hg]; exact c_2))])) ls (lv_sub hl [0, 1, 2, 3] rfl)
    · refine lv_iload_n hx hb dP_placeOfFoe_23 rfl (lv_at hl 1 rfl) ?_
      refine lv_iload_n hx hb dP_placeOfFoe_24 rfl (lv_at hl 3 rfl) ?_
      refine lv_icmp_ne (tgt := 30) hx hb dP_placeOfFoe_25 (by decide) (fun c_3 => ?_) (fun c_3 => ?_)
      · refine lv_iinc (v := nI (q + 1)) (lv' := [(2, .int (nI (q + 1))), (3, .int (nI i)), (0, .ref (ad (8 + 9 * k))), (1, .int x)]) hx hb dP_placeOfFoe_30 hl (k := 1) rfl (nI_1 _) (by decide) rfl (fun ls hl => ?_)
        refine lv_iinc (v := nI (i + 1)) (lv' := [(3, .int (nI (i + 1))), (2, .int (nI (q + 1))), (0, .ref (ad (8 + 9 * k))), (1, .int x)]) hx hb dP_placeOfFoe_33 hl (k := 1) rfl (nI_1 _) (by decide) rfl (fun ls hl => ?_)
        refine lv_goto (tgt := 4) hx hb dP_placeOfFoe_36 (by decide) ?_
        exact ih (i + 1) (q + 1) (by omega) (by omega) (fun r hr => kx r (by rw [hr, pof, if_neg (fun z => c_2 (by rw [hg]; exact (shb m9 i hm (by omega)).mpr z)), if_neg c_3])) ls (lv_sub hl [0, 1, 2, 3] rfl)
      · refine lv_iload_n hx hb dP_placeOfFoe_28 rfl (lv_at hl 0 rfl) ?_
        exact (kx _ (by rw [pof, if_neg (fun z => c_2 (by rw [hg]; exact (shb m9 i hm (by omega)).mpr z)), if_pos c_3])).2 ls
set_option maxHeartbeats 4000000 in
set_option maxRecDepth 100000 in
theorem kP_placeOfFoe (l : Launch) (D : va_G) (CA : Nat → ClassId) (g : Nat → Nat → Int32) (h : Nat → Nat → Nat) (ad : Nat → Nat) (sz : Nat) (k : Nat) (hk : k < 6) (x : Int32) (c9 m9 : Nat) (hc : g (8 + 9 * k) 1 = nI c9) (hc12 : c9 < 13) (hg : g (8 + 9 * k) 2 = nI m9) (hm : m9 < 4096) : Met l yP_placeOfFoe wP_placeOfFoe (rm 0 0 0) (va_Pc [.ref (ad (8 + 9 * k)), .int x] (gpre D (cty CA) (cw CA g h ad) sz)) (va_Qi (fun r (u : Nat → Nat → Int32) => r = pof m9 x c9 0 0 ∧ u = g) (fun u t => gpost D (cty CA) (cw CA u h ad) (cA h ad sz) t) (cA h ad sz)) 0 0 (cA h ad sz) := by
  refine Met.ofW (cc := cP_placeOfFoe) (maxL := 4) (ret := (some .int)) (by decide) rfl ?_
  intro p e s m args below meth c s₁ B hml hv
  obtain ⟨rfl, hsz, hP, hK, hD0⟩ := hv
  have hx := B.exec
  have hb := B.bytes
  have hr := B.returns
  have hT : ∀ w ∈ TB, w.before _ s = true := fun w hw => atoms_spec (ws := wP_placeOfFoe) B.pre w (List.mem_cons_of_mem _ hw)
  have hown : s.vm.findClass "CountLeast$Parting" = some m.cls := findClass_of_methodNamed B.named
  have hlocks := B.notSynchronized
  subst hsz
  have hD := nA_self (sz := s.heap.size) hD0
  have hS : va_S (cA h ad s.heap.size) s.heap s.heap [] := va_S.rf
  have hP : va_P D vwCl (cw CA g h ad) s.heap := hP
  have hl := lv_entry ([.ref (ad (8 + 9 * k)), .int x]) (n := 4) (Nat.le_of_ble_eq_true rfl)
  rw [lg_entry_eq]
  generalize (lg_sl ([.ref (ad (8 + 9 * k)), .int x]) ++ List.replicate (4 - (lg_sl ([.ref (ad (8 + 9 * k)), .int x])).length) Slot.unset).toArray = ls at hl ⊢
  have hl : lv_has ls 4 [(0, .ref (ad (8 + 9 * k))), (1, .int x)] := hl
  refine lv_iconst (v := 0) hx hb dP_placeOfFoe_0 (by decide) ?_
  refine lv_istore_n (lv' := [(2, .int 0), (0, .ref (ad (8 + 9 * k))), (1, .int x)]) hx hb dP_placeOfFoe_1 rfl hl (by decide) rfl (fun ls hl => ?_)
  refine lv_iconst (v := 0) hx hb dP_placeOfFoe_2 (by decide) ?_
  refine lv_istore_n (lv' := [(3, .int 0), (2, .int 0), (0, .ref (ad (8 + 9 * k))), (1, .int x)]) hx hb dP_placeOfFoe_3 rfl hl (by decide) rfl (fun ls hl => ?_)
  refine loP_placeOfFoe hk hc hc12 hg hm hx hb hml hown hT hK hP c9 0 0 (by omega) (Nat.le_refl _) (fun r9 hr9 => ?_) ls (lv_sub hl [0, 1, 2, 3] rfl)
  refine ⟨fun ls => ?_, fun ls => ?_⟩
  · exact W.iret (v := r9) hx hb hr (fun t ht hW => ⟨⟨_, g, rfl, ⟨hr9, rfl⟩, gpost_at hP hK hD ht hW.alike⟩, hS.F ht⟩) hS.2.2 dP_placeOfFoe_40
  · exact W.iret (v := r9) hx hb hr (fun t ht hW => ⟨⟨_, g, rfl, ⟨hr9, rfl⟩, gpost_at hP hK hD ht hW.alike⟩, hS.F ht⟩) hS.2.2 dP_placeOfFoe_29
end
section
/-! bits of numbers -/
theorem nz_and (a b : Nat) : nI a &&& nI b = nI (a &&& b) := by
  apply Int32.toBitVec_inj.mp
  show BitVec.ofNat 32 a &&& BitVec.ofNat 32 b = BitVec.ofNat 32 (a &&& b)
  apply BitVec.eq_of_toNat_eq
  simp [Nat.and_mod_two_pow]
theorem nz_or (a b : Nat) : nI a ||| nI b = nI (a ||| b) := by
  apply Int32.toBitVec_inj.mp
  show BitVec.ofNat 32 a ||| BitVec.ofNat 32 b = BitVec.ofNat 32 (a ||| b)
  apply BitVec.eq_of_toNat_eq
  simp [Nat.or_mod_two_pow]
theorem nz_xor (a b : Nat) : nI a ^^^ nI b = nI (a ^^^ b) := by
  apply Int32.toBitVec_inj.mp
  show BitVec.ofNat 32 a ^^^ BitVec.ofNat 32 b = BitVec.ofNat 32 (a ^^^ b)
  apply BitVec.eq_of_toNat_eq
  simp [Nat.xor_mod_two_pow]
theorem nz_sh : ∀ i, i < 13 → (1 : Int32) <<< (nI i &&& 31) = nI (2 ^ i) := by decide +kernel
def clr (m i : Nat) : Nat := m &&& (2 ^ i ^^^ (2 ^ 32 - 1))
theorem nz_clr (m i : Nat) : nI m &&& (nI (2 ^ i) ^^^ -1) = nI (clr m i) := by
  rw [show (-1 : Int32) = nI (2 ^ 32 - 1) from by decide, nz_xor, nz_and]; rfl
theorem clr_le (m i : Nat) : clr m i ≤ m := Nat.and_le_left
theorem or_lt {a b : Nat} (ha : a < 4096) (hb : b < 4096) : a ||| b < 4096 := Nat.or_lt_two_pow (n := 12) ha hb
theorem and_lt {a b : Nat} (ha : a < 4096) : a &&& b < 4096 := Nat.lt_of_le_of_lt Nat.and_le_left ha
theorem pw_lt {i : Nat} (h : i < 12) : 2 ^ i < 4096 := Nat.pow_lt_pow_right (by decide) (show i < 12 from h)
theorem and_pw {m i : Nat} : m &&& 2 ^ i = 0 ↔ m.testBit i = false := by
  constructor
  · intro h
    have h1 : (m &&& 2 ^ i).testBit i = false := by rw [h]; exact Nat.zero_testBit i
    rw [Nat.testBit_and, Nat.testBit_two_pow_self] at h1
    simpa using h1
  · intro h
    apply Nat.eq_of_testBit_eq
    intro j
    rw [Nat.testBit_and, Nat.zero_testBit]
    by_cases hj : i = j
    · subst hj; simp [h]
    · rw [Nat.testBit_two_pow_of_ne hj]; simp
theorem nz_bit {m i : Nat} (hm : m < 4096) : nI (m &&& 2 ^ i) = 0 ↔ m.testBit i = false := by
  have h1 : m &&& 2 ^ i < 4096 := and_lt hm
  rw [show (0 : Int32) = nI 0 from rfl, nI_eq (by omega) (by decide)]
  exact and_pw
theorem pop_le (m : Nat) : pop m ≤ 12 := by
  unfold pop
  exact Nat.le_trans (List.length_filter_le _ _) (by simp)
theorem u2_u2 {g : Nat → Nat → Int32} {i j : Nat} {v w : Int32} : u2 (u2 g i j v) i j w = u2 g i j w := by
  funext a b
  by_cases h : a = i ∧ b = j <;> simp [u2, h]
/-! the greatest set of foes, as the class seeks it -/
def grL (rec : Nat → Nat → Nat → Nat → Nat) (n : Nat) (fo : Nat → Nat) (size chosen : Nat) : Nat → Nat → Nat → Nat → Nat
  | 0, _, _, best => best
  | f + 1, i, left, best =>
    if size + pop left ≤ pop best then best
    else if left.testBit i = true ∧ size < n then grL rec n fo size chosen f (i + 1) (clr left i) (rec (size + 1) (chosen ||| 2 ^ i) (clr left i &&& fo i) best)
    else grL rec n fo size chosen f (i + 1) left best
def gr (n : Nat) (fo : Nat → Nat) : Nat → Nat → Nat → Nat → Nat → Nat
  | 0, _, _, _, best => best
  | d + 1, size, chosen, opn, best => grL (gr n fo d) n fo size chosen n 0 opn (if pop best < size then chosen else best)
theorem grL_lt {rec : Nat → Nat → Nat → Nat → Nat} {n : Nat} {fo : Nat → Nat} {size chosen : Nat} (hr : ∀ a b c d, b < 4096 → d < 4096 → rec a b c d < 4096) (hc : chosen < 4096) (hn : n < 13) : ∀ f i left best, i + f = n → best < 4096 → grL rec n fo size chosen f i left best < 4096 := by
  intro f
  induction f with
  | zero => intro i left best _ hb; exact hb
  | succ f ih =>
    intro i left best hi hb
    unfold grL
    split
    · exact hb
    · split
      · exact ih _ _ _ (by omega) (hr _ _ _ _ (or_lt hc (pw_lt (by omega))) hb)
      · exact ih _ _ _ (by omega) hb
theorem gr_lt {n : Nat} {fo : Nat → Nat} (hn : n < 13) : ∀ d size chosen opn best, chosen < 4096 → best < 4096 → gr n fo d size chosen opn best < 4096 := by
  intro d
  induction d with
  | zero => intro _ _ _ _ _ hb; exact hb
  | succ d ih =>
    intro size chosen opn best hc hb
    unfold gr
    exact grL_lt (fun a b c d => ih a b c d) hc hn _ _ _ _ (by omega) (by split <;> assumption)
set_option maxHeartbeats 4000000 in
set_option maxRecDepth 100000 in
theorem loP_growFoes {p : Program} {l : Launch} {e : Env} {s : State} {m : MethodId} {args : Array Value} {below : List Frame} {meth : Method} {c : Code} {Q : State → Prop} {D : va_G} {CA : Nat → ClassId} {g : Nat → Nat → Int32} {h : Nat → Nat → Nat} {ad : Nat → Nat} {k : Nat} (hk : k < 6) {n : Nat} (hn : n < 13) {fo : Nat → Nat} (hfo : ∀ i, i < 12 → fo i < 4096) (hc : g (8 + 9 * k) 1 = nI n) (hfg : ∀ i, i < 12 → g (9 + 9 * k) i = nI (fo i)) {d size chosen : Nat} (hs : size ≤ n) (hd : n < d + 1 + size) (hch : chosen < 4096) (IH : ∀ size chosen opn best sz, size ≤ n → n < d + size → chosen < 4096 → opn < 4096 → best < 4096 → Met l yP_growFoes wP_growFoes (rm (1 + d) 0 0) (va_Pc [.ref (ad (8 + 9 * k)), .int (nI size), .int (nI chosen), .int (nI opn)] (gpre D (cty CA) (cw CA (u2 g (8 + 9 * k) 2 (nI best)) h ad) sz)) (va_Qv (fun u : Nat => u = gr n fo d size chosen opn best) (fun u t => gpost D (cty CA) (cw CA (u2 g (8 + 9 * k) 2 (nI u)) h ad) (cA h ad sz) t) (cA h ad sz)) 0 0 (cA h ad sz)) (hx : p.tables.exec = Jvm.exec) (hb : c.code = cP_growFoes) (hml : c.maxLocals = 7) (hown : s.vm.findClass "CountLeast$Parting" = some m.cls) (hT : ∀ w ∈ TB, w.before args s = true) (hK : va_K D vwCl (cty CA) s) :
    ∀ (f i left best : Nat), i + f = n → left < 4096 → best < 4096 → (∀ (H : Heap) (locs : List Loc), va_P D vwCl (cw CA (u2 g (8 + 9 * k) 2 (nI (grL (gr n fo d) n fo size chosen f i left best))) h ad) H → va_D (cA h ad s.heap.size) (cw CA (u2 g (8 + 9 * k) 2 (nI (grL (gr n fo d) n fo size chosen f i left best))) h ad) → va_S (cA h ad s.heap.size) s.heap H locs → ∀ ls, lv_has ls 7 [(0, .ref (ad (8 + 9 * k)))] → W p l e (rm (1 + (d + 1)) 0 0) s m args below meth c H locs 0 0 Q (F0 m 106 ls [])) → ∀ (H : Heap) (locs : List Loc), va_P D vwCl (cw CA (u2 g (8 + 9 * k) 2 (nI best)) h ad) H → va_D (cA h ad s.heap.size) (cw CA (u2 g (8 + 9 * k) 2 (nI best)) h ad) → va_S (cA h ad s.heap.size) s.heap H locs → ∀ ls, lv_has ls 7 [(5, .int (nI i)), (4, .int (nI left)), (0, .ref (ad (8 + 9 * k))), (1, .int (nI size)), (2, .int (nI chosen))] → W p l e (rm (1 + (d + 1)) 0 0) s m args below meth c H locs 0 0 Q (F0 m 22 ls []) := by
  intro f
  induction f with
  | zero =>
    intro i left best hi hle hbs kx H locs hP hD hS ls hl
    have hi : i = n := by omega
    subst hi
    refine lv_iload hx hb dP_growFoes_22 (lv_at hl 0 rfl) ?_
    refine lv_aload_n hx hb dP_growFoes_24 rfl (lv_at hl 2 rfl) ?_
    refine va_get (D := D) (ci := 2) (C := RP) (T := TP) (N := 6) hx hb hT inP hown hK hP (8 + 9 * k) (cw_PT hk) rfl 1 (by decide) (hT _ wm_40) (fun _ h9 => h9) rfl dP_growFoes_25 ?_
    refine W.eq (g2 := F0 m 28 ls [.int (nI i), .int (nI i)]) (by rw [u2_m (show (1 : Nat) ≠ 2 by decide), hc]) ?_
    refine lv_icmp_ge (tgt := 106) hx hb dP_growFoes_28 (by decide) (fun c_1 => ?_) (fun c_1 => absurd (nI_le (Nat.le_refl _) (by omega)) c_1)
    exact kx H locs hP hD hS ls (lv_sub hl [2] rfl)
  | succ f ih =>
    intro i left best hi hle hbs kx H locs hP hD hS ls hl
    refine lv_iload hx hb dP_growFoes_22 (lv_at hl 0 rfl) ?_
    refine lv_aload_n hx hb dP_growFoes_24 rfl (lv_at hl 2 rfl) ?_
    refine va_get (D := D) (ci := 2) (C := RP) (T := TP) (N := 6) hx hb hT inP hown hK hP (8 + 9 * k) (cw_PT hk) rfl 1 (by decide) (hT _ wm_40) (fun _ h9 => h9) rfl dP_growFoes_25 ?_
    refine W.eq (g2 := F0 m 28 ls [.int (nI n), .int (nI i)]) (by rw [u2_m (show (1 : Nat) ≠ 2 by decide), hc]) ?_
    refine lv_icmp_ge (tgt := 106) hx hb dP_growFoes_28 (by decide) (fun c_1 => absurd c_1 (nI_ge (by omega) (by omega))) (fun c_1 => ?_)
    refine lv_iload_n hx hb dP_growFoes_31 rfl (lv_at hl 3 rfl) ?_
    refine lv_iload hx hb dP_growFoes_32 (lv_at hl 1 rfl) ?_
    refine kSi (n := 1) (D := D) (As := [.int (nI left)]) (rest := [.int (nI size)]) ⟨hx, hb, hml, hown, hT⟩ (kI_bitCount l left hle) (gi_S wm_390 wm_391 wm_13 wm_392) rfl rfl (by decide +kernel) ⟨(by simp only [headSpec, rm]; omega), (by simp only [headSpec, rm]; omega)⟩ hP hS rfl hl.1 rfl (Nat.le_of_ble_eq_true rfl) dP_growFoes_34 ⟨(Nat.le_of_ble_eq_true rfl), (Nat.le_of_ble_eq_true rfl)⟩ (fun r_2 H locs e_3 hz hP hS => ?_)
    subst e_3
    refine lv_iadd hx hb dP_growFoes_37 ?_
    refine W.eq (g2 := F0 m 38 ls [.int (nI (size + pop left))]) (by rw [nI_add]) ?_
    refine lv_aload_n hx hb dP_growFoes_38 rfl (lv_at hl 2 rfl) ?_
    refine va_get (D := D) (ci := 2) (C := RP) (T := TP) (N := 6) hx hb hT inP hown hK hP (8 + 9 * k) (cw_PT hk) rfl 2 (by decide) (hT _ wm_41) (fun _ h9 => h9) rfl dP_growFoes_39 ?_
    refine W.eq (g2 := F0 m 42 ls [.int (nI best), .int (nI (size + pop left))]) (by rw [u2_s]) ?_
    refine kSi (n := 1) (D := D) (As := [.int (nI best)]) (rest := [.int (nI (size + pop left))]) ⟨hx, hb, hml, hown, hT⟩ (kI_bitCount l best hbs) (gi_S wm_390 wm_391 wm_13 wm_392) rfl rfl (by decide +kernel) ⟨(by simp only [headSpec, rm]; omega), (by simp only [headSpec, rm]; omega)⟩ hP hS rfl hl.1 rfl (Nat.le_of_ble_eq_true rfl) dP_growFoes_42 ⟨(Nat.le_of_ble_eq_true rfl), (Nat.le_of_ble_eq_true rfl)⟩ (fun r_4 H locs e_5 hz hP hS => ?_)
    subst e_5
    refine lv_icmp_le (tgt := 106) hx hb dP_growFoes_45 (by decide) (fun c_6 => ?_) (fun c_6 => ?_)
    · have hbb : size + pop left ≤ pop best := (nI_leI (by have := pop_le left; omega) (by have := pop_le best; omega)).mp c_6
      exact kx H locs (by rw [grL, if_pos hbb]; exact hP) (by rw [grL, if_pos hbb]; exact hD) hS ls (lv_sub hl [2] rfl)
    · have hnb : ¬ size + pop left ≤ pop best := fun z => c_6 (nI_le z (by have := pop_le best; omega))
      refine lv_iconst (v := 1) hx hb dP_growFoes_48 (by decide) ?_
      refine lv_iload hx hb dP_growFoes_49 (lv_at hl 0 rfl) ?_
      refine lv_ishl hx hb dP_growFoes_51 ?_
      refine W.eq (g2 := F0 m 52 ls [.int (nI (2 ^ i))]) (by rw [nz_sh i (by omega)]) ?_
      refine lv_istore (lv' := [(6, .int (nI (2 ^ i))), (5, .int (nI i)), (4, .int (nI left)), (0, .ref (ad (8 + 9 * k))), (1, .int (nI size)), (2, .int (nI chosen))]) hx hb dP_growFoes_52 hl (by decide) rfl (fun ls hl => ?_)
      refine lv_iload hx hb dP_growFoes_54 (lv_at hl 2 rfl) ?_
      refine lv_iload hx hb dP_growFoes_56 (lv_at hl 0 rfl) ?_
      refine lv_iand hx hb dP_growFoes_58 ?_
      refine W.eq (g2 := F0 m 59 ls [.int (nI (left &&& 2 ^ i))]) (by rw [nz_and]) ?_
      refine lv_if_eq (tgt := 100) hx hb dP_growFoes_59 (by decide) (fun c_7 => ?_) (fun c_7 => ?_)
      · refine lv_iinc (v := nI (i + 1)) (lv' := [(5, .int (nI (i + 1))), (6, .int (nI (2 ^ i))), (4, .int (nI left)), (0, .ref (ad (8 + 9 * k))), (1, .int (nI size)), (2, .int (nI chosen))]) hx hb dP_growFoes_100 hl (k := 1) rfl (nI_1 _) (by decide) rfl (fun ls hl => ?_)
        refine lv_goto (tgt := 22) hx hb dP_growFoes_103 (by decide) ?_
        exact ih (i + 1) left best (by omega) hle hbs (fun H locs hP hD hS ls hl => kx H locs (by rw [grL, if_neg hnb, if_neg (fun z => by rw [(nz_bit hle).mp c_7] at z; cases z.1)]; exact hP) (by rw [grL, if_neg hnb, if_neg (fun z => by rw [(nz_bit hle).mp c_7] at z; cases z.1)]; exact hD) hS ls hl) H locs hP hD hS ls (lv_sub hl [0, 2, 3, 4, 5] rfl)
      · refine lv_iload_n hx hb dP_growFoes_62 rfl (lv_at hl 4 rfl) ?_
        refine lv_aload_n hx hb dP_growFoes_63 rfl (lv_at hl 3 rfl) ?_
        refine va_get (D := D) (ci := 2) (C := RP) (T := TP) (N := 6) hx hb hT inP hown hK hP (8 + 9 * k) (cw_PT hk) rfl 1 (by decide) (hT _ wm_40) (fun _ h9 => h9) rfl dP_growFoes_64 ?_
        refine W.eq (g2 := F0 m 67 ls [.int (nI n), .int (nI size)]) (by rw [u2_m (show (1 : Nat) ≠ 2 by decide), hc]) ?_
        refine lv_icmp_ge (tgt := 100) hx hb dP_growFoes_67 (by decide) (fun c_8 => ?_) (fun c_8 => ?_)
        · refine lv_iinc (v := nI (i + 1)) (lv' := [(5, .int (nI (i + 1))), (6, .int (nI (2 ^ i))), (4, .int (nI left)), (0, .ref (ad (8 + 9 * k))), (1, .int (nI size)), (2, .int (nI chosen))]) hx hb dP_growFoes_100 hl (k := 1) rfl (nI_1 _) (by decide) rfl (fun ls hl => ?_)
          refine lv_goto (tgt := 22) hx hb dP_growFoes_103 (by decide) ?_
          exact ih (i + 1) left best (by omega) hle hbs (fun H locs hP hD hS ls hl => kx H locs (by rw [grL, if_neg hnb, if_neg (fun z => absurd z.2 (by rw [nI_leI (by omega) (by omega)] at c_8; omega))]; exact hP) (by rw [grL, if_neg hnb, if_neg (fun z => absurd z.2 (by rw [nI_leI (by omega) (by omega)] at c_8; omega))]; exact hD) hS ls hl) H locs hP hD hS ls (lv_sub hl [0, 2, 3, 4, 5] rfl)
        · refine lv_iload hx hb dP_growFoes_70 (lv_at hl 2 rfl) ?_
          refine lv_iload hx hb dP_growFoes_72 (lv_at hl 0 rfl) ?_
          refine lv_iconst (v := (-1)) hx hb dP_growFoes_74 (by decide) ?_
          refine lv_ixor hx hb dP_growFoes_75 ?_
          refine lv_iand hx hb dP_growFoes_76 ?_
          refine W.eq (g2 := F0 m 77 ls [.int (nI (clr left i))]) (by rw [nz_clr]) ?_
          refine lv_istore (lv' := [(4, .int (nI (clr left i))), (6, .int (nI (2 ^ i))), (5, .int (nI i)), (0, .ref (ad (8 + 9 * k))), (1, .int (nI size)), (2, .int (nI chosen))]) hx hb dP_growFoes_77 hl (by decide) rfl (fun ls hl => ?_)
          refine lv_aload_n hx hb dP_growFoes_79 rfl (lv_at hl 3 rfl) ?_
          refine lv_iload_n hx hb dP_growFoes_80 rfl (lv_at hl 4 rfl) ?_
          refine lv_iconst (v := 1) hx hb dP_growFoes_81 (by decide) ?_
          refine lv_iadd hx hb dP_growFoes_82 ?_
          refine W.eq (g2 := F0 m 83 ls [.int (nI (size + 1)), .ref (ad (8 + 9 * k))]) (by rw [nI_1]) ?_
          refine lv_iload_n hx hb dP_growFoes_83 rfl (lv_at hl 5 rfl) ?_
          refine lv_iload hx hb dP_growFoes_84 (lv_at hl 1 rfl) ?_
          refine lv_ior hx hb dP_growFoes_86 ?_
          refine W.eq (g2 := F0 m 87 ls [.int (nI (chosen ||| 2 ^ i)), .int (nI (size + 1)), .ref (ad (8 + 9 * k))]) (by rw [nz_or]) ?_
          refine lv_iload hx hb dP_growFoes_87 (lv_at hl 0 rfl) ?_
          refine lv_aload_n hx hb dP_growFoes_89 rfl (lv_at hl 3 rfl) ?_
          refine va_get (D := D) (ci := 2) (C := RP) (T := TP) (N := 6) hx hb hT inP hown hK hP (8 + 9 * k) (cw_PT hk) rfl 3 (by decide) (hT _ wm_42) (fun _ h9 => h9) rfl dP_growFoes_90 ?_
          refine lv_iload hx hb dP_growFoes_93 (lv_at hl 2 rfl) ?_
          refine va_iald (D := D) hx hb hK hP (9 + 9 * k) 0 (cw_FO hk) rfl (vp_in_nI (by omega) (by decide)) dP_growFoes_95 ?_
          rw [nI_clamp (n := i) (by omega)]
          refine W.eq (g2 := F0 m 96 ls [.int (nI (fo i)), .int (nI (clr left i)), .int (nI (chosen ||| 2 ^ i)), .int (nI (size + 1)), .ref (ad (8 + 9 * k))]) (by rw [u2_n (show 9 + 9 * k ≠ 8 + 9 * k by omega), hfg i (by omega)]) ?_
          refine lv_iand hx hb dP_growFoes_96 ?_
          refine W.eq (g2 := F0 m 97 ls [.int (nI (clr left i &&& fo i)), .int (nI (chosen ||| 2 ^ i)), .int (nI (size + 1)), .ref (ad (8 + 9 * k))]) (by rw [nz_and]) ?_
          have hsn : size < n := by have := c_8; rw [nI_leI (by omega) (by omega)] at this; omega
          have hyes : left.testBit i = true ∧ size < n := ⟨by cases hq : left.testBit i with | true => rfl | false => exact absurd ((nz_bit hle).mpr hq) c_7, hsn⟩
          refine kVv (n := 3) (D := D) (wd := fun z => cw CA (u2 g (8 + 9 * k) 2 (nI z)) h ad) (A1 := fun sz => cA h ad sz) (As := [.int (nI (size + 1)), .int (nI (chosen ||| 2 ^ i)), .int (nI (clr left i &&& fo i))]) (rest := []) ⟨hx, hb, hml, hown, hT⟩ (IH (size + 1) (chosen ||| 2 ^ i) (clr left i &&& fo i) best H.size (by omega) (by omega) (or_lt hch (pw_lt (by omega))) (and_lt (Nat.lt_of_le_of_lt (clr_le _ _) hle)) hbs) (gi_V wm_386 wm_388 wp_6 wm_3 wm_389) rfl rfl (by decide +kernel) ⟨(by simp only [headSpec, rm]; omega), (by simp only [headSpec, rm]; omega)⟩ (va_recv hK hP (ci := 2) (q0 := 8 + 9 * k) rfl (cw_PT hk)) hK hP hD hS (fun _ h9 => h9) (nA_mono hS.1) rfl hl.1 rfl (Nat.le_of_ble_eq_true rfl) dP_growFoes_97 ⟨(Nat.le_of_ble_eq_true rfl), (Nat.le_of_ble_eq_true rfl)⟩ (fun u9 H locs hu9 hz hP hD hS => ?_)
          subst hu9
          have hbn := gr_lt (fo := fo) hn d (size + 1) (chosen ||| 2 ^ i) (clr left i &&& fo i) best (or_lt hch (pw_lt (by omega))) hbs
          refine lv_iinc (v := nI (i + 1)) (lv' := [(5, .int (nI (i + 1))), (4, .int (nI (clr left i))), (6, .int (nI (2 ^ i))), (0, .ref (ad (8 + 9 * k))), (1, .int (nI size)), (2, .int (nI chosen))]) hx hb dP_growFoes_100 hl (k := 2) rfl (nI_1 _) (by decide) rfl (fun ls hl => ?_)
          refine lv_goto (tgt := 22) hx hb dP_growFoes_103 (by decide) ?_
          exact ih (i + 1) (clr left i) _ (by omega) (Nat.lt_of_le_of_lt (clr_le _ _) hle) hbn (fun H locs hP hD hS ls hl => kx H locs (by rw [grL, if_neg hnb, if_pos hyes]; exact hP) (by rw [grL, if_neg hnb, if_pos hyes]; exact hD) hS ls hl) H locs hP hD hS ls (lv_sub hl [0, 1, 3, 4, 5] rfl)
set_option maxHeartbeats 4000000 in
set_option maxRecDepth 100000 in
theorem kP_growFoes (l : Launch) {D : va_G} {CA : Nat → ClassId} {g : Nat → Nat → Int32} {h : Nat → Nat → Nat} {ad : Nat → Nat} {k : Nat} (hk : k < 6) {n : Nat} (hn : n < 13) {fo : Nat → Nat} (hfo : ∀ i, i < 12 → fo i < 4096) (hc : g (8 + 9 * k) 1 = nI n) (hfg : ∀ i, i < 12 → g (9 + 9 * k) i = nI (fo i)) : ∀ (d size chosen opn best sz : Nat), size ≤ n → n < d + size → chosen < 4096 → opn < 4096 → best < 4096 → Met l yP_growFoes wP_growFoes (rm (1 + d) 0 0) (va_Pc [.ref (ad (8 + 9 * k)), .int (nI size), .int (nI chosen), .int (nI opn)] (gpre D (cty CA) (cw CA (u2 g (8 + 9 * k) 2 (nI best)) h ad) sz)) (va_Qv (fun u : Nat => u = gr n fo d size chosen opn best) (fun u t => gpost D (cty CA) (cw CA (u2 g (8 + 9 * k) 2 (nI u)) h ad) (cA h ad sz) t) (cA h ad sz)) 0 0 (cA h ad sz) := by
  intro d
  induction d with
  | zero => intro size chosen opn best sz hs hd; exact absurd hd (by omega)
  | succ d IH =>
    intro size chosen opn best sz hs hd hch hop hbs
    refine Met.ofW (cc := cP_growFoes) (maxL := 7) (ret := none) (by decide) rfl ?_
    intro p e s m args below meth c s₁ B hml hv
    obtain ⟨rfl, hsz, hP, hK, hD0⟩ := hv
    have hx := B.exec
    have hb := B.bytes
    have hr := B.returns
    have hT : ∀ w ∈ TB, w.before _ s = true := fun w hw => atoms_spec (ws := wP_growFoes) B.pre w (List.mem_cons_of_mem _ hw)
    have hown : s.vm.findClass "CountLeast$Parting" = some m.cls := findClass_of_methodNamed B.named
    have hlocks := B.notSynchronized
    subst hsz
    have hD := nA_self (sz := s.heap.size) hD0
    have hS : va_S (cA h ad s.heap.size) s.heap s.heap [] := va_S.rf
    have hP : va_P D vwCl (cw CA (u2 g (8 + 9 * k) 2 (nI best)) h ad) s.heap := hP
    have hl := lv_entry ([.ref (ad (8 + 9 * k)), .int (nI size), .int (nI chosen), .int (nI opn)]) (n := 7) (Nat.le_of_ble_eq_true rfl)
    rw [lg_entry_eq]
    generalize (lg_sl ([.ref (ad (8 + 9 * k)), .int (nI size), .int (nI chosen), .int (nI opn)]) ++ List.replicate (7 - (lg_sl ([.ref (ad (8 + 9 * k)), .int (nI size), .int (nI chosen), .int (nI opn)])).length) Slot.unset).toArray = ls at hl ⊢
    have hl : lv_has ls 7 [(0, .ref (ad (8 + 9 * k))), (1, .int (nI size)), (2, .int (nI chosen)), (3, .int (nI opn))] := hl
    refine lv_iload_n hx hb dP_growFoes_0 rfl (lv_at hl 1 rfl) ?_
    refine lv_aload_n hx hb dP_growFoes_1 rfl (lv_at hl 0 rfl) ?_
    refine va_get (D := D) (ci := 2) (C := RP) (T := TP) (N := 6) hx hb hT inP hown hK hP (8 + 9 * k) (cw_PT hk) rfl 2 (by decide) (hT _ wm_41) (fun _ h9 => h9) rfl dP_growFoes_2 ?_
    refine W.eq (g2 := F0 m 5 ls [.int (nI best), .int (nI size)]) (by rw [u2_s]) ?_
    refine kSi (n := 1) (D := D) (As := [.int (nI best)]) (rest := [.int (nI size)]) ⟨hx, hb, hml, hown, hT⟩ (kI_bitCount l best hbs) (gi_S wm_390 wm_391 wm_13 wm_392) rfl rfl (by decide +kernel) ⟨(by simp only [headSpec, rm]; omega), (by simp only [headSpec, rm]; omega)⟩ hP hS rfl hl.1 rfl (Nat.le_of_ble_eq_true rfl) dP_growFoes_5 ⟨(Nat.le_of_ble_eq_true rfl), (Nat.le_of_ble_eq_true rfl)⟩ (fun r_1 H locs e_2 hz hP hS => ?_)
    subst e_2
    refine lv_icmp_le (tgt := 16) hx hb dP_growFoes_8 (by decide) (fun c_3 => ?_) (fun c_3 => ?_)
    · have hif : (if pop best < size then chosen else best) = best := if_neg (by have := c_3; rw [nI_leI (by have := hs; omega) (by have := pop_le best; omega)] at this; omega)
      refine lv_iload_n hx hb dP_growFoes_16 rfl (lv_at hl 3 rfl) ?_
      refine lv_istore (lv' := [(4, .int (nI opn)), (0, .ref (ad (8 + 9 * k))), (1, .int (nI size)), (2, .int (nI chosen)), (3, .int (nI opn))]) hx hb dP_growFoes_17 hl (by decide) rfl (fun ls hl => ?_)
      refine lv_iconst (v := 0) hx hb dP_growFoes_19 (by decide) ?_
      refine lv_istore (lv' := [(5, .int 0), (4, .int (nI opn)), (0, .ref (ad (8 + 9 * k))), (1, .int (nI size)), (2, .int (nI chosen)), (3, .int (nI opn))]) hx hb dP_growFoes_20 hl (by decide) rfl (fun ls hl => ?_)
      refine loP_growFoes hk hn hfo hc hfg hs (by omega) hch IH hx hb hml hown hT hK n 0 opn best (by omega) hop hbs (fun H locs hP hD hS ls hl => ?_) H locs hP hD hS ls (lv_sub hl [0, 1, 2, 3, 4] rfl)
      exact W.vret hx hb hr (fun t ht hW => ⟨⟨(grL (gr n fo d) n fo size chosen n 0 opn best), rfl, by rw [gr, hif], gpost_at hP hK hD ht hW.alike⟩, hS.F ht⟩) hS.2.2 dP_growFoes_106
    · refine lv_aload_n hx hb dP_growFoes_11 rfl (lv_at hl 0 rfl) ?_
      refine lv_iload_n hx hb dP_growFoes_12 rfl (lv_at hl 2 rfl) ?_
      refine va_put (D := D) (ci := 2) (v := .int (nI chosen)) (ty := .int) (C := RP) (T := TP) (N := 6) hx hb hT inP tyP tyokP nmP hown hK hP hD hS (8 + 9 * k) (cw_PT hk) rfl 2 (by decide) (hT _ wm_41) (fun _ h9 => h9) rfl (by decide +kernel) rfl rfl (Nat.le_of_ble_eq_true rfl) dP_growFoes_13 (fun H locs hP hD hS => ?_)
      rw [cw_sP hk (by simp)] at hP hD
      rw [u2_u2] at hP hD
      have hif : (if pop best < size then chosen else best) = chosen := if_pos (by have := c_3; rw [nI_leI (by have := hs; omega) (by have := pop_le best; omega)] at this; omega)
      refine lv_iload_n hx hb dP_growFoes_16 rfl (lv_at hl 3 rfl) ?_
      refine lv_istore (lv' := [(4, .int (nI opn)), (0, .ref (ad (8 + 9 * k))), (1, .int (nI size)), (2, .int (nI chosen)), (3, .int (nI opn))]) hx hb dP_growFoes_17 hl (by decide) rfl (fun ls hl => ?_)
      refine lv_iconst (v := 0) hx hb dP_growFoes_19 (by decide) ?_
      refine lv_istore (lv' := [(5, .int 0), (4, .int (nI opn)), (0, .ref (ad (8 + 9 * k))), (1, .int (nI size)), (2, .int (nI chosen)), (3, .int (nI opn))]) hx hb dP_growFoes_20 hl (by decide) rfl (fun ls hl => ?_)
      refine loP_growFoes hk hn hfo hc hfg hs (by omega) hch IH hx hb hml hown hT hK n 0 opn chosen (by omega) hop hch (fun H locs hP hD hS ls hl => ?_) H locs hP hD hS ls (lv_sub hl [0, 1, 2, 3, 4] rfl)
      exact W.vret hx hb hr (fun t ht hW => ⟨⟨(grL (gr n fo d) n fo size chosen n 0 opn chosen), rfl, by rw [gr, hif], gpost_at hP hK hD ht hW.alike⟩, hS.F ht⟩) hS.2.2 dP_growFoes_106
end
section
/-! the parting into sets, as the class seeks it: im the sets' places, so the places' sets -/
def gf (k : Nat) (g : Nat → Nat → Int32) (im so : Nat → Nat) : Nat → Nat → Int32 := fun a b => if a = 11 + 9 * k then nI (im b) else if a = 10 + 9 * k then nI (so b) else g a b
theorem gf_i {k : Nat} {g : Nat → Nat → Int32} {im so : Nat → Nat} {b : Nat} : gf k g im so (11 + 9 * k) b = nI (im b) := by simp [gf]
theorem gf_s {k : Nat} {g : Nat → Nat → Int32} {im so : Nat → Nat} {b : Nat} : gf k g im so (10 + 9 * k) b = nI (so b) := by
  simp [gf, show ¬ 10 + 9 * k = 11 + 9 * k by omega]
theorem gf_o {k : Nat} {g : Nat → Nat → Int32} {im so : Nat → Nat} {a b : Nat} (h1 : a ≠ 11 + 9 * k) (h2 : a ≠ 10 + 9 * k) : gf k g im so a b = g a b := by simp [gf, h1, h2]
theorem gf_ui {k : Nat} {g : Nat → Nat → Int32} {im so : Nat → Nat} {c v : Nat} : u2 (gf k g im so) (11 + 9 * k) c (nI v) = gf k g (va_up im c v) so := by
  funext a b
  by_cases h1 : a = 11 + 9 * k
  · subst h1
    by_cases h2 : b = c <;> simp [u2, gf, va_up, h2]
  · simp [u2, gf, h1]
theorem gf_us {k : Nat} {g : Nat → Nat → Int32} {im so : Nat → Nat} {c v : Nat} : u2 (gf k g im so) (10 + 9 * k) c (nI v) = gf k g im (va_up so c v) := by
  funext a b
  by_cases h1 : a = 11 + 9 * k
  · subst h1
    simp [u2, gf, show ¬ 11 + 9 * k = 10 + 9 * k by omega]
  · by_cases h2 : a = 10 + 9 * k
    · subst h2
      by_cases h3 : b = c <;> simp [u2, gf, va_up, h3, h1]
    · simp [u2, gf, h1, h2]
def flL (rec : Nat → Nat → (Nat → Nat) → (Nat → Nat) → Bool × (Nat → Nat) × (Nat → Nat)) (fo : Nat → Nat) (pl us : Nat) : Nat → Nat → (Nat → Nat) → (Nat → Nat) → Bool × (Nat → Nat) × (Nat → Nat)
  | 0, _, im, so => (false, im, so)
  | f + 1, c, im, so =>
    if im c &&& fo pl = 0 then
      if (rec (pl + 1) (max us (c + 1)) (va_up im c (im c ||| 2 ^ pl)) (va_up so pl c)).1 = true then rec (pl + 1) (max us (c + 1)) (va_up im c (im c ||| 2 ^ pl)) (va_up so pl c)
      else flL rec fo pl us f (c + 1) (va_up (rec (pl + 1) (max us (c + 1)) (va_up im c (im c ||| 2 ^ pl)) (va_up so pl c)).2.1 c (clr ((rec (pl + 1) (max us (c + 1)) (va_up im c (im c ||| 2 ^ pl)) (va_up so pl c)).2.1 c) pl)) (rec (pl + 1) (max us (c + 1)) (va_up im c (im c ||| 2 ^ pl)) (va_up so pl c)).2.2
    else flL rec fo pl us f (c + 1) im so
def fl (n K : Nat) (fo : Nat → Nat) : Nat → Nat → Nat → (Nat → Nat) → (Nat → Nat) → Bool × (Nat → Nat) × (Nat → Nat)
  | 0, _, _, im, so => (false, im, so)
  | d + 1, pl, us, im, so => if n ≤ pl then (true, im, so) else flL (fl n K fo d) fo pl us (min (us + 1) (min K 12)) 0 im so
def iok (im : Nat → Nat) : Prop := ∀ j, j < 12 → im j < 4096
theorem iok_up {im : Nat → Nat} {c v : Nat} (h : iok im) (hv : v < 4096) : iok (va_up im c v) := by
  intro j hj
  by_cases hjc : j = c
  · subst hjc; rw [va_up_self]; exact hv
  · rw [va_up_ne _ _ hjc]; exact h j hj
theorem flL_ok {rec : Nat → Nat → (Nat → Nat) → (Nat → Nat) → Bool × (Nat → Nat) × (Nat → Nat)} {fo : Nat → Nat} {pl us : Nat} (hr : ∀ a b im so, a < 13 → iok im → iok (rec a b im so).2.1) (hp : pl < 12) : ∀ f c im so, c + f ≤ 12 → iok im → iok (flL rec fo pl us f c im so).2.1 := by
  intro f
  induction f with
  | zero => intro c im so _ h; exact h
  | succ f ih =>
    intro c im so hc h
    have h1 := hr (pl + 1) (max us (c + 1)) (va_up im c (im c ||| 2 ^ pl)) (va_up so pl c) (by omega) (iok_up h (or_lt (h c (by omega)) (pw_lt hp)))
    unfold flL
    split
    · split
      · exact h1
      · exact ih _ _ _ (by omega) (iok_up h1 (Nat.lt_of_le_of_lt (clr_le _ _) (h1 c (by omega))))
    · exact ih _ _ _ (by omega) h
theorem fl_ok {n K : Nat} {fo : Nat → Nat} (hn : n < 13) : ∀ d pl us im so, pl < 13 → iok im → iok (fl n K fo d pl us im so).2.1 := by
  intro d
  induction d with
  | zero => intro _ _ _ _ _ h; exact h
  | succ d ih =>
    intro pl us im so hp h
    unfold fl
    split
    · exact h
    · exact flL_ok (fun a b im so ha hi => ih a b im so ha hi) (by omega) _ _ _ _ (by omega) h
theorem mn1 : ∀ u, u < 14 → ∀ K, K < 41 → (if (if (12 : Int32) < nI K then 12 else nI K) < nI (u + 1) then (if (12 : Int32) < nI K then 12 else nI K) else nI (u + 1)) = nI (min (u + 1) (min K 12)) := by decide +kernel
theorem mx1 : ∀ u, u < 14 → ∀ c, c < 14 → (if nI u < nI (c + 1) then nI (c + 1) else nI u) = nI (max u (c + 1)) := by decide +kernel
set_option maxHeartbeats 4000000 in
set_option maxRecDepth 100000 in
theorem loP_fill {p : Program} {l : Launch} {e : Env} {s : State} {m : MethodId} {args : Array Value} {below : List Frame} {meth : Method} {c : Code} {Q : State → Prop} {D : va_G} {CA : Nat → ClassId} {g : Nat → Nat → Int32} {h : Nat → Nat → Nat} {ad : Nat → Nat} {k : Nat} (hk : k < 6) {n : Nat} (hn : n < 13) {K : Nat} (hK9 : K < 40) {fo : Nat → Nat} (hfo : ∀ i, i < 12 → fo i < 4096) (hc : g (8 + 9 * k) 1 = nI n) (hkg : g (8 + 9 * k) 0 = nI K) (hfg : ∀ i, i < 12 → g (9 + 9 * k) i = nI (fo i)) {d pl us : Nat} (hp : pl < n) (hd : n < d + 1 + pl) (hus : us < 13) (IH : ∀ pl us (im so : Nat → Nat) sz, pl ≤ n → n < d + pl → us < 13 → iok im → Met l yP_fill wP_fill (rm (1 + d) 0 0) (va_Pc [.ref (ad (8 + 9 * k)), .int (nI pl), .int (nI us)] (gpre D (cty CA) (cw CA (gf k g im so) h ad) sz)) (va_Qi (fun r (u : (Nat → Nat) × (Nat → Nat)) => r = (if (fl n K fo d pl us im so).1 = true then 1 else 0) ∧ u = (fl n K fo d pl us im so).2) (fun u t => gpost D (cty CA) (cw CA (gf k g u.1 u.2) h ad) (cA h ad sz) t) (cA h ad sz)) 0 0 (cA h ad sz)) (hx : p.tables.exec = Jvm.exec) (hb : c.code = cP_fill) (hml : c.maxLocals = 6) (hown : s.vm.findClass "CountLeast$Parting" = some m.cls) (hT : ∀ w ∈ TB, w.before args s = true) (hK : va_K D vwCl (cty CA) s) :
    ∀ (f c9 : Nat) (im so : Nat → Nat), c9 + f = min (us + 1) (min K 12) → iok im → (∀ (H : Heap) (locs : List Loc) (x : (Nat → Nat) × (Nat → Nat)) (y : Int32), x = (flL (fl n K fo d) fo pl us f c9 im so).2 → y = (if (flL (fl n K fo d) fo pl us f c9 im so).1 = true then 1 else 0) → va_P D vwCl (cw CA (gf k g x.1 x.2) h ad) H → va_D (cA h ad s.heap.size) (cw CA (gf k g x.1 x.2) h ad) → va_S (cA h ad s.heap.size) s.heap H locs → (∀ ls, y = 1 → W p l e (rm (1 + (d + 1)) 0 0) s m args below meth c H locs 0 0 Q (F0 m 100 ls [.int 1])) ∧ ∀ ls, y = 0 → W p l e (rm (1 + (d + 1)) 0 0) s m args below meth c H locs 0 0 Q (F0 m 121 ls [.int 0])) → ∀ (H : Heap) (locs : List Loc), va_P D vwCl (cw CA (gf k g im so) h ad) H → va_D (cA h ad s.heap.size) (cw CA (gf k g im so) h ad) → va_S (cA h ad s.heap.size) s.heap H locs → ∀ ls, lv_has ls 6 [(5, .int (nI c9)), (0, .ref (ad (8 + 9 * k))), (1, .int (nI pl)), (2, .int (nI us)), (3, .int (nI (2 ^ pl))), (4, .int (nI (min (us + 1) (min K 12))))] → W p l e (rm (1 + (d + 1)) 0 0) s m args below meth c H locs 0 0 Q (F0 m 38 ls []) := by
  intro f
  induction f with
  | zero =>
    intro c9 im so hi him kx H locs hP hD hS ls hl
    have hi : c9 = min (us + 1) (min K 12) := by omega
    refine lv_iload hx hb dP_fill_38 (lv_at hl 0 rfl) ?_
    refine lv_iload hx hb dP_fill_40 (lv_at hl 5 rfl) ?_
    refine lv_icmp_ge (tgt := 120) hx hb dP_fill_42 (by decide) (fun c_1 => ?_) (fun c_1 => absurd (nI_le (by omega) (by omega)) c_1)
    refine lv_iconst (v := 0) hx hb dP_fill_120 (by decide) ?_
    exact (kx H locs (im, so) 0 rfl rfl hP hD hS).2 ls rfl
  | succ f ih =>
    intro c9 im so hi him kx H locs hP hD hS ls hl
    refine lv_iload hx hb dP_fill_38 (lv_at hl 0 rfl) ?_
    refine lv_iload hx hb dP_fill_40 (lv_at hl 5 rfl) ?_
    refine lv_icmp_ge (tgt := 120) hx hb dP_fill_42 (by decide) (fun c_1 => absurd c_1 (nI_ge (by omega) (by omega))) (fun c_1 => ?_)
    refine lv_aload_n hx hb dP_fill_45 rfl (lv_at hl 1 rfl) ?_
    refine va_get (D := D) (ci := 2) (C := RP) (T := TP) (N := 6) hx hb hT inP hown hK hP (8 + 9 * k) (cw_PT hk) rfl 5 (by decide) (hT _ wm_44) (fun _ h9 => h9) rfl dP_fill_46 ?_
    refine lv_iload hx hb dP_fill_49 (lv_at hl 0 rfl) ?_
    refine va_iald (D := D) hx hb hK hP (11 + 9 * k) 0 (cw_IS hk) rfl (vp_in_nI (by omega) (by decide)) dP_fill_51 ?_
    rw [nI_clamp (n := c9) (by omega)]
    refine W.eq (g2 := F0 m 52 ls [.int (nI (im c9))]) (by rw [gf_i]) ?_
    refine lv_aload_n hx hb dP_fill_52 rfl (lv_at hl 1 rfl) ?_
    refine va_get (D := D) (ci := 2) (C := RP) (T := TP) (N := 6) hx hb hT inP hown hK hP (8 + 9 * k) (cw_PT hk) rfl 3 (by decide) (hT _ wm_42) (fun _ h9 => h9) rfl dP_fill_53 ?_
    refine lv_iload_n hx hb dP_fill_56 rfl (lv_at hl 2 rfl) ?_
    refine va_iald (D := D) hx hb hK hP (9 + 9 * k) 0 (cw_FO hk) rfl (vp_in_nI (by omega) (by decide)) dP_fill_57 ?_
    rw [nI_clamp (n := pl) (by omega)]
    refine W.eq (g2 := F0 m 58 ls [.int (nI (fo pl)), .int (nI (im c9))]) (by rw [gf_o (show 9 + 9 * k ≠ 11 + 9 * k by omega) (show 9 + 9 * k ≠ 10 + 9 * k by omega), hfg pl (by omega)]) ?_
    refine lv_iand hx hb dP_fill_58 ?_
    refine W.eq (g2 := F0 m 59 ls [.int (nI (im c9 &&& fo pl))]) (by rw [nz_and]) ?_
    refine lv_if_ne (tgt := 114) hx hb dP_fill_59 (by decide) (fun c_2 => ?_) (fun c_2 => ?_)
    · have hno : ¬ im c9 &&& fo pl = 0 := fun z => c_2 (by rw [z]; rfl)
      refine lv_iinc (v := nI (c9 + 1)) (lv' := [(5, .int (nI (c9 + 1))), (0, .ref (ad (8 + 9 * k))), (1, .int (nI pl)), (2, .int (nI us)), (3, .int (nI (2 ^ pl))), (4, .int (nI (min (us + 1) (min K 12))))]) hx hb dP_fill_114 hl (k := 0) rfl (nI_1 _) (by decide) rfl (fun ls hl => ?_)
      refine lv_goto (tgt := 38) hx hb dP_fill_117 (by decide) ?_
      exact ih (c9 + 1) im so (by omega) him (fun H locs x y hx9 hy9 hP hD hS => kx H locs x y (by rw [flL, if_neg hno]; exact hx9) (by rw [flL, if_neg hno]; exact hy9) hP hD hS) H locs hP hD hS ls (lv_sub hl [0, 1, 2, 3, 4, 5] rfl)
    · have hyes : im c9 &&& fo pl = 0 := (nI_eq (by have := and_lt (b := fo pl) (him c9 (by omega)); omega) (by decide)).mp c_2
      refine lv_aload_n hx hb dP_fill_62 rfl (lv_at hl 1 rfl) ?_
      refine va_get (D := D) (ci := 2) (C := RP) (T := TP) (N := 6) hx hb hT inP hown hK hP (8 + 9 * k) (cw_PT hk) rfl 5 (by decide) (hT _ wm_44) (fun _ h9 => h9) rfl dP_fill_63 ?_
      refine lv_iload hx hb dP_fill_66 (lv_at hl 0 rfl) ?_
      refine lv_dup2_11 hx hb dP_fill_68 rfl rfl ?_
      refine va_iald (D := D) hx hb hK hP (11 + 9 * k) 0 (cw_IS hk) rfl (vp_in_nI (by omega) (by decide)) dP_fill_69 ?_
      rw [nI_clamp (n := c9) (by omega)]
      refine W.eq (g2 := F0 m 70 ls [.int (nI (im c9)), .int (nI c9), .ref (ad (11 + 9 * k))]) (by rw [gf_i]) ?_
      refine lv_iload_n hx hb dP_fill_70 rfl (lv_at hl 4 rfl) ?_
      refine lv_ior hx hb dP_fill_71 ?_
      refine W.eq (g2 := F0 m 72 ls [.int (nI (im c9 ||| 2 ^ pl)), .int (nI c9), .ref (ad (11 + 9 * k))]) (by rw [nz_or]) ?_
      refine va_iast (D := D) hx hb hK hP hD hS (11 + 9 * k) 0 (cw_IS hk) rfl (vp_in_nI (by omega) (by decide)) dP_fill_72 (fun H locs hP hD hS => ?_)
      rw [nI_clamp (n := c9) (by omega), cw_sIS hk] at hP hD
      rw [gf_ui] at hP hD
      refine lv_aload_n hx hb dP_fill_73 rfl (lv_at hl 1 rfl) ?_
      refine va_get (D := D) (ci := 2) (C := RP) (T := TP) (N := 6) hx hb hT inP hown hK hP (8 + 9 * k) (cw_PT hk) rfl 4 (by decide) (hT _ wm_43) (fun _ h9 => h9) rfl dP_fill_74 ?_
      refine lv_iload_n hx hb dP_fill_77 rfl (lv_at hl 2 rfl) ?_
      refine lv_iload hx hb dP_fill_78 (lv_at hl 0 rfl) ?_
      refine va_iast (D := D) hx hb hK hP hD hS (10 + 9 * k) 0 (cw_SO hk) rfl (vp_in_nI (by omega) (by decide)) dP_fill_80 (fun H locs hP hD hS => ?_)
      rw [nI_clamp (n := pl) (by omega), cw_sSO hk] at hP hD
      rw [gf_us] at hP hD
      refine lv_aload_n hx hb dP_fill_81 rfl (lv_at hl 1 rfl) ?_
      refine lv_iload_n hx hb dP_fill_82 rfl (lv_at hl 2 rfl) ?_
      refine lv_iconst (v := 1) hx hb dP_fill_83 (by decide) ?_
      refine lv_iadd hx hb dP_fill_84 ?_
      refine W.eq (g2 := F0 m 85 ls [.int (nI (pl + 1)), .ref (ad (8 + 9 * k))]) (by rw [nI_1]) ?_
      refine lv_iload_n hx hb dP_fill_85 rfl (lv_at hl 3 rfl) ?_
      refine lv_iload hx hb dP_fill_86 (lv_at hl 0 rfl) ?_
      refine lv_iconst (v := 1) hx hb dP_fill_88 (by decide) ?_
      refine lv_iadd hx hb dP_fill_89 ?_
      refine W.eq (g2 := F0 m 90 ls [.int (nI (c9 + 1)), .int (nI us), .int (nI (pl + 1)), .ref (ad (8 + 9 * k))]) (by rw [nI_1]) ?_
      refine va_mmax hx hb (hml.trans hl.1.symm) (own := "CountLeast$Parting") hown (hT _ wm_370) (hT _ wm_371) (hT _ wm_12) (hT _ wm_372) (Nat.le_of_ble_eq_true rfl) (Nat.le_of_ble_eq_true rfl) (Nat.le_of_ble_eq_true rfl) (Nat.le_of_ble_eq_true rfl) dP_fill_90 ?_
      refine W.eq (g2 := F0 m 93 ls [.int (nI (max us (c9 + 1))), .int (nI (pl + 1)), .ref (ad (8 + 9 * k))]) (by rw [mx1 us (by omega) c9 (by omega)]) ?_
      have him9 : iok (va_up im c9 (im c9 ||| 2 ^ pl)) := iok_up him (or_lt (him c9 (by omega)) (pw_lt (by omega)))
      refine kVi (n := 2) (D := D) (wd := fun z : (Nat → Nat) × (Nat → Nat) => cw CA (gf k g z.1 z.2) h ad) (A1 := fun sz => cA h ad sz) (As := [.int (nI (pl + 1)), .int (nI (max us (c9 + 1)))]) (rest := []) ⟨hx, hb, hml, hown, hT⟩ (IH (pl + 1) (max us (c9 + 1)) (va_up im c9 (im c9 ||| 2 ^ pl)) (va_up so pl c9) H.size (by omega) (by omega) (by omega) him9) (gi_V wm_396 wm_398 wp_7 wm_3 wm_399) rfl rfl (by decide +kernel) ⟨(by simp only [headSpec, rm]; omega), (by simp only [headSpec, rm]; omega)⟩ (va_recv hK hP (ci := 2) (q0 := 8 + 9 * k) rfl (cw_PT hk)) hK hP hD hS (fun _ h9 => h9) (nA_mono hS.1) rfl hl.1 rfl (Nat.le_of_ble_eq_true rfl) dP_fill_93 ⟨(Nat.le_of_ble_eq_true rfl), (Nat.le_of_ble_eq_true rfl)⟩ (fun r9 u9 H locs hw9 hz hP hD hS => ?_)
      obtain ⟨hr9, rfl⟩ := hw9
      have hok9 := fl_ok (K := K) (fo := fo) hn d (pl + 1) (max us (c9 + 1)) _ (va_up so pl c9) (by omega) him9
      refine lv_if_eq (tgt := 101) hx hb dP_fill_96 (by decide) (fun c_3 => ?_) (fun c_3 => ?_)
      · have hnt : ¬ (fl n K fo d (pl + 1) (max us (c9 + 1)) (va_up im c9 (im c9 ||| 2 ^ pl)) (va_up so pl c9)).1 = true := by rw [(if01 hr9).mp c_3]; exact Bool.false_ne_true
        refine lv_aload_n hx hb dP_fill_101 rfl (lv_at hl 1 rfl) ?_
        refine va_get (D := D) (ci := 2) (C := RP) (T := TP) (N := 6) hx hb hT inP hown hK hP (8 + 9 * k) (cw_PT hk) rfl 5 (by decide) (hT _ wm_44) (fun _ h9 => h9) rfl dP_fill_102 ?_
        refine lv_iload hx hb dP_fill_105 (lv_at hl 0 rfl) ?_
        refine lv_dup2_11 hx hb dP_fill_107 rfl rfl ?_
        refine va_iald (D := D) hx hb hK hP (11 + 9 * k) 0 (cw_IS hk) rfl (vp_in_nI (by omega) (by decide)) dP_fill_108 ?_
        rw [nI_clamp (n := c9) (by omega)]
        refine W.eq (g2 := F0 m 109 ls [.int (nI (((fl n K fo d (pl + 1) (max us (c9 + 1)) (va_up im c9 (im c9 ||| 2 ^ pl)) (va_up so pl c9)).2.1) c9)), .int (nI c9), .ref (ad (11 + 9 * k))]) (by rw [gf_i]) ?_
        refine lv_iload_n hx hb dP_fill_109 rfl (lv_at hl 4 rfl) ?_
        refine lv_iconst (v := (-1)) hx hb dP_fill_110 (by decide) ?_
        refine lv_ixor hx hb dP_fill_111 ?_
        refine lv_iand hx hb dP_fill_112 ?_
        refine W.eq (g2 := F0 m 113 ls [.int (nI (clr (((fl n K fo d (pl + 1) (max us (c9 + 1)) (va_up im c9 (im c9 ||| 2 ^ pl)) (va_up so pl c9)).2.1) c9) pl)), .int (nI c9), .ref (ad (11 + 9 * k))]) (by rw [nz_clr]) ?_
        refine va_iast (D := D) hx hb hK hP hD hS (11 + 9 * k) 0 (cw_IS hk) rfl (vp_in_nI (by omega) (by decide)) dP_fill_113 (fun H locs hP hD hS => ?_)
        rw [nI_clamp (n := c9) (by omega), cw_sIS hk] at hP hD
        rw [gf_ui] at hP hD
        refine lv_iinc (v := nI (c9 + 1)) (lv' := [(5, .int (nI (c9 + 1))), (0, .ref (ad (8 + 9 * k))), (1, .int (nI pl)), (2, .int (nI us)), (3, .int (nI (2 ^ pl))), (4, .int (nI (min (us + 1) (min K 12))))]) hx hb dP_fill_114 hl (k := 0) rfl (nI_1 _) (by decide) rfl (fun ls hl => ?_)
        refine lv_goto (tgt := 38) hx hb dP_fill_117 (by decide) ?_
        exact ih (c9 + 1) _ _ (by omega) (iok_up hok9 (Nat.lt_of_le_of_lt (clr_le _ _) (hok9 c9 (by omega)))) (fun H locs x y hx9 hy9 hP hD hS => kx H locs x y (by rw [flL, if_pos hyes, if_neg hnt]; exact hx9) (by rw [flL, if_pos hyes, if_neg hnt]; exact hy9) hP hD hS) H locs hP hD hS ls (lv_sub hl [0, 1, 2, 3, 4, 5] rfl)
      · have hyt : (fl n K fo d (pl + 1) (max us (c9 + 1)) (va_up im c9 (im c9 ||| 2 ^ pl)) (va_up so pl c9)).1 = true := if01t hr9 c_3
        refine lv_iconst (v := 1) hx hb dP_fill_99 (by decide) ?_
        exact (kx H locs _ 1 (by rw [flL, if_pos hyes, if_pos hyt]) (by rw [flL, if_pos hyes, if_pos hyt, if_pos hyt]) hP hD hS).1 ls rfl
set_option maxHeartbeats 4000000 in
set_option maxRecDepth 100000 in
theorem kP_fill (l : Launch) {D : va_G} {CA : Nat → ClassId} {g : Nat → Nat → Int32} {h : Nat → Nat → Nat} {ad : Nat → Nat} {k : Nat} (hk : k < 6) {n : Nat} (hn : n < 13) {K : Nat} (hK9 : K < 40) {fo : Nat → Nat} (hfo : ∀ i, i < 12 → fo i < 4096) (hc : g (8 + 9 * k) 1 = nI n) (hkg : g (8 + 9 * k) 0 = nI K) (hfg : ∀ i, i < 12 → g (9 + 9 * k) i = nI (fo i)) : ∀ (d pl us : Nat) (im so : Nat → Nat) (sz : Nat), pl ≤ n → n < d + pl → us < 13 → iok im → Met l yP_fill wP_fill (rm (1 + d) 0 0) (va_Pc [.ref (ad (8 + 9 * k)), .int (nI pl), .int (nI us)] (gpre D (cty CA) (cw CA (gf k g im so) h ad) sz)) (va_Qi (fun r (u : (Nat → Nat) × (Nat → Nat)) => r = (if (fl n K fo d pl us im so).1 = true then 1 else 0) ∧ u = (fl n K fo d pl us im so).2) (fun u t => gpost D (cty CA) (cw CA (gf k g u.1 u.2) h ad) (cA h ad sz) t) (cA h ad sz)) 0 0 (cA h ad sz) := by
  intro d
  induction d with
  | zero => intro pl us im so sz hp hd; exact absurd hd (by omega)
  | succ d IH =>
    intro pl us im so sz hp hd hus him
    refine Met.ofW (cc := cP_fill) (maxL := 6) (ret := (some .boolean)) (by decide) rfl ?_
    intro p e s m args below meth c s₁ B hml hv
    obtain ⟨rfl, hsz, hP, hK, hD0⟩ := hv
    have hx := B.exec
    have hb := B.bytes
    have hr := B.returns
    have hT : ∀ w ∈ TB, w.before _ s = true := fun w hw => atoms_spec (ws := wP_fill) B.pre w (List.mem_cons_of_mem _ hw)
    have hown : s.vm.findClass "CountLeast$Parting" = some m.cls := findClass_of_methodNamed B.named
    have hlocks := B.notSynchronized
    subst hsz
    have hD := nA_self (sz := s.heap.size) hD0
    have hS : va_S (cA h ad s.heap.size) s.heap s.heap [] := va_S.rf
    have hP : va_P D vwCl (cw CA (gf k g im so) h ad) s.heap := hP
    have hl := lv_entry ([.ref (ad (8 + 9 * k)), .int (nI pl), .int (nI us)]) (n := 6) (Nat.le_of_ble_eq_true rfl)
    rw [lg_entry_eq]
    generalize (lg_sl ([.ref (ad (8 + 9 * k)), .int (nI pl), .int (nI us)]) ++ List.replicate (6 - (lg_sl ([.ref (ad (8 + 9 * k)), .int (nI pl), .int (nI us)])).length) Slot.unset).toArray = ls at hl ⊢
    have hl : lv_has ls 6 [(0, .ref (ad (8 + 9 * k))), (1, .int (nI pl)), (2, .int (nI us))] := hl
    refine lv_iload_n hx hb dP_fill_0 rfl (lv_at hl 1 rfl) ?_
    refine lv_if_lt (tgt := 12) hx hb dP_fill_1 (by decide) (fun c_1 => ?_) (fun c_1 => ?_)
    · refine lv_iconst (v := 1) hx hb dP_fill_12 (by decide) ?_
      exact absurd c_1 (nI_pos (by omega))
    · refine lv_iload_n hx hb dP_fill_4 rfl (lv_at hl 1 rfl) ?_
      refine lv_aload_n hx hb dP_fill_5 rfl (lv_at hl 0 rfl) ?_
      refine va_get (D := D) (ci := 2) (C := RP) (T := TP) (N := 6) hx hb hT inP hown hK hP (8 + 9 * k) (cw_PT hk) rfl 1 (by decide) (hT _ wm_40) (fun _ h9 => h9) rfl dP_fill_6 ?_
      refine W.eq (g2 := F0 m 9 ls [.int (nI n), .int (nI pl)]) (by rw [gf_o (show 8 + 9 * k ≠ 11 + 9 * k by omega) (show 8 + 9 * k ≠ 10 + 9 * k by omega), hc]) ?_
      refine lv_icmp_lt (tgt := 14) hx hb dP_fill_9 (by decide) (fun c_2 => ?_) (fun c_2 => ?_)
      · refine lv_iconst (v := 1) hx hb dP_fill_14 (by decide) ?_
        refine lv_iload_n hx hb dP_fill_15 rfl (lv_at hl 1 rfl) ?_
        refine lv_ishl hx hb dP_fill_16 ?_
        refine W.eq (g2 := F0 m 17 ls [.int (nI (2 ^ pl))]) (by rw [nz_sh pl (by omega)]) ?_
        refine lv_istore_n (lv' := [(3, .int (nI (2 ^ pl))), (0, .ref (ad (8 + 9 * k))), (1, .int (nI pl)), (2, .int (nI us))]) hx hb dP_fill_17 rfl hl (by decide) rfl (fun ls hl => ?_)
        refine lv_iload_n hx hb dP_fill_18 rfl (lv_at hl 3 rfl) ?_
        refine lv_iconst (v := 1) hx hb dP_fill_19 (by decide) ?_
        refine lv_iadd hx hb dP_fill_20 ?_
        refine W.eq (g2 := F0 m 21 ls [.int (nI (us + 1))]) (by rw [nI_1]) ?_
        refine lv_aload_n hx hb dP_fill_21 rfl (lv_at hl 1 rfl) ?_
        refine va_get (D := D) (ci := 2) (C := RP) (T := TP) (N := 6) hx hb hT inP hown hK hP (8 + 9 * k) (cw_PT hk) rfl 0 (by decide) (hT _ wm_38) (fun _ h9 => h9) rfl dP_fill_22 ?_
        refine W.eq (g2 := F0 m 25 ls [.int (nI K), .int (nI (us + 1))]) (by rw [gf_o (show 8 + 9 * k ≠ 11 + 9 * k by omega) (show 8 + 9 * k ≠ 10 + 9 * k by omega), hkg]) ?_
        refine lv_bipush (v := 12) hx hb dP_fill_25 (by decide) ?_
        refine va_mmin hx hb (hml.trans hl.1.symm) (own := "CountLeast$Parting") hown (hT _ wm_367) (hT _ wm_368) (hT _ wm_12) (hT _ wm_369) (Nat.le_of_ble_eq_true rfl) (Nat.le_of_ble_eq_true rfl) (Nat.le_of_ble_eq_true rfl) (Nat.le_of_ble_eq_true rfl) dP_fill_27 ?_
        refine va_mmin hx hb (hml.trans hl.1.symm) (own := "CountLeast$Parting") hown (hT _ wm_367) (hT _ wm_368) (hT _ wm_12) (hT _ wm_369) (Nat.le_of_ble_eq_true rfl) (Nat.le_of_ble_eq_true rfl) (Nat.le_of_ble_eq_true rfl) (Nat.le_of_ble_eq_true rfl) dP_fill_30 ?_
        refine W.eq (g2 := F0 m 33 ls [.int (nI (min (us + 1) (min K 12)))]) (by rw [mn1 us (by omega) K (by omega)]) ?_
        refine lv_istore (lv' := [(4, .int (nI (min (us + 1) (min K 12)))), (3, .int (nI (2 ^ pl))), (0, .ref (ad (8 + 9 * k))), (1, .int (nI pl)), (2, .int (nI us))]) hx hb dP_fill_33 hl (by decide) rfl (fun ls hl => ?_)
        refine lv_iconst (v := 0) hx hb dP_fill_35 (by decide) ?_
        refine lv_istore (lv' := [(5, .int 0), (4, .int (nI (min (us + 1) (min K 12)))), (3, .int (nI (2 ^ pl))), (0, .ref (ad (8 + 9 * k))), (1, .int (nI pl)), (2, .int (nI us))]) hx hb dP_fill_36 hl (by decide) rfl (fun ls hl => ?_)
        have hnp : ¬ n ≤ pl := by have := c_2; rw [nI_ltI (by omega) (by omega)] at this; omega
        refine loP_fill hk hn hK9 hfo hc hkg hfg (by omega) (by omega) hus IH hx hb hml hown hT hK (min (us + 1) (min K 12)) 0 im so (by omega) him (fun H locs x9 y9 hx9 hy9 hP hD hS => ?_) _ _ hP hD hS ls (lv_sub hl [0, 3, 4, 5, 2, 1] rfl)
        refine ⟨fun ls hy1 => ?_, fun ls hy1 => ?_⟩
        · exact W.zret (v := 1) hx hb hr rfl (fun t ht hW => ⟨⟨_, x9, rfl, ⟨by rw [fl, if_neg hnp, ← hy9]; exact hy1.symm, by rw [fl, if_neg hnp]; exact hx9⟩, gpost_at hP hK hD ht hW.alike⟩, hS.F ht⟩) hS.2.2 dP_fill_100
        · exact W.zret (v := 0) hx hb hr rfl (fun t ht hW => ⟨⟨_, x9, rfl, ⟨by rw [fl, if_neg hnp, ← hy9]; exact hy1.symm, by rw [fl, if_neg hnp]; exact hx9⟩, gpost_at hP hK hD ht hW.alike⟩, hS.F ht⟩) hS.2.2 dP_fill_121
      · refine lv_iconst (v := 1) hx hb dP_fill_12 (by decide) ?_
        have hge : n ≤ pl := by have := c_2; rw [nI_ltI (by omega) (by omega)] at this; omega
        exact W.zret (v := 1) hx hb hr rfl (fun t ht hW => ⟨⟨_, (im, so), rfl, ⟨by rw [fl, if_pos hge]; rfl, by rw [fl, if_pos hge]⟩, gpost_at hP hK hD ht hW.alike⟩, hS.F ht⟩) hS.2.2 dP_fill_13
end
section
/-! the search, the marks -/
def n32 (x : Int32) : Nat := x.toBitVec.toNat
theorem n32_nI (x : Int32) : nI (n32 x) = x := by
  apply Int32.toBitVec_inj.mp
  show BitVec.ofNat 32 (x.toBitVec.toNat) = x.toBitVec
  simp
theorem n32_0 : n32 0 = 0 := by decide
theorem gf_self {k : Nat} {g : Nat → Nat → Int32} : gf k g (fun b => n32 (g (11 + 9 * k) b)) (fun b => n32 (g (10 + 9 * k) b)) = g := by
  funext a b
  by_cases h1 : a = 11 + 9 * k
  · subst h1; simp [gf, n32_nI]
  · by_cases h2 : a = 10 + 9 * k
    · subst h2; simp [gf, n32_nI, h1]
    · simp [gf, h1, h2]
theorem gf_u0 {k : Nat} {g : Nat → Nat → Int32} {im so : Nat → Nat} {a j : Nat} {v : Int32} (h1 : a ≠ 11 + 9 * k) (h2 : a ≠ 10 + 9 * k) : u2 (gf k g im so) a j v = gf k (u2 g a j v) im so := by
  funext x y
  by_cases hx : x = a
  · subst hx; simp [u2, gf, h1, h2]
  · by_cases hx1 : x = 11 + 9 * k
    · subst hx1; simp [u2, gf, hx]
    · by_cases hx2 : x = 10 + 9 * k
      · subst hx2; simp [u2, gf, hx, hx1]
      · simp [u2, gf, hx, hx1, hx2]
def sl (n : Nat) (fo : Nat → Nat) : Nat → Nat → (Nat → Nat) → (Nat → Nat) → Nat × (Nat → Nat) × (Nat → Nat)
  | 0, K, im, so => (K, im, so)
  | f + 1, K, im, so => if (fl n K fo (n + 1) 0 0 im so).1 = true then (K, (fl n K fo (n + 1) 0 0 im so).2) else sl n fo f (K + 1) (fl n K fo (n + 1) 0 0 im so).2.1 (fl n K fo (n + 1) 0 0 im so).2.2
def gq (k : Nat) (g : Nat → Nat → Int32) (fo : Nat → Nat) : Nat → Nat → Int32 := fun a b => if a = 9 + 9 * k then nI (fo b) else g a b
theorem gq_f {k : Nat} {g : Nat → Nat → Int32} {fo : Nat → Nat} {b : Nat} : gq k g fo (9 + 9 * k) b = nI (fo b) := by simp [gq]
theorem gq_o {k : Nat} {g : Nat → Nat → Int32} {fo : Nat → Nat} {a b : Nat} (h : a ≠ 9 + 9 * k) : gq k g fo a b = g a b := by simp [gq, h]
theorem gq_r {k : Nat} {g : Nat → Nat → Int32} {fo : Nat → Nat} {a : Nat} (h : a ≠ 9 + 9 * k) : gq k g fo a = g a := by funext b; exact gq_o h
theorem gq_u {k : Nat} {g : Nat → Nat → Int32} {fo : Nat → Nat} {c v : Nat} : u2 (gq k g fo) (9 + 9 * k) c (nI v) = gq k g (va_up fo c v) := by
  funext a b
  by_cases h1 : a = 9 + 9 * k
  · subst h1
    by_cases h2 : b = c <;> simp [u2, gq, va_up, h2]
  · simp [u2, gq, h1]
theorem gq_self {k : Nat} {g : Nat → Nat → Int32} : gq k g (fun b => n32 (g (9 + 9 * k) b)) = g := by
  funext a b
  by_cases h1 : a = 9 + 9 * k
  · subst h1; simp [gq, n32_nI]
  · simp [gq, h1]
def sap (fo : Nat → Nat) (i j : Nat) : Nat → Nat := va_up (va_up fo i (fo i ||| 2 ^ j)) j (va_up fo i (fo i ||| 2 ^ j) j ||| 2 ^ i)
def mf1 (e : Nat → Nat → Bool) (i : Nat) : Nat → Nat → (Nat → Nat) → (Nat → Nat)
  | 0, _, fo => fo
  | f + 1, j, fo => mf1 e i f (j + 1) (if e i j = true then sap fo i j else fo)
def mf (e : Nat → Nat → Bool) : Nat → Nat → (Nat → Nat) → (Nat → Nat)
  | 0, _, fo => fo
  | f + 1, i, fo => mf e f (i + 1) (mf1 e i i 0 fo)
theorem ruI_gq {k : Nat} {g : Nat → Nat → Int32} {fo : Nat → Nat} {ja a b : Nat} (hk : k < 6) : ruI (gq k g fo) k ja a b = ruI g k ja a b := by
  unfold ruI
  rw [gq_r (a := 57 + a) (by omega), gq_r (a := 57 + b) (by omega), gq_r (a := 4 + 9 * k) (by omega), gq_r (a := 3 + 9 * k) (by omega)]
def eB (g : Nat → Nat → Int32) (h : Nat → Nat → Nat) (jp : Nat → Nat) (k i j : Nat) : Bool := decide (¬ ruI g k (jp (h (3 + k) i)) (h (3 + k) i) (h (3 + k) j) = 0)
theorem sa_gq {k : Nat} {g : Nat → Nat → Int32} {fo : Nat → Nat} {i j : Nat} (hi : i < 12) (hj : j < 12) :
    u2 (u2 (gq k g fo) (9 + 9 * k) i ((gq k g fo) (9 + 9 * k) i ||| 1 <<< (nI j &&& 31))) (9 + 9 * k) j ((u2 (gq k g fo) (9 + 9 * k) i ((gq k g fo) (9 + 9 * k) i ||| 1 <<< (nI j &&& 31))) (9 + 9 * k) j ||| 1 <<< (nI i &&& 31)) = gq k g (sap fo i j) := by
  rw [gq_f, nz_sh j (by omega), nz_or, gq_u, gq_f, nz_sh i (by omega), nz_or, gq_u]
  rfl
theorem pw1 : ∀ n, n < 13 → 2 ^ n - 1 < 4096 := by decide +kernel
theorem sh1 : ∀ n, n < 13 → (1 : Int32) <<< (nI n &&& 31) - 1 = nI (2 ^ n - 1) := by decide +kernel
set_option maxHeartbeats 4000000 in
set_option maxRecDepth 100000 in
theorem loP_search {p : Program} {l : Launch} {e : Env} {s : State} {m : MethodId} {args : Array Value} {below : List Frame} {meth : Method} {c : Code} {Q : State → Prop} {D : va_G} {CA : Nat → ClassId} {g : Nat → Nat → Int32} {h : Nat → Nat → Nat} {ad : Nat → Nat} {k : Nat} (hk : k < 6) {n : Nat} (hn : n < 13) {fo : Nat → Nat} (hfo : ∀ i, i < 12 → fo i < 4096) (hc : g (8 + 9 * k) 1 = nI n) (hfg : ∀ i, i < 12 → g (9 + 9 * k) i = nI (fo i)) (hx : p.tables.exec = Jvm.exec) (hb : c.code = cP_search) (hml : c.maxLocals = 2) (hown : s.vm.findClass "CountLeast$Parting" = some m.cls) (hT : ∀ w ∈ TB, w.before args s = true) (hK : va_K D vwCl (cty CA) s) :
    ∀ (f i K : Nat) (im so : Nat → Nat), i + f = n → K < 14 + i → iok im → (∀ (H : Heap) (locs : List Loc) (x : Nat × (Nat → Nat) × (Nat → Nat)), x = sl n fo f K im so → va_P D vwCl (cw CA (gf k (u2 g (8 + 9 * k) 0 (nI x.1)) x.2.1 x.2.2) h ad) H → va_D (cA h ad s.heap.size) (cw CA (gf k (u2 g (8 + 9 * k) 0 (nI x.1)) x.2.1 x.2.2) h ad) → va_S (cA h ad s.heap.size) s.heap H locs → ∀ ls, lv_has ls 2 [(0, .ref (ad (8 + 9 * k)))] → W p l e (rm 16 0 0) s m args below meth c H locs 0 0 Q (F0 m 65 ls [])) → ∀ (H : Heap) (locs : List Loc), va_P D vwCl (cw CA (gf k (u2 g (8 + 9 * k) 0 (nI K)) im so) h ad) H → va_D (cA h ad s.heap.size) (cw CA (gf k (u2 g (8 + 9 * k) 0 (nI K)) im so) h ad) → va_S (cA h ad s.heap.size) s.heap H locs → ∀ ls, lv_has ls 2 [(1, .int (nI i)), (0, .ref (ad (8 + 9 * k)))] → W p l e (rm 16 0 0) s m args below meth c H locs 0 0 Q (F0 m 32 ls []) := by
  intro f
  induction f with
  | zero =>
    intro i K im so hi hK9 him kx H locs hP hD hS ls hl
    have hi : i = n := by omega
    subst hi
    refine lv_iload_n hx hb dP_search_32 rfl (lv_at hl 0 rfl) ?_
    refine lv_aload_n hx hb dP_search_33 rfl (lv_at hl 1 rfl) ?_
    refine va_get (D := D) (ci := 2) (C := RP) (T := TP) (N := 6) hx hb hT inP hown hK hP (8 + 9 * k) (cw_PT hk) rfl 1 (by decide) (hT _ wm_40) (fun _ h9 => h9) rfl dP_search_34 ?_
    refine W.eq (g2 := F0 m 37 ls [.int (nI i), .int (nI i)]) (by rw [gf_o (show 8 + 9 * k ≠ 11 + 9 * k by omega) (show 8 + 9 * k ≠ 10 + 9 * k by omega), u2_m (show (1 : Nat) ≠ 0 by decide), hc]) ?_
    refine lv_icmp_ge (tgt := 65) hx hb dP_search_37 (by decide) (fun c_1 => ?_) (fun c_1 => absurd (nI_le (Nat.le_refl _) (by omega)) c_1)
    exact kx H locs (K, im, so) rfl hP hD hS ls (lv_sub hl [1] rfl)
  | succ f ih =>
    intro i K im so hi hK9 him kx H locs hP hD hS ls hl
    refine lv_iload_n hx hb dP_search_32 rfl (lv_at hl 0 rfl) ?_
    refine lv_aload_n hx hb dP_search_33 rfl (lv_at hl 1 rfl) ?_
    refine va_get (D := D) (ci := 2) (C := RP) (T := TP) (N := 6) hx hb hT inP hown hK hP (8 + 9 * k) (cw_PT hk) rfl 1 (by decide) (hT _ wm_40) (fun _ h9 => h9) rfl dP_search_34 ?_
    refine W.eq (g2 := F0 m 37 ls [.int (nI n), .int (nI i)]) (by rw [gf_o (show 8 + 9 * k ≠ 11 + 9 * k by omega) (show 8 + 9 * k ≠ 10 + 9 * k by omega), u2_m (show (1 : Nat) ≠ 0 by decide), hc]) ?_
    refine lv_icmp_ge (tgt := 65) hx hb dP_search_37 (by decide) (fun c_1 => absurd c_1 (nI_ge (by omega) (by omega))) (fun c_1 => ?_)
    refine lv_aload_n hx hb dP_search_40 rfl (lv_at hl 1 rfl) ?_
    refine lv_iconst (v := 0) hx hb dP_search_41 (by decide) ?_
    refine lv_iconst (v := 0) hx hb dP_search_42 (by decide) ?_
    refine kVi (n := 2) (D := D) (wd := fun z : (Nat → Nat) × (Nat → Nat) => cw CA (gf k (u2 g (8 + 9 * k) 0 (nI K)) z.1 z.2) h ad) (A1 := fun sz => cA h ad sz) (As := [.int (nI 0), .int (nI 0)]) (rest := []) ⟨hx, hb, hml, hown, hT⟩ (kP_fill l hk (g := (u2 g (8 + 9 * k) 0 (nI K))) hn (K := K) (by omega) hfo (by rw [u2_m (show (1 : Nat) ≠ 0 by decide)]; exact hc) u2_s (fun i9 hi9 => by rw [u2_n (show 9 + 9 * k ≠ 8 + 9 * k by omega)]; exact hfg i9 hi9) (n + 1) 0 0 im so H.size (by omega) (by omega) (by omega) him) (gi_V wm_396 wm_398 wp_7 wm_3 wm_399) rfl rfl (by decide +kernel) ⟨(by simp only [rm]; omega), (by simp only [rm]; omega)⟩ (va_recv hK hP (ci := 2) (q0 := 8 + 9 * k) rfl (cw_PT hk)) hK hP hD hS (fun _ h9 => h9) (nA_mono hS.1) rfl hl.1 rfl (Nat.le_of_ble_eq_true rfl) dP_search_43 ⟨(Nat.le_of_ble_eq_true rfl), (Nat.le_of_ble_eq_true rfl)⟩ (fun r9 u9 H locs hw9 hz hP hD hS => ?_)
    obtain ⟨hr9, rfl⟩ := hw9
    have hok9 := fl_ok (K := K) (fo := fo) hn (n + 1) 0 0 im so (by omega) him
    refine lv_if_ne (tgt := 65) hx hb dP_search_46 (by decide) (fun c_2 => ?_) (fun c_2 => ?_)
    · exact kx H locs (K, (fl n K fo (n + 1) 0 0 im so).2) (by rw [sl, if_pos (if01t hr9 c_2)]) hP hD hS ls (lv_sub hl [1] rfl)
    · have hnt : ¬ (fl n K fo (n + 1) 0 0 im so).1 = true := by rw [(if01 hr9).mp c_2]; exact Bool.false_ne_true
      refine lv_aload_n hx hb dP_search_49 rfl (lv_at hl 1 rfl) ?_
      refine lv_dup hx hb dP_search_50 rfl ?_
      refine va_get (D := D) (ci := 2) (C := RP) (T := TP) (N := 6) hx hb hT inP hown hK hP (8 + 9 * k) (cw_PT hk) rfl 0 (by decide) (hT _ wm_38) (fun _ h9 => h9) rfl dP_search_51 ?_
      refine W.eq (g2 := F0 m 54 ls [.int (nI K), .ref (ad (8 + 9 * k))]) (by rw [gf_o (show 8 + 9 * k ≠ 11 + 9 * k by omega) (show 8 + 9 * k ≠ 10 + 9 * k by omega), u2_s]) ?_
      refine lv_iconst (v := 1) hx hb dP_search_54 (by decide) ?_
      refine lv_iadd hx hb dP_search_55 ?_
      refine W.eq (g2 := F0 m 56 ls [.int (nI (K + 1)), .ref (ad (8 + 9 * k))]) (by rw [nI_1]) ?_
      refine va_put (D := D) (ci := 2) (v := .int (nI (K + 1))) (ty := .int) (C := RP) (T := TP) (N := 6) hx hb hT inP tyP tyokP nmP hown hK hP hD hS (8 + 9 * k) (cw_PT hk) rfl 0 (by decide) (hT _ wm_38) (fun _ h9 => h9) rfl (by decide +kernel) rfl rfl (Nat.le_of_ble_eq_true rfl) dP_search_56 (fun H locs hP hD hS => ?_)
      rw [cw_sP hk (by simp)] at hP hD
      rw [gf_u0 (show 8 + 9 * k ≠ 11 + 9 * k by omega) (show 8 + 9 * k ≠ 10 + 9 * k by omega), u2_u2] at hP hD
      refine lv_iinc (v := nI (i + 1)) (lv' := [(1, .int (nI (i + 1))), (0, .ref (ad (8 + 9 * k)))]) hx hb dP_search_59 hl (k := 0) rfl (nI_1 _) (by decide) rfl (fun ls hl => ?_)
      refine lv_goto (tgt := 32) hx hb dP_search_62 (by decide) ?_
      exact ih (i + 1) (K + 1) _ _ (by omega) (by omega) hok9 (fun H locs x hx9 hP hD hS ls hl => kx H locs x (by rw [sl, if_neg hnt]; exact hx9) hP hD hS ls hl) H locs hP hD hS ls (lv_sub hl [0, 1] rfl)
set_option maxHeartbeats 4000000 in
set_option maxRecDepth 100000 in
theorem kP_search (l : Launch) (D : va_G) (CA : Nat → ClassId) (g : Nat → Nat → Int32) (h : Nat → Nat → Nat) (ad : Nat → Nat) (sz : Nat) (k : Nat) (hk : k < 6) (n : Nat) (hn : n < 13) (fo : Nat → Nat) (hfo : ∀ i, i < 12 → fo i < 4096) (hc : g (8 + 9 * k) 1 = nI n) (hfg : ∀ i, i < 12 → g (9 + 9 * k) i = nI (fo i)) (hz9 : ∀ b, b < 12 → g (11 + 9 * k) b = 0) : Met l yP_search wP_search (rm 16 0 0) (va_Pc [.ref (ad (8 + 9 * k))] (gpre D (cty CA) (cw CA g h ad) sz)) (va_Qv (fun (u : Nat → Nat → Int32) => ∃ x9 : Nat × (Nat → Nat) × (Nat → Nat), x9 = sl n fo n (pop (gr n fo 14 0 0 (2 ^ n - 1) 0)) (fun b => n32 (g (11 + 9 * k) b)) (fun b => n32 (g (10 + 9 * k) b)) ∧ u = gf k (u2 (u2 g (8 + 9 * k) 2 (nI (gr n fo 14 0 0 (2 ^ n - 1) 0))) (8 + 9 * k) 0 (nI x9.1)) x9.2.1 x9.2.2) (fun u t => gpost D (cty CA) (cw CA u h ad) (cA h ad sz) t) (cA h ad sz)) 0 0 (cA h ad sz) := by
  refine Met.ofW (cc := cP_search) (maxL := 2) (ret := none) (by decide) rfl ?_
  intro p e s m args below meth c s₁ B hml hv
  obtain ⟨rfl, hsz, hP, hK, hD0⟩ := hv
  have hx := B.exec
  have hb := B.bytes
  have hr := B.returns
  have hT : ∀ w ∈ TB, w.before _ s = true := fun w hw => atoms_spec (ws := wP_search) B.pre w (List.mem_cons_of_mem _ hw)
  have hown : s.vm.findClass "CountLeast$Parting" = some m.cls := findClass_of_methodNamed B.named
  have hlocks := B.notSynchronized
  subst hsz
  have hD := nA_self (sz := s.heap.size) hD0
  have hS : va_S (cA h ad s.heap.size) s.heap s.heap [] := va_S.rf
  have hP : va_P D vwCl (cw CA g h ad) s.heap := hP
  have hl := lv_entry ([.ref (ad (8 + 9 * k))]) (n := 2) (Nat.le_of_ble_eq_true rfl)
  rw [lg_entry_eq]
  generalize (lg_sl ([.ref (ad (8 + 9 * k))]) ++ List.replicate (2 - (lg_sl ([.ref (ad (8 + 9 * k))])).length) Slot.unset).toArray = ls at hl ⊢
  have hl : lv_has ls 2 [(0, .ref (ad (8 + 9 * k)))] := hl
  refine lv_aload_n hx hb dP_search_0 rfl (lv_at hl 0 rfl) ?_
  refine lv_iconst (v := 0) hx hb dP_search_1 (by decide) ?_
  refine va_put (D := D) (ci := 2) (v := .int 0) (ty := .int) (C := RP) (T := TP) (N := 6) hx hb hT inP tyP tyokP nmP hown hK hP hD hS (8 + 9 * k) (cw_PT hk) rfl 2 (by decide) (hT _ wm_41) (fun _ h9 => h9) rfl (by decide +kernel) rfl rfl (Nat.le_of_ble_eq_true rfl) dP_search_2 (fun H locs hP hD hS => ?_)
  rw [cw_sP hk (by simp)] at hP hD
  refine lv_aload_n hx hb dP_search_5 rfl (lv_at hl 0 rfl) ?_
  refine lv_iconst (v := 0) hx hb dP_search_6 (by decide) ?_
  refine lv_iconst (v := 0) hx hb dP_search_7 (by decide) ?_
  refine lv_iconst (v := 1) hx hb dP_search_8 (by decide) ?_
  refine lv_aload_n hx hb dP_search_9 rfl (lv_at hl 0 rfl) ?_
  refine va_get (D := D) (ci := 2) (C := RP) (T := TP) (N := 6) hx hb hT inP hown hK hP (8 + 9 * k) (cw_PT hk) rfl 1 (by decide) (hT _ wm_40) (fun _ h9 => h9) rfl dP_search_10 ?_
  refine W.eq (g2 := F0 m 13 ls [.int (nI n), .int 1, .int 0, .int 0, .ref (ad (8 + 9 * k))]) (by rw [u2_m (show (1 : Nat) ≠ 2 by decide), hc]) ?_
  refine lv_ishl hx hb dP_search_13 ?_
  refine lv_iconst (v := 1) hx hb dP_search_14 (by decide) ?_
  refine lv_isub hx hb dP_search_15 ?_
  refine W.eq (g2 := F0 m 16 ls [.int (nI (2 ^ n - 1)), .int 0, .int 0, .ref (ad (8 + 9 * k))]) (by rw [sh1 n hn]) ?_
  refine kVv (n := 3) (D := D) (wd := fun z => cw CA (u2 g (8 + 9 * k) 2 (nI z)) h ad) (A1 := fun sz => cA h ad sz) (As := [.int 0, .int 0, .int (nI (2 ^ n - 1))]) (rest := []) ⟨hx, hb, hml, hown, hT⟩ (kP_growFoes l hk hn hfo hc hfg 14 0 0 (2 ^ n - 1) 0 H.size (by omega) (by omega) (by decide) (pw1 n hn) (by decide)) (gi_V wm_386 wm_388 wp_6 wm_3 wm_389) rfl rfl (by decide +kernel) ⟨(Nat.le_of_ble_eq_true rfl), (Nat.le_of_ble_eq_true rfl)⟩ (va_recv hK hP (ci := 2) (q0 := 8 + 9 * k) rfl (cw_PT hk)) hK hP hD hS (fun _ h9 => h9) (nA_mono hS.1) rfl hl.1 rfl (Nat.le_of_ble_eq_true rfl) dP_search_16 ⟨(Nat.le_of_ble_eq_true rfl), (Nat.le_of_ble_eq_true rfl)⟩ (fun u9 H locs hu9 hz hP hD hS => ?_)
  have hbl : u9 < 4096 := by rw [hu9]; exact gr_lt hn _ _ _ _ _ (by decide) (by decide)
  refine lv_aload_n hx hb dP_search_19 rfl (lv_at hl 0 rfl) ?_
  refine lv_aload_n hx hb dP_search_20 rfl (lv_at hl 0 rfl) ?_
  refine va_get (D := D) (ci := 2) (C := RP) (T := TP) (N := 6) hx hb hT inP hown hK hP (8 + 9 * k) (cw_PT hk) rfl 2 (by decide) (hT _ wm_41) (fun _ h9 => h9) rfl dP_search_21 ?_
  refine W.eq (g2 := F0 m 24 ls [.int (nI u9), .ref (ad (8 + 9 * k))]) (by rw [u2_s]) ?_
  refine kSi (n := 1) (D := D) (As := [.int (nI u9)]) (rest := [.ref (ad (8 + 9 * k))]) ⟨hx, hb, hml, hown, hT⟩ (kI_bitCount l _ hbl) (gi_S wm_390 wm_391 wm_13 wm_392) rfl rfl (by decide +kernel) ⟨(Nat.le_of_ble_eq_true rfl), (Nat.le_of_ble_eq_true rfl)⟩ hP hS rfl hl.1 rfl (Nat.le_of_ble_eq_true rfl) dP_search_24 ⟨(Nat.le_of_ble_eq_true rfl), (Nat.le_of_ble_eq_true rfl)⟩ (fun r_1 H locs e_2 hz hP hS => ?_)
  subst e_2
  refine va_put (D := D) (ci := 2) (v := .int (nI (pop u9))) (ty := .int) (C := RP) (T := TP) (N := 6) hx hb hT inP tyP tyokP nmP hown hK hP hD hS (8 + 9 * k) (cw_PT hk) rfl 0 (by decide) (hT _ wm_38) (fun _ h9 => h9) rfl (by decide +kernel) rfl rfl (Nat.le_of_ble_eq_true rfl) dP_search_27 (fun H locs hP hD hS => ?_)
  rw [cw_sP hk (by simp)] at hP hD
  refine lv_iconst (v := 0) hx hb dP_search_30 (by decide) ?_
  refine lv_istore_n (lv' := [(1, .int 0), (0, .ref (ad (8 + 9 * k)))]) hx hb dP_search_31 rfl hl (by decide) rfl (fun ls hl => ?_)
  have e9 : u2 (u2 g (8 + 9 * k) 2 (nI u9)) (8 + 9 * k) 0 (nI (pop u9)) = gf k (u2 (u2 g (8 + 9 * k) 2 (nI u9)) (8 + 9 * k) 0 (nI (pop u9))) (fun b => n32 (g (11 + 9 * k) b)) (fun b => n32 (g (10 + 9 * k) b)) := by
    refine (gf_self (k := k)).symm.trans ?_
    simp only [u2_n (show 11 + 9 * k ≠ 8 + 9 * k by omega), u2_n (show 10 + 9 * k ≠ 8 + 9 * k by omega)]
  rw [e9] at hP hD
  refine loP_search (g := (u2 g (8 + 9 * k) 2 (nI u9))) hk hn hfo (by rw [u2_m (show (1 : Nat) ≠ 2 by decide)]; exact hc) (fun i9 hi9 => by rw [u2_n (show 9 + 9 * k ≠ 8 + 9 * k by omega)]; exact hfg i9 hi9) hx hb hml hown hT hK n 0 (pop u9) _ _ (by omega) (by have := pop_le u9; omega) (fun j hj => by show n32 (g (11 + 9 * k) j) < 4096; rw [hz9 j hj]; decide) (fun H locs x9 hx9 hP hD hS ls hl => ?_) H locs hP hD hS ls (lv_sub hl [0, 1] rfl)
  exact W.vret hx hb hr (fun t ht hW => ⟨⟨(gf k (u2 (u2 g (8 + 9 * k) 2 (nI u9)) (8 + 9 * k) 0 (nI x9.1)) x9.2.1 x9.2.2), rfl, ⟨x9, by rw [← hu9]; exact hx9, by rw [← hu9]⟩, gpost_at hP hK hD ht hW.alike⟩, hS.F ht⟩) hS.2.2 dP_search_65
end
section
/-! marks: how they stay small -/
theorem sap_lt {fo : Nat → Nat} {i j : Nat} (h : iok fo) (hi : i < 12) (hj : j < 12) : iok (sap fo i j) := by
  have h1 : iok (va_up fo i (fo i ||| 2 ^ j)) := iok_up h (or_lt (h i hi) (pw_lt hj))
  exact iok_up h1 (or_lt (h1 j hj) (pw_lt hi))
theorem mf1_lt {e : Nat → Nat → Bool} {i : Nat} (hi : i < 12) : ∀ f j fo, j + f ≤ 12 → iok fo → iok (mf1 e i f j fo) := by
  intro f
  induction f with
  | zero => intro j fo _ h; exact h
  | succ f ih =>
    intro j fo hj h
    unfold mf1
    refine ih _ _ (by omega) ?_
    split
    · exact sap_lt h hi (by omega)
    · exact h
theorem mf_lt {e : Nat → Nat → Bool} : ∀ f i fo, i + f ≤ 12 → iok fo → iok (mf e f i fo) := by
  intro f
  induction f with
  | zero => intro i fo _ h; exact h
  | succ f ih =>
    intro i fo hi h
    unfold mf
    exact ih _ _ (by omega) (mf1_lt (by omega) _ _ _ (by omega) h)
/-- what stands behind a fresh search of kind k -/
def pres (g : Nat → Nat → Int32) (h : Nat → Nat → Nat) (jp : Nat → Nat) (k : Nat) (u : Nat → Nat → Int32) : Prop :=
  u (3 + 9 * k) 7 = 0 ∧ (∀ a b, a ≠ 8 + 9 * k → a ≠ 9 + 9 * k → a ≠ 10 + 9 * k → a ≠ 11 + 9 * k → ¬ (a = 3 + 9 * k ∧ b = 7) → u a b = g a b) ∧ u (8 + 9 * k) 1 = nI (h 1 k) ∧
  ∃ fo0 im0 so0 : Nat → Nat, (∀ b, b < 12 → fo0 b = 0) ∧ (∀ b, b < 12 → im0 b = 0) ∧ u (8 + 9 * k) 2 = nI (gr (h 1 k) (mf (eB g h jp k) (h 1 k) 0 fo0) 14 0 0 (2 ^ h 1 k - 1) 0) ∧
    u (8 + 9 * k) 0 = nI (sl (h 1 k) (mf (eB g h jp k) (h 1 k) 0 fo0) (h 1 k) (pop (gr (h 1 k) (mf (eB g h jp k) (h 1 k) 0 fo0) 14 0 0 (2 ^ h 1 k - 1) 0)) im0 so0).1 ∧
    ∀ b, u (10 + 9 * k) b = nI ((sl (h 1 k) (mf (eB g h jp k) (h 1 k) 0 fo0) (h 1 k) (pop (gr (h 1 k) (mf (eB g h jp k) (h 1 k) 0 fo0) 14 0 0 (2 ^ h 1 k - 1) 0)) im0 so0).2.2 b)
set_option maxHeartbeats 4000000 in
set_option maxRecDepth 100000 in
theorem liK_markFoes {p : Program} {l : Launch} {e : Env} {s : State} {m : MethodId} {args : Array Value} {below : List Frame} {meth : Method} {c : Code} {Q : State → Prop} {D : va_G} {CA : Nat → ClassId} {g : Nat → Nat → Int32} {h : Nat → Nat → Nat} {ad : Nat → Nat} {k : Nat} (hk : k < 6) (hc : g (3 + 9 * k) 6 = nI (h 1 k)) (hc12 : h 1 k ≤ 12) (ho : ∀ j, j < h 1 k → h (3 + k) j < h 0 0) {jp : Nat → Nat} (hjp : ∀ p, p < h 0 0 → jp p < 16 ∧ g (57 + p) 3 = nI (jp p)) (hpc : g (8 + 9 * k) 1 = nI (h 1 k)) {i : Nat} (hi : i < h 1 k) (hx : p.tables.exec = Jvm.exec) (hb : c.code = cK_markFoes) (hml : c.maxLocals = 3) (hown : s.vm.findClass "CountLeast$Kind" = some m.cls) (hT : ∀ w ∈ TB, w.before args s = true) (hK : va_K D vwCl (cty CA) s) :
    ∀ (f j : Nat) (fo : Nat → Nat), j + f = i → (∀ (H : Heap) (locs : List Loc) (x : Nat → Nat), x = mf1 (eB g h jp k) i f j fo → va_P D vwCl (cw CA (gq k g x) h ad) H → va_D (cA h ad s.heap.size) (cw CA (gq k g x) h ad) → va_S (cA h ad s.heap.size) s.heap H locs → ∀ ls, lv_has ls 3 [(0, .ref (ad (3 + 9 * k))), (1, .int (nI i))] → W p l e (rm 2 0 0) s m args below meth c H locs 0 0 Q (F0 m 51 ls [])) → ∀ (H : Heap) (locs : List Loc), va_P D vwCl (cw CA (gq k g fo) h ad) H → va_D (cA h ad s.heap.size) (cw CA (gq k g fo) h ad) → va_S (cA h ad s.heap.size) s.heap H locs → ∀ ls, lv_has ls 3 [(2, .int (nI j)), (0, .ref (ad (3 + 9 * k))), (1, .int (nI i))] → W p l e (rm 2 0 0) s m args below meth c H locs 0 0 Q (F0 m 12 ls []) := by
  intro f
  induction f with
  | zero =>
    intro j fo hj kx H locs hP hD hS ls hl
    have hj : j = i := by omega
    subst hj
    refine lv_iload_n hx hb dK_markFoes_12 rfl (lv_at hl 0 rfl) ?_
    refine lv_iload_n hx hb dK_markFoes_13 rfl (lv_at hl 2 rfl) ?_
    refine lv_icmp_ge (tgt := 51) hx hb dK_markFoes_14 (by decide) (fun c_1 => ?_) (fun c_1 => absurd (nI_le (Nat.le_refl _) (by omega)) c_1)
    exact kx H locs fo rfl hP hD hS ls (lv_sub hl [1, 2] rfl)
  | succ f ih =>
    intro j fo hj kx H locs hP hD hS ls hl
    refine lv_iload_n hx hb dK_markFoes_12 rfl (lv_at hl 0 rfl) ?_
    refine lv_iload_n hx hb dK_markFoes_13 rfl (lv_at hl 2 rfl) ?_
    refine lv_icmp_ge (tgt := 51) hx hb dK_markFoes_14 (by decide) (fun c_1 => absurd c_1 (nI_ge (by omega) (by omega))) (fun c_1 => ?_)
    refine lv_aload_n hx hb dK_markFoes_17 rfl (lv_at hl 1 rfl) ?_
    refine lv_aload_n hx hb dK_markFoes_18 rfl (lv_at hl 1 rfl) ?_
    refine va_get (D := D) (ci := 1) (C := RK) (T := TK) (N := 10) hx hb hT inK hown hK hP (3 + 9 * k) (cw_K hk) rfl 8 (by decide) (hT _ wm_77) (fun _ h9 => h9) rfl dK_markFoes_19 ?_
    refine lv_iload_n hx hb dK_markFoes_22 rfl (lv_at hl 2 rfl) ?_
    refine va_aldq (D := D) hx hb hK hP (7 + 9 * k) 3 (cw_OW hk) rfl (vp_in_nI (by omega) (by decide)) dK_markFoes_23 ?_
    refine W.eq (g2 := F0 m 24 ls [.ref (ad (57 + (h (3 + k) i))), .ref (ad (3 + 9 * k))]) (by rw [nI_clamp (n := i) (by omega)]; simp [va_rf, show i < h 1 k by omega]) ?_
    refine lv_aload_n hx hb dK_markFoes_24 rfl (lv_at hl 1 rfl) ?_
    refine va_get (D := D) (ci := 1) (C := RK) (T := TK) (N := 10) hx hb hT inK hown hK hP (3 + 9 * k) (cw_K hk) rfl 8 (by decide) (hT _ wm_77) (fun _ h9 => h9) rfl dK_markFoes_25 ?_
    refine lv_iload_n hx hb dK_markFoes_28 rfl (lv_at hl 0 rfl) ?_
    refine va_aldq (D := D) hx hb hK hP (7 + 9 * k) 3 (cw_OW hk) rfl (vp_in_nI (by omega) (by decide)) dK_markFoes_29 ?_
    refine W.eq (g2 := F0 m 30 ls [.ref (ad (57 + (h (3 + k) j))), .ref (ad (57 + (h (3 + k) i))), .ref (ad (3 + 9 * k))]) (by rw [nI_clamp (n := j) (by omega)]; simp [va_rf, show j < h 1 k by omega]) ?_
    refine kVi (n := 2) (D := D) (wd := fun z => cw CA z h ad) (A1 := fun sz => cA h ad sz) (As := [.ref (ad (57 + (h (3 + k) i))), .ref (ad (57 + (h (3 + k) j)))]) (rest := []) ⟨hx, hb, hml, hown, hT⟩ (kK_ruleBetween l D CA (gq k g fo) h ad H.size k hk (h (3 + k) i) (h (3 + k) j) (ho i (by omega)) (ho j (by omega)) (jp (h (3 + k) i)) (hjp _ (ho i (by omega))).1 (by rw [gq_o (by omega)]; exact (hjp _ (ho i (by omega))).2)) (gi_V wm_377 wm_338 wm_339 wm_2 wm_340) rfl rfl (by decide +kernel) ⟨(Nat.le_of_ble_eq_true rfl), (Nat.le_of_ble_eq_true rfl)⟩ (va_recv hK hP (ci := 1) (q0 := 3 + 9 * k) rfl (cw_K hk)) hK hP hD hS (fun _ h9 => h9) (nA_mono hS.1) rfl hl.1 rfl (Nat.le_of_ble_eq_true rfl) dK_markFoes_30 ⟨(Nat.le_of_ble_eq_true rfl), (Nat.le_of_ble_eq_true rfl)⟩ (fun r9 u9 H locs hw9 hz hP hD hS => ?_)
    obtain ⟨hr9, hu9⟩ := hw9
    rw [hu9] at hP hD
    rw [ruI_gq hk] at hr9
    refine lv_if_eq (tgt := 45) hx hb dK_markFoes_33 (by decide) (fun c_2 => ?_) (fun c_2 => ?_)
    · refine lv_iinc (v := nI (j + 1)) (lv' := [(2, .int (nI (j + 1))), (0, .ref (ad (3 + 9 * k))), (1, .int (nI i))]) hx hb dK_markFoes_45 hl (k := 0) rfl (nI_1 _) (by decide) rfl (fun ls hl => ?_)
      refine lv_goto (tgt := 12) hx hb dK_markFoes_48 (by decide) ?_
      have hef : ¬ (eB g h jp k) i j = true := by simp [eB, ← hr9, c_2]
      exact ih (j + 1) fo (by omega) (fun H locs x hx9 hP hD hS ls hl => kx H locs x (by rw [mf1, if_neg hef]; exact hx9) hP hD hS ls hl) H locs hP hD hS ls (lv_sub hl [0, 1, 2] rfl)
    · refine lv_aload_n hx hb dK_markFoes_36 rfl (lv_at hl 1 rfl) ?_
      refine va_get (D := D) (ci := 1) (C := RK) (T := TK) (N := 10) hx hb hT inK hown hK hP (3 + 9 * k) (cw_K hk) rfl 9 (by decide) (hT _ wm_78) (fun _ h9 => h9) rfl dK_markFoes_37 ?_
      refine lv_iload_n hx hb dK_markFoes_40 rfl (lv_at hl 2 rfl) ?_
      refine lv_iload_n hx hb dK_markFoes_41 rfl (lv_at hl 0 rfl) ?_
      have het : (eB g h jp k) i j = true := by simp [eB, ← hr9, c_2]
      refine kVv (n := 2) (D := D) (wd := fun z => cw CA z h ad) (A1 := fun sz => cA h ad sz) (As := [.int (nI i), .int (nI j)]) (rest := []) ⟨hx, hb, hml, hown, hT⟩ (kP_setApart l D CA (gq k g fo) h ad H.size k hk i j (h 1 k) (by rw [gq_o (by omega)]; exact hpc) (by omega) hi (by omega)) (gi_V wm_378 wm_379 wm_380 wm_3 wm_381) rfl rfl (by decide +kernel) ⟨(Nat.le_of_ble_eq_true rfl), (Nat.le_of_ble_eq_true rfl)⟩ (va_recv hK hP (ci := 2) (q0 := 8 + 9 * k) rfl (cw_PT hk)) hK hP hD hS (fun _ h9 => h9) (nA_mono hS.1) rfl hl.1 rfl (Nat.le_of_ble_eq_true rfl) dK_markFoes_42 ⟨(Nat.le_of_ble_eq_true rfl), (Nat.le_of_ble_eq_true rfl)⟩ (fun u8 H locs hu8 hz hP hD hS => ?_)
      rw [hu8, sa_gq (by omega) (by omega)] at hP hD
      refine lv_iinc (v := nI (j + 1)) (lv' := [(2, .int (nI (j + 1))), (0, .ref (ad (3 + 9 * k))), (1, .int (nI i))]) hx hb dK_markFoes_45 hl (k := 0) rfl (nI_1 _) (by decide) rfl (fun ls hl => ?_)
      refine lv_goto (tgt := 12) hx hb dK_markFoes_48 (by decide) ?_
      exact ih (j + 1) (sap fo i j) (by omega) (fun H locs x hx9 hP hD hS ls hl => kx H locs x (by rw [mf1, if_pos het]; exact hx9) hP hD hS ls hl) H locs hP hD hS ls (lv_sub hl [0, 1, 2] rfl)
set_option maxHeartbeats 4000000 in
set_option maxRecDepth 100000 in
theorem loK_markFoes {p : Program} {l : Launch} {e : Env} {s : State} {m : MethodId} {args : Array Value} {below : List Frame} {meth : Method} {c : Code} {Q : State → Prop} {D : va_G} {CA : Nat → ClassId} {g : Nat → Nat → Int32} {h : Nat → Nat → Nat} {ad : Nat → Nat} {k : Nat} (hk : k < 6) (hc : g (3 + 9 * k) 6 = nI (h 1 k)) (hc12 : h 1 k ≤ 12) (ho : ∀ j, j < h 1 k → h (3 + k) j < h 0 0) {jp : Nat → Nat} (hjp : ∀ p, p < h 0 0 → jp p < 16 ∧ g (57 + p) 3 = nI (jp p)) (hpc : g (8 + 9 * k) 1 = nI (h 1 k)) (hx : p.tables.exec = Jvm.exec) (hb : c.code = cK_markFoes) (hml : c.maxLocals = 3) (hown : s.vm.findClass "CountLeast$Kind" = some m.cls) (hT : ∀ w ∈ TB, w.before args s = true) (hK : va_K D vwCl (cty CA) s) :
    ∀ (f i : Nat) (fo : Nat → Nat), i + f = h 1 k → (∀ (H : Heap) (locs : List Loc) (x : Nat → Nat), x = mf (eB g h jp k) f i fo → va_P D vwCl (cw CA (gq k g x) h ad) H → va_D (cA h ad s.heap.size) (cw CA (gq k g x) h ad) → va_S (cA h ad s.heap.size) s.heap H locs → ∀ ls, lv_has ls 3 [(0, .ref (ad (3 + 9 * k)))] → W p l e (rm 2 0 0) s m args below meth c H locs 0 0 Q (F0 m 57 ls [])) → ∀ (H : Heap) (locs : List Loc), va_P D vwCl (cw CA (gq k g fo) h ad) H → va_D (cA h ad s.heap.size) (cw CA (gq k g fo) h ad) → va_S (cA h ad s.heap.size) s.heap H locs → ∀ ls, lv_has ls 3 [(1, .int (nI i)), (0, .ref (ad (3 + 9 * k)))] → W p l e (rm 2 0 0) s m args below meth c H locs 0 0 Q (F0 m 2 ls []) := by
  intro f
  induction f with
  | zero =>
    intro i fo hi kx H locs hP hD hS ls hl
    refine lv_iload_n hx hb dK_markFoes_2 rfl (lv_at hl 0 rfl) ?_
    refine lv_aload_n hx hb dK_markFoes_3 rfl (lv_at hl 1 rfl) ?_
    refine va_get (D := D) (ci := 1) (C := RK) (T := TK) (N := 10) hx hb hT inK hown hK hP (3 + 9 * k) (cw_K hk) rfl 6 (by decide) (hT _ wm_73) (fun _ h9 => h9) rfl dK_markFoes_4 ?_
    refine W.eq (g2 := F0 m 7 ls [.int (nI (h 1 k)), .int (nI i)]) (by rw [gq_o (by omega), hc]) ?_
    refine lv_icmp_ge (tgt := 57) hx hb dK_markFoes_7 (by decide) (fun c_1 => ?_) (fun c_1 => absurd (nI_le (by omega) (by omega)) c_1)
    exact kx H locs fo rfl hP hD hS ls (lv_sub hl [1] rfl)
  | succ f ih =>
    intro i fo hi kx H locs hP hD hS ls hl
    refine lv_iload_n hx hb dK_markFoes_2 rfl (lv_at hl 0 rfl) ?_
    refine lv_aload_n hx hb dK_markFoes_3 rfl (lv_at hl 1 rfl) ?_
    refine va_get (D := D) (ci := 1) (C := RK) (T := TK) (N := 10) hx hb hT inK hown hK hP (3 + 9 * k) (cw_K hk) rfl 6 (by decide) (hT _ wm_73) (fun _ h9 => h9) rfl dK_markFoes_4 ?_
    refine W.eq (g2 := F0 m 7 ls [.int (nI (h 1 k)), .int (nI i)]) (by rw [gq_o (by omega), hc]) ?_
    refine lv_icmp_ge (tgt := 57) hx hb dK_markFoes_7 (by decide) (fun c_1 => absurd c_1 (nI_ge (by omega) (by omega))) (fun c_1 => ?_)
    refine lv_iconst (v := 0) hx hb dK_markFoes_10 (by decide) ?_
    refine lv_istore_n (lv' := [(2, .int 0), (1, .int (nI i)), (0, .ref (ad (3 + 9 * k)))]) hx hb dK_markFoes_11 rfl hl (by decide) rfl (fun ls hl => ?_)
    refine liK_markFoes hk hc hc12 ho hjp hpc (show i < h 1 k by omega) hx hb hml hown hT hK i 0 fo (by omega) (fun H locs x9 hx9 hP hD hS ls hl => ?_) H locs hP hD hS ls (lv_sub hl [0, 2, 1] rfl)
    refine lv_iinc (v := nI (i + 1)) (lv' := [(1, .int (nI (i + 1))), (0, .ref (ad (3 + 9 * k)))]) hx hb dK_markFoes_51 hl (k := 1) rfl (nI_1 _) (by decide) rfl (fun ls hl => ?_)
    refine lv_goto (tgt := 2) hx hb dK_markFoes_54 (by decide) ?_
    exact ih (i + 1) x9 (by omega) (fun H locs x hx8 hP hD hS ls hl => kx H locs x (by rw [mf, ← hx9]; exact hx8) hP hD hS ls hl) H locs hP hD hS ls (lv_sub hl [0, 1] rfl)
set_option maxHeartbeats 4000000 in
set_option maxRecDepth 100000 in
theorem kK_markFoes (l : Launch) (D : va_G) (CA : Nat → ClassId) (g : Nat → Nat → Int32) (h : Nat → Nat → Nat) (ad : Nat → Nat) (sz : Nat) (k : Nat) (hk : k < 6) (hc : g (3 + 9 * k) 6 = nI (h 1 k)) (hc12 : h 1 k ≤ 12) (ho : ∀ j, j < h 1 k → h (3 + k) j < h 0 0) (jp : Nat → Nat) (hjp : ∀ p, p < h 0 0 → jp p < 16 ∧ g (57 + p) 3 = nI (jp p)) (hpc : g (8 + 9 * k) 1 = nI (h 1 k)) : Met l yK_markFoes wK_markFoes (rm 2 0 0) (va_Pc [.ref (ad (3 + 9 * k))] (gpre D (cty CA) (cw CA g h ad) sz)) (va_Qv (fun (u : Nat → Nat → Int32) => u = gq k g (mf (eB g h jp k) (h 1 k) 0 (fun b => n32 (g (9 + 9 * k) b)))) (fun u t => gpost D (cty CA) (cw CA u h ad) (cA h ad sz) t) (cA h ad sz)) 0 0 (cA h ad sz) := by
  refine Met.ofW (cc := cK_markFoes) (maxL := 3) (ret := none) (by decide) rfl ?_
  intro p e s m args below meth c s₁ B hml hv
  obtain ⟨rfl, hsz, hP, hK, hD0⟩ := hv
  have hx := B.exec
  have hb := B.bytes
  have hr := B.returns
  have hT : ∀ w ∈ TB, w.before _ s = true := fun w hw => atoms_spec (ws := wK_markFoes) B.pre w (List.mem_cons_of_mem _ hw)
  have hown : s.vm.findClass "CountLeast$Kind" = some m.cls := findClass_of_methodNamed B.named
  have hlocks := B.notSynchronized
  subst hsz
  have hD := nA_self (sz := s.heap.size) hD0
  have hS : va_S (cA h ad s.heap.size) s.heap s.heap [] := va_S.rf
  have hP : va_P D vwCl (cw CA g h ad) s.heap := hP
  have hl := lv_entry ([.ref (ad (3 + 9 * k))]) (n := 3) (Nat.le_of_ble_eq_true rfl)
  rw [lg_entry_eq]
  generalize (lg_sl ([.ref (ad (3 + 9 * k))]) ++ List.replicate (3 - (lg_sl ([.ref (ad (3 + 9 * k))])).length) Slot.unset).toArray = ls at hl ⊢
  have hl : lv_has ls 3 [(0, .ref (ad (3 + 9 * k)))] := hl
  refine lv_iconst (v := 0) hx hb dK_markFoes_0 (by decide) ?_
  refine lv_istore_n (lv' := [(1, .int 0), (0, .ref (ad (3 + 9 * k)))]) hx hb dK_markFoes_1 rfl hl (by decide) rfl (fun ls hl => ?_)
  rw [← gq_self (k := k) (g := g)] at hP hD
  refine loK_markFoes (g := g) hk hc hc12 ho hjp hpc hx hb hml hown hT hK (h 1 k) 0 _ (by omega) (fun H locs x9 hx9 hP hD hS ls hl => ?_) _ _ hP hD hS ls (lv_sub hl [0, 1] rfl)
  exact W.vret hx hb hr (fun t ht hW => ⟨⟨gq k g x9, rfl, by rw [hx9], gpost_at hP hK hD ht hW.alike⟩, hS.F ht⟩) hS.2.2 dK_markFoes_57
set_option maxHeartbeats 4000000 in
set_option maxRecDepth 100000 in
theorem kK_parted (l : Launch) (D : va_G) (CA : Nat → ClassId) (g : Nat → Nat → Int32) (h : Nat → Nat → Nat) (ad : Nat → Nat) (sz : Nat) (k : Nat) (hk : k < 6) (hc : g (3 + 9 * k) 6 = nI (h 1 k)) (hc12 : h 1 k ≤ 12) (ho : ∀ j, j < h 1 k → h (3 + k) j < h 0 0) (jp : Nat → Nat) (hjp : ∀ p, p < h 0 0 → jp p < 16 ∧ g (57 + p) 3 = nI (jp p)) : Met l yK_parted wK_parted (rm 17 0 0) (va_Pc [.ref (ad (3 + 9 * k))] (gpre D (cty CA) (cw CA g h ad) sz)) (va_Qr (fun (u : Nat → Nat → Int32) => (g (3 + 9 * k) 7 = 0 ∧ u = g) ∨ (¬ g (3 + 9 * k) 7 = 0 ∧ pres g h jp k u)) (fun u a t => a = ad (8 + 9 * k) ∧ gpost D (cty CA) (cw CA u h ad) (cA h ad sz) t) (cA h ad sz)) 0 0 (cA h ad sz) := by
  refine Met.ofW (cc := cK_parted) (maxL := 1) (ret := (some (.object "CountLeast$Parting"))) (by decide) rfl ?_
  intro p e s m args below meth c s₁ B hml hv
  obtain ⟨rfl, hsz, hP, hK, hD0⟩ := hv
  have hx := B.exec
  have hb := B.bytes
  have hr := B.returns
  have hT : ∀ w ∈ TB, w.before _ s = true := fun w hw => atoms_spec (ws := wK_parted) B.pre w (List.mem_cons_of_mem _ hw)
  have hown : s.vm.findClass "CountLeast$Kind" = some m.cls := findClass_of_methodNamed B.named
  have hlocks := B.notSynchronized
  subst hsz
  have hD := nA_self (sz := s.heap.size) hD0
  have hS : va_S (cA h ad s.heap.size) s.heap s.heap [] := va_S.rf
  have hP : va_P D vwCl (cw CA g h ad) s.heap := hP
  have hl := lv_entry ([.ref (ad (3 + 9 * k))]) (n := 1) (Nat.le_of_ble_eq_true rfl)
  rw [lg_entry_eq]
  generalize (lg_sl ([.ref (ad (3 + 9 * k))]) ++ List.replicate (1 - (lg_sl ([.ref (ad (3 + 9 * k))])).length) Slot.unset).toArray = ls at hl ⊢
  have hl : lv_has ls 1 [(0, .ref (ad (3 + 9 * k)))] := hl
  have z9 : ∀ a, a ≠ 8 + 9 * k → a ≠ 9 + 9 * k → a ≠ 11 + 9 * k → (zg k (u2 g (8 + 9 * k) 1 (nI (h 1 k))) 12) a = g a := fun a h1 h2 h3 => by funext b; simp [zg, u2, h1, h2, h3]
  refine lv_aload_n hx hb dK_parted_0 rfl (lv_at hl 0 rfl) ?_
  refine va_get (D := D) (ci := 1) (C := RK) (T := TK) (N := 10) hx hb hT inK hown hK hP (3 + 9 * k) (cw_K hk) rfl 7 (by decide) (hT _ wm_75) (fun _ h9 => h9) rfl dK_parted_1 ?_
  refine lv_if_eq (tgt := 34) hx hb dK_parted_4 (by decide) (fun c_1 => ?_) (fun c_1 => ?_)
  · refine lv_aload_n hx hb dK_parted_34 rfl (lv_at hl 0 rfl) ?_
    refine va_get (D := D) (ci := 1) (C := RK) (T := TK) (N := 10) hx hb hT inK hown hK hP (3 + 9 * k) (cw_K hk) rfl 9 (by decide) (hT _ wm_78) (fun _ h9 => h9) rfl dK_parted_35 ?_
    exact W.aret (v := .ref (ad (8 + 9 * k))) hx hb hr (Or.inl ⟨_, rfl⟩) (Or.inr ⟨_, rfl⟩) (fun t ht hW => ⟨⟨g, _, rfl, Or.inl ⟨c_1, rfl⟩, rfl, gpost_at hP hK hD ht hW.alike⟩, hS.F ht⟩) hS.2.2 dK_parted_38
  · refine lv_aload_n hx hb dK_parted_7 rfl (lv_at hl 0 rfl) ?_
    refine va_get (D := D) (ci := 1) (C := RK) (T := TK) (N := 10) hx hb hT inK hown hK hP (3 + 9 * k) (cw_K hk) rfl 9 (by decide) (hT _ wm_78) (fun _ h9 => h9) rfl dK_parted_8 ?_
    refine lv_aload_n hx hb dK_parted_11 rfl (lv_at hl 0 rfl) ?_
    refine va_get (D := D) (ci := 1) (C := RK) (T := TK) (N := 10) hx hb hT inK hown hK hP (3 + 9 * k) (cw_K hk) rfl 6 (by decide) (hT _ wm_73) (fun _ h9 => h9) rfl dK_parted_12 ?_
    refine W.eq (g2 := F0 m 15 ls [.int (nI (h 1 k)), .ref (ad (8 + 9 * k))]) (by rw [hc]) ?_
    refine kVv (n := 1) (D := D) (wd := fun z => cw CA z h ad) (A1 := fun sz => cA h ad sz) (As := [.int (nI (h 1 k))]) (rest := []) ⟨hx, hb, hml, hown, hT⟩ (kP_begin l D CA g h ad s.heap.size k hk (h 1 k) (by omega)) (gi_V wm_363 wm_364 wm_365 wm_3 wm_366) rfl rfl (by decide +kernel) ⟨(Nat.le_of_ble_eq_true rfl), (Nat.le_of_ble_eq_true rfl)⟩ (va_recv hK hP (ci := 2) (q0 := 8 + 9 * k) rfl (cw_PT hk)) hK hP hD hS (fun _ h9 => h9) (nA_mono hS.1) rfl hl.1 rfl (Nat.le_of_ble_eq_true rfl) dK_parted_15 ⟨(Nat.le_of_ble_eq_true rfl), (Nat.le_of_ble_eq_true rfl)⟩ (fun u_3 H locs w_4 hz hP hD hS => ?_)
    rw [w_4] at hP hD
    refine lv_aload_n hx hb dK_parted_18 rfl (lv_at hl 0 rfl) ?_
    refine kVv (n := 0) (D := D) (wd := fun z => cw CA z h ad) (A1 := fun sz => cA h ad sz) (As := []) (rest := []) ⟨hx, hb, hml, hown, hT⟩ (kK_markFoes l D CA (zg k (u2 g (8 + 9 * k) 1 (nI (h 1 k))) 12) h ad H.size k hk (by rw [z9 (3 + 9 * k) (by omega) (by omega) (by omega)]; exact hc) hc12 ho jp (fun p9 hp9 => ⟨(hjp p9 hp9).1, by rw [z9 (57 + p9) (by omega) (by omega) (by omega)]; exact (hjp p9 hp9).2⟩) (by simp [zg, u2, show ¬ (8 + 9 * k = 9 + 9 * k) by omega, show ¬ (8 + 9 * k = 11 + 9 * k) by omega])) (gi_V wm_373 wm_375 wp_5 wm_2 wm_376) rfl rfl (by decide +kernel) ⟨(Nat.le_of_ble_eq_true rfl), (Nat.le_of_ble_eq_true rfl)⟩ (va_recv hK hP (ci := 1) (q0 := 3 + 9 * k) rfl (cw_K hk)) hK hP hD hS (fun _ h9 => h9) (nA_mono hS.1) rfl hl.1 rfl (Nat.le_of_ble_eq_true rfl) dK_parted_19 ⟨(Nat.le_of_ble_eq_true rfl), (Nat.le_of_ble_eq_true rfl)⟩ (fun u_7 H locs w_8 hz hP hD hS => ?_)
    rw [w_8] at hP hD
    have hee : eB (zg k (u2 g (8 + 9 * k) 1 (nI (h 1 k))) 12) h jp k = eB g h jp k := by
      funext i9 j9
      unfold eB ruI
      simp only [z9 (57 + h (3 + k) i9) (by omega) (by omega) (by omega), z9 (57 + h (3 + k) j9) (by omega) (by omega) (by omega), z9 (4 + 9 * k) (by omega) (by omega) (by omega), z9 (3 + 9 * k) (by omega) (by omega) (by omega)]
    rw [hee] at hP hD
    obtain ⟨fo9, hfo9⟩ : ∃ z, z = mf (eB g h jp k) (h 1 k) 0 (fun b => n32 ((zg k (u2 g (8 + 9 * k) 1 (nI (h 1 k))) 12) (9 + 9 * k) b)) := ⟨_, rfl⟩
    rw [← hfo9] at hP hD
    have hfl : iok fo9 := by rw [hfo9]; exact mf_lt _ _ _ (by omega) (fun j hj => by simp [zg, hj, n32_0])
    refine lv_aload_n hx hb dK_parted_22 rfl (lv_at hl 0 rfl) ?_
    refine va_get (D := D) (ci := 1) (C := RK) (T := TK) (N := 10) hx hb hT inK hown hK hP (3 + 9 * k) (cw_K hk) rfl 9 (by decide) (hT _ wm_78) (fun _ h9 => h9) rfl dK_parted_23 ?_
    refine kVv (n := 0) (D := D) (wd := fun z => cw CA z h ad) (A1 := fun sz => cA h ad sz) (As := []) (rest := []) ⟨hx, hb, hml, hown, hT⟩ (kP_search l D CA (gq k (zg k (u2 g (8 + 9 * k) 1 (nI (h 1 k))) 12) fo9) h ad H.size k hk (h 1 k) (by omega) fo9 hfl (by rw [gq_o (by omega)]; simp [zg, u2, show ¬ (8 + 9 * k = 9 + 9 * k) by omega, show ¬ (8 + 9 * k = 11 + 9 * k) by omega]) (fun i9 _ => gq_f) (fun b9 hb9 => by rw [gq_o (by omega)]; simp [zg, hb9])) (gi_V wm_382 wm_383 wm_384 wm_3 wm_385) rfl rfl (by decide +kernel) ⟨(Nat.le_of_ble_eq_true rfl), (Nat.le_of_ble_eq_true rfl)⟩ (va_recv hK hP (ci := 2) (q0 := 8 + 9 * k) rfl (cw_PT hk)) hK hP hD hS (fun _ h9 => h9) (nA_mono hS.1) rfl hl.1 rfl (Nat.le_of_ble_eq_true rfl) dK_parted_26 ⟨(Nat.le_of_ble_eq_true rfl), (Nat.le_of_ble_eq_true rfl)⟩ (fun u_11 H locs w_12 hz hP hD hS => ?_)
    obtain ⟨x9, hx9, hu9⟩ := w_12
    refine lv_aload_n hx hb dK_parted_29 rfl (lv_at hl 0 rfl) ?_
    refine lv_iconst (v := 0) hx hb dK_parted_30 (by decide) ?_
    refine va_put (D := D) (ci := 1) (v := .int 0) (ty := .boolean) (C := RK) (T := TK) (N := 10) hx hb hT inK tyK tyokK nmK hown hK hP hD hS (3 + 9 * k) (cw_K hk) rfl 7 (by decide) (hT _ wm_75) (fun _ h9 => h9) rfl (by decide +kernel) rfl rfl (Nat.le_of_ble_eq_true rfl) dK_parted_31 (fun H locs hP hD hS => ?_)
    rw [cw_sK hk (by simp)] at hP hD
    have hpre : pres g h jp k (u2 u_11 (3 + 9 * k) 7 0) := by
      subst hu9
      refine ⟨u2_s, fun a b h8 h9 h10 h11 h3 => ?_, ?_, (fun b => n32 ((zg k (u2 g (8 + 9 * k) 1 (nI (h 1 k))) 12) (9 + 9 * k) b)), (fun b => n32 ((gq k (zg k (u2 g (8 + 9 * k) 1 (nI (h 1 k))) 12) fo9) (11 + 9 * k) b)), (fun b => n32 ((gq k (zg k (u2 g (8 + 9 * k) 1 (nI (h 1 k))) 12) fo9) (10 + 9 * k) b)), ?_, ?_, ?_, ?_, ?_⟩
      · simp only [u2, gf, gq, zg, h8, h9, h10, h11, h3, false_and, if_false, false_or]
      · simp [u2, gf, gq, zg, show ¬ (8 + 9 * k = 9 + 9 * k) by omega, show ¬ (8 + 9 * k = 11 + 9 * k) by omega, show ¬ (8 + 9 * k = 10 + 9 * k) by omega, show ¬ (8 + 9 * k = 3 + 9 * k) by omega]
      · intro b hb8; simp [zg, hb8, n32_0]
      · intro b hb8; simp [gq, zg, hb8, n32_0, show ¬ (11 + 9 * k = 9 + 9 * k) by omega]
      · rw [← hfo9]; simp [u2, gf, show ¬ (8 + 9 * k = 11 + 9 * k) by omega, show ¬ (8 + 9 * k = 10 + 9 * k) by omega, show ¬ (8 + 9 * k = 3 + 9 * k) by omega]
      · rw [← hfo9, ← hx9]; simp [u2, gf, show ¬ (8 + 9 * k = 11 + 9 * k) by omega, show ¬ (8 + 9 * k = 10 + 9 * k) by omega, show ¬ (8 + 9 * k = 3 + 9 * k) by omega]
      · intro b; rw [← hfo9, ← hx9]; simp [u2, gf, show ¬ (10 + 9 * k = 11 + 9 * k) by omega, show ¬ (10 + 9 * k = 3 + 9 * k) by omega]
    refine lv_aload_n hx hb dK_parted_34 rfl (lv_at hl 0 rfl) ?_
    refine va_get (D := D) (ci := 1) (C := RK) (T := TK) (N := 10) hx hb hT inK hown hK hP (3 + 9 * k) (cw_K hk) rfl 9 (by decide) (hT _ wm_78) (fun _ h9 => h9) rfl dK_parted_35 ?_
    exact W.aret (v := .ref (ad (8 + 9 * k))) hx hb hr (Or.inl ⟨_, rfl⟩) (Or.inr ⟨_, rfl⟩) (fun t ht hW => ⟨⟨(u2 u_11 (3 + 9 * k) 7 0), _, rfl, Or.inr ⟨c_1, hpre⟩, rfl, gpost_at hP hK hD ht hW.alike⟩, hS.F ht⟩) hS.2.2 dK_parted_38
end
section
/-! the class's invariant, and what a look at a parting leaves of it -/
def CB (g : Nat → Nat → Int32) (h : Nat → Nat → Nat) (k : Nat) : Prop := ∃ n m K, n < 13 ∧ m < 4096 ∧ K < 25 ∧ g (8 + 9 * k) 1 = nI n ∧ g (8 + 9 * k) 2 = nI m ∧ g (8 + 9 * k) 0 = nI K ∧ (g (3 + 9 * k) 7 = 0 → n = h 1 k)
def CIv (g : Nat → Nat → Int32) (h : Nat → Nat → Nat) (jp : Nat → Nat) : Prop :=
  h 0 0 ≤ 72 ∧ g 0 2 = nI (h 0 0) ∧ (∀ k, k < 6 → h 1 k ≤ 12 ∧ g (3 + 9 * k) 6 = nI (h 1 k) ∧ ∀ j, j < h 1 k → h (3 + k) j < h 0 0) ∧ (∀ p, p < h 0 0 → h 2 p < 6 ∧ jp p < 16 ∧ g (57 + p) 3 = nI (jp p)) ∧ ∀ k, k < 6 → CB g h k
def par (g : Nat → Nat → Int32) (h : Nat → Nat → Nat) (jp : Nat → Nat) (k : Nat) (u : Nat → Nat → Int32) : Prop := (g (3 + 9 * k) 7 = 0 ∧ u = g) ∨ (¬ g (3 + 9 * k) 7 = 0 ∧ pres g h jp k u)
theorem par_keep {g u : Nat → Nat → Int32} {h : Nat → Nat → Nat} {jp : Nat → Nat} {k : Nat} (hp : par g h jp k u) {a b : Nat} (h8 : a ≠ 8 + 9 * k) (h9 : a ≠ 9 + 9 * k) (h10 : a ≠ 10 + 9 * k) (h11 : a ≠ 11 + 9 * k) (h3 : ¬ (a = 3 + 9 * k ∧ b = 7)) : u a b = g a b := by
  rcases hp with ⟨-, rfl⟩ | ⟨-, hp⟩
  · rfl
  · exact hp.2.1 a b h8 h9 h10 h11 h3
theorem sl_le {n : Nat} {fo : Nat → Nat} : ∀ f K im so, (sl n fo f K im so).1 ≤ K + f := by
  intro f
  induction f with
  | zero => intro K im so; exact Nat.le_refl _
  | succ f ih =>
    intro K im so
    unfold sl
    split
    · exact Nat.le_add_right _ _
    · exact Nat.le_trans (ih _ _ _) (by omega)
theorem par_P {g u : Nat → Nat → Int32} {h : Nat → Nat → Nat} {jp : Nat → Nat} {k : Nat} (hI : CIv g h jp) (hk : k < 6) (hp : par g h jp k u) : u (8 + 9 * k) 1 = nI (h 1 k) ∧ u (3 + 9 * k) 7 = 0 ∧ ∃ m K, m < 4096 ∧ K < 25 ∧ u (8 + 9 * k) 2 = nI m ∧ u (8 + 9 * k) 0 = nI K := by
  rcases hp with ⟨h0, rfl⟩ | ⟨-, hp⟩
  · obtain ⟨n, m, K, h1, h2, h3, h4, h5, h6, h7⟩ := hI.2.2.2.2 k hk
    exact ⟨by rw [h4, h7 h0], h0, m, K, h2, h3, h5, h6⟩
  · obtain ⟨p1, p2, p3, fo0, im0, so0, p4, p5, p6, p7, p8⟩ := hp
    have hn := (hI.2.2.1 k hk).1
    refine ⟨p3, p1, _, _, gr_lt (by omega) _ _ _ _ _ (by decide) (by decide), ?_, p6, p7⟩
    have h1 := sl_le (n := h 1 k) (fo := mf (eB g h jp k) (h 1 k) 0 fo0) (h 1 k) (pop (gr (h 1 k) (mf (eB g h jp k) (h 1 k) 0 fo0) 14 0 0 (2 ^ h 1 k - 1) 0)) im0 so0
    have h2 := pop_le (gr (h 1 k) (mf (eB g h jp k) (h 1 k) 0 fo0) 14 0 0 (2 ^ h 1 k - 1) 0)
    omega
theorem par_CI {g u : Nat → Nat → Int32} {h : Nat → Nat → Nat} {jp : Nat → Nat} {k : Nat} (hI : CIv g h jp) (hk : k < 6) (hp : par g h jp k u) : CIv u h jp := by
  refine ⟨hI.1, ?_, fun q hq => ⟨(hI.2.2.1 q hq).1, ?_, (hI.2.2.1 q hq).2.2⟩, fun p hp9 => ⟨(hI.2.2.2.1 p hp9).1, (hI.2.2.2.1 p hp9).2.1, ?_⟩, fun q hq => ?_⟩
  · rw [par_keep hp (by omega) (by omega) (by omega) (by omega) (by omega)]; exact hI.2.1
  · rw [par_keep hp (by omega) (by omega) (by omega) (by omega) (by omega)]; exact (hI.2.2.1 q hq).2.1
  · rw [par_keep hp (by omega) (by omega) (by omega) (by omega) (by omega)]; exact (hI.2.2.2.1 p hp9).2.2
  · by_cases hqk : q = k
    · subst hqk
      obtain ⟨h1, h2, m, K, h3, h4, h5, h6⟩ := par_P hI hk hp
      exact ⟨h 1 q, m, K, by have := (hI.2.2.1 q hq).1; omega, h3, h4, h1, h5, h6, fun _ => rfl⟩
    · obtain ⟨n, m, K, h1, h2, h3, h4, h5, h6, h7⟩ := hI.2.2.2.2 q hq
      refine ⟨n, m, K, h1, h2, h3, ?_, ?_, ?_, ?_⟩
      · rw [par_keep hp (by omega) (by omega) (by omega) (by omega) (by omega)]; exact h4
      · rw [par_keep hp (by omega) (by omega) (by omega) (by omega) (by omega)]; exact h5
      · rw [par_keep hp (by omega) (by omega) (by omega) (by omega) (by omega)]; exact h6
      · rw [par_keep hp (by omega) (by omega) (by omega) (by omega) (by omega)]; exact h7
/-- the kinds below i, one behind the other -/
def prs (h : Nat → Nat → Nat) (jp : Nat → Nat) (g : Nat → Nat → Int32) : Nat → (Nat → Nat → Int32) → Nat → Prop
  | 0, u, A => u = g ∧ A = 0
  | i + 1, u, A => ∃ v B K, prs h jp g i v B ∧ par v h jp i u ∧ u (8 + 9 * i) 0 = nI K ∧ K < 25 ∧ A = B + K
theorem prs_CI {h : Nat → Nat → Nat} {jp : Nat → Nat} {g : Nat → Nat → Int32} (hI : CIv g h jp) : ∀ i u A, i ≤ 6 → prs h jp g i u A → CIv u h jp ∧ A ≤ 24 * i := by
  intro i
  induction i with
  | zero => intro u A _ hp; obtain ⟨rfl, rfl⟩ := hp; exact ⟨hI, by omega⟩
  | succ i ih =>
    intro u A hi hp
    obtain ⟨v, B, K, h1, h2, h3, h4, rfl⟩ := hp
    obtain ⟨a, b⟩ := ih v B (by omega) h1
    exact ⟨par_CI a (by omega) h2, by omega⟩
def les (a b : Nat) (e : Int32) : Int32 := if nI b = 0 then (if e = 0 then 0 else 1) else if nI (ed 64 a b) = 0 then 0 else (if e = 0 then nI a else nI b) / nI (ed 64 a b)
theorem opr : ∀ n, n < 73 → nI n * (nI n - 1) = nI (n * (n - 1)) := by decide +kernel
def aln (h : Nat → Nat → Nat) : Nat → Nat
  | 0 => 0
  | i + 1 => aln h i + h 1 i * (h 1 i - 1)
theorem aln_le {h : Nat → Nat → Nat} (hh : ∀ k, k < 6 → h 1 k ≤ 12) : ∀ i, i ≤ 6 → aln h i ≤ 132 * i := by
  intro i
  induction i with
  | zero => intro _; exact Nat.le_refl _
  | succ i ih =>
    intro hi
    have h1 := ih (by omega)
    have h2 := hh i (by omega)
    have h3 : h 1 i * (h 1 i - 1) ≤ 12 * 11 := Nat.mul_le_mul h2 (by omega)
    show aln h i + h 1 i * (h 1 i - 1) ≤ _
    omega
set_option maxHeartbeats 4000000 in
set_option maxRecDepth 100000 in
theorem kC_lessened (l : Launch) (a b : Nat) (en : Int32) (ha9 : a < 2 ^ 31) (hb9 : b < 2 ^ 31) : Met l yC_lessened wC_lessened (rm 1 0 0) (va_Pc [.int (nI a), .int (nI b), .int en] (fun _ => True)) (va_Qi (fun r (_ : Unit) => r = les a b en) (fun _ _ => True) (fun _ => False)) 0 0 (fun _ => False) := by
  refine Met.ofW (cc := cC_lessened) (maxL := 3) (ret := (some .int)) (by decide) rfl ?_
  intro p e s m args below meth c s₁ B hml hv
  obtain ⟨rfl, -⟩ := hv
  have hx := B.exec
  have hb := B.bytes
  have hr := B.returns
  have hT : ∀ w ∈ TB, w.before _ s = true := fun w hw => atoms_spec (ws := wC_lessened) B.pre w (List.mem_cons_of_mem _ hw)
  have hown : s.vm.findClass "CountLeast" = some m.cls := findClass_of_methodNamed B.named
  have hlocks := B.notSynchronized
  have hS : va_S (fun _ => False) s.heap s.heap [] := va_S.rf
  obtain ⟨D, -⟩ : ∃ D : va_G, True := ⟨(fun _ => 0, fun _ _ => 0), trivial⟩
  have hP : va_P D vwCl [] s.heap := fun k q h9 => by simp at h9
  have hl := lv_entry ([.int (nI a), .int (nI b), .int en]) (n := 3) (Nat.le_of_ble_eq_true rfl)
  rw [lg_entry_eq]
  generalize (lg_sl ([.int (nI a), .int (nI b), .int en]) ++ List.replicate (3 - (lg_sl ([.int (nI a), .int (nI b), .int en])).length) Slot.unset).toArray = ls at hl ⊢
  have hl : lv_has ls 3 [(0, .int (nI a)), (1, .int (nI b)), (2, .int en)] := hl
  refine lv_iload_n hx hb dC_lessened_0 rfl (lv_at hl 1 rfl) ?_
  refine lv_if_ne (tgt := 14) hx hb dC_lessened_1 (by decide) (fun c_1 => ?_) (fun c_1 => ?_)
  · refine lv_iload_n hx hb dC_lessened_14 rfl (lv_at hl 2 rfl) ?_
    refine lv_if_ne (tgt := 22) hx hb dC_lessened_15 (by decide) (fun c_2 => ?_) (fun c_2 => ?_)
    · refine lv_iload_n hx hb dC_lessened_22 rfl (lv_at hl 1 rfl) ?_
      refine lv_iload_n hx hb dC_lessened_23 rfl (lv_at hl 0 rfl) ?_
      refine lv_iload_n hx hb dC_lessened_24 rfl (lv_at hl 1 rfl) ?_
      refine kSi (n := 2) (D := D) (As := [.int (nI a), .int (nI b)]) (rest := [.int (nI b)]) ⟨hx, hb, hml, hown, hT⟩ (kC_commonDivisor l a b ha9 hb9) (gi_S wm_456 wm_457 wm_1 wm_458) rfl rfl (by decide +kernel) ⟨(Nat.le_of_ble_eq_true rfl), (Nat.le_of_ble_eq_true rfl)⟩ hP hS rfl hl.1 rfl (Nat.le_of_ble_eq_true rfl) dC_lessened_25 ⟨(Nat.le_of_ble_eq_true rfl), (Nat.le_of_ble_eq_true rfl)⟩ (fun r_3 H locs e_4 hz hP hS => ?_)
      subst e_4
      refine kSi (n := 2) (D := D) (As := [.int (nI b), .int (nI (ed 64 a b))]) (rest := []) ⟨hx, hb, hml, hown, hT⟩ (kC_quotient l (nI b) (nI (ed 64 a b))) (gi_S wm_459 wm_460 wm_1 wm_461) rfl rfl (by decide +kernel) ⟨(Nat.le_of_ble_eq_true rfl), (Nat.le_of_ble_eq_true rfl)⟩ hP hS rfl hl.1 rfl (Nat.le_of_ble_eq_true rfl) dC_lessened_28 ⟨(Nat.le_of_ble_eq_true rfl), (Nat.le_of_ble_eq_true rfl)⟩ (fun r_5 H locs e_6 hz hP hS => ?_)
      subst e_6
      exact W.iret (v := if (nI (ed 64 a b)) = 0 then 0 else (nI b) / (nI (ed 64 a b))) hx hb hr (fun t ht hW => ⟨⟨_, (), rfl, by simp [les, c_1, c_2], trivial⟩, hS.F ht⟩) hS.2.2 dC_lessened_31
    · refine lv_iload_n hx hb dC_lessened_18 rfl (lv_at hl 0 rfl) ?_
      refine lv_goto (tgt := 23) hx hb dC_lessened_19 (by decide) ?_
      refine lv_iload_n hx hb dC_lessened_23 rfl (lv_at hl 0 rfl) ?_
      refine lv_iload_n hx hb dC_lessened_24 rfl (lv_at hl 1 rfl) ?_
      refine kSi (n := 2) (D := D) (As := [.int (nI a), .int (nI b)]) (rest := [.int (nI a)]) ⟨hx, hb, hml, hown, hT⟩ (kC_commonDivisor l a b ha9 hb9) (gi_S wm_456 wm_457 wm_1 wm_458) rfl rfl (by decide +kernel) ⟨(Nat.le_of_ble_eq_true rfl), (Nat.le_of_ble_eq_true rfl)⟩ hP hS rfl hl.1 rfl (Nat.le_of_ble_eq_true rfl) dC_lessened_25 ⟨(Nat.le_of_ble_eq_true rfl), (Nat.le_of_ble_eq_true rfl)⟩ (fun r_7 H locs e_8 hz hP hS => ?_)
      subst e_8
      refine kSi (n := 2) (D := D) (As := [.int (nI a), .int (nI (ed 64 a b))]) (rest := []) ⟨hx, hb, hml, hown, hT⟩ (kC_quotient l (nI a) (nI (ed 64 a b))) (gi_S wm_459 wm_460 wm_1 wm_461) rfl rfl (by decide +kernel) ⟨(Nat.le_of_ble_eq_true rfl), (Nat.le_of_ble_eq_true rfl)⟩ hP hS rfl hl.1 rfl (Nat.le_of_ble_eq_true rfl) dC_lessened_28 ⟨(Nat.le_of_ble_eq_true rfl), (Nat.le_of_ble_eq_true rfl)⟩ (fun r_9 H locs e_10 hz hP hS => ?_)
      subst e_10
      exact W.iret (v := if (nI (ed 64 a b)) = 0 then 0 else (nI a) / (nI (ed 64 a b))) hx hb hr (fun t ht hW => ⟨⟨_, (), rfl, by simp [les, c_1, c_2], trivial⟩, hS.F ht⟩) hS.2.2 dC_lessened_31
  · refine lv_iload_n hx hb dC_lessened_4 rfl (lv_at hl 2 rfl) ?_
    refine lv_if_ne (tgt := 12) hx hb dC_lessened_5 (by decide) (fun c_11 => ?_) (fun c_11 => ?_)
    · refine lv_iconst (v := 1) hx hb dC_lessened_12 (by decide) ?_
      exact W.iret (v := 1) hx hb hr (fun t ht hW => ⟨⟨_, (), rfl, by simp [les, c_1, c_11], trivial⟩, hS.F ht⟩) hS.2.2 dC_lessened_13
    · refine lv_iconst (v := 0) hx hb dC_lessened_8 (by decide) ?_
      refine lv_goto (tgt := 13) hx hb dC_lessened_9 (by decide) ?_
      exact W.iret (v := 0) hx hb hr (fun t ht hW => ⟨⟨_, (), rfl, by simp [les, c_1, c_11], trivial⟩, hS.F ht⟩) hS.2.2 dC_lessened_13
set_option maxHeartbeats 4000000 in
set_option maxRecDepth 100000 in
theorem kC_least (l : Launch) (hlt : l.stackTraces = false) (D : va_G) (CA : Nat → ClassId) (g : Nat → Nat → Int32) (h : Nat → Nat → Nat) (ad : Nat → Nat) (sz : Nat) (sa : Nat → Nat) (kd : Int32) (jp : Nat → Nat) (hI : CIv g h jp) : vx_Met l yC_least wC_least (rm 18 1 6) (va_Pc [.ref (ad 0), .int kd] (fun U => gpre D (cty CA) (cw CA g h ad) sz U ∧ xz (cA h ad sz) sa U U.heap)) (va_Qi (fun r (u : Nat → Nat → Int32) => ¬ (ib kd 6) ∧ ∃ k, k < 6 ∧ kd = nI k ∧ par g h jp k u ∧ r = u (8 + 9 * k) 0) (fun u t => gpost D (cty CA) (cw CA u h ad) (cA h ad sz) t) (cA h ad sz)) (vx_X (fun u : Nat → Nat → Int32 => u = g) (fun E u t => te3 (ib kd 6) False False E ∧ gpost D (cty CA) (cw CA u h ad) (cA h ad sz) t) (cA h ad sz)) 1 6 (cA h ad sz) := by
  refine vx_ofW (cc := cC_least) (maxL := 2) (ret := (some .int)) (by decide) rfl ?_
  intro p e s m args below meth c s₁ B hml hno hv
  obtain ⟨rfl, ⟨hsz, hP, hK, hD0⟩, hZ⟩ := hv
  have hx := B.exec
  have hb := B.bytes
  have hr := B.returns
  have hT : ∀ w ∈ TB, w.before _ s = true := fun w hw => atoms_spec (ws := wC_least) B.pre w (List.mem_cons_of_mem _ hw)
  have hown : s.vm.findClass "CountLeast" = some m.cls := findClass_of_methodNamed B.named
  have hlocks := B.notSynchronized
  subst hsz
  have hD := nA_self (sz := s.heap.size) hD0
  have hS : va_S (cA h ad s.heap.size) s.heap s.heap [] := va_S.rf
  have hP : va_P D vwCl (cw CA g h ad) s.heap := hP
  have hl := lv_entry ([.ref (ad 0), .int kd]) (n := 2) (Nat.le_of_ble_eq_true rfl)
  rw [lg_entry_eq]
  generalize (lg_sl ([.ref (ad 0), .int kd]) ++ List.replicate (2 - (lg_sl ([.ref (ad 0), .int kd])).length) Slot.unset).toArray = ls at hl ⊢
  have hl : lv_has ls 2 [(0, .ref (ad 0)), (1, .int kd)] := hl
  have hn72 := hI.1
  have hg0 := hI.2.1
  have hkk := hI.2.2.1
  have hpp := hI.2.2.2.1
  have hq6 : ∀ p, p < h 0 0 → h 2 p < 6 := fun p hp => (hpp p hp).1
  refine lv_aload_n hx hb dC_least_0 rfl (lv_at hl 0 rfl) ?_
  refine lv_iload_n hx hb dC_least_1 rfl (lv_at hl 1 rfl) ?_
  refine kVx (n := 1) (D := D) (wd := fun z => cw CA z h ad) (A1 := fun sz => cA h ad sz) (As := [.int kd]) (rest := []) (te := (te3 (ib kd 6) False False)) ⟨hx, hb, hml, hown, hT⟩ (kC_kindAt l hlt D CA g h ad s.heap.size sa kd) (gi_V wm_120 wm_122 wp_0 wm_1 wm_123) rfl rfl (by decide +kernel) ⟨(Nat.le_of_ble_eq_true rfl), (Nat.le_of_ble_eq_true rfl)⟩ (va_recv hK hP (ci := 0) (q0 := 0) rfl cw_X) hlocks hno hZ (fun _ h9 => h9) hK hP hD hS (fun _ h9 => h9) (nA_mono hS.1) (fun E h9 => Or.inl ⟨h9.1, h9.2⟩) rfl hl.1 rfl (Nat.le_of_ble_eq_true rfl) dC_least_2 ⟨(Nat.le_of_ble_eq_true rfl), (Nat.le_of_ble_eq_true rfl)⟩ (Nat.le_of_ble_eq_true rfl) (Nat.le_of_ble_eq_true rfl) (fun a9 H locs ha hz hP hS => ?_)
  obtain ⟨k, hk, rfl, rfl⟩ := ha
  have f_1 : ¬ ib (nI k) 6 := nib hk (by decide)
  refine kVr (n := 0) (D := D) (wd := fun z => cw CA z h ad) (A1 := fun sz => cA h ad sz) (As := []) (rest := []) ⟨hx, hb, hml, hown, hT⟩ (kK_parted l D CA g h ad H.size k hk (hkk _ hk).2.1 (hkk _ hk).1 (hkk _ hk).2.2 jp (fun p9 hp9 => (hpp p9 hp9).2)) (gi_V wm_359 wm_360 wm_361 wm_2 wm_362) rfl rfl (by decide +kernel) ⟨(Nat.le_of_ble_eq_true rfl), (Nat.le_of_ble_eq_true rfl)⟩ (va_recv hK hP (ci := 1) (q0 := 3 + 9 * k) rfl (cw_K hk)) hK hP hD hS (fun _ h9 => h9) (nA_mono hS.1) rfl hl.1 rfl (Nat.le_of_ble_eq_true rfl) dC_least_5 ⟨(Nat.le_of_ble_eq_true rfl), (Nat.le_of_ble_eq_true rfl)⟩ (fun u_3 a_5 H locs w_4 ha_5 hz hP hD hS => ?_)
  subst ha_5
  have hpar : par g h jp k u_3 := w_4
  have hPP := par_P hI hk hpar
  refine va_get (D := D) (ci := 2) (C := RP) (T := TP) (N := 6) hx hb hT inP hown hK hP (8 + 9 * k) (cw_PT hk) rfl 0 (by decide) (hT _ wm_39) (fun _ h9 => h9) rfl dC_least_8 ?_
  refine vx_ret ?_
  exact W.iret (v := u_3 (8 + 9 * k) 0) hx hb hr (fun t ht hW => ⟨⟨_, u_3, rfl, ⟨f_1, k, hk, rfl, hpar, rfl⟩, gpost_at hP hK hD ht hW.alike⟩, hS.F ht⟩) hS.2.2 dC_least_11
set_option maxHeartbeats 4000000 in
set_option maxRecDepth 100000 in
theorem kC_animal (l : Launch) (hlt : l.stackTraces = false) (D : va_G) (CA : Nat → ClassId) (g : Nat → Nat → Int32) (h : Nat → Nat → Nat) (ad : Nat → Nat) (sz : Nat) (sa : Nat → Nat) (pn : Int32) (jp : Nat → Nat) (hI : CIv g h jp) : vx_Met l yC_animal wC_animal (rm 18 1 6) (va_Pc [.ref (ad 0), .int pn] (fun U => gpre D (cty CA) (cw CA g h ad) sz U ∧ xz (cA h ad sz) sa U U.heap)) (va_Qi (fun r (u : Nat → Nat → Int32) => ¬ (ib pn (g 0 2)) ∧ ∃ p, p < h 0 0 ∧ pn = nI p ∧ par g h jp (h 2 p) u ∧ ∀ j, j < h 1 (h 2 p) → g (57 + p) 2 = nI j → r = u (10 + 9 * h 2 p) j) (fun u t => gpost D (cty CA) (cw CA u h ad) (cA h ad sz) t) (cA h ad sz)) (vx_X (fun u : Nat → Nat → Int32 => u = g) (fun E u t => te3 (ib pn (g 0 2)) False False E ∧ gpost D (cty CA) (cw CA u h ad) (cA h ad sz) t) (cA h ad sz)) 1 6 (cA h ad sz) := by
  refine vx_ofW (cc := cC_animal) (maxL := 3) (ret := (some .int)) (by decide) rfl ?_
  intro p e s m args below meth c s₁ B hml hno hv
  obtain ⟨rfl, ⟨hsz, hP, hK, hD0⟩, hZ⟩ := hv
  have hx := B.exec
  have hb := B.bytes
  have hr := B.returns
  have hT : ∀ w ∈ TB, w.before _ s = true := fun w hw => atoms_spec (ws := wC_animal) B.pre w (List.mem_cons_of_mem _ hw)
  have hown : s.vm.findClass "CountLeast" = some m.cls := findClass_of_methodNamed B.named
  have hlocks := B.notSynchronized
  subst hsz
  have hD := nA_self (sz := s.heap.size) hD0
  have hS : va_S (cA h ad s.heap.size) s.heap s.heap [] := va_S.rf
  have hP : va_P D vwCl (cw CA g h ad) s.heap := hP
  have hl := lv_entry ([.ref (ad 0), .int pn]) (n := 3) (Nat.le_of_ble_eq_true rfl)
  rw [lg_entry_eq]
  generalize (lg_sl ([.ref (ad 0), .int pn]) ++ List.replicate (3 - (lg_sl ([.ref (ad 0), .int pn])).length) Slot.unset).toArray = ls at hl ⊢
  have hl : lv_has ls 3 [(0, .ref (ad 0)), (1, .int pn)] := hl
  have hn72 := hI.1
  have hg0 := hI.2.1
  have hkk := hI.2.2.1
  have hpp := hI.2.2.2.1
  have hq6 : ∀ p, p < h 0 0 → h 2 p < 6 := fun p hp => (hpp p hp).1
  refine lv_aload_n hx hb dC_animal_0 rfl (lv_at hl 0 rfl) ?_
  refine lv_iload_n hx hb dC_animal_1 rfl (lv_at hl 1 rfl) ?_
  refine kVx (n := 1) (D := D) (wd := fun z => cw CA z h ad) (A1 := fun sz => cA h ad sz) (As := [.int pn]) (rest := []) (te := (te3 (ib pn (g 0 2)) False False)) ⟨hx, hb, hml, hown, hT⟩ (kC_pieceAt l hlt D CA g h ad s.heap.size sa pn hn72 hg0) (gi_V wm_310 wm_312 wp_2 wm_1 wm_313) rfl rfl (by decide +kernel) ⟨(Nat.le_of_ble_eq_true rfl), (Nat.le_of_ble_eq_true rfl)⟩ (va_recv hK hP (ci := 0) (q0 := 0) rfl cw_X) hlocks hno hZ (fun _ h9 => h9) hK hP hD hS (fun _ h9 => h9) (nA_mono hS.1) (fun E h9 => Or.inl ⟨h9.1, h9.2⟩) rfl hl.1 rfl (Nat.le_of_ble_eq_true rfl) dC_animal_2 ⟨(Nat.le_of_ble_eq_true rfl), (Nat.le_of_ble_eq_true rfl)⟩ (Nat.le_of_ble_eq_true rfl) (Nat.le_of_ble_eq_true rfl) (fun a9 H locs ha hz hP hS => ?_)
  obtain ⟨p, hp, rfl, rfl⟩ := ha
  have f_1 : ¬ ib (nI p) (g 0 2) := by rw [hg0]; exact nib hp (by omega)
  refine lv_astore_n (lv' := [(2, .ref (ad (57 + p))), (0, .ref (ad 0)), (1, .int (nI p))]) hx hb dC_animal_5 rfl hl (by decide) rfl (fun ls hl => ?_)
  refine lv_aload_n hx hb dC_animal_6 rfl (lv_at hl 0 rfl) ?_
  refine va_get (D := D) (ci := 3) (C := RQ) (T := TQ) (N := 9) hx hb hT inQ hown hK hP (57 + p) (cw_Q hp) rfl 0 (by decide) (hT _ wm_237) (fun _ h9 => h9) rfl dC_animal_7 ?_
  refine kVr (n := 0) (D := D) (wd := fun z => cw CA z h ad) (A1 := fun sz => cA h ad sz) (As := []) (rest := []) ⟨hx, hb, hml, hown, hT⟩ (kK_parted l D CA g h ad H.size (h 2 p) (hq6 p hp) (hkk _ (hq6 p hp)).2.1 (hkk _ (hq6 p hp)).1 (hkk _ (hq6 p hp)).2.2 jp (fun p9 hp9 => (hpp p9 hp9).2)) (gi_V wm_359 wm_360 wm_361 wm_2 wm_362) rfl rfl (by decide +kernel) ⟨(Nat.le_of_ble_eq_true rfl), (Nat.le_of_ble_eq_true rfl)⟩ (va_recv hK hP (ci := 1) (q0 := 3 + 9 * (h 2 p)) rfl (cw_K (hq6 p hp))) hK hP hD hS (fun _ h9 => h9) (nA_mono hS.1) rfl hl.1 rfl (Nat.le_of_ble_eq_true rfl) dC_animal_10 ⟨(Nat.le_of_ble_eq_true rfl), (Nat.le_of_ble_eq_true rfl)⟩ (fun u_3 a_5 H locs w_4 ha_5 hz hP hD hS => ?_)
  subst ha_5
  have hpar : par g h jp (h 2 p) u_3 := w_4
  have hPP := par_P hI (hq6 p hp) hpar
  refine lv_aload_n hx hb dC_animal_13 rfl (lv_at hl 0 rfl) ?_
  refine va_get (D := D) (ci := 3) (C := RQ) (T := TQ) (N := 9) hx hb hT inQ hown hK hP (57 + p) (cw_Q hp) rfl 2 (by decide) (hT _ wm_242) (fun _ h9 => h9) rfl dC_animal_14 ?_
  refine kVi (n := 1) (D := D) (wd := fun z => cw CA z h ad) (A1 := fun sz => cA h ad sz) (As := [.int (u_3 (57 + p) 2)]) (rest := []) ⟨hx, hb, hml, hown, hT⟩ (kP_setOf l D CA u_3 h ad H.size (h 2 p) (hq6 p hp) (u_3 (57 + p) 2) _ hPP.1 (by have := (hkk _ (hq6 p hp)).1; omega)) (gi_V wm_407 wm_408 wm_409 wm_3 wm_410) rfl rfl (by decide +kernel) ⟨(Nat.le_of_ble_eq_true rfl), (Nat.le_of_ble_eq_true rfl)⟩ (va_recv hK hP (ci := 2) (q0 := 8 + 9 * (h 2 p)) rfl (cw_PT (hq6 p hp))) hK hP hD hS (fun _ h9 => h9) (nA_mono hS.1) rfl hl.1 rfl (Nat.le_of_ble_eq_true rfl) dC_animal_17 ⟨(Nat.le_of_ble_eq_true rfl), (Nat.le_of_ble_eq_true rfl)⟩ (fun r_6 u_7 H locs w_8 hz hP hD hS => ?_)
  obtain ⟨w_8, -, hu9⟩ := w_8
  rw [hu9] at hP hD
  refine vx_ret ?_
  exact W.iret (v := r_6) hx hb hr (fun t ht hW => ⟨⟨_, u_3, rfl, ⟨f_1, p, hp, rfl, hpar, fun j9 hj9 e9 => w_8 j9 hj9 (by rw [par_keep hpar (by have := hq6 p hp; omega) (by have := hq6 p hp; omega) (by have := hq6 p hp; omega) (by have := hq6 p hp; omega) (by have := hq6 p hp; omega)]; exact e9)⟩, gpost_at hP hK hD ht hW.alike⟩, hS.F ht⟩) hS.2.2 dC_animal_20
set_option maxHeartbeats 4000000 in
set_option maxRecDepth 100000 in
theorem kC_clashing (l : Launch) (hlt : l.stackTraces = false) (D : va_G) (CA : Nat → ClassId) (g : Nat → Nat → Int32) (h : Nat → Nat → Nat) (ad : Nat → Nat) (sz : Nat) (sa : Nat → Nat) (kd x : Int32) (jp : Nat → Nat) (hI : CIv g h jp) : vx_Met l yC_clashing wC_clashing (rm 18 2 12) (va_Pc [.ref (ad 0), .int kd, .int x] (fun U => gpre D (cty CA) (cw CA g h ad) sz U ∧ xz (cA h ad sz) sa U U.heap)) (va_Qi (fun r (u : Nat → Nat → Int32) => ¬ (ib kd 6 ∨ x < 0) ∧ ∃ k m, k < 6 ∧ kd = nI k ∧ par g h jp k u ∧ m < 4096 ∧ u (8 + 9 * k) 2 = nI m ∧ (∀ j, j < h 1 k → pof m x (h 1 k) 0 0 = nI j → r = u (57 + h (3 + k) j) 1) ∧ (ib (pof m x (h 1 k) 0 0) (nI (h 1 k)) → r = -1)) (fun u t => gpost D (cty CA) (cw CA u h ad) (cA h ad sz) t) (cA h ad sz)) (vx_X (fun u : Nat → Nat → Int32 => u = g) (fun E u t => te3 (ib kd 6 ∨ x < 0) False False E ∧ gpost D (cty CA) (cw CA u h ad) (cA h ad sz) t) (cA h ad sz)) 2 12 (cA h ad sz) := by
  refine vx_ofW (cc := cC_clashing) (maxL := 4) (ret := (some .int)) (by decide) rfl ?_
  intro p e s m args below meth c s₁ B hml hno hv
  obtain ⟨rfl, ⟨hsz, hP, hK, hD0⟩, hZ⟩ := hv
  have hx := B.exec
  have hb := B.bytes
  have hr := B.returns
  have hT : ∀ w ∈ TB, w.before _ s = true := fun w hw => atoms_spec (ws := wC_clashing) B.pre w (List.mem_cons_of_mem _ hw)
  have hown : s.vm.findClass "CountLeast" = some m.cls := findClass_of_methodNamed B.named
  have hlocks := B.notSynchronized
  subst hsz
  have hD := nA_self (sz := s.heap.size) hD0
  have hS : va_S (cA h ad s.heap.size) s.heap s.heap [] := va_S.rf
  have hP : va_P D vwCl (cw CA g h ad) s.heap := hP
  have hl := lv_entry ([.ref (ad 0), .int kd, .int x]) (n := 4) (Nat.le_of_ble_eq_true rfl)
  rw [lg_entry_eq]
  generalize (lg_sl ([.ref (ad 0), .int kd, .int x]) ++ List.replicate (4 - (lg_sl ([.ref (ad 0), .int kd, .int x])).length) Slot.unset).toArray = ls at hl ⊢
  have hl : lv_has ls 4 [(0, .ref (ad 0)), (1, .int kd), (2, .int x)] := hl
  have hn72 := hI.1
  have hg0 := hI.2.1
  have hkk := hI.2.2.1
  have hpp := hI.2.2.2.1
  have hq6 : ∀ p, p < h 0 0 → h 2 p < 6 := fun p hp => (hpp p hp).1
  refine lv_aload_n hx hb dC_clashing_0 rfl (lv_at hl 0 rfl) ?_
  refine lv_iload_n hx hb dC_clashing_1 rfl (lv_at hl 1 rfl) ?_
  refine kVx (n := 1) (D := D) (wd := fun z => cw CA z h ad) (A1 := fun sz => cA h ad sz) (As := [.int kd]) (rest := []) (te := (te3 (ib kd 6 ∨ x < 0) False False)) ⟨hx, hb, hml, hown, hT⟩ (kC_kindAt l hlt D CA g h ad s.heap.size sa kd) (gi_V wm_120 wm_122 wp_0 wm_1 wm_123) rfl rfl (by decide +kernel) ⟨(Nat.le_of_ble_eq_true rfl), (Nat.le_of_ble_eq_true rfl)⟩ (va_recv hK hP (ci := 0) (q0 := 0) rfl cw_X) hlocks hno hZ (fun _ h9 => h9) hK hP hD hS (fun _ h9 => h9) (nA_mono hS.1) (fun E h9 => Or.inl ⟨h9.1, (Or.inl h9.2)⟩) rfl hl.1 rfl (Nat.le_of_ble_eq_true rfl) dC_clashing_2 ⟨(Nat.le_of_ble_eq_true rfl), (Nat.le_of_ble_eq_true rfl)⟩ (Nat.le_of_ble_eq_true rfl) (Nat.le_of_ble_eq_true rfl) (fun a9 H locs ha hz hP hS => ?_)
  obtain ⟨k, hk, rfl, rfl⟩ := ha
  have f_1 : ¬ ib (nI k) 6 := nib hk (by decide)
  refine lv_astore_n (lv' := [(3, .ref (ad (3 + 9 * k))), (0, .ref (ad 0)), (1, .int (nI k)), (2, .int x)]) hx hb dC_clashing_5 rfl hl (by decide) rfl (fun ls hl => ?_)
  refine lv_iload_n hx hb dC_clashing_6 rfl (lv_at hl 3 rfl) ?_
  refine lv_if_ge (tgt := 20) hx hb dC_clashing_7 (by decide) (fun c_2 => ?_) (fun c_2 => ?_)
  · refine lv_aload_n hx hb dC_clashing_20 rfl (lv_at hl 0 rfl) ?_
    refine lv_aload_n hx hb dC_clashing_21 rfl (lv_at hl 0 rfl) ?_
    refine kVr (n := 0) (D := D) (wd := fun z => cw CA z h ad) (A1 := fun sz => cA h ad sz) (As := []) (rest := [.ref (ad (3 + 9 * k))]) ⟨hx, hb, hml, hown, hT⟩ (kK_parted l D CA g h ad H.size k hk (hkk _ hk).2.1 (hkk _ hk).1 (hkk _ hk).2.2 jp (fun p9 hp9 => (hpp p9 hp9).2)) (gi_V wm_359 wm_360 wm_361 wm_2 wm_362) rfl rfl (by decide +kernel) ⟨(Nat.le_of_ble_eq_true rfl), (Nat.le_of_ble_eq_true rfl)⟩ (va_recv hK hP (ci := 1) (q0 := 3 + 9 * k) rfl (cw_K hk)) hK hP hD hS (fun _ h9 => h9) (nA_mono hS.1) rfl hl.1 rfl (Nat.le_of_ble_eq_true rfl) dC_clashing_22 ⟨(Nat.le_of_ble_eq_true rfl), (Nat.le_of_ble_eq_true rfl)⟩ (fun u_4 a_6 H locs w_5 ha_6 hz hP hD hS => ?_)
    subst ha_6
    have hpar : par g h jp k u_4 := w_5
    have hPP := par_P hI hk hpar
    obtain ⟨m9, K9, hm1, hK1, hm2, hK2⟩ := hPP.2.2
    refine lv_iload_n hx hb dC_clashing_25 rfl (lv_at hl 3 rfl) ?_
    refine kVi (n := 1) (D := D) (wd := fun z => cw CA z h ad) (A1 := fun sz => cA h ad sz) (As := [.int x]) (rest := [.ref (ad (3 + 9 * k))]) ⟨hx, hb, hml, hown, hT⟩ (kP_placeOfFoe l D CA u_4 h ad H.size k hk x (h 1 k) m9 hPP.1 (by have := (hkk k hk).1; omega) hm2 hm1) (gi_V wm_419 wm_420 wm_421 wm_3 wm_422) rfl rfl (by decide +kernel) ⟨(Nat.le_of_ble_eq_true rfl), (Nat.le_of_ble_eq_true rfl)⟩ (va_recv hK hP (ci := 2) (q0 := 8 + 9 * k) rfl (cw_PT hk)) hK hP hD hS (fun _ h9 => h9) (nA_mono hS.1) rfl hl.1 rfl (Nat.le_of_ble_eq_true rfl) dC_clashing_26 ⟨(Nat.le_of_ble_eq_true rfl), (Nat.le_of_ble_eq_true rfl)⟩ (fun r_7 u_8 H locs w_9 hz hP hD hS => ?_)
    obtain ⟨w_9, hu9⟩ := w_9
    rw [hu9] at hP hD
    refine kVi (n := 1) (D := D) (wd := fun z => cw CA z h ad) (A1 := fun sz => cA h ad sz) (As := [.int r_7]) (rest := []) ⟨hx, hb, hml, hown, hT⟩ (kK_numberAt l D CA u_4 h ad H.size k hk r_7 ((par_CI hI hk hpar).2.2.1 k hk).2.1 (hkk k hk).1 (hkk k hk).2.2) (gi_V wm_423 wm_424 wm_425 wm_2 wm_426) rfl rfl (by decide +kernel) ⟨(Nat.le_of_ble_eq_true rfl), (Nat.le_of_ble_eq_true rfl)⟩ (va_recv hK hP (ci := 1) (q0 := 3 + 9 * k) rfl (cw_K hk)) hK hP hD hS (fun _ h9 => h9) (nA_mono hS.1) rfl hl.1 rfl (Nat.le_of_ble_eq_true rfl) dC_clashing_29 ⟨(Nat.le_of_ble_eq_true rfl), (Nat.le_of_ble_eq_true rfl)⟩ (fun r_11 u_12 H locs w_13 hz hP hD hS => ?_)
    obtain ⟨hn1, hn2, hu9⟩ := w_13
    rw [hu9] at hP hD
    refine W.widen (k := 2) (n := 12) (Nat.le_of_ble_eq_true rfl) (Nat.le_of_ble_eq_true rfl) ?_
    refine vx_ret ?_
    exact W.iret (v := r_11) hx hb hr (fun t ht hW => ⟨⟨_, u_4, rfl, ⟨(not_or.mpr ⟨f_1, by have := c_2; rw [← Int32.not_lt] at this; exact this⟩), k, m9, hk, rfl, hpar, hm1, hm2, by rw [← w_9]; exact hn1, by rw [← w_9]; exact hn2⟩, gpost_at hP hK hD ht hW.alike⟩, hS.F ht⟩) hS.2.2 dC_clashing_32
  · exact xt1 (is := 120) (text := "no such place") hx hb hlt hown hT hZ hZ.2.2.2.2.2.2.2.2.2 hS hml hl.1 dC_clashing_10 dC_clashing_13 dC_clashing_14 dC_clashing_16 dC_clashing_19 hno (Nat.le_of_ble_eq_true rfl) (Nat.le_of_ble_eq_true rfl) (Nat.le_of_ble_eq_true rfl) (Nat.le_of_ble_eq_true rfl) hlocks (fun t ha h1 h2 => xout (wd := fun z => cw CA z h ad) (te := (te3 (ib (nI k) 6 ∨ x < 0) False False)) hK hP hD hS ha h1 h2 (Or.inl ⟨rfl, Or.inr (by have := c_2; rw [Int32.not_le] at this; exact this)⟩)) hS.2.2 (Nat.le_of_ble_eq_true rfl) (Nat.le_of_ble_eq_true rfl)
set_option maxHeartbeats 4000000 in
set_option maxRecDepth 100000 in
theorem kC_sum (l : Launch) (hlt : l.stackTraces = false) (D : va_G) (CA : Nat → ClassId) (g : Nat → Nat → Int32) (h : Nat → Nat → Nat) (ad : Nat → Nat) (sz : Nat) (sa : Nat → Nat) (kd : Int32) (jp : Nat → Nat) (hI : CIv g h jp) : vx_Met l yC_sum wC_sum (rm 1 1 6) (va_Pc [.ref (ad 0), .int kd] (fun U => gpre D (cty CA) (cw CA g h ad) sz U ∧ xz (cA h ad sz) sa U U.heap)) (va_Qi (fun r (u : Nat → Nat → Int32) => ¬ (ib kd 6) ∧ ∃ k, k < 6 ∧ kd = nI k ∧ r = l_sum (fun j => g (57 + h (3 + k) j) 8) (h 1 k) ∧ u = g) (fun u t => gpost D (cty CA) (cw CA u h ad) (cA h ad sz) t) (cA h ad sz)) (vx_X (fun u : Nat → Nat → Int32 => u = g) (fun E u t => te3 (ib kd 6) False False E ∧ gpost D (cty CA) (cw CA u h ad) (cA h ad sz) t) (cA h ad sz)) 1 6 (cA h ad sz) := by
  refine vx_ofW (cc := cC_sum) (maxL := 2) (ret := (some .int)) (by decide) rfl ?_
  intro p e s m args below meth c s₁ B hml hno hv
  obtain ⟨rfl, ⟨hsz, hP, hK, hD0⟩, hZ⟩ := hv
  have hx := B.exec
  have hb := B.bytes
  have hr := B.returns
  have hT : ∀ w ∈ TB, w.before _ s = true := fun w hw => atoms_spec (ws := wC_sum) B.pre w (List.mem_cons_of_mem _ hw)
  have hown : s.vm.findClass "CountLeast" = some m.cls := findClass_of_methodNamed B.named
  have hlocks := B.notSynchronized
  subst hsz
  have hD := nA_self (sz := s.heap.size) hD0
  have hS : va_S (cA h ad s.heap.size) s.heap s.heap [] := va_S.rf
  have hP : va_P D vwCl (cw CA g h ad) s.heap := hP
  have hl := lv_entry ([.ref (ad 0), .int kd]) (n := 2) (Nat.le_of_ble_eq_true rfl)
  rw [lg_entry_eq]
  generalize (lg_sl ([.ref (ad 0), .int kd]) ++ List.replicate (2 - (lg_sl ([.ref (ad 0), .int kd])).length) Slot.unset).toArray = ls at hl ⊢
  have hl : lv_has ls 2 [(0, .ref (ad 0)), (1, .int kd)] := hl
  have hn72 := hI.1
  have hg0 := hI.2.1
  have hkk := hI.2.2.1
  have hpp := hI.2.2.2.1
  have hq6 : ∀ p, p < h 0 0 → h 2 p < 6 := fun p hp => (hpp p hp).1
  refine lv_aload_n hx hb dC_sum_0 rfl (lv_at hl 0 rfl) ?_
  refine lv_iload_n hx hb dC_sum_1 rfl (lv_at hl 1 rfl) ?_
  refine kVx (n := 1) (D := D) (wd := fun z => cw CA z h ad) (A1 := fun sz => cA h ad sz) (As := [.int kd]) (rest := []) (te := (te3 (ib kd 6) False False)) ⟨hx, hb, hml, hown, hT⟩ (kC_kindAt l hlt D CA g h ad s.heap.size sa kd) (gi_V wm_120 wm_122 wp_0 wm_1 wm_123) rfl rfl (by decide +kernel) ⟨(Nat.le_of_ble_eq_true rfl), (Nat.le_of_ble_eq_true rfl)⟩ (va_recv hK hP (ci := 0) (q0 := 0) rfl cw_X) hlocks hno hZ (fun _ h9 => h9) hK hP hD hS (fun _ h9 => h9) (nA_mono hS.1) (fun E h9 => Or.inl ⟨h9.1, h9.2⟩) rfl hl.1 rfl (Nat.le_of_ble_eq_true rfl) dC_sum_2 ⟨(Nat.le_of_ble_eq_true rfl), (Nat.le_of_ble_eq_true rfl)⟩ (Nat.le_of_ble_eq_true rfl) (Nat.le_of_ble_eq_true rfl) (fun a9 H locs ha hz hP hS => ?_)
  obtain ⟨k, hk, rfl, rfl⟩ := ha
  have f_1 : ¬ ib (nI k) 6 := nib hk (by decide)
  refine kVi (n := 0) (D := D) (wd := fun z => cw CA z h ad) (A1 := fun sz => cA h ad sz) (As := []) (rest := []) ⟨hx, hb, hml, hown, hT⟩ (kK_gramsTogether l D CA g h ad H.size k hk (hkk k hk).2.1 (hkk k hk).1 (hkk k hk).2.2) (gi_V wm_442 wm_443 wm_444 wm_2 wm_445) rfl rfl (by decide +kernel) ⟨(Nat.le_of_ble_eq_true rfl), (Nat.le_of_ble_eq_true rfl)⟩ (va_recv hK hP (ci := 1) (q0 := 3 + 9 * k) rfl (cw_K hk)) hK hP hD hS (fun _ h9 => h9) (nA_mono hS.1) rfl hl.1 rfl (Nat.le_of_ble_eq_true rfl) dC_sum_5 ⟨(Nat.le_of_ble_eq_true rfl), (Nat.le_of_ble_eq_true rfl)⟩ (fun r_2 u_3 H locs w_4 hz hP hD hS => ?_)
  obtain ⟨w_4, hu9⟩ := w_4
  rw [hu9] at hP hD
  refine vx_ret ?_
  exact W.iret (v := r_2) hx hb hr (fun t ht hW => ⟨⟨_, g, rfl, ⟨f_1, k, hk, rfl, w_4, rfl⟩, gpost_at hP hK hD ht hW.alike⟩, hS.F ht⟩) hS.2.2 dC_sum_8
theorem n32n (n : Nat) (hn : n < 2 ^ 31) : n32 (nI n) = n := pk_tn (by omega)
set_option maxHeartbeats 4000000 in
set_option maxRecDepth 100000 in
theorem kC_clash (l : Launch) (hlt : l.stackTraces = false) (D : va_G) (CA : Nat → ClassId) (g : Nat → Nat → Int32) (h : Nat → Nat → Nat) (ad : Nat → Nat) (sz : Nat) (sa : Nat → Nat) (p1 q1 : Int32) (jp : Nat → Nat) (hI : CIv g h jp) : vx_Met l yC_clash wC_clash (rm 2 3 18) (va_Pc [.ref (ad 0), .int p1, .int q1] (fun U => gpre D (cty CA) (cw CA g h ad) sz U ∧ xz (cA h ad sz) sa U U.heap)) (va_Qi (fun r (u : Nat → Nat → Int32) => ¬ (ib p1 (g 0 2) ∨ ib q1 (g 0 2)) ∧ ¬ (p1 = q1 ∨ ¬ h 2 (n32 p1) = h 2 (n32 q1)) ∧ ∃ p p2, p < h 0 0 ∧ p2 < h 0 0 ∧ p1 = nI p ∧ q1 = nI p2 ∧ h 2 p = h 2 p2 ∧ r = ruI g (h 2 p) (jp p) p p2 ∧ u = g) (fun u t => gpost D (cty CA) (cw CA u h ad) (cA h ad sz) t) (cA h ad sz)) (vx_X (fun u : Nat → Nat → Int32 => u = g) (fun E u t => te3 (ib p1 (g 0 2) ∨ ib q1 (g 0 2)) (p1 = q1 ∨ ¬ h 2 (n32 p1) = h 2 (n32 q1)) False E ∧ gpost D (cty CA) (cw CA u h ad) (cA h ad sz) t) (cA h ad sz)) 3 18 (cA h ad sz) := by
  refine vx_ofW (cc := cC_clash) (maxL := 5) (ret := (some .int)) (by decide) rfl ?_
  intro p e s m args below meth c s₁ B hml hno hv
  obtain ⟨rfl, ⟨hsz, hP, hK, hD0⟩, hZ⟩ := hv
  have hx := B.exec
  have hb := B.bytes
  have hr := B.returns
  have hT : ∀ w ∈ TB, w.before _ s = true := fun w hw => atoms_spec (ws := wC_clash) B.pre w (List.mem_cons_of_mem _ hw)
  have hown : s.vm.findClass "CountLeast" = some m.cls := findClass_of_methodNamed B.named
  have hlocks := B.notSynchronized
  subst hsz
  have hD := nA_self (sz := s.heap.size) hD0
  have hS : va_S (cA h ad s.heap.size) s.heap s.heap [] := va_S.rf
  have hP : va_P D vwCl (cw CA g h ad) s.heap := hP
  have hl := lv_entry ([.ref (ad 0), .int p1, .int q1]) (n := 5) (Nat.le_of_ble_eq_true rfl)
  rw [lg_entry_eq]
  generalize (lg_sl ([.ref (ad 0), .int p1, .int q1]) ++ List.replicate (5 - (lg_sl ([.ref (ad 0), .int p1, .int q1])).length) Slot.unset).toArray = ls at hl ⊢
  have hl : lv_has ls 5 [(0, .ref (ad 0)), (1, .int p1), (2, .int q1)] := hl
  have hn72 := hI.1
  have hg0 := hI.2.1
  have hkk := hI.2.2.1
  have hpp := hI.2.2.2.1
  have hq6 : ∀ p, p < h 0 0 → h 2 p < 6 := fun p hp => (hpp p hp).1
  refine lv_aload_n hx hb dC_clash_0 rfl (lv_at hl 0 rfl) ?_
  refine lv_iload_n hx hb dC_clash_1 rfl (lv_at hl 1 rfl) ?_
  refine kVx (n := 1) (D := D) (wd := fun z => cw CA z h ad) (A1 := fun sz => cA h ad sz) (As := [.int p1]) (rest := []) (te := (te3 (ib p1 (g 0 2) ∨ ib q1 (g 0 2)) (p1 = q1 ∨ ¬ h 2 (n32 p1) = h 2 (n32 q1)) False)) ⟨hx, hb, hml, hown, hT⟩ (kC_pieceAt l hlt D CA g h ad s.heap.size sa p1 hn72 hg0) (gi_V wm_310 wm_312 wp_2 wm_1 wm_313) rfl rfl (by decide +kernel) ⟨(Nat.le_of_ble_eq_true rfl), (Nat.le_of_ble_eq_true rfl)⟩ (va_recv hK hP (ci := 0) (q0 := 0) rfl cw_X) hlocks hno hZ (fun _ h9 => h9) hK hP hD hS (fun _ h9 => h9) (nA_mono hS.1) (fun E h9 => Or.inl ⟨h9.1, (Or.inl h9.2)⟩) rfl hl.1 rfl (Nat.le_of_ble_eq_true rfl) dC_clash_2 ⟨(Nat.le_of_ble_eq_true rfl), (Nat.le_of_ble_eq_true rfl)⟩ (Nat.le_of_ble_eq_true rfl) (Nat.le_of_ble_eq_true rfl) (fun a9 H locs ha hz hP hS => ?_)
  obtain ⟨p, hp, rfl, rfl⟩ := ha
  have f_1 : ¬ ib (nI p) (g 0 2) := by rw [hg0]; exact nib hp (by omega)
  refine lv_astore_n (lv' := [(3, .ref (ad (57 + p))), (0, .ref (ad 0)), (1, .int (nI p)), (2, .int q1)]) hx hb dC_clash_5 rfl hl (by decide) rfl (fun ls hl => ?_)
  refine lv_aload_n hx hb dC_clash_6 rfl (lv_at hl 1 rfl) ?_
  refine lv_iload_n hx hb dC_clash_7 rfl (lv_at hl 3 rfl) ?_
  refine kVx (n := 1) (D := D) (wd := fun z => cw CA z h ad) (A1 := fun sz => cA h ad sz) (As := [.int q1]) (rest := []) (te := (te3 (ib (nI p) (g 0 2) ∨ ib q1 (g 0 2)) ((nI p) = q1 ∨ ¬ h 2 (n32 (nI p)) = h 2 (n32 q1)) False)) ⟨hx, hb, hml, hown, hT⟩ (kC_pieceAt l hlt D CA g h ad H.size sa q1 hn72 hg0) (gi_V wm_310 wm_312 wp_2 wm_1 wm_313) rfl rfl (by decide +kernel) ⟨(Nat.le_of_ble_eq_true rfl), (Nat.le_of_ble_eq_true rfl)⟩ (va_recv hK hP (ci := 0) (q0 := 0) rfl cw_X) hlocks hno hZ (fun _ h9 => h9) hK hP hD hS (fun _ h9 => h9) (nA_mono hS.1) (fun E h9 => Or.inl ⟨h9.1, (Or.inr h9.2)⟩) rfl hl.1 rfl (Nat.le_of_ble_eq_true rfl) dC_clash_8 ⟨(Nat.le_of_ble_eq_true rfl), (Nat.le_of_ble_eq_true rfl)⟩ (Nat.le_of_ble_eq_true rfl) (Nat.le_of_ble_eq_true rfl) (fun a9 H locs ha hz hP hS => ?_)
  obtain ⟨p2, hp2, rfl, rfl⟩ := ha
  have f_2 : ¬ ib (nI p2) (g 0 2) := by rw [hg0]; exact nib hp2 (by omega)
  refine lv_astore (lv' := [(4, .ref (ad (57 + p2))), (3, .ref (ad (57 + p))), (0, .ref (ad 0)), (1, .int (nI p)), (2, .int (nI p2))]) hx hb dC_clash_11 hl (by decide) rfl (fun ls hl => ?_)
  refine lv_iload_n hx hb dC_clash_13 rfl (lv_at hl 3 rfl) ?_
  refine lv_iload_n hx hb dC_clash_14 rfl (lv_at hl 4 rfl) ?_
  refine lv_icmp_eq (tgt := 30) hx hb dC_clash_15 (by decide) (fun c_3 => ?_) (fun c_3 => ?_)
  · exact xt2 (is := 95) (text := "not two pieces of one kind") hx hb hlt hown hT hZ hZ.2.2.2.2.2.2.2.2.1 hS hml hl.1 dC_clash_30 dC_clash_33 dC_clash_34 dC_clash_36 dC_clash_39 hno (Nat.le_of_ble_eq_true rfl) (Nat.le_of_ble_eq_true rfl) (Nat.le_of_ble_eq_true rfl) (Nat.le_of_ble_eq_true rfl) hlocks (fun t ha h1 h2 => xout (wd := fun z => cw CA z h ad) (te := (te3 (ib (nI p) (g 0 2) ∨ ib (nI p2) (g 0 2)) ((nI p) = (nI p2) ∨ ¬ h 2 (n32 (nI p)) = h 2 (n32 (nI p2))) False)) hK hP hD hS ha h1 h2 (Or.inr (Or.inl ⟨rfl, (not_or.mpr ⟨f_1, f_2⟩), Or.inl c_3⟩))) hS.2.2 (Nat.le_of_ble_eq_true rfl) (Nat.le_of_ble_eq_true rfl)
  · refine lv_aload_n hx hb dC_clash_18 rfl (lv_at hl 1 rfl) ?_
    refine va_get (D := D) (ci := 3) (C := RQ) (T := TQ) (N := 9) hx hb hT inQ hown hK hP (57 + p) (cw_Q hp) rfl 0 (by decide) (hT _ wm_237) (fun _ h9 => h9) rfl dC_clash_19 ?_
    refine lv_aload hx hb dC_clash_22 (lv_at hl 0 rfl) ?_
    refine va_get (D := D) (ci := 3) (C := RQ) (T := TQ) (N := 9) hx hb hT inQ hown hK hP (57 + p2) (cw_Q hp2) rfl 0 (by decide) (hT _ wm_237) (fun _ h9 => h9) rfl dC_clash_24 ?_
    refine lv_acmp_eq (rx := some (ad (3 + 9 * (h 2 p)))) (ry := some (ad (3 + 9 * (h 2 p2)))) (tgt := 40) hx hb dC_clash_27 (by decide) (fun c_4 => ?_) (fun c_4 => ?_)
    · have hkeq : h 2 p = h 2 p2 := by have := (nw_D.mp hD).1 _ _ (by have := hq6 p hp; omega) (by have := hq6 p2 hp2; omega) (Option.some.inj c_4); omega
      refine lv_aload_n hx hb dC_clash_40 rfl (lv_at hl 1 rfl) ?_
      refine va_get (D := D) (ci := 3) (C := RQ) (T := TQ) (N := 9) hx hb hT inQ hown hK hP (57 + p) (cw_Q hp) rfl 0 (by decide) (hT _ wm_237) (fun _ h9 => h9) rfl dC_clash_41 ?_
      refine lv_aload_n hx hb dC_clash_44 rfl (lv_at hl 1 rfl) ?_
      refine lv_aload hx hb dC_clash_45 (lv_at hl 0 rfl) ?_
      refine kVi (n := 2) (D := D) (wd := fun z => cw CA z h ad) (A1 := fun sz => cA h ad sz) (As := [.ref (ad (57 + p)), .ref (ad (57 + p2))]) (rest := []) ⟨hx, hb, hml, hown, hT⟩ (kK_ruleBetween l D CA g h ad H.size (h 2 p) (hq6 p hp) p p2 hp hp2 (jp p) (hpp p hp).2.1 (hpp p hp).2.2) (gi_V wm_337 wm_338 wm_339 wm_2 wm_340) rfl rfl (by decide +kernel) ⟨(Nat.le_of_ble_eq_true rfl), (Nat.le_of_ble_eq_true rfl)⟩ (va_recv hK hP (ci := 1) (q0 := 3 + 9 * (h 2 p)) rfl (cw_K (hq6 p hp))) hK hP hD hS (fun _ h9 => h9) (nA_mono hS.1) rfl hl.1 rfl (Nat.le_of_ble_eq_true rfl) dC_clash_47 ⟨(Nat.le_of_ble_eq_true rfl), (Nat.le_of_ble_eq_true rfl)⟩ (fun r_5 u_6 H locs w_7 hz hP hD hS => ?_)
      obtain ⟨w_7, hu9⟩ := w_7
      rw [hu9] at hP hD
      refine W.widen (k := 3) (n := 18) (Nat.le_of_ble_eq_true rfl) (Nat.le_of_ble_eq_true rfl) ?_
      refine vx_ret ?_
      exact W.iret (v := r_5) hx hb hr (fun t ht hW => ⟨⟨_, g, rfl, ⟨(not_or.mpr ⟨f_1, f_2⟩), (not_or.mpr ⟨c_3, fun q9 => q9 (by rw [n32n p (by omega), n32n p2 (by omega)]; exact hkeq)⟩), p, p2, hp, hp2, rfl, rfl, hkeq, w_7, rfl⟩, gpost_at hP hK hD ht hW.alike⟩, hS.F ht⟩) hS.2.2 dC_clash_50
    · exact xt2 (is := 95) (text := "not two pieces of one kind") hx hb hlt hown hT hZ hZ.2.2.2.2.2.2.2.2.1 hS hml hl.1 dC_clash_30 dC_clash_33 dC_clash_34 dC_clash_36 dC_clash_39 hno (Nat.le_of_ble_eq_true rfl) (Nat.le_of_ble_eq_true rfl) (Nat.le_of_ble_eq_true rfl) (Nat.le_of_ble_eq_true rfl) hlocks (fun t ha h1 h2 => xout (wd := fun z => cw CA z h ad) (te := (te3 (ib (nI p) (g 0 2) ∨ ib (nI p2) (g 0 2)) ((nI p) = (nI p2) ∨ ¬ h 2 (n32 (nI p)) = h 2 (n32 (nI p2))) False)) hK hP hD hS ha h1 h2 (Or.inr (Or.inl ⟨rfl, (not_or.mpr ⟨f_1, f_2⟩), Or.inr (fun q9 => c_4 (by rw [n32n p (by omega), n32n p2 (by omega)] at q9; rw [q9]))⟩))) hS.2.2 (Nat.le_of_ble_eq_true rfl) (Nat.le_of_ble_eq_true rfl)
end
section
def scl (c fa fb : Nat) (pt : Int32) : Int32 := if pt = 0 then nI (c * fa / fb) else les (c * fa % fb) fb (if pt = 1 then 0 else 1)
theorem ov9 {a b : Nat} : nI a - nI (a / b) * nI b = nI (a % b) := by
  rw [pk_mul, pk_sub (Nat.div_mul_le_self a b)]
  congr 1
  have := Nat.div_add_mod a b
  rw [Nat.mul_comm] at this
  omega
set_option maxHeartbeats 4000000 in
set_option maxRecDepth 100000 in
theorem loC_share {p : Program} {l : Launch} {e : Env} {s : State} {m : MethodId} {args : Array Value} {below : List Frame} {meth : Method} {c : Code} {Q : State → Prop} {D : va_G} {CA : Nat → ClassId} {g : Nat → Nat → Int32} {h : Nat → Nat → Nat} {ad : Nat → Nat} {jp : Nat → Nat} (hI : CIv g h jp) {k : Nat} (hk : k < 6) {pt : Int32} (hx : p.tables.exec = Jvm.exec) (hb : c.code = cC_share) (hml : c.maxLocals = 6) (hown : s.vm.findClass "CountLeast" = some m.cls) (hT : ∀ w ∈ TB, w.before args s = true) (hK : va_K D vwCl (cty CA) s) (kx : ∀ (H : Heap) (locs : List Loc) (v : Nat → Nat → Int32) (A : Nat), prs h jp g 6 v A → va_P D vwCl (cw CA (v) h ad) H → va_D (cA h ad s.heap.size) (cw CA (v) h ad) → va_S (cA h ad s.heap.size) s.heap H locs → ∀ ls, lv_has ls 6 [(4, .int (nI A)), (0, .ref (ad 0)), (2, .int pt), (3, .ref (ad (3 + 9 * k)))] → W p l e (rm 18 2 12) s m args below meth c H locs 2 12 Q (F0 m 48 ls [])) :
    ∀ (f i A : Nat) (v : Nat → Nat → Int32), i + f = 6 → prs h jp g i v A → ∀ (H : Heap) (locs : List Loc), va_P D vwCl (cw CA (v) h ad) H → va_D (cA h ad s.heap.size) (cw CA (v) h ad) → va_S (cA h ad s.heap.size) s.heap H locs → ∀ ls, lv_has ls 6 [(5, .int (nI i)), (4, .int (nI A)), (0, .ref (ad 0)), (2, .int pt), (3, .ref (ad (3 + 9 * k)))] → W p l e (rm 18 2 12) s m args below meth c H locs 2 12 Q (F0 m 17 ls []) := by
  intro f
  induction f with
  | zero =>
    intro i A v hi hpr H locs hP hD hS ls hl
    have hi : i = 6 := by omega
    subst hi
    refine lv_iload hx hb dC_share_17 (lv_at hl 0 rfl) ?_
    refine lv_bipush (v := 6) hx hb dC_share_19 (by decide) ?_
    refine lv_icmp_ge (tgt := 48) hx hb dC_share_21 (by decide) (fun c_1 => ?_) (fun c_1 => absurd (by decide) c_1)
    exact kx H locs v A hpr hP hD hS ls (lv_sub hl [1, 2, 3, 4] rfl)
  | succ f ih =>
    intro i A v hi hpr H locs hP hD hS ls hl
    refine lv_iload hx hb dC_share_17 (lv_at hl 0 rfl) ?_
    refine lv_bipush (v := 6) hx hb dC_share_19 (by decide) ?_
    refine lv_icmp_ge (tgt := 48) hx hb dC_share_21 (by decide) (fun c_1 => absurd c_1 (nI_ge (b := 6) (by omega) (by decide))) (fun c_1 => ?_)
    refine lv_iload hx hb dC_share_24 (lv_at hl 1 rfl) ?_
    refine lv_aload_n hx hb dC_share_26 rfl (lv_at hl 2 rfl) ?_
    refine va_get (D := D) (ci := 0) (C := RC) (T := TC) (N := 3) hx hb hT inC hown hK hP (0) (cw_X) rfl 0 (by decide) (hT _ wm_100) (fun _ h9 => h9) rfl dC_share_27 ?_
    refine lv_iload hx hb dC_share_30 (lv_at hl 0 rfl) ?_
    refine va_aldq (D := D) hx hb hK hP (1) 2 (cw_KA) rfl (vp_in_nI (by omega) (by decide)) dC_share_32 ?_
    refine W.eq (g2 := F0 m 33 ls [.ref (ad (3 + 9 * i)), .int (nI A)]) (by rw [nI_clamp (n := i) (by omega)]; simp [va_rf, show i < 6 by omega]) ?_
    refine kVr (n := 0) (D := D) (wd := fun z => cw CA z h ad) (A1 := fun sz => cA h ad sz) (As := []) (rest := [.int (nI A)]) ⟨hx, hb, hml, hown, hT⟩ (kK_parted l D CA v h ad H.size i (show i < 6 by omega) ((prs_CI hI i v A (by omega) hpr).1.2.2.1 _ (show i < 6 by omega)).2.1 ((prs_CI hI i v A (by omega) hpr).1.2.2.1 _ (show i < 6 by omega)).1 ((prs_CI hI i v A (by omega) hpr).1.2.2.1 _ (show i < 6 by omega)).2.2 jp (fun p9 hp9 => ((prs_CI hI i v A (by omega) hpr).1.2.2.2.1 p9 hp9).2)) (gi_V wm_359 wm_360 wm_361 wm_2 wm_362) rfl rfl (by decide +kernel) ⟨(Nat.le_of_ble_eq_true rfl), (Nat.le_of_ble_eq_true rfl)⟩ (va_recv hK hP (ci := 1) (q0 := 3 + 9 * i) rfl (cw_K (show i < 6 by omega))) hK hP hD hS (fun _ h9 => h9) (nA_mono hS.1) rfl hl.1 rfl (Nat.le_of_ble_eq_true rfl) dC_share_33 ⟨(Nat.le_of_ble_eq_true rfl), (Nat.le_of_ble_eq_true rfl)⟩ (fun w9 a9 H locs hpar ha9 hz hP hD hS => ?_)
    subst ha9
    have hpar : par v h jp i w9 := hpar
    obtain ⟨m9, K9, hm1, hK1, hm2, hK2⟩ := (par_P (prs_CI hI i v A (by omega) hpr).1 (show i < 6 by omega) hpar).2.2
    refine va_get (D := D) (ci := 2) (C := RP) (T := TP) (N := 6) hx hb hT inP hown hK hP (8 + 9 * i) (cw_PT (show i < 6 by omega)) rfl 0 (by decide) (hT _ wm_39) (fun _ h9 => h9) rfl dC_share_36 ?_
    refine W.eq (g2 := F0 m 39 ls [.int (nI K9), .int (nI A)]) (by rw [hK2]) ?_
    refine lv_iadd hx hb dC_share_39 ?_
    refine W.eq (g2 := F0 m 40 ls [.int (nI (A + K9))]) (by rw [nI_add]) ?_
    refine lv_istore (lv' := [(4, .int (nI (A + K9))), (5, .int (nI i)), (0, .ref (ad 0)), (2, .int pt), (3, .ref (ad (3 + 9 * k)))]) hx hb dC_share_40 hl (by decide) rfl (fun ls hl => ?_)
    refine lv_iinc (v := nI (i + 1)) (lv' := [(5, .int (nI (i + 1))), (4, .int (nI (A + K9))), (0, .ref (ad 0)), (2, .int pt), (3, .ref (ad (3 + 9 * k)))]) hx hb dC_share_42 hl (k := 1) rfl (nI_1 _) (by decide) rfl (fun ls hl => ?_)
    refine lv_goto (tgt := 17) hx hb dC_share_45 (by decide) ?_
    exact ih (i + 1) (A + K9) w9 (by omega) ⟨v, A, K9, hpr, hpar, hK2, hK1, rfl⟩ H locs hP hD hS ls (lv_sub hl [0, 1, 2, 3, 4] rfl)
set_option maxHeartbeats 4000000 in
set_option maxRecDepth 100000 in
theorem kC_share (l : Launch) (hlt : l.stackTraces = false) (D : va_G) (CA : Nat → ClassId) (g : Nat → Nat → Int32) (h : Nat → Nat → Nat) (ad : Nat → Nat) (sz : Nat) (sa : Nat → Nat) (kd pt : Int32) (jp : Nat → Nat) (hI : CIv g h jp) : vx_Met l yC_share wC_share (rm 18 2 12) (va_Pc [.ref (ad 0), .int kd, .int pt] (fun U => gpre D (cty CA) (cw CA g h ad) sz U ∧ xz (cA h ad sz) sa U U.heap)) (va_Qi (fun r (u : Nat → Nat → Int32) => ¬ (ib kd 6 ∨ ib pt 2) ∧ ∃ k v A K, k < 6 ∧ kd = nI k ∧ prs h jp g 6 v A ∧ par v h jp k u ∧ u (8 + 9 * k) 0 = nI K ∧ K < 25 ∧ r = les K A pt) (fun u t => gpost D (cty CA) (cw CA u h ad) (cA h ad sz) t) (cA h ad sz)) (vx_X (fun u : Nat → Nat → Int32 => u = g) (fun E u t => te3 (ib kd 6 ∨ ib pt 2) False False E ∧ gpost D (cty CA) (cw CA u h ad) (cA h ad sz) t) (cA h ad sz)) 2 12 (cA h ad sz) := by
  refine vx_ofW (cc := cC_share) (maxL := 6) (ret := (some .int)) (by decide) rfl ?_
  intro p e s m args below meth c s₁ B hml hno hv
  obtain ⟨rfl, ⟨hsz, hP, hK, hD0⟩, hZ⟩ := hv
  have hx := B.exec
  have hb := B.bytes
  have hr := B.returns
  have hT : ∀ w ∈ TB, w.before _ s = true := fun w hw => atoms_spec (ws := wC_share) B.pre w (List.mem_cons_of_mem _ hw)
  have hown : s.vm.findClass "CountLeast" = some m.cls := findClass_of_methodNamed B.named
  have hlocks := B.notSynchronized
  subst hsz
  have hD := nA_self (sz := s.heap.size) hD0
  have hS : va_S (cA h ad s.heap.size) s.heap s.heap [] := va_S.rf
  have hP : va_P D vwCl (cw CA g h ad) s.heap := hP
  have hl := lv_entry ([.ref (ad 0), .int kd, .int pt]) (n := 6) (Nat.le_of_ble_eq_true rfl)
  rw [lg_entry_eq]
  generalize (lg_sl ([.ref (ad 0), .int kd, .int pt]) ++ List.replicate (6 - (lg_sl ([.ref (ad 0), .int kd, .int pt])).length) Slot.unset).toArray = ls at hl ⊢
  have hl : lv_has ls 6 [(0, .ref (ad 0)), (1, .int kd), (2, .int pt)] := hl
  have hn72 := hI.1
  have hg0 := hI.2.1
  have hkk := hI.2.2.1
  have hpp := hI.2.2.2.1
  refine lv_aload_n hx hb dC_share_0 rfl (lv_at hl 0 rfl) ?_
  refine lv_iload_n hx hb dC_share_1 rfl (lv_at hl 1 rfl) ?_
  refine kVx (n := 1) (D := D) (wd := fun z => cw CA z h ad) (A1 := fun sz => cA h ad sz) (As := [.int kd]) (rest := []) (te := (te3 (ib kd 6 ∨ ib pt 2) False False)) ⟨hx, hb, hml, hown, hT⟩ (kC_kindAt l hlt D CA g h ad s.heap.size sa kd) (gi_V wm_120 wm_122 wp_0 wm_1 wm_123) rfl rfl (by decide +kernel) ⟨(Nat.le_of_ble_eq_true rfl), (Nat.le_of_ble_eq_true rfl)⟩ (va_recv hK hP (ci := 0) (q0 := 0) rfl cw_X) hlocks hno hZ (fun _ h9 => h9) hK hP hD hS (fun _ h9 => h9) (nA_mono hS.1) (fun E h9 => Or.inl ⟨h9.1, (Or.inl h9.2)⟩) rfl hl.1 rfl (Nat.le_of_ble_eq_true rfl) dC_share_2 ⟨(Nat.le_of_ble_eq_true rfl), (Nat.le_of_ble_eq_true rfl)⟩ (Nat.le_of_ble_eq_true rfl) (Nat.le_of_ble_eq_true rfl) (fun a9 H locs ha hz hP hS => ?_)
  obtain ⟨k, hk, rfl, rfl⟩ := ha
  have f_1 : ¬ ib (nI k) 6 := nib hk (by decide)
  refine lv_astore_n (lv' := [(3, .ref (ad (3 + 9 * k))), (0, .ref (ad 0)), (1, .int (nI k)), (2, .int pt)]) hx hb dC_share_5 rfl hl (by decide) rfl (fun ls hl => ?_)
  refine lv_iload_n hx hb dC_share_6 rfl (lv_at hl 3 rfl) ?_
  refine lv_iconst (v := 2) hx hb dC_share_7 (by decide) ?_
  refine kSx (n := 2) (D := D) (wd := fun z => cw CA z h ad) (As := [.int pt, .int 2]) (rest := []) (te := (te3 (ib (nI k) 6 ∨ ib pt 2) False False)) hml ⟨hx, hb, hml, hown, hT⟩ (kC_checkIndex l hlt sa H.size pt 2) (gi_S wm_192 wm_193 wm_1 wm_194) rfl rfl (by decide +kernel) ⟨(Nat.le_of_ble_eq_true rfl), (Nat.le_of_ble_eq_true rfl)⟩ hlocks hno hZ (fun _ h9 => Or.inr h9) (fun _ h9 => h9) hK hP hD hS (fun E h9 => Or.inl ⟨h9.1, (Or.inr h9.2)⟩) rfl hl.1 rfl (Nat.le_of_ble_eq_true rfl) dC_share_8 ⟨(Nat.le_of_ble_eq_true rfl), (Nat.le_of_ble_eq_true rfl)⟩ (Nat.le_of_ble_eq_true rfl) (Nat.le_of_ble_eq_true rfl) (fun H locs hok hz hP hS => ?_)
  have f_2 := hok
  refine lv_iconst (v := 0) hx hb dC_share_11 (by decide) ?_
  refine lv_istore (lv' := [(4, .int 0), (3, .ref (ad (3 + 9 * k))), (0, .ref (ad 0)), (1, .int (nI k)), (2, .int pt)]) hx hb dC_share_12 hl (by decide) rfl (fun ls hl => ?_)
  refine lv_iconst (v := 0) hx hb dC_share_14 (by decide) ?_
  refine lv_istore (lv' := [(5, .int 0), (4, .int 0), (3, .ref (ad (3 + 9 * k))), (0, .ref (ad 0)), (1, .int (nI k)), (2, .int pt)]) hx hb dC_share_15 hl (by decide) rfl (fun ls hl => ?_)
  refine loC_share hI hk hx hb hml hown hT hK (fun H locs v A hpr hP hD hS ls hl => ?_) 6 0 0 g (by omega) ⟨rfl, rfl⟩ H locs hP hD hS ls (lv_sub hl [0, 1, 3, 5, 2] rfl)
  have hv := prs_CI hI 6 v A (Nat.le_refl _) hpr
  refine lv_aload_n hx hb dC_share_48 rfl (lv_at hl 3 rfl) ?_
  refine kVr (n := 0) (D := D) (wd := fun z => cw CA z h ad) (A1 := fun sz => cA h ad sz) (As := []) (rest := []) ⟨hx, hb, hml, hown, hT⟩ (kK_parted l D CA v h ad H.size k hk (hv.1.2.2.1 _ hk).2.1 (hv.1.2.2.1 _ hk).1 (hv.1.2.2.1 _ hk).2.2 jp (fun p9 hp9 => (hv.1.2.2.2.1 p9 hp9).2)) (gi_V wm_359 wm_360 wm_361 wm_2 wm_362) rfl rfl (by decide +kernel) ⟨(Nat.le_of_ble_eq_true rfl), (Nat.le_of_ble_eq_true rfl)⟩ (va_recv hK hP (ci := 1) (q0 := 3 + 9 * k) rfl (cw_K hk)) hK hP hD hS (fun _ h9 => h9) (nA_mono hS.1) rfl hl.1 rfl (Nat.le_of_ble_eq_true rfl) dC_share_49 ⟨(Nat.le_of_ble_eq_true rfl), (Nat.le_of_ble_eq_true rfl)⟩ (fun w9 a9 H locs hpar ha9 hz hP hD hS => ?_)
  subst ha9
  have hpar : par v h jp k w9 := hpar
  obtain ⟨m9, K9, hm1, hK1, hm2, hK2⟩ := (par_P hv.1 hk hpar).2.2
  refine va_get (D := D) (ci := 2) (C := RP) (T := TP) (N := 6) hx hb hT inP hown hK hP (8 + 9 * k) (cw_PT hk) rfl 0 (by decide) (hT _ wm_39) (fun _ h9 => h9) rfl dC_share_52 ?_
  refine W.eq (g2 := F0 m 55 ls [.int (nI K9)]) (by rw [hK2]) ?_
  refine lv_iload hx hb dC_share_55 (lv_at hl 0 rfl) ?_
  refine lv_iload_n hx hb dC_share_57 rfl (lv_at hl 2 rfl) ?_
  refine kSi (n := 3) (D := D) (As := [.int (nI K9), .int (nI A), .int pt]) (rest := []) ⟨hx, hb, hml, hown, hT⟩ (kC_lessened l K9 A pt (by omega) (by omega)) (gi_S wm_453 wm_454 wm_1 wm_455) rfl rfl (by decide +kernel) ⟨(Nat.le_of_ble_eq_true rfl), (Nat.le_of_ble_eq_true rfl)⟩ hP hS rfl hl.1 rfl (Nat.le_of_ble_eq_true rfl) dC_share_58 ⟨(Nat.le_of_ble_eq_true rfl), (Nat.le_of_ble_eq_true rfl)⟩ (fun r_3 H locs e_4 hz hP hS => ?_)
  refine vx_ret ?_
  exact W.iret (v := r_3) hx hb hr (fun t ht hW => ⟨⟨_, w9, rfl, ⟨(not_or.mpr ⟨f_1, f_2⟩), k, v, A, K9, hk, rfl, hpr, hpar, hK2, hK1, e_4⟩, gpost_at hP hK hD ht hW.alike⟩, hS.F ht⟩) hS.2.2 dC_share_61
set_option maxHeartbeats 4000000 in
set_option maxRecDepth 100000 in
theorem kC_scaled (l : Launch) (hlt : l.stackTraces = false) (D : va_G) (CA : Nat → ClassId) (g : Nat → Nat → Int32) (h : Nat → Nat → Nat) (ad : Nat → Nat) (sz : Nat) (sa : Nat → Nat) (kd pt : Int32) (jp : Nat → Nat) (hI : CIv g h jp) (hF : ∀ k, k < 6 → ∃ fa fb, fa ≤ 10000 ∧ 1 ≤ fb ∧ fb ≤ 10000 ∧ g (3 + 9 * k) 4 = nI fa ∧ g (3 + 9 * k) 5 = nI fb) : vx_Met l yC_scaled wC_scaled (rm 2 2 12) (va_Pc [.ref (ad 0), .int kd, .int pt] (fun U => gpre D (cty CA) (cw CA g h ad) sz U ∧ xz (cA h ad sz) sa U U.heap)) (va_Qi (fun r (u : Nat → Nat → Int32) => ¬ (ib kd 6 ∨ ib pt 3) ∧ ∃ k fa fb, k < 6 ∧ kd = nI k ∧ g (3 + 9 * k) 4 = nI fa ∧ g (3 + 9 * k) 5 = nI fb ∧ r = scl (h 1 k) fa fb pt ∧ u = g) (fun u t => gpost D (cty CA) (cw CA u h ad) (cA h ad sz) t) (cA h ad sz)) (vx_X (fun u : Nat → Nat → Int32 => u = g) (fun E u t => te3 (ib kd 6 ∨ ib pt 3) False False E ∧ gpost D (cty CA) (cw CA u h ad) (cA h ad sz) t) (cA h ad sz)) 2 12 (cA h ad sz) := by
  refine vx_ofW (cc := cC_scaled) (maxL := 7) (ret := (some .int)) (by decide) rfl ?_
  intro p e s m args below meth c s₁ B hml hno hv
  obtain ⟨rfl, ⟨hsz, hP, hK, hD0⟩, hZ⟩ := hv
  have hx := B.exec
  have hb := B.bytes
  have hr := B.returns
  have hT : ∀ w ∈ TB, w.before _ s = true := fun w hw => atoms_spec (ws := wC_scaled) B.pre w (List.mem_cons_of_mem _ hw)
  have hown : s.vm.findClass "CountLeast" = some m.cls := findClass_of_methodNamed B.named
  have hlocks := B.notSynchronized
  subst hsz
  have hD := nA_self (sz := s.heap.size) hD0
  have hS : va_S (cA h ad s.heap.size) s.heap s.heap [] := va_S.rf
  have hP : va_P D vwCl (cw CA g h ad) s.heap := hP
  have hl := lv_entry ([.ref (ad 0), .int kd, .int pt]) (n := 7) (Nat.le_of_ble_eq_true rfl)
  rw [lg_entry_eq]
  generalize (lg_sl ([.ref (ad 0), .int kd, .int pt]) ++ List.replicate (7 - (lg_sl ([.ref (ad 0), .int kd, .int pt])).length) Slot.unset).toArray = ls at hl ⊢
  have hl : lv_has ls 7 [(0, .ref (ad 0)), (1, .int kd), (2, .int pt)] := hl
  have hn72 := hI.1
  have hg0 := hI.2.1
  have hkk := hI.2.2.1
  have hpp := hI.2.2.2.1
  refine lv_aload_n hx hb dC_scaled_0 rfl (lv_at hl 0 rfl) ?_
  refine lv_iload_n hx hb dC_scaled_1 rfl (lv_at hl 1 rfl) ?_
  refine kVx (n := 1) (D := D) (wd := fun z => cw CA z h ad) (A1 := fun sz => cA h ad sz) (As := [.int kd]) (rest := []) (te := (te3 (ib kd 6 ∨ ib pt 3) False False)) ⟨hx, hb, hml, hown, hT⟩ (kC_kindAt l hlt D CA g h ad s.heap.size sa kd) (gi_V wm_120 wm_122 wp_0 wm_1 wm_123) rfl rfl (by decide +kernel) ⟨(Nat.le_of_ble_eq_true rfl), (Nat.le_of_ble_eq_true rfl)⟩ (va_recv hK hP (ci := 0) (q0 := 0) rfl cw_X) hlocks hno hZ (fun _ h9 => h9) hK hP hD hS (fun _ h9 => h9) (nA_mono hS.1) (fun E h9 => Or.inl ⟨h9.1, (Or.inl h9.2)⟩) rfl hl.1 rfl (Nat.le_of_ble_eq_true rfl) dC_scaled_2 ⟨(Nat.le_of_ble_eq_true rfl), (Nat.le_of_ble_eq_true rfl)⟩ (Nat.le_of_ble_eq_true rfl) (Nat.le_of_ble_eq_true rfl) (fun a9 H locs ha hz hP hS => ?_)
  obtain ⟨k, hk, rfl, rfl⟩ := ha
  have f_1 : ¬ ib (nI k) 6 := nib hk (by decide)
  refine lv_astore_n (lv' := [(3, .ref (ad (3 + 9 * k))), (0, .ref (ad 0)), (1, .int (nI k)), (2, .int pt)]) hx hb dC_scaled_5 rfl hl (by decide) rfl (fun ls hl => ?_)
  refine lv_iload_n hx hb dC_scaled_6 rfl (lv_at hl 3 rfl) ?_
  refine lv_iconst (v := 3) hx hb dC_scaled_7 (by decide) ?_
  refine kSx (n := 2) (D := D) (wd := fun z => cw CA z h ad) (As := [.int pt, .int 3]) (rest := []) (te := (te3 (ib (nI k) 6 ∨ ib pt 3) False False)) hml ⟨hx, hb, hml, hown, hT⟩ (kC_checkIndex l hlt sa H.size pt 3) (gi_S wm_192 wm_193 wm_1 wm_194) rfl rfl (by decide +kernel) ⟨(Nat.le_of_ble_eq_true rfl), (Nat.le_of_ble_eq_true rfl)⟩ hlocks hno hZ (fun _ h9 => Or.inr h9) (fun _ h9 => h9) hK hP hD hS (fun E h9 => Or.inl ⟨h9.1, (Or.inr h9.2)⟩) rfl hl.1 rfl (Nat.le_of_ble_eq_true rfl) dC_scaled_8 ⟨(Nat.le_of_ble_eq_true rfl), (Nat.le_of_ble_eq_true rfl)⟩ (Nat.le_of_ble_eq_true rfl) (Nat.le_of_ble_eq_true rfl) (fun H locs hok hz hP hS => ?_)
  have f_2 := hok
  obtain ⟨fa, fb, hfa, hfb1, hfb, efa, efb⟩ := hF k hk
  have hc12 := (hkk k hk).1
  have hcf : h 1 k * fa ≤ 12 * 10000 := Nat.mul_le_mul hc12 hfa
  refine lv_aload_n hx hb dC_scaled_11 rfl (lv_at hl 0 rfl) ?_
  refine va_get (D := D) (ci := 1) (C := RK) (T := TK) (N := 10) hx hb hT inK hown hK hP (3 + 9 * k) (cw_K hk) rfl 6 (by decide) (hT _ wm_74) (fun _ h9 => h9) rfl dC_scaled_12 ?_
  refine W.eq (g2 := F0 m 15 ls [.int (nI (h 1 k))]) (by rw [(hkk k hk).2.1]) ?_
  refine lv_aload_n hx hb dC_scaled_15 rfl (lv_at hl 0 rfl) ?_
  refine va_get (D := D) (ci := 1) (C := RK) (T := TK) (N := 10) hx hb hT inK hown hK hP (3 + 9 * k) (cw_K hk) rfl 4 (by decide) (hT _ wm_69) (fun _ h9 => h9) rfl dC_scaled_16 ?_
  refine W.eq (g2 := F0 m 19 ls [.int (nI fa), .int (nI (h 1 k))]) (by rw [efa]) ?_
  refine lv_imul hx hb dC_scaled_19 ?_
  refine W.eq (g2 := F0 m 20 ls [.int (nI (h 1 k * fa))]) (by rw [pk_mul]) ?_
  refine lv_istore (lv' := [(4, .int (nI (h 1 k * fa))), (3, .ref (ad (3 + 9 * k))), (0, .ref (ad 0)), (1, .int (nI k)), (2, .int pt)]) hx hb dC_scaled_20 hl (by decide) rfl (fun ls hl => ?_)
  refine lv_iload hx hb dC_scaled_22 (lv_at hl 0 rfl) ?_
  refine lv_aload_n hx hb dC_scaled_24 rfl (lv_at hl 1 rfl) ?_
  refine va_get (D := D) (ci := 1) (C := RK) (T := TK) (N := 10) hx hb hT inK hown hK hP (3 + 9 * k) (cw_K hk) rfl 5 (by decide) (hT _ wm_71) (fun _ h9 => h9) rfl dC_scaled_25 ?_
  refine W.eq (g2 := F0 m 28 ls [.int (nI fb), .int (nI (h 1 k * fa))]) (by rw [efb]) ?_
  refine kSi (n := 2) (D := D) (As := [.int (nI (h 1 k * fa)), .int (nI fb)]) (rest := []) ⟨hx, hb, hml, hown, hT⟩ (kC_quotient l (nI (h 1 k * fa)) (nI fb)) (gi_S wm_459 wm_460 wm_1 wm_461) rfl rfl (by decide +kernel) ⟨(Nat.le_of_ble_eq_true rfl), (Nat.le_of_ble_eq_true rfl)⟩ hP hS rfl hl.1 rfl (Nat.le_of_ble_eq_true rfl) dC_scaled_28 ⟨(Nat.le_of_ble_eq_true rfl), (Nat.le_of_ble_eq_true rfl)⟩ (fun r_3 H locs e_4 hz hP hS => ?_)
  rw [if_neg (nI_ne0 (by omega) (by omega)), pk_div (by omega) (by omega) (by omega)] at e_4
  subst e_4
  refine lv_istore (lv' := [(5, .int (nI (h 1 k * fa / fb))), (4, .int (nI (h 1 k * fa))), (3, .ref (ad (3 + 9 * k))), (0, .ref (ad 0)), (1, .int (nI k)), (2, .int pt)]) hx hb dC_scaled_31 hl (by decide) rfl (fun ls hl => ?_)
  refine lv_iload_n hx hb dC_scaled_33 rfl (lv_at hl 5 rfl) ?_
  refine lv_if_ne (tgt := 40) hx hb dC_scaled_34 (by decide) (fun c_5 => ?_) (fun c_5 => ?_)
  · refine lv_iload hx hb dC_scaled_40 (lv_at hl 1 rfl) ?_
    refine lv_iload hx hb dC_scaled_42 (lv_at hl 0 rfl) ?_
    refine lv_aload_n hx hb dC_scaled_44 rfl (lv_at hl 2 rfl) ?_
    refine va_get (D := D) (ci := 1) (C := RK) (T := TK) (N := 10) hx hb hT inK hown hK hP (3 + 9 * k) (cw_K hk) rfl 5 (by decide) (hT _ wm_71) (fun _ h9 => h9) rfl dC_scaled_45 ?_
    refine W.eq (g2 := F0 m 48 ls [.int (nI fb), .int (nI (h 1 k * fa / fb)), .int (nI (h 1 k * fa))]) (by rw [efb]) ?_
    refine lv_imul hx hb dC_scaled_48 ?_
    refine lv_isub hx hb dC_scaled_49 ?_
    refine W.eq (g2 := F0 m 50 ls [.int (nI (h 1 k * fa % fb))]) (by rw [ov9]) ?_
    refine lv_istore (lv' := [(6, .int (nI (h 1 k * fa % fb))), (5, .int (nI (h 1 k * fa / fb))), (4, .int (nI (h 1 k * fa))), (3, .ref (ad (3 + 9 * k))), (0, .ref (ad 0)), (1, .int (nI k)), (2, .int pt)]) hx hb dC_scaled_50 hl (by decide) rfl (fun ls hl => ?_)
    refine lv_iload hx hb dC_scaled_52 (lv_at hl 0 rfl) ?_
    refine lv_aload_n hx hb dC_scaled_54 rfl (lv_at hl 3 rfl) ?_
    refine va_get (D := D) (ci := 1) (C := RK) (T := TK) (N := 10) hx hb hT inK hown hK hP (3 + 9 * k) (cw_K hk) rfl 5 (by decide) (hT _ wm_71) (fun _ h9 => h9) rfl dC_scaled_55 ?_
    refine W.eq (g2 := F0 m 58 ls [.int (nI fb), .int (nI (h 1 k * fa % fb))]) (by rw [efb]) ?_
    refine lv_iload_n hx hb dC_scaled_58 rfl (lv_at hl 6 rfl) ?_
    refine lv_iconst (v := 1) hx hb dC_scaled_59 (by decide) ?_
    refine lv_icmp_ne (tgt := 67) hx hb dC_scaled_60 (by decide) (fun c_6 => ?_) (fun c_6 => ?_)
    · refine lv_iconst (v := 1) hx hb dC_scaled_67 (by decide) ?_
      refine kSi (n := 3) (D := D) (As := [.int (nI (h 1 k * fa % fb)), .int (nI fb), .int 1]) (rest := []) ⟨hx, hb, hml, hown, hT⟩ (kC_lessened l (h 1 k * fa % fb) fb 1 (by have := Nat.mod_lt (h 1 k * fa) (show 0 < fb by omega); omega) (by omega)) (gi_S wm_453 wm_454 wm_1 wm_455) rfl rfl (by decide +kernel) ⟨(Nat.le_of_ble_eq_true rfl), (Nat.le_of_ble_eq_true rfl)⟩ hP hS rfl hl.1 rfl (Nat.le_of_ble_eq_true rfl) dC_scaled_68 ⟨(Nat.le_of_ble_eq_true rfl), (Nat.le_of_ble_eq_true rfl)⟩ (fun r_7 H locs e_8 hz hP hS => ?_)
      refine vx_ret ?_
      exact W.iret (v := r_7) hx hb hr (fun t ht hW => ⟨⟨_, g, rfl, ⟨(not_or.mpr ⟨f_1, f_2⟩), k, fa, fb, hk, rfl, efa, efb, by rw [e_8]; simp [scl, c_5, c_6], rfl⟩, gpost_at hP hK hD ht hW.alike⟩, hS.F ht⟩) hS.2.2 dC_scaled_71
    · refine lv_iconst (v := 0) hx hb dC_scaled_63 (by decide) ?_
      refine lv_goto (tgt := 68) hx hb dC_scaled_64 (by decide) ?_
      refine kSi (n := 3) (D := D) (As := [.int (nI (h 1 k * fa % fb)), .int (nI fb), .int 0]) (rest := []) ⟨hx, hb, hml, hown, hT⟩ (kC_lessened l (h 1 k * fa % fb) fb 0 (by have := Nat.mod_lt (h 1 k * fa) (show 0 < fb by omega); omega) (by omega)) (gi_S wm_453 wm_454 wm_1 wm_455) rfl rfl (by decide +kernel) ⟨(Nat.le_of_ble_eq_true rfl), (Nat.le_of_ble_eq_true rfl)⟩ hP hS rfl hl.1 rfl (Nat.le_of_ble_eq_true rfl) dC_scaled_68 ⟨(Nat.le_of_ble_eq_true rfl), (Nat.le_of_ble_eq_true rfl)⟩ (fun r_9 H locs e_10 hz hP hS => ?_)
      refine vx_ret ?_
      exact W.iret (v := r_9) hx hb hr (fun t ht hW => ⟨⟨_, g, rfl, ⟨(not_or.mpr ⟨f_1, f_2⟩), k, fa, fb, hk, rfl, efa, efb, by rw [e_10]; simp [scl, c_5, c_6], rfl⟩, gpost_at hP hK hD ht hW.alike⟩, hS.F ht⟩) hS.2.2 dC_scaled_71
  · refine lv_iload hx hb dC_scaled_37 (lv_at hl 0 rfl) ?_
    refine vx_ret ?_
    exact W.iret (v := nI (h 1 k * fa / fb)) hx hb hr (fun t ht hW => ⟨⟨_, g, rfl, ⟨(not_or.mpr ⟨f_1, f_2⟩), k, fa, fb, hk, rfl, efa, efb, by simp [scl, c_5], rfl⟩, gpost_at hP hK hD ht hW.alike⟩, hS.F ht⟩) hS.2.2 dC_scaled_39
set_option maxHeartbeats 4000000 in
set_option maxRecDepth 100000 in
theorem loC_diverse {p : Program} {l : Launch} {e : Env} {s : State} {m : MethodId} {args : Array Value} {below : List Frame} {meth : Method} {c : Code} {Q : State → Prop} {D : va_G} {CA : Nat → ClassId} {g : Nat → Nat → Int32} {h : Nat → Nat → Nat} {ad : Nat → Nat} {jp : Nat → Nat} (hI : CIv g h jp) {pt : Int32} (hx : p.tables.exec = Jvm.exec) (hb : c.code = cC_diverse) (hml : c.maxLocals = 4) (hown : s.vm.findClass "CountLeast" = some m.cls) (hT : ∀ w ∈ TB, w.before args s = true) (hK : va_K D vwCl (cty CA) s) (kx : ∀ (H : Heap) (locs : List Loc), va_P D vwCl (cw CA (g) h ad) H → va_D (cA h ad s.heap.size) (cw CA (g) h ad) → va_S (cA h ad s.heap.size) s.heap H locs → ∀ ls, lv_has ls 4 [(2, .int (nI (aln h 6))), (0, .ref (ad 0)), (1, .int pt)] → W p l e (rm 2 1 6) s m args below meth c H locs 1 6 Q (F0 m 36 ls [])) :
    ∀ (f i : Nat), i + f = 6 → ∀ (H : Heap) (locs : List Loc), va_P D vwCl (cw CA (g) h ad) H → va_D (cA h ad s.heap.size) (cw CA (g) h ad) → va_S (cA h ad s.heap.size) s.heap H locs → ∀ ls, lv_has ls 4 [(3, .int (nI i)), (2, .int (nI (aln h i))), (0, .ref (ad 0)), (1, .int pt)] → W p l e (rm 2 1 6) s m args below meth c H locs 1 6 Q (F0 m 9 ls []) := by
  intro f
  induction f with
  | zero =>
    intro i hi H locs hP hD hS ls hl
    have hi : i = 6 := by omega
    subst hi
    refine lv_iload_n hx hb dC_diverse_9 rfl (lv_at hl 0 rfl) ?_
    refine lv_bipush (v := 6) hx hb dC_diverse_10 (by decide) ?_
    refine lv_icmp_ge (tgt := 36) hx hb dC_diverse_12 (by decide) (fun c_1 => ?_) (fun c_1 => absurd (by decide) c_1)
    exact kx H locs hP hD hS ls (lv_sub hl [1, 2, 3] rfl)
  | succ f ih =>
    intro i hi H locs hP hD hS ls hl
    refine lv_iload_n hx hb dC_diverse_9 rfl (lv_at hl 0 rfl) ?_
    refine lv_bipush (v := 6) hx hb dC_diverse_10 (by decide) ?_
    refine lv_icmp_ge (tgt := 36) hx hb dC_diverse_12 (by decide) (fun c_1 => absurd c_1 (nI_ge (b := 6) (by omega) (by decide))) (fun c_1 => ?_)
    refine lv_iload_n hx hb dC_diverse_15 rfl (lv_at hl 1 rfl) ?_
    refine lv_aload_n hx hb dC_diverse_16 rfl (lv_at hl 2 rfl) ?_
    refine va_get (D := D) (ci := 0) (C := RC) (T := TC) (N := 3) hx hb hT inC hown hK hP (0) (cw_X) rfl 0 (by decide) (hT _ wm_100) (fun _ h9 => h9) rfl dC_diverse_17 ?_
    refine lv_iload_n hx hb dC_diverse_20 rfl (lv_at hl 0 rfl) ?_
    refine va_aldq (D := D) hx hb hK hP (1) 2 (cw_KA) rfl (vp_in_nI (by omega) (by decide)) dC_diverse_21 ?_
    refine W.eq (g2 := F0 m 22 ls [.ref (ad (3 + 9 * i)), .int (nI (aln h i))]) (by rw [nI_clamp (n := i) (by omega)]; simp [va_rf, show i < 6 by omega]) ?_
    refine va_get (D := D) (ci := 1) (C := RK) (T := TK) (N := 10) hx hb hT inK hown hK hP (3 + 9 * i) (cw_K (show i < 6 by omega)) rfl 6 (by decide) (hT _ wm_74) (fun _ h9 => h9) rfl dC_diverse_22 ?_
    refine W.eq (g2 := F0 m 25 ls [.int (nI (h 1 i)), .int (nI (aln h i))]) (by rw [(hI.2.2.1 i (by omega)).2.1]) ?_
    refine kSi (n := 1) (D := D) (As := [.int (nI (h 1 i))]) (rest := [.int (nI (aln h i))]) ⟨hx, hb, hml, hown, hT⟩ (kC_orderedPairs l (nI (h 1 i))) (gi_S wm_483 wm_484 wm_1 wm_485) rfl rfl (by decide +kernel) ⟨(Nat.le_of_ble_eq_true rfl), (Nat.le_of_ble_eq_true rfl)⟩ hP hS rfl hl.1 rfl (Nat.le_of_ble_eq_true rfl) dC_diverse_25 ⟨(Nat.le_of_ble_eq_true rfl), (Nat.le_of_ble_eq_true rfl)⟩ (fun r_2 H locs e_3 hz hP hS => ?_)
    rw [opr (h 1 i) (by have := (hI.2.2.1 i (by omega)).1; omega)] at e_3
    subst e_3
    refine lv_iadd hx hb dC_diverse_28 ?_
    refine W.eq (g2 := F0 m 29 ls [.int (nI (aln h (i + 1)))]) (by rw [nI_add, aln]) ?_
    refine lv_istore_n (lv' := [(2, .int (nI (aln h (i + 1)))), (3, .int (nI i)), (0, .ref (ad 0)), (1, .int pt)]) hx hb dC_diverse_29 rfl hl (by decide) rfl (fun ls hl => ?_)
    refine lv_iinc (v := nI (i + 1)) (lv' := [(3, .int (nI (i + 1))), (2, .int (nI (aln h (i + 1)))), (0, .ref (ad 0)), (1, .int pt)]) hx hb dC_diverse_30 hl (k := 1) rfl (nI_1 _) (by decide) rfl (fun ls hl => ?_)
    refine lv_goto (tgt := 9) hx hb dC_diverse_33 (by decide) ?_
    exact ih (i + 1) (by omega) H locs hP hD hS ls (lv_sub hl [0, 1, 2, 3] rfl)
set_option maxHeartbeats 4000000 in
set_option maxRecDepth 100000 in
theorem kC_diverse (l : Launch) (hlt : l.stackTraces = false) (D : va_G) (CA : Nat → ClassId) (g : Nat → Nat → Int32) (h : Nat → Nat → Nat) (ad : Nat → Nat) (sz : Nat) (sa : Nat → Nat) (pt : Int32) (jp : Nat → Nat) (hI : CIv g h jp) (hal : aln h 6 ≤ (h 0 0 * (h 0 0 - 1))) : vx_Met l yC_diverse wC_diverse (rm 2 1 6) (va_Pc [.ref (ad 0), .int pt] (fun U => gpre D (cty CA) (cw CA g h ad) sz U ∧ xz (cA h ad sz) sa U U.heap)) (va_Qi (fun r (u : Nat → Nat → Int32) => ¬ (ib pt 2) ∧ r = les ((h 0 0 * (h 0 0 - 1)) - aln h 6) (h 0 0 * (h 0 0 - 1)) pt ∧ u = g) (fun u t => gpost D (cty CA) (cw CA u h ad) (cA h ad sz) t) (cA h ad sz)) (vx_X (fun u : Nat → Nat → Int32 => u = g) (fun E u t => te3 (ib pt 2) False False E ∧ gpost D (cty CA) (cw CA u h ad) (cA h ad sz) t) (cA h ad sz)) 1 6 (cA h ad sz) := by
  refine vx_ofW (cc := cC_diverse) (maxL := 4) (ret := (some .int)) (by decide) rfl ?_
  intro p e s m args below meth c s₁ B hml hno hv
  obtain ⟨rfl, ⟨hsz, hP, hK, hD0⟩, hZ⟩ := hv
  have hx := B.exec
  have hb := B.bytes
  have hr := B.returns
  have hT : ∀ w ∈ TB, w.before _ s = true := fun w hw => atoms_spec (ws := wC_diverse) B.pre w (List.mem_cons_of_mem _ hw)
  have hown : s.vm.findClass "CountLeast" = some m.cls := findClass_of_methodNamed B.named
  have hlocks := B.notSynchronized
  subst hsz
  have hD := nA_self (sz := s.heap.size) hD0
  have hS : va_S (cA h ad s.heap.size) s.heap s.heap [] := va_S.rf
  have hP : va_P D vwCl (cw CA g h ad) s.heap := hP
  have hl := lv_entry ([.ref (ad 0), .int pt]) (n := 4) (Nat.le_of_ble_eq_true rfl)
  rw [lg_entry_eq]
  generalize (lg_sl ([.ref (ad 0), .int pt]) ++ List.replicate (4 - (lg_sl ([.ref (ad 0), .int pt])).length) Slot.unset).toArray = ls at hl ⊢
  have hl : lv_has ls 4 [(0, .ref (ad 0)), (1, .int pt)] := hl
  have hn72 := hI.1
  have hg0 := hI.2.1
  have hkk := hI.2.2.1
  have hpp := hI.2.2.2.1
  have hnn : h 0 0 * (h 0 0 - 1) ≤ 72 * 71 := Nat.mul_le_mul hn72 (by omega)
  refine lv_iload_n hx hb dC_diverse_0 rfl (lv_at hl 1 rfl) ?_
  refine lv_iconst (v := 2) hx hb dC_diverse_1 (by decide) ?_
  refine kSx (n := 2) (D := D) (wd := fun z => cw CA z h ad) (As := [.int pt, .int 2]) (rest := []) (te := (te3 (ib pt 2) False False)) hml ⟨hx, hb, hml, hown, hT⟩ (kC_checkIndex l hlt sa s.heap.size pt 2) (gi_S wm_192 wm_193 wm_1 wm_194) rfl rfl (by decide +kernel) ⟨(Nat.le_of_ble_eq_true rfl), (Nat.le_of_ble_eq_true rfl)⟩ hlocks hno hZ (fun _ h9 => Or.inr h9) (fun _ h9 => h9) hK hP hD hS (fun E h9 => Or.inl ⟨h9.1, h9.2⟩) rfl hl.1 rfl (Nat.le_of_ble_eq_true rfl) dC_diverse_2 ⟨(Nat.le_of_ble_eq_true rfl), (Nat.le_of_ble_eq_true rfl)⟩ (Nat.le_of_ble_eq_true rfl) (Nat.le_of_ble_eq_true rfl) (fun H locs hok hz hP hS => ?_)
  have f_1 := hok
  refine lv_iconst (v := 0) hx hb dC_diverse_5 (by decide) ?_
  refine lv_istore_n (lv' := [(2, .int 0), (0, .ref (ad 0)), (1, .int pt)]) hx hb dC_diverse_6 rfl hl (by decide) rfl (fun ls hl => ?_)
  refine lv_iconst (v := 0) hx hb dC_diverse_7 (by decide) ?_
  refine lv_istore_n (lv' := [(3, .int 0), (2, .int 0), (0, .ref (ad 0)), (1, .int pt)]) hx hb dC_diverse_8 rfl hl (by decide) rfl (fun ls hl => ?_)
  refine loC_diverse hI hx hb hml hown hT hK (fun H locs hP hD hS ls hl => ?_) 6 0 (by omega) H locs hP hD hS ls (lv_sub hl [0, 1, 2, 3] rfl)
  refine lv_aload_n hx hb dC_diverse_36 rfl (lv_at hl 1 rfl) ?_
  refine va_get (D := D) (ci := 0) (C := RC) (T := TC) (N := 3) hx hb hT inC hown hK hP (0) (cw_X) rfl 2 (by decide) (hT _ wm_102) (fun _ h9 => h9) rfl dC_diverse_37 ?_
  refine W.eq (g2 := F0 m 40 ls [.int (nI (h 0 0))]) (by rw [hg0]) ?_
  refine kSi (n := 1) (D := D) (As := [.int (nI (h 0 0))]) (rest := []) ⟨hx, hb, hml, hown, hT⟩ (kC_orderedPairs l (nI (h 0 0))) (gi_S wm_483 wm_484 wm_1 wm_485) rfl rfl (by decide +kernel) ⟨(Nat.le_of_ble_eq_true rfl), (Nat.le_of_ble_eq_true rfl)⟩ hP hS rfl hl.1 rfl (Nat.le_of_ble_eq_true rfl) dC_diverse_40 ⟨(Nat.le_of_ble_eq_true rfl), (Nat.le_of_ble_eq_true rfl)⟩ (fun r_2 H locs e_3 hz hP hS => ?_)
  rw [opr (h 0 0) (by omega)] at e_3
  subst e_3
  refine lv_istore_n (lv' := [(3, .int (nI (h 0 0 * (h 0 0 - 1)))), (2, .int (nI (aln h 6))), (0, .ref (ad 0)), (1, .int pt)]) hx hb dC_diverse_43 rfl hl (by decide) rfl (fun ls hl => ?_)
  refine lv_iload_n hx hb dC_diverse_44 rfl (lv_at hl 0 rfl) ?_
  refine lv_iload_n hx hb dC_diverse_45 rfl (lv_at hl 1 rfl) ?_
  refine lv_isub hx hb dC_diverse_46 ?_
  refine W.eq (g2 := F0 m 47 ls [.int (nI ((h 0 0 * (h 0 0 - 1)) - aln h 6))]) (by rw [pk_sub hal]) ?_
  refine lv_iload_n hx hb dC_diverse_47 rfl (lv_at hl 0 rfl) ?_
  refine lv_iload_n hx hb dC_diverse_48 rfl (lv_at hl 3 rfl) ?_
  refine kSi (n := 3) (D := D) (As := [.int (nI ((h 0 0 * (h 0 0 - 1)) - aln h 6)), .int (nI (h 0 0 * (h 0 0 - 1))), .int pt]) (rest := []) ⟨hx, hb, hml, hown, hT⟩ (kC_lessened l ((h 0 0 * (h 0 0 - 1)) - aln h 6) (h 0 0 * (h 0 0 - 1)) pt (by omega) (by omega)) (gi_S wm_453 wm_454 wm_1 wm_455) rfl rfl (by decide +kernel) ⟨(Nat.le_of_ble_eq_true rfl), (Nat.le_of_ble_eq_true rfl)⟩ hP hS rfl hl.1 rfl (Nat.le_of_ble_eq_true rfl) dC_diverse_49 ⟨(Nat.le_of_ble_eq_true rfl), (Nat.le_of_ble_eq_true rfl)⟩ (fun r_4 H locs e_5 hz hP hS => ?_)
  refine vx_ret ?_
  exact W.iret (v := r_4) hx hb hr (fun t ht hW => ⟨⟨_, g, rfl, ⟨f_1, e_5, rfl⟩, gpost_at hP hK hD ht hW.alike⟩, hS.F ht⟩) hS.2.2 dC_diverse_52
end
section
/-! constructors -/
theorem ra_u {U : State} {c1 c2 : ClassId} {ty : FieldType} (h1 : va_RA U c1 ty) (h2 : va_RA U c2 ty) : c1 = c2 := by
  cases ty with
  | object C =>
    obtain ⟨k1, m1, -, -, -, e1⟩ := h1
    obtain ⟨k2, m2, -, -, -, e2⟩ := h2
    exact Option.some.inj (e1.symm.trans e2)
  | _ => exact Option.some.inj (h1.symm.trans h2)
/-- the set of one cell and the new ones -/
def oA (q sz : Nat) : Nat → Prop := fun x => x = q ∨ sz ≤ x
theorem oA_D {A : Nat → Prop} {q sz : Nat} {e : va_E} (h : va_D A [(q, e)]) : va_D (oA q sz) [(q, e)] := by
  refine ⟨h.1, fun k x hx => ?_⟩
  match k, hx with
  | 0, hx => cases hx; exact Or.inl rfl
  | k + 1, hx => simp at hx
def w999 (i : Nat) : Nat → Int32 := fun j => if j < i then 999 else 0
theorem w999_s (i : Nat) : upd (w999 i) i 999 = w999 (i + 1) := by
  funext j
  by_cases h : j = i
  · subst h; simp [upd, w999]
  · have : j < i ↔ j < i + 1 := by omega
    simp [upd, w999, h, this]
theorem w999_0 : w999 0 = fun _ => 0 := by funext j; simp [w999]
set_option maxHeartbeats 4000000 in
set_option maxRecDepth 100000 in
theorem kP_init (l : Launch) (D : va_G) (CA : Nat → ClassId) (sz q0 : Nat) : Met l yP_init wP_init (rm 0 3 36) (va_Pc [.ref q0] (gpre D (cty CA) [(q0, .inr (2, [.int 0, .int 0, .int 0, .null, .null, .null]))] sz)) (va_Qv (fun (_ : Nat × Nat × Nat) => True) (fun u t => gpost D (cty CA) [(q0, .inr (2, [.int 0, .int 0, .int 0, .ref u.1, .ref u.2.1, .ref u.2.2])), (u.1, .inl (CA 0, aI 12 (fun _ => 0))), (u.2.1, .inl (CA 0, aI 12 (fun _ => 0))), (u.2.2, .inl (CA 0, aI 12 (fun _ => 0)))] (oA q0 sz) t) (oA q0 sz)) 3 36 (oA q0 sz) := by
  refine Met.ofW (cc := cP_init) (maxL := 1) (ret := none) (by decide) rfl ?_
  intro p e s m args below meth c s₁ B hml hv
  obtain ⟨rfl, hsz, hP, hK, hD0⟩ := hv
  have hx := B.exec
  have hb := B.bytes
  have hr := B.returns
  have hT : ∀ w ∈ TB, w.before _ s = true := fun w hw => atoms_spec (ws := wP_init) B.pre w (List.mem_cons_of_mem _ hw)
  have hown : s.vm.findClass "CountLeast$Parting" = some m.cls := findClass_of_methodNamed B.named
  have hlocks := B.notSynchronized
  have hin : meth.name = "<init>" := (name_of_methodNamed B.named B.method).1
  subst hsz
  have hD := oA_D (sz := s.heap.size) hD0
  have hA : ∀ q, s.heap.size ≤ q → oA q0 s.heap.size q := fun _ h => Or.inr h
  have hS : va_S (oA q0 s.heap.size) s.heap s.heap [] := va_S.rf
  have hl := lv_entry ([.ref q0]) (n := 1) (Nat.le_of_ble_eq_true rfl)
  rw [lg_entry_eq]
  generalize (lg_sl ([.ref q0]) ++ List.replicate (1 - (lg_sl ([.ref q0])).length) Slot.unset).toArray = ls at hl ⊢
  have hl : lv_has ls 1 [(0, .ref q0)] := hl
  refine lv_aload_n hx hb dP_init_0 rfl (lv_at hl 0 rfl) ?_
  refine W.objInit hx hb hown (hT _ wm_37) (hT _ wm_20) (hT _ wm_21) rfl (by rw [hml]; exact hl.1) rfl dP_init_1 (Nat.le_of_ble_eq_true rfl) (Nat.le_of_ble_eq_true rfl) ?_
  refine W.eq (g2 := F0 m 4 ls []) rfl ?_
  refine lv_aload_n hx hb dP_init_4 rfl (lv_at hl 0 rfl) ?_
  refine lv_iconst (v := 0) hx hb dP_init_5 (by decide) ?_
  refine va_put (D := D) (ci := 2) (v := .int 0) (ty := .int) (C := RP) (T := TP) (N := 6) hx hb hT inP tyP tyokP nmP hown hK hP hD hS 0 rfl rfl 0 (by decide) (hT _ wm_38) (fun _ h9 => h9) rfl (by decide +kernel) rfl rfl (Nat.le_of_ble_eq_true rfl) dP_init_6 (fun H locs hP hD hS => ?_)
  have hP : va_P D vwCl [(q0, .inr (2, [.int 0, .int 0, .int 0, .null, .null, .null]))] H := hP
  have hD : va_D (oA q0 s.heap.size) [(q0, .inr (2, [.int 0, .int 0, .int 0, .null, .null, .null]))] := hD
  refine lv_aload_n hx hb dP_init_9 rfl (lv_at hl 0 rfl) ?_
  refine lv_iconst (v := 0) hx hb dP_init_10 (by decide) ?_
  refine va_put (D := D) (ci := 2) (v := .int 0) (ty := .int) (C := RP) (T := TP) (N := 6) hx hb hT inP tyP tyokP nmP hown hK hP hD hS 0 rfl rfl 1 (by decide) (hT _ wm_40) (fun _ h9 => h9) rfl (by decide +kernel) rfl rfl (Nat.le_of_ble_eq_true rfl) dP_init_11 (fun H locs hP hD hS => ?_)
  have hP : va_P D vwCl [(q0, .inr (2, [.int 0, .int 0, .int 0, .null, .null, .null]))] H := hP
  have hD : va_D (oA q0 s.heap.size) [(q0, .inr (2, [.int 0, .int 0, .int 0, .null, .null, .null]))] := hD
  refine lv_aload_n hx hb dP_init_14 rfl (lv_at hl 0 rfl) ?_
  refine lv_iconst (v := 0) hx hb dP_init_15 (by decide) ?_
  refine va_put (D := D) (ci := 2) (v := .int 0) (ty := .int) (C := RP) (T := TP) (N := 6) hx hb hT inP tyP tyokP nmP hown hK hP hD hS 0 rfl rfl 2 (by decide) (hT _ wm_41) (fun _ h9 => h9) rfl (by decide +kernel) rfl rfl (Nat.le_of_ble_eq_true rfl) dP_init_16 (fun H locs hP hD hS => ?_)
  have hP : va_P D vwCl [(q0, .inr (2, [.int 0, .int 0, .int 0, .null, .null, .null]))] H := hP
  have hD : va_D (oA q0 s.heap.size) [(q0, .inr (2, [.int 0, .int 0, .int 0, .null, .null, .null]))] := hD
  refine lv_aload_n hx hb dP_init_19 rfl (lv_at hl 0 rfl) ?_
  refine lv_bipush (v := 12) hx hb dP_init_20 (by decide) ?_
  refine va_newa (atype := .int) (a0 := aI 12 (fun _ => 0)) hx hb (hT _ wm_59) (ty := .int) rfl hK hP hD hS hA (fun cA => rfl) (by decide) (by decide) (by decide) (Nat.le_of_ble_eq_true rfl) (Nat.le_of_ble_eq_true rfl) dP_init_22 (fun q_1 cA H hK9 hP hD hS => ?_)
  obtain rfl : cA = CA 0 := ra_u (hK9.2 4 _ rfl).2 (hK.2 0 _ rfl).2
  refine W.widen (k := 1) (n := 12) (Nat.le_refl _) (Nat.le_refl _) ?_
  have hP : va_P D vwCl [(q0, .inr (2, [.int 0, .int 0, .int 0, .null, .null, .null])), (q_1, .inl (CA 0, aI 12 (fun _ => 0)))] H := hP
  have hD : va_D (oA q0 s.heap.size) [(q0, .inr (2, [.int 0, .int 0, .int 0, .null, .null, .null])), (q_1, .inl (CA 0, aI 12 (fun _ => 0)))] := hD
  refine va_putF (D := D) (ci := 2) (v := .ref q_1) (ty := (.array .int)) (C := RP) (T := TP) (N := 6) hx hb hT inP tyP tyokP nmP hown hK hP hD hS 0 rfl rfl 3 (by decide) (hT _ wm_42) (fun _ h9 => h9) rfl hin rfl (by decide +kernel) rfl rfl (Nat.le_of_ble_eq_true rfl) dP_init_24 (fun H locs hP hD hS => ?_)
  have hP : va_P D vwCl [(q0, .inr (2, [.int 0, .int 0, .int 0, .ref q_1, .null, .null])), (q_1, .inl (CA 0, aI 12 (fun _ => 0)))] H := hP
  have hD : va_D (oA q0 s.heap.size) [(q0, .inr (2, [.int 0, .int 0, .int 0, .ref q_1, .null, .null])), (q_1, .inl (CA 0, aI 12 (fun _ => 0)))] := hD
  refine lv_aload_n hx hb dP_init_27 rfl (lv_at hl 0 rfl) ?_
  refine lv_bipush (v := 12) hx hb dP_init_28 (by decide) ?_
  refine va_newa (atype := .int) (a0 := aI 12 (fun _ => 0)) hx hb (hT _ wm_59) (ty := .int) rfl hK hP hD hS hA (fun cA => rfl) (by decide) (by decide) (by decide) (Nat.le_of_ble_eq_true rfl) (Nat.le_of_ble_eq_true rfl) dP_init_30 (fun q_2 cA H hK9 hP hD hS => ?_)
  obtain rfl : cA = CA 0 := ra_u (hK9.2 4 _ rfl).2 (hK.2 0 _ rfl).2
  refine W.widen (k := 2) (n := 24) (Nat.le_refl _) (Nat.le_refl _) ?_
  have hP : va_P D vwCl [(q0, .inr (2, [.int 0, .int 0, .int 0, .ref q_1, .null, .null])), (q_1, .inl (CA 0, aI 12 (fun _ => 0))), (q_2, .inl (CA 0, aI 12 (fun _ => 0)))] H := hP
  have hD : va_D (oA q0 s.heap.size) [(q0, .inr (2, [.int 0, .int 0, .int 0, .ref q_1, .null, .null])), (q_1, .inl (CA 0, aI 12 (fun _ => 0))), (q_2, .inl (CA 0, aI 12 (fun _ => 0)))] := hD
  refine va_putF (D := D) (ci := 2) (v := .ref q_2) (ty := (.array .int)) (C := RP) (T := TP) (N := 6) hx hb hT inP tyP tyokP nmP hown hK hP hD hS 0 rfl rfl 4 (by decide) (hT _ wm_43) (fun _ h9 => h9) rfl hin rfl (by decide +kernel) rfl rfl (Nat.le_of_ble_eq_true rfl) dP_init_32 (fun H locs hP hD hS => ?_)
  have hP : va_P D vwCl [(q0, .inr (2, [.int 0, .int 0, .int 0, .ref q_1, .ref q_2, .null])), (q_1, .inl (CA 0, aI 12 (fun _ => 0))), (q_2, .inl (CA 0, aI 12 (fun _ => 0)))] H := hP
  have hD : va_D (oA q0 s.heap.size) [(q0, .inr (2, [.int 0, .int 0, .int 0, .ref q_1, .ref q_2, .null])), (q_1, .inl (CA 0, aI 12 (fun _ => 0))), (q_2, .inl (CA 0, aI 12 (fun _ => 0)))] := hD
  refine lv_aload_n hx hb dP_init_35 rfl (lv_at hl 0 rfl) ?_
  refine lv_bipush (v := 12) hx hb dP_init_36 (by decide) ?_
  refine va_newa (atype := .int) (a0 := aI 12 (fun _ => 0)) hx hb (hT _ wm_59) (ty := .int) rfl hK hP hD hS hA (fun cA => rfl) (by decide) (by decide) (by decide) (Nat.le_of_ble_eq_true rfl) (Nat.le_of_ble_eq_true rfl) dP_init_38 (fun q_3 cA H hK9 hP hD hS => ?_)
  obtain rfl : cA = CA 0 := ra_u (hK9.2 4 _ rfl).2 (hK.2 0 _ rfl).2
  refine W.widen (k := 3) (n := 36) (Nat.le_refl _) (Nat.le_refl _) ?_
  have hP : va_P D vwCl [(q0, .inr (2, [.int 0, .int 0, .int 0, .ref q_1, .ref q_2, .null])), (q_1, .inl (CA 0, aI 12 (fun _ => 0))), (q_2, .inl (CA 0, aI 12 (fun _ => 0))), (q_3, .inl (CA 0, aI 12 (fun _ => 0)))] H := hP
  have hD : va_D (oA q0 s.heap.size) [(q0, .inr (2, [.int 0, .int 0, .int 0, .ref q_1, .ref q_2, .null])), (q_1, .inl (CA 0, aI 12 (fun _ => 0))), (q_2, .inl (CA 0, aI 12 (fun _ => 0))), (q_3, .inl (CA 0, aI 12 (fun _ => 0)))] := hD
  refine va_putF (D := D) (ci := 2) (v := .ref q_3) (ty := (.array .int)) (C := RP) (T := TP) (N := 6) hx hb hT inP tyP tyokP nmP hown hK hP hD hS 0 rfl rfl 5 (by decide) (hT _ wm_44) (fun _ h9 => h9) rfl hin rfl (by decide +kernel) rfl rfl (Nat.le_of_ble_eq_true rfl) dP_init_40 (fun H locs hP hD hS => ?_)
  have hP : va_P D vwCl [(q0, .inr (2, [.int 0, .int 0, .int 0, .ref q_1, .ref q_2, .ref q_3])), (q_1, .inl (CA 0, aI 12 (fun _ => 0))), (q_2, .inl (CA 0, aI 12 (fun _ => 0))), (q_3, .inl (CA 0, aI 12 (fun _ => 0)))] H := hP
  have hD : va_D (oA q0 s.heap.size) [(q0, .inr (2, [.int 0, .int 0, .int 0, .ref q_1, .ref q_2, .ref q_3])), (q_1, .inl (CA 0, aI 12 (fun _ => 0))), (q_2, .inl (CA 0, aI 12 (fun _ => 0))), (q_3, .inl (CA 0, aI 12 (fun _ => 0)))] := hD
  exact W.vret hx hb hr (fun t ht hW => ⟨⟨(q_1, q_2, q_3), rfl, trivial, gpost_at hP hK hD ht hW.alike⟩, hS.F ht⟩) hS.2.2 dP_init_43
theorem nj2 {A0 A1 : Nat → Prop} {D : va_G} {cl : List vw_C} {wA wB wA' : va_W} {H H1 : Heap} (hP : va_P D cl (wB ++ wA) H) (hD : va_D A0 (wB ++ wA)) (hk : ∀ q : Nat, q < H.size → ¬ A1 q → H1[q]? = H[q]?)
    (hA : ∀ q, A1 q → q < H.size → ∃ (k : Nat) (e : va_E), wA[k]? = some (q, e)) (hP1 : va_P D cl wA' H1) (hD1 : va_D A1 wA') (h10 : ∀ q, A1 q → A0 q) : va_P D cl (wB ++ wA') H1 ∧ va_D A0 (wB ++ wA') := by
  have apart : ∀ (k : Nat) (q : Nat × va_E), wB[k]? = some q → q.1 < H.size ∧ ¬ A1 q.1 := by
    intro k q hq
    have hkl : k < wB.length := (List.getElem?_eq_some_iff.mp hq).1
    have h1 : (wB ++ wA)[k]? = some q := by rw [List.getElem?_append_left hkl]; exact hq
    have hl := (hP _ _ h1).lt
    refine ⟨hl, fun h => ?_⟩
    obtain ⟨k2, e, h2⟩ := hA q.1 h hl
    have h3 : (wB ++ wA)[wB.length + k2]? = some (q.1, e) := by
      rw [List.getElem?_append_right (by omega), show wB.length + k2 - wB.length = k2 by omega]; exact h2
    have := hD.1 _ _ _ _ h1 h3 rfl
    omega
  refine ⟨va_P.app (fun k q hq => ?_) hP1, va_D.app ?_ (hD1.weaken (fun k q _ h => h10 q.1 h)) (fun i j x y hx hy hxy => ?_)⟩
  · have hkl : k < wB.length := (List.getElem?_eq_some_iff.mp hq).1
    have h1 : (wB ++ wA)[k]? = some q := by rw [List.getElem?_append_left hkl]; exact hq
    obtain ⟨g1, g2⟩ := apart k q hq
    exact (hP _ _ h1).kept (hk q.1 g1 g2)
  · refine ⟨fun i j p q hp hq e => ?_, fun k q hq => ?_⟩
    · have h1 : (wB ++ wA)[i]? = some p := by rw [List.getElem?_append_left (List.getElem?_eq_some_iff.mp hp).1]; exact hp
      have h2 : (wB ++ wA)[j]? = some q := by rw [List.getElem?_append_left (List.getElem?_eq_some_iff.mp hq).1]; exact hq
      exact hD.1 _ _ _ _ h1 h2 e
    · have h1 : (wB ++ wA)[k]? = some q := by rw [List.getElem?_append_left (List.getElem?_eq_some_iff.mp hq).1]; exact hq
      exact hD.2 _ _ h1
  · obtain ⟨g1, g2⟩ := apart i x hx
    exact g2 (by rw [hxy]; exact hD1.2 j y hy)
theorem oA_in {q sz : Nat} {e : va_E} : ∀ x, oA q sz x → x < sz → ∃ (k : Nat) (e9 : va_E), [(q, e)][k]? = some (x, e9) := fun x h hl => by
  rcases h with rfl | h
  · exact ⟨0, e, rfl⟩
  · omega
/-- the nine cells of a new kind -/
def kw (CA : Nat → ClassId) (q : Nat) (u : Nat → Nat) : va_W := [(q, .inr (1, [.ref (u 0), .ref (u 1), .ref (u 2), .int 30000, .int 1, .int 1, .int 0, .int 0, .ref (u 3), .ref (u 4)])), (u 0, .inl (CA 1, aI 16 (fun _ => 0))), (u 1, .inl (CA 0, aI 16 (fun _ => 0))), (u 2, .inl (CA 0, aI 16 (w999 16))), (u 3, .inl (CA 3, aR 12 (fun _ => none))), (u 4, .inr (2, [.int 0, .int 0, .int 0, .ref (u 5), .ref (u 6), .ref (u 7)])), (u 5, .inl (CA 0, aI 12 (fun _ => 0))), (u 6, .inl (CA 0, aI 12 (fun _ => 0))), (u 7, .inl (CA 0, aI 12 (fun _ => 0)))]
def nst (U : State) : Prop := va_Nw (.methodLinkNest "CountLeast$Kind" 47 yP_init "CountLeast") U ∧ va_AO "CountLeast$Kind" U ∧ va_AO "CountLeast$Piece" U
theorem nst_warm {s U : State} (hW : s.WarmedH U.vm) (h : nst s) : nst U := ⟨va_Nw.warmM hW h.1, va_AO.moved hW.alike h.2.1, va_AO.moved hW.alike h.2.2⟩
theorem nst_blind {U : State} (fr : JFrame) (mk : MethodId) (a : Array Value) (h : nst U) : nst (U.calling fr mk a) := ⟨va_Nw.same (u := U) (U := U.calling fr mk a) rfl rfl h.1, va_AO.moved (u := U) (U := U.calling fr mk a) (Vm.Alike.refl U.vm) h.2.1, va_AO.moved (u := U) (U := U.calling fr mk a) (Vm.Alike.refl U.vm) h.2.2⟩
set_option maxHeartbeats 4000000 in
set_option maxRecDepth 100000 in
theorem loK_init {p : Program} {l : Launch} {e : Env} {s : State} {m : MethodId} {args : Array Value} {below : List Frame} {meth : Method} {c : Code} {Q : State → Prop} {cells slots : Nat} {D : va_G} {CA : Nat → ClassId} {q0 : Nat} {u : Nat → Nat} {R : Room} (hx : p.tables.exec = Jvm.exec) (hb : c.code = cK_init) (hml : c.maxLocals = 2) (hown : s.vm.findClass "CountLeast$Kind" = some m.cls) (hT : ∀ w ∈ TB, w.before args s = true) (hK : va_K D vwCl (cty CA) s) (kx : ∀ (H : Heap) (locs : List Loc), va_P D vwCl [(q0, .inr (1, [.ref (u 0), .ref (u 1), .ref (u 2), .int 30000, .int 1, .int 1, .int 0, .int 0, .ref (u 3), .ref (u 4)])), (u 0, .inl (CA 1, aI 16 (fun _ => 0))), (u 1, .inl (CA 0, aI 16 (fun _ => 0))), (u 2, .inl (CA 0, aI 16 (w999 16))), (u 3, .inl (CA 3, aR 12 (fun _ => none))), (u 4, .inr (2, [.int 0, .int 0, .int 0, .ref (u 5), .ref (u 6), .ref (u 7)])), (u 5, .inl (CA 0, aI 12 (fun _ => 0))), (u 6, .inl (CA 0, aI 12 (fun _ => 0))), (u 7, .inl (CA 0, aI 12 (fun _ => 0)))] H → va_D (oA q0 s.heap.size) [(q0, .inr (1, [.ref (u 0), .ref (u 1), .ref (u 2), .int 30000, .int 1, .int 1, .int 0, .int 0, .ref (u 3), .ref (u 4)])), (u 0, .inl (CA 1, aI 16 (fun _ => 0))), (u 1, .inl (CA 0, aI 16 (fun _ => 0))), (u 2, .inl (CA 0, aI 16 (w999 16))), (u 3, .inl (CA 3, aR 12 (fun _ => none))), (u 4, .inr (2, [.int 0, .int 0, .int 0, .ref (u 5), .ref (u 6), .ref (u 7)])), (u 5, .inl (CA 0, aI 12 (fun _ => 0))), (u 6, .inl (CA 0, aI 12 (fun _ => 0))), (u 7, .inl (CA 0, aI 12 (fun _ => 0)))] → va_S (oA q0 s.heap.size) s.heap H locs → ∀ ls, lv_has ls 2 [(0, .ref q0)] → W p l e R s m args below meth c H locs cells slots Q (F0 m 98 ls [])) :
    ∀ (n i : Nat), i + n = 16 → ∀ (H : Heap) (locs : List Loc), va_P D vwCl [(q0, .inr (1, [.ref (u 0), .ref (u 1), .ref (u 2), .int 30000, .int 1, .int 1, .int 0, .int 0, .ref (u 3), .ref (u 4)])), (u 0, .inl (CA 1, aI 16 (fun _ => 0))), (u 1, .inl (CA 0, aI 16 (fun _ => 0))), (u 2, .inl (CA 0, aI 16 (w999 i))), (u 3, .inl (CA 3, aR 12 (fun _ => none))), (u 4, .inr (2, [.int 0, .int 0, .int 0, .ref (u 5), .ref (u 6), .ref (u 7)])), (u 5, .inl (CA 0, aI 12 (fun _ => 0))), (u 6, .inl (CA 0, aI 12 (fun _ => 0))), (u 7, .inl (CA 0, aI 12 (fun _ => 0)))] H → va_D (oA q0 s.heap.size) [(q0, .inr (1, [.ref (u 0), .ref (u 1), .ref (u 2), .int 30000, .int 1, .int 1, .int 0, .int 0, .ref (u 3), .ref (u 4)])), (u 0, .inl (CA 1, aI 16 (fun _ => 0))), (u 1, .inl (CA 0, aI 16 (fun _ => 0))), (u 2, .inl (CA 0, aI 16 (w999 i))), (u 3, .inl (CA 3, aR 12 (fun _ => none))), (u 4, .inr (2, [.int 0, .int 0, .int 0, .ref (u 5), .ref (u 6), .ref (u 7)])), (u 5, .inl (CA 0, aI 12 (fun _ => 0))), (u 6, .inl (CA 0, aI 12 (fun _ => 0))), (u 7, .inl (CA 0, aI 12 (fun _ => 0)))] → va_S (oA q0 s.heap.size) s.heap H locs → ∀ ls, lv_has ls 2 [(1, .int (nI i)), (0, .ref q0)] → W p l e R s m args below meth c H locs cells slots Q (F0 m 77 ls []) := by
  intro n
  induction n with
  | zero =>
    intro i hi H locs hP hD hS ls hl
    have hi : i = 16 := by omega
    subst hi
    refine lv_iload_n hx hb dK_init_77 rfl (lv_at hl 0 rfl) ?_
    refine lv_bipush (v := 16) hx hb dK_init_78 (by decide) ?_
    refine lv_icmp_ge (tgt := 98) hx hb dK_init_80 (by decide) (fun c_1 => ?_) (fun c_1 => absurd (by decide) c_1)
    exact kx H locs hP hD hS ls (lv_sub hl [1] rfl)
  | succ n ih =>
    intro i hi H locs hP hD hS ls hl
    refine lv_iload_n hx hb dK_init_77 rfl (lv_at hl 0 rfl) ?_
    refine lv_bipush (v := 16) hx hb dK_init_78 (by decide) ?_
    refine lv_icmp_ge (tgt := 98) hx hb dK_init_80 (by decide) (fun c_1 => absurd c_1 (nI_ge (b := 16) (by omega) (by decide))) (fun c_1 => ?_)
    refine lv_aload_n hx hb dK_init_83 rfl (lv_at hl 1 rfl) ?_
    refine va_get (D := D) (ci := 1) (C := RK) (T := TK) (N := 10) hx hb hT inK hown hK hP 0 rfl rfl 2 (by decide) (hT _ wm_64) (fun _ h9 => h9) rfl dK_init_84 ?_
    refine lv_iload_n hx hb dK_init_87 rfl (lv_at hl 0 rfl) ?_
    refine lv_sipush (v := 999) hx hb dK_init_88 (by decide) ?_
    refine va_iast (D := D) hx hb hK hP hD hS 3 0 rfl rfl (vp_in_nI (by omega) (by decide)) dK_init_91 (fun H locs hP hD hS => ?_)
    rw [nI_clamp (n := i) (by omega)] at hP hD
    have hP : va_P D vwCl [(q0, .inr (1, [.ref (u 0), .ref (u 1), .ref (u 2), .int 30000, .int 1, .int 1, .int 0, .int 0, .ref (u 3), .ref (u 4)])), (u 0, .inl (CA 1, aI 16 (fun _ => 0))), (u 1, .inl (CA 0, aI 16 (fun _ => 0))), (u 2, .inl (CA 0, aI 16 (upd (w999 i) i 999))), (u 3, .inl (CA 3, aR 12 (fun _ => none))), (u 4, .inr (2, [.int 0, .int 0, .int 0, .ref (u 5), .ref (u 6), .ref (u 7)])), (u 5, .inl (CA 0, aI 12 (fun _ => 0))), (u 6, .inl (CA 0, aI 12 (fun _ => 0))), (u 7, .inl (CA 0, aI 12 (fun _ => 0)))] H := hP
    have hD : va_D (oA q0 s.heap.size) [(q0, .inr (1, [.ref (u 0), .ref (u 1), .ref (u 2), .int 30000, .int 1, .int 1, .int 0, .int 0, .ref (u 3), .ref (u 4)])), (u 0, .inl (CA 1, aI 16 (fun _ => 0))), (u 1, .inl (CA 0, aI 16 (fun _ => 0))), (u 2, .inl (CA 0, aI 16 (upd (w999 i) i 999))), (u 3, .inl (CA 3, aR 12 (fun _ => none))), (u 4, .inr (2, [.int 0, .int 0, .int 0, .ref (u 5), .ref (u 6), .ref (u 7)])), (u 5, .inl (CA 0, aI 12 (fun _ => 0))), (u 6, .inl (CA 0, aI 12 (fun _ => 0))), (u 7, .inl (CA 0, aI 12 (fun _ => 0)))] := hD
    refine lv_iinc (v := nI (i + 1)) (lv' := [(1, .int (nI (i + 1))), (0, .ref q0)]) hx hb dK_init_92 hl (k := 0) rfl (nI_1 _) (by decide) rfl (fun ls hl => ?_)
    refine lv_goto (tgt := 77) hx hb dK_init_95 (by decide) ?_
    rw [w999_s] at hP hD
    exact ih (i + 1) (by omega) H locs hP hD hS ls (lv_sub hl [0, 1] rfl)
set_option maxHeartbeats 4000000 in
set_option maxRecDepth 100000 in
theorem kK_init (l : Launch) (D : va_G) (CA : Nat → ClassId) (sz q0 : Nat) : Met l yK_init wK_init (rm 1 8 102) (va_Pc [.ref q0] (fun U => gpre D (cty CA) [(q0, .inr (1, [.null, .null, .null, .int 0, .int 0, .int 0, .int 0, .int 0, .null, .null]))] sz U ∧ nst U)) (va_Qv (fun (_ : Nat → Nat) => True) (fun u t => gpost D (cty CA) (kw CA q0 u) (oA q0 sz) t) (oA q0 sz)) 8 102 (oA q0 sz) := by
  refine Met.ofW (cc := cK_init) (maxL := 2) (ret := none) (by decide) rfl ?_
  intro p e s m args below meth c s₁ B hml hv
  obtain ⟨rfl, ⟨hsz, hP, hK, hD0⟩, hN⟩ := hv
  have hx := B.exec
  have hb := B.bytes
  have hr := B.returns
  have hT : ∀ w ∈ TB, w.before _ s = true := fun w hw => atoms_spec (ws := wK_init) B.pre w (List.mem_cons_of_mem _ hw)
  have hown : s.vm.findClass "CountLeast$Kind" = some m.cls := findClass_of_methodNamed B.named
  have hlocks := B.notSynchronized
  have hin : meth.name = "<init>" := (name_of_methodNamed B.named B.method).1
  subst hsz
  have hOP := hN.2.2
  have hD := oA_D (sz := s.heap.size) hD0
  have hA : ∀ q, s.heap.size ≤ q → oA q0 s.heap.size q := fun _ h => Or.inr h
  have hS : va_S (oA q0 s.heap.size) s.heap s.heap [] := va_S.rf
  have hl := lv_entry ([.ref q0]) (n := 2) (Nat.le_of_ble_eq_true rfl)
  rw [lg_entry_eq]
  generalize (lg_sl ([.ref q0]) ++ List.replicate (2 - (lg_sl ([.ref q0])).length) Slot.unset).toArray = ls at hl ⊢
  have hl : lv_has ls 2 [(0, .ref q0)] := hl
  refine lv_aload_n hx hb dK_init_0 rfl (lv_at hl 0 rfl) ?_
  refine W.objInit hx hb hown (hT _ wm_30) (hT _ wm_20) (hT _ wm_21) rfl (by rw [hml]; exact hl.1) rfl dK_init_1 (Nat.le_of_ble_eq_true rfl) (Nat.le_of_ble_eq_true rfl) ?_
  refine W.eq (g2 := F0 m 4 ls []) rfl ?_
  refine lv_aload_n hx hb dK_init_4 rfl (lv_at hl 0 rfl) ?_
  refine lv_bipush (v := 16) hx hb dK_init_5 (by decide) ?_
  refine va_newa (atype := .boolean) (a0 := aI 16 (fun _ => 0)) hx hb (hT _ wm_58) (ty := .boolean) rfl hK hP hD hS hA (fun cA => rfl) (by decide) (by decide) (by decide) (Nat.le_of_ble_eq_true rfl) (Nat.le_of_ble_eq_true rfl) dK_init_7 (fun q_1 cA H hK9 hP hD hS => ?_)
  obtain rfl : cA = CA 1 := ra_u (hK9.2 4 _ rfl).2 (hK.2 1 _ rfl).2
  refine W.widen (k := 1) (n := 16) (Nat.le_refl _) (Nat.le_refl _) ?_
  have hP : va_P D vwCl [(q0, .inr (1, [.null, .null, .null, .int 0, .int 0, .int 0, .int 0, .int 0, .null, .null])), (q_1, .inl (CA 1, aI 16 (fun _ => 0)))] H := hP
  have hD : va_D (oA q0 s.heap.size) [(q0, .inr (1, [.null, .null, .null, .int 0, .int 0, .int 0, .int 0, .int 0, .null, .null])), (q_1, .inl (CA 1, aI 16 (fun _ => 0)))] := hD
  refine va_putF (D := D) (ci := 1) (v := .ref q_1) (ty := (.array .boolean)) (C := RK) (T := TK) (N := 10) hx hb hT inK tyK tyokK nmK hown hK hP hD hS 0 rfl rfl 0 (by decide) (hT _ wm_60) (fun _ h9 => h9) rfl hin rfl (by decide +kernel) rfl rfl (Nat.le_of_ble_eq_true rfl) dK_init_9 (fun H locs hP hD hS => ?_)
  have hP : va_P D vwCl [(q0, .inr (1, [.ref q_1, .null, .null, .int 0, .int 0, .int 0, .int 0, .int 0, .null, .null])), (q_1, .inl (CA 1, aI 16 (fun _ => 0)))] H := hP
  have hD : va_D (oA q0 s.heap.size) [(q0, .inr (1, [.ref q_1, .null, .null, .int 0, .int 0, .int 0, .int 0, .int 0, .null, .null])), (q_1, .inl (CA 1, aI 16 (fun _ => 0)))] := hD
  refine lv_aload_n hx hb dK_init_12 rfl (lv_at hl 0 rfl) ?_
  refine lv_bipush (v := 16) hx hb dK_init_13 (by decide) ?_
  refine va_newa (atype := .int) (a0 := aI 16 (fun _ => 0)) hx hb (hT _ wm_59) (ty := .int) rfl hK hP hD hS hA (fun cA => rfl) (by decide) (by decide) (by decide) (Nat.le_of_ble_eq_true rfl) (Nat.le_of_ble_eq_true rfl) dK_init_15 (fun q_2 cA H hK9 hP hD hS => ?_)
  obtain rfl : cA = CA 0 := ra_u (hK9.2 4 _ rfl).2 (hK.2 0 _ rfl).2
  refine W.widen (k := 2) (n := 32) (Nat.le_refl _) (Nat.le_refl _) ?_
  have hP : va_P D vwCl [(q0, .inr (1, [.ref q_1, .null, .null, .int 0, .int 0, .int 0, .int 0, .int 0, .null, .null])), (q_1, .inl (CA 1, aI 16 (fun _ => 0))), (q_2, .inl (CA 0, aI 16 (fun _ => 0)))] H := hP
  have hD : va_D (oA q0 s.heap.size) [(q0, .inr (1, [.ref q_1, .null, .null, .int 0, .int 0, .int 0, .int 0, .int 0, .null, .null])), (q_1, .inl (CA 1, aI 16 (fun _ => 0))), (q_2, .inl (CA 0, aI 16 (fun _ => 0)))] := hD
  refine va_putF (D := D) (ci := 1) (v := .ref q_2) (ty := (.array .int)) (C := RK) (T := TK) (N := 10) hx hb hT inK tyK tyokK nmK hown hK hP hD hS 0 rfl rfl 1 (by decide) (hT _ wm_62) (fun _ h9 => h9) rfl hin rfl (by decide +kernel) rfl rfl (Nat.le_of_ble_eq_true rfl) dK_init_17 (fun H locs hP hD hS => ?_)
  have hP : va_P D vwCl [(q0, .inr (1, [.ref q_1, .ref q_2, .null, .int 0, .int 0, .int 0, .int 0, .int 0, .null, .null])), (q_1, .inl (CA 1, aI 16 (fun _ => 0))), (q_2, .inl (CA 0, aI 16 (fun _ => 0)))] H := hP
  have hD : va_D (oA q0 s.heap.size) [(q0, .inr (1, [.ref q_1, .ref q_2, .null, .int 0, .int 0, .int 0, .int 0, .int 0, .null, .null])), (q_1, .inl (CA 1, aI 16 (fun _ => 0))), (q_2, .inl (CA 0, aI 16 (fun _ => 0)))] := hD
  refine lv_aload_n hx hb dK_init_20 rfl (lv_at hl 0 rfl) ?_
  refine lv_bipush (v := 16) hx hb dK_init_21 (by decide) ?_
  refine va_newa (atype := .int) (a0 := aI 16 (fun _ => 0)) hx hb (hT _ wm_59) (ty := .int) rfl hK hP hD hS hA (fun cA => rfl) (by decide) (by decide) (by decide) (Nat.le_of_ble_eq_true rfl) (Nat.le_of_ble_eq_true rfl) dK_init_23 (fun q_3 cA H hK9 hP hD hS => ?_)
  obtain rfl : cA = CA 0 := ra_u (hK9.2 4 _ rfl).2 (hK.2 0 _ rfl).2
  refine W.widen (k := 3) (n := 48) (Nat.le_refl _) (Nat.le_refl _) ?_
  have hP : va_P D vwCl [(q0, .inr (1, [.ref q_1, .ref q_2, .null, .int 0, .int 0, .int 0, .int 0, .int 0, .null, .null])), (q_1, .inl (CA 1, aI 16 (fun _ => 0))), (q_2, .inl (CA 0, aI 16 (fun _ => 0))), (q_3, .inl (CA 0, aI 16 (fun _ => 0)))] H := hP
  have hD : va_D (oA q0 s.heap.size) [(q0, .inr (1, [.ref q_1, .ref q_2, .null, .int 0, .int 0, .int 0, .int 0, .int 0, .null, .null])), (q_1, .inl (CA 1, aI 16 (fun _ => 0))), (q_2, .inl (CA 0, aI 16 (fun _ => 0))), (q_3, .inl (CA 0, aI 16 (fun _ => 0)))] := hD
  refine va_putF (D := D) (ci := 1) (v := .ref q_3) (ty := (.array .int)) (C := RK) (T := TK) (N := 10) hx hb hT inK tyK tyokK nmK hown hK hP hD hS 0 rfl rfl 2 (by decide) (hT _ wm_64) (fun _ h9 => h9) rfl hin rfl (by decide +kernel) rfl rfl (Nat.le_of_ble_eq_true rfl) dK_init_25 (fun H locs hP hD hS => ?_)
  have hP : va_P D vwCl [(q0, .inr (1, [.ref q_1, .ref q_2, .ref q_3, .int 0, .int 0, .int 0, .int 0, .int 0, .null, .null])), (q_1, .inl (CA 1, aI 16 (fun _ => 0))), (q_2, .inl (CA 0, aI 16 (fun _ => 0))), (q_3, .inl (CA 0, aI 16 (fun _ => 0)))] H := hP
  have hD : va_D (oA q0 s.heap.size) [(q0, .inr (1, [.ref q_1, .ref q_2, .ref q_3, .int 0, .int 0, .int 0, .int 0, .int 0, .null, .null])), (q_1, .inl (CA 1, aI 16 (fun _ => 0))), (q_2, .inl (CA 0, aI 16 (fun _ => 0))), (q_3, .inl (CA 0, aI 16 (fun _ => 0)))] := hD
  refine lv_aload_n hx hb dK_init_28 rfl (lv_at hl 0 rfl) ?_
  refine lv_sipush (v := 30000) hx hb dK_init_29 (by decide) ?_
  refine va_put (D := D) (ci := 1) (v := .int 30000) (ty := .int) (C := RK) (T := TK) (N := 10) hx hb hT inK tyK tyokK nmK hown hK hP hD hS 0 rfl rfl 3 (by decide) (hT _ wm_66) (fun _ h9 => h9) rfl (by decide +kernel) rfl rfl (Nat.le_of_ble_eq_true rfl) dK_init_32 (fun H locs hP hD hS => ?_)
  have hP : va_P D vwCl [(q0, .inr (1, [.ref q_1, .ref q_2, .ref q_3, .int 30000, .int 0, .int 0, .int 0, .int 0, .null, .null])), (q_1, .inl (CA 1, aI 16 (fun _ => 0))), (q_2, .inl (CA 0, aI 16 (fun _ => 0))), (q_3, .inl (CA 0, aI 16 (fun _ => 0)))] H := hP
  have hD : va_D (oA q0 s.heap.size) [(q0, .inr (1, [.ref q_1, .ref q_2, .ref q_3, .int 30000, .int 0, .int 0, .int 0, .int 0, .null, .null])), (q_1, .inl (CA 1, aI 16 (fun _ => 0))), (q_2, .inl (CA 0, aI 16 (fun _ => 0))), (q_3, .inl (CA 0, aI 16 (fun _ => 0)))] := hD
  refine lv_aload_n hx hb dK_init_35 rfl (lv_at hl 0 rfl) ?_
  refine lv_iconst (v := 1) hx hb dK_init_36 (by decide) ?_
  refine va_put (D := D) (ci := 1) (v := .int 1) (ty := .int) (C := RK) (T := TK) (N := 10) hx hb hT inK tyK tyokK nmK hown hK hP hD hS 0 rfl rfl 4 (by decide) (hT _ wm_68) (fun _ h9 => h9) rfl (by decide +kernel) rfl rfl (Nat.le_of_ble_eq_true rfl) dK_init_37 (fun H locs hP hD hS => ?_)
  have hP : va_P D vwCl [(q0, .inr (1, [.ref q_1, .ref q_2, .ref q_3, .int 30000, .int 1, .int 0, .int 0, .int 0, .null, .null])), (q_1, .inl (CA 1, aI 16 (fun _ => 0))), (q_2, .inl (CA 0, aI 16 (fun _ => 0))), (q_3, .inl (CA 0, aI 16 (fun _ => 0)))] H := hP
  have hD : va_D (oA q0 s.heap.size) [(q0, .inr (1, [.ref q_1, .ref q_2, .ref q_3, .int 30000, .int 1, .int 0, .int 0, .int 0, .null, .null])), (q_1, .inl (CA 1, aI 16 (fun _ => 0))), (q_2, .inl (CA 0, aI 16 (fun _ => 0))), (q_3, .inl (CA 0, aI 16 (fun _ => 0)))] := hD
  refine lv_aload_n hx hb dK_init_40 rfl (lv_at hl 0 rfl) ?_
  refine lv_iconst (v := 1) hx hb dK_init_41 (by decide) ?_
  refine va_put (D := D) (ci := 1) (v := .int 1) (ty := .int) (C := RK) (T := TK) (N := 10) hx hb hT inK tyK tyokK nmK hown hK hP hD hS 0 rfl rfl 5 (by decide) (hT _ wm_70) (fun _ h9 => h9) rfl (by decide +kernel) rfl rfl (Nat.le_of_ble_eq_true rfl) dK_init_42 (fun H locs hP hD hS => ?_)
  have hP : va_P D vwCl [(q0, .inr (1, [.ref q_1, .ref q_2, .ref q_3, .int 30000, .int 1, .int 1, .int 0, .int 0, .null, .null])), (q_1, .inl (CA 1, aI 16 (fun _ => 0))), (q_2, .inl (CA 0, aI 16 (fun _ => 0))), (q_3, .inl (CA 0, aI 16 (fun _ => 0)))] H := hP
  have hD : va_D (oA q0 s.heap.size) [(q0, .inr (1, [.ref q_1, .ref q_2, .ref q_3, .int 30000, .int 1, .int 1, .int 0, .int 0, .null, .null])), (q_1, .inl (CA 1, aI 16 (fun _ => 0))), (q_2, .inl (CA 0, aI 16 (fun _ => 0))), (q_3, .inl (CA 0, aI 16 (fun _ => 0)))] := hD
  refine lv_aload_n hx hb dK_init_45 rfl (lv_at hl 0 rfl) ?_
  refine lv_iconst (v := 0) hx hb dK_init_46 (by decide) ?_
  refine va_put (D := D) (ci := 1) (v := .int 0) (ty := .int) (C := RK) (T := TK) (N := 10) hx hb hT inK tyK tyokK nmK hown hK hP hD hS 0 rfl rfl 6 (by decide) (hT _ wm_73) (fun _ h9 => h9) rfl (by decide +kernel) rfl rfl (Nat.le_of_ble_eq_true rfl) dK_init_47 (fun H locs hP hD hS => ?_)
  have hP : va_P D vwCl [(q0, .inr (1, [.ref q_1, .ref q_2, .ref q_3, .int 30000, .int 1, .int 1, .int 0, .int 0, .null, .null])), (q_1, .inl (CA 1, aI 16 (fun _ => 0))), (q_2, .inl (CA 0, aI 16 (fun _ => 0))), (q_3, .inl (CA 0, aI 16 (fun _ => 0)))] H := hP
  have hD : va_D (oA q0 s.heap.size) [(q0, .inr (1, [.ref q_1, .ref q_2, .ref q_3, .int 30000, .int 1, .int 1, .int 0, .int 0, .null, .null])), (q_1, .inl (CA 1, aI 16 (fun _ => 0))), (q_2, .inl (CA 0, aI 16 (fun _ => 0))), (q_3, .inl (CA 0, aI 16 (fun _ => 0)))] := hD
  refine lv_aload_n hx hb dK_init_50 rfl (lv_at hl 0 rfl) ?_
  refine lv_iconst (v := 0) hx hb dK_init_51 (by decide) ?_
  refine va_put (D := D) (ci := 1) (v := .int 0) (ty := .boolean) (C := RK) (T := TK) (N := 10) hx hb hT inK tyK tyokK nmK hown hK hP hD hS 0 rfl rfl 7 (by decide) (hT _ wm_75) (fun _ h9 => h9) rfl (by decide +kernel) rfl rfl (Nat.le_of_ble_eq_true rfl) dK_init_52 (fun H locs hP hD hS => ?_)
  have hP : va_P D vwCl [(q0, .inr (1, [.ref q_1, .ref q_2, .ref q_3, .int 30000, .int 1, .int 1, .int 0, .int 0, .null, .null])), (q_1, .inl (CA 1, aI 16 (fun _ => 0))), (q_2, .inl (CA 0, aI 16 (fun _ => 0))), (q_3, .inl (CA 0, aI 16 (fun _ => 0)))] H := hP
  have hD : va_D (oA q0 s.heap.size) [(q0, .inr (1, [.ref q_1, .ref q_2, .ref q_3, .int 30000, .int 1, .int 1, .int 0, .int 0, .null, .null])), (q_1, .inl (CA 1, aI 16 (fun _ => 0))), (q_2, .inl (CA 0, aI 16 (fun _ => 0))), (q_3, .inl (CA 0, aI 16 (fun _ => 0)))] := hD
  refine lv_aload_n hx hb dK_init_55 rfl (lv_at hl 0 rfl) ?_
  refine lv_bipush (v := 12) hx hb dK_init_56 (by decide) ?_
  refine va_newq (own := "CountLeast$Kind") (C := "CountLeast$Piece") hx hb hown (hT _ wm_31) hOP hK hP hD hS hA (N' := 12) (by decide) (by decide) (by decide) (Nat.le_of_ble_eq_true rfl) (Nat.le_of_ble_eq_true rfl) dK_init_58 (fun q_4 cA H hK9 hP hD hS => ?_)
  obtain rfl : cA = CA 3 := ra_u (hK9.2 4 _ rfl).2 (hK.2 3 _ rfl).2
  refine W.widen (k := 4) (n := 60) (Nat.le_refl _) (Nat.le_refl _) ?_
  have hP : va_P D vwCl [(q0, .inr (1, [.ref q_1, .ref q_2, .ref q_3, .int 30000, .int 1, .int 1, .int 0, .int 0, .null, .null])), (q_1, .inl (CA 1, aI 16 (fun _ => 0))), (q_2, .inl (CA 0, aI 16 (fun _ => 0))), (q_3, .inl (CA 0, aI 16 (fun _ => 0))), (q_4, .inl (CA 3, aR 12 (fun _ => none)))] H := hP
  have hD : va_D (oA q0 s.heap.size) [(q0, .inr (1, [.ref q_1, .ref q_2, .ref q_3, .int 30000, .int 1, .int 1, .int 0, .int 0, .null, .null])), (q_1, .inl (CA 1, aI 16 (fun _ => 0))), (q_2, .inl (CA 0, aI 16 (fun _ => 0))), (q_3, .inl (CA 0, aI 16 (fun _ => 0))), (q_4, .inl (CA 3, aR 12 (fun _ => none)))] := hD
  refine va_putF (D := D) (ci := 1) (v := .ref q_4) (ty := (.array (.object "CountLeast$Piece"))) (C := RK) (T := TK) (N := 10) hx hb hT inK tyK tyokK nmK hown hK hP hD hS 0 rfl rfl 8 (by decide) (hT _ wm_77) (fun _ h9 => h9) rfl hin rfl (by decide +kernel) rfl rfl (Nat.le_of_ble_eq_true rfl) dK_init_61 (fun H locs hP hD hS => ?_)
  have hP : va_P D vwCl [(q0, .inr (1, [.ref q_1, .ref q_2, .ref q_3, .int 30000, .int 1, .int 1, .int 0, .int 0, .ref q_4, .null])), (q_1, .inl (CA 1, aI 16 (fun _ => 0))), (q_2, .inl (CA 0, aI 16 (fun _ => 0))), (q_3, .inl (CA 0, aI 16 (fun _ => 0))), (q_4, .inl (CA 3, aR 12 (fun _ => none)))] H := hP
  have hD : va_D (oA q0 s.heap.size) [(q0, .inr (1, [.ref q_1, .ref q_2, .ref q_3, .int 30000, .int 1, .int 1, .int 0, .int 0, .ref q_4, .null])), (q_1, .inl (CA 1, aI 16 (fun _ => 0))), (q_2, .inl (CA 0, aI 16 (fun _ => 0))), (q_3, .inl (CA 0, aI 16 (fun _ => 0))), (q_4, .inl (CA 3, aR 12 (fun _ => none)))] := hD
  refine lv_aload_n hx hb dK_init_64 rfl (lv_at hl 0 rfl) ?_
  refine va_new (ci := 2) (fs := [.int 0, .int 0, .int 0, .null, .null, .null]) (own := "CountLeast$Kind") (C := RP) (T := TP) (N := 6) hx hb hT inP tyP tyokP hown (hT _ wm_32) (hT _ wm_33) (hT _ wm_3) hK hP hD hS hA rfl (fun j hj => by rcases (show j = 0 ∨ j = 1 ∨ j = 2 ∨ j = 3 ∨ j = 4 ∨ j = 5 by omega) with rfl | rfl | rfl | rfl | rfl | rfl <;> rfl) (Nat.le_of_ble_eq_true rfl) (Nat.le_of_ble_eq_true rfl) dK_init_65 (fun q_5 H hP hD hS => ?_)
  refine W.widen (k := 5) (n := 66) (Nat.le_refl _) (Nat.le_refl _) ?_
  have hP : va_P D vwCl [(q0, .inr (1, [.ref q_1, .ref q_2, .ref q_3, .int 30000, .int 1, .int 1, .int 0, .int 0, .ref q_4, .null])), (q_1, .inl (CA 1, aI 16 (fun _ => 0))), (q_2, .inl (CA 0, aI 16 (fun _ => 0))), (q_3, .inl (CA 0, aI 16 (fun _ => 0))), (q_4, .inl (CA 3, aR 12 (fun _ => none))), (q_5, .inr (2, [.int 0, .int 0, .int 0, .null, .null, .null]))] H := hP
  have hD : va_D (oA q0 s.heap.size) [(q0, .inr (1, [.ref q_1, .ref q_2, .ref q_3, .int 30000, .int 1, .int 1, .int 0, .int 0, .ref q_4, .null])), (q_1, .inl (CA 1, aI 16 (fun _ => 0))), (q_2, .inl (CA 0, aI 16 (fun _ => 0))), (q_3, .inl (CA 0, aI 16 (fun _ => 0))), (q_4, .inl (CA 3, aR 12 (fun _ => none))), (q_5, .inr (2, [.int 0, .int 0, .int 0, .null, .null, .null]))] := hD
  refine lv_dup hx hb dK_init_68 rfl ?_
  have hFA : ∀ x, oA q_5 H.size x → oA q0 s.heap.size x := fun x hx9 => hx9.elim (fun e9 => by rw [e9]; exact hD.2 5 _ rfl) (fun e9 => Or.inr (Nat.le_trans hS.1 e9))
  refine va_callv (va_runIN (host := "CountLeast") (As := []) (rest := [.ref q_5, .ref q0]) ⟨hx, hb, hml, hown, hT⟩ (kP_init l D CA H.size q_5) ⟨va_cnB 0 hT (gi_cons wm_36 gi_TB) rfl rfl rfl hN.1 (hT _ wm_3) (by decide +kernel) ⟨(Nat.le_of_ble_eq_true rfl), (Nat.le_of_ble_eq_true rfl)⟩, rfl, hT _ wm_35⟩ ⟨fun a U fr mk q => ⟨q.1, gpre_blind fr mk a q.2⟩, fun U hU hW9 => ⟨rfl, gpre_at (hP.sub (ws' := [(q_5, .inr (2, [.int 0, .int 0, .int 0, .null, .null, .null]))]) [5] rfl) hK (hD.sub (ws' := [(q_5, .inr (2, [.int 0, .int 0, .int 0, .null, .null, .null]))]) [5] (by decide) rfl) hU hW9⟩⟩ rfl rfl hl.1 rfl (lv_room (Nat.le_of_ble_eq_true rfl)) dK_init_69 ⟨(Nat.le_of_ble_eq_true rfl), (Nat.le_of_ble_eq_true rfl)⟩) hS (fun x _ hx9 => hFA x hx9) hFA (fun u9 t9 H1 locs ht9 hvm9 _ hB9 hz9 hk9 hS => ?_)
  obtain ⟨a9, b9, d9⟩ := u9
  obtain ⟨hP1, -, hD1⟩ := hB9
  rw [ht9] at hP1
  obtain ⟨hP, hD⟩ := nj2 (wB := [(q0, .inr (1, [.ref q_1, .ref q_2, .ref q_3, .int 30000, .int 1, .int 1, .int 0, .int 0, .ref q_4, .null])), (q_1, .inl (CA 1, aI 16 (fun _ => 0))), (q_2, .inl (CA 0, aI 16 (fun _ => 0))), (q_3, .inl (CA 0, aI 16 (fun _ => 0))), (q_4, .inl (CA 3, aR 12 (fun _ => none)))]) (wA := [(q_5, .inr (2, [.int 0, .int 0, .int 0, .null, .null, .null]))]) hP hD hk9 (oA_in (e := _)) hP1 hD1 hFA
  generalize H1 = H at hP hS ⊢
  refine W.widen (k := 8) (n := 102) (Nat.le_refl _) (Nat.le_refl _) ?_
  have hP : va_P D vwCl [(q0, .inr (1, [.ref q_1, .ref q_2, .ref q_3, .int 30000, .int 1, .int 1, .int 0, .int 0, .ref q_4, .null])), (q_1, .inl (CA 1, aI 16 (fun _ => 0))), (q_2, .inl (CA 0, aI 16 (fun _ => 0))), (q_3, .inl (CA 0, aI 16 (fun _ => 0))), (q_4, .inl (CA 3, aR 12 (fun _ => none))), (q_5, .inr (2, [.int 0, .int 0, .int 0, .ref a9, .ref b9, .ref d9])), (a9, .inl (CA 0, aI 12 (fun _ => 0))), (b9, .inl (CA 0, aI 12 (fun _ => 0))), (d9, .inl (CA 0, aI 12 (fun _ => 0)))] H := hP
  have hD : va_D (oA q0 s.heap.size) [(q0, .inr (1, [.ref q_1, .ref q_2, .ref q_3, .int 30000, .int 1, .int 1, .int 0, .int 0, .ref q_4, .null])), (q_1, .inl (CA 1, aI 16 (fun _ => 0))), (q_2, .inl (CA 0, aI 16 (fun _ => 0))), (q_3, .inl (CA 0, aI 16 (fun _ => 0))), (q_4, .inl (CA 3, aR 12 (fun _ => none))), (q_5, .inr (2, [.int 0, .int 0, .int 0, .ref a9, .ref b9, .ref d9])), (a9, .inl (CA 0, aI 12 (fun _ => 0))), (b9, .inl (CA 0, aI 12 (fun _ => 0))), (d9, .inl (CA 0, aI 12 (fun _ => 0)))] := hD
  refine va_putF (D := D) (ci := 1) (v := .ref q_5) (ty := (.object "CountLeast$Parting")) (C := RK) (T := TK) (N := 10) hx hb hT inK tyK tyokK nmK hown hK hP hD hS 0 rfl rfl 9 (by decide) (hT _ wm_78) (fun _ h9 => h9) rfl hin rfl (by decide +kernel) rfl rfl (Nat.le_of_ble_eq_true rfl) dK_init_72 (fun H locs hP hD hS => ?_)
  have hP : va_P D vwCl [(q0, .inr (1, [.ref q_1, .ref q_2, .ref q_3, .int 30000, .int 1, .int 1, .int 0, .int 0, .ref q_4, .ref q_5])), (q_1, .inl (CA 1, aI 16 (fun _ => 0))), (q_2, .inl (CA 0, aI 16 (fun _ => 0))), (q_3, .inl (CA 0, aI 16 (fun _ => 0))), (q_4, .inl (CA 3, aR 12 (fun _ => none))), (q_5, .inr (2, [.int 0, .int 0, .int 0, .ref a9, .ref b9, .ref d9])), (a9, .inl (CA 0, aI 12 (fun _ => 0))), (b9, .inl (CA 0, aI 12 (fun _ => 0))), (d9, .inl (CA 0, aI 12 (fun _ => 0)))] H := hP
  have hD : va_D (oA q0 s.heap.size) [(q0, .inr (1, [.ref q_1, .ref q_2, .ref q_3, .int 30000, .int 1, .int 1, .int 0, .int 0, .ref q_4, .ref q_5])), (q_1, .inl (CA 1, aI 16 (fun _ => 0))), (q_2, .inl (CA 0, aI 16 (fun _ => 0))), (q_3, .inl (CA 0, aI 16 (fun _ => 0))), (q_4, .inl (CA 3, aR 12 (fun _ => none))), (q_5, .inr (2, [.int 0, .int 0, .int 0, .ref a9, .ref b9, .ref d9])), (a9, .inl (CA 0, aI 12 (fun _ => 0))), (b9, .inl (CA 0, aI 12 (fun _ => 0))), (d9, .inl (CA 0, aI 12 (fun _ => 0)))] := hD
  refine lv_iconst (v := 0) hx hb dK_init_75 (by decide) ?_
  refine lv_istore_n (lv' := [(1, .int 0), (0, .ref q0)]) hx hb dK_init_76 rfl hl (by decide) rfl (fun ls hl => ?_)
  have hP : va_P D vwCl [(q0, .inr (1, [.ref q_1, .ref q_2, .ref q_3, .int 30000, .int 1, .int 1, .int 0, .int 0, .ref q_4, .ref q_5])), (q_1, .inl (CA 1, aI 16 (fun _ => 0))), (q_2, .inl (CA 0, aI 16 (fun _ => 0))), (q_3, .inl (CA 0, aI 16 (w999 0))), (q_4, .inl (CA 3, aR 12 (fun _ => none))), (q_5, .inr (2, [.int 0, .int 0, .int 0, .ref a9, .ref b9, .ref d9])), (a9, .inl (CA 0, aI 12 (fun _ => 0))), (b9, .inl (CA 0, aI 12 (fun _ => 0))), (d9, .inl (CA 0, aI 12 (fun _ => 0)))] H := by rw [w999_0]; exact hP
  have hD : va_D (oA q0 s.heap.size) [(q0, .inr (1, [.ref q_1, .ref q_2, .ref q_3, .int 30000, .int 1, .int 1, .int 0, .int 0, .ref q_4, .ref q_5])), (q_1, .inl (CA 1, aI 16 (fun _ => 0))), (q_2, .inl (CA 0, aI 16 (fun _ => 0))), (q_3, .inl (CA 0, aI 16 (w999 0))), (q_4, .inl (CA 3, aR 12 (fun _ => none))), (q_5, .inr (2, [.int 0, .int 0, .int 0, .ref a9, .ref b9, .ref d9])), (a9, .inl (CA 0, aI 12 (fun _ => 0))), (b9, .inl (CA 0, aI 12 (fun _ => 0))), (d9, .inl (CA 0, aI 12 (fun _ => 0)))] := by rw [w999_0]; exact hD
  refine loK_init (u := fun n => [q_1, q_2, q_3, q_4, q_5, a9, b9, d9].getD n 0) hx hb hml hown hT hK (fun H locs hP hD hS ls hl => ?_) 16 0 (by omega) H locs hP hD hS ls (lv_sub hl [0, 1] rfl)
  exact W.vret hx hb hr (fun t ht hW => ⟨⟨(fun n => [q_1, q_2, q_3, q_4, q_5, a9, b9, d9].getD n 0), rfl, trivial, gpost_at hP hK hD ht hW.alike⟩, hS.F ht⟩) hS.2.2 dK_init_98
end
section
/-! a new object: its kinds one behind the other -/
def g00 : Nat → Nat → Int32 := fun a b => if 3 ≤ a ∧ a < 57 then (if (a - 3) % 9 = 0 then (if b = 3 then 30000 else if b = 4 ∨ b = 5 then 1 else 0) else if (a - 3) % 9 = 3 then w999 16 b else 0) else 0
def h00 : Nat → Nat → Nat := fun _ _ => 0
theorem g00_k {k j b : Nat} (hk : k < 6) (hj : j < 9) {a : Nat} (ha : a = 3 + 9 * k + j) : g00 a b = if j = 0 then (if b = 3 then 30000 else if b = 4 ∨ b = 5 then 1 else 0) else if j = 3 then w999 16 b else 0 := by
  subst ha
  unfold g00
  rw [if_pos (by omega), show (3 + 9 * k + j - 3) % 9 = j by omega]
theorem g00_f {k j : Nat} (hk : k < 6) (hj : j < 9) {a : Nat} (ha : a = 3 + 9 * k + j) (h0 : j ≠ 0) (h3 : j ≠ 3) : g00 a = fun _ => 0 := by
  funext b
  rw [g00_k hk hj ha, if_neg h0, if_neg h3]
theorem g00_w {k : Nat} (hk : k < 6) : g00 (6 + 9 * k) = w999 16 := by
  funext b
  rw [g00_k (k := k) (j := 3) hk (by omega) (by omega), if_neg (by decide), if_pos rfl]
def ci (CA : Nat → ClassId) (i : Nat) (ad : Nat → Nat) : Nat → va_E := fun a => if a = 1 then .inl (CA 2, aR 6 (fun q => if q < i then some (ad (3 + 9 * q)) else none)) else cc CA g00 h00 ad a
def ax (i : Nat) (ad : Nat → Nat) (q : Nat) (u : Nat → Nat) : Nat → Nat := fun a => if a < 3 + 9 * i then ad a else if a = 3 + 9 * i then q else u (a - (4 + 9 * i))
theorem ax_l {i a : Nat} {ad : Nat → Nat} {q : Nat} {u : Nat → Nat} (h : a < 3 + 9 * i) : ax i ad q u a = ad a := if_pos h
theorem ax_q {i : Nat} {ad : Nat → Nat} {q : Nat} {u : Nat → Nat} : ax i ad q u (3 + 9 * i) = q := by simp [ax]
theorem ax_u {i j a : Nat} {ad : Nat → Nat} {q : Nat} {u : Nat → Nat} (ha : a = 4 + 9 * i + j) : ax i ad q u a = u j := by
  subst ha
  unfold ax
  rw [if_neg (by omega), if_neg (by omega), show 4 + 9 * i + j - (4 + 9 * i) = j by omega]
theorem kc_ad {CA : Nat → ClassId} {ad ad' : Nat → Nat} {k j : Nat} (hj : j < 9) (h : ∀ a, 3 + 9 * k ≤ a → a < 12 + 9 * k → ad a = ad' a) : kc CA g00 h00 ad k j = kc CA g00 h00 ad' k j := by
  have e := fun a h1 h2 => h a h1 h2
  rcases (show j = 0 ∨ j = 1 ∨ j = 2 ∨ j = 3 ∨ j = 4 ∨ j = 5 ∨ j = 6 ∨ j = 7 ∨ j = 8 by omega) with rfl | rfl | rfl | rfl | rfl | rfl | rfl | rfl | rfl
  · simp [kc, e (4 + 9 * k) (by omega) (by omega), e (5 + 9 * k) (by omega) (by omega), e (6 + 9 * k) (by omega) (by omega), e (7 + 9 * k) (by omega) (by omega), e (8 + 9 * k) (by omega) (by omega)]
  · simp [kc]
  · simp [kc]
  · simp [kc]
  · simp [kc, h00]
  · simp [kc, e (9 + 9 * k) (by omega) (by omega), e (10 + 9 * k) (by omega) (by omega), e (11 + 9 * k) (by omega) (by omega)]
  · simp [kc]
  · simp [kc]
  · simp [kc]
theorem ci_low {CA : Nat → ClassId} {i : Nat} {ad : Nat → Nat} {q : Nat} {u : Nat → Nat} (hi : i < 6) {a : Nat} (ha : a < 3 + 9 * i) (h1 : a ≠ 1) : ci CA i ad a = ci CA (i + 1) (ax i ad q u) a := by
  unfold ci
  rw [if_neg h1, if_neg h1]
  by_cases h0 : a = 0
  · subst h0; simp [cc, ax_l (i := i) (a := 1) (ad := ad) (q := q) (u := u) (by omega), ax_l (i := i) (a := 2) (ad := ad) (q := q) (u := u) (by omega)]
  · by_cases h2 : a = 2
    · subst h2; simp [cc, h00]
    · obtain ⟨k, j, hk, hj, rfl⟩ : ∃ k j, k < i ∧ j < 9 ∧ a = 3 + 9 * k + j := ⟨(a - 3) / 9, (a - 3) % 9, by omega, by omega, by omega⟩
      rw [cc_k (k := k) (j := j) (by omega) hj rfl, cc_k (k := k) (j := j) (by omega) hj rfl]
      exact kc_ad hj (fun b h3 h4 => (ax_l (by omega)).symm)
theorem ci_new {CA : Nat → ClassId} {i : Nat} {ad : Nat → Nat} {q : Nat} {u : Nat → Nat} (hi : i < 6) {j : Nat} (hj : j < 9) : (kw CA q u)[j]? = some (ax i ad q u (3 + 9 * i + j), ci CA (i + 1) (ax i ad q u) (3 + 9 * i + j)) := by
  unfold ci
  rw [if_neg (by omega), cc_k (k := i) (j := j) hi hj rfl]
  have e : ∀ b n, b = 4 + 9 * i + n → ax i ad q u b = u n := fun b n h => ax_u h
  rcases (show j = 0 ∨ j = 1 ∨ j = 2 ∨ j = 3 ∨ j = 4 ∨ j = 5 ∨ j = 6 ∨ j = 7 ∨ j = 8 by omega) with rfl | rfl | rfl | rfl | rfl | rfl | rfl | rfl | rfl
  · rw [show 3 + 9 * i + 0 = 3 + 9 * i by omega, ax_q]
    have z := fun b => g00_k (k := i) (j := 0) (b := b) hi (by omega) (a := 3 + 9 * i) (by omega)
    simp [kc, kw, e (4 + 9 * i) 0 (by omega), e (5 + 9 * i) 1 (by omega), e (6 + 9 * i) 2 (by omega), e (7 + 9 * i) 3 (by omega), e (8 + 9 * i) 4 (by omega), z]
  · rw [e _ 0 (by omega)]; simp [kc, kw, g00_f (k := i) (j := 1) hi (by omega) (a := 4 + 9 * i) (by omega) (by decide) (by decide)]
  · rw [e _ 1 (by omega)]; simp [kc, kw, g00_f (k := i) (j := 2) hi (by omega) (a := 5 + 9 * i) (by omega) (by decide) (by decide)]
  · rw [e _ 2 (by omega)]; simp [kc, kw, g00_w hi]
  · rw [e _ 3 (by omega)]; simp [kc, kw, h00]
  · rw [e _ 4 (by omega)]
    have z := g00_f (k := i) (j := 5) hi (by omega) (a := 8 + 9 * i) (by omega) (by decide) (by decide)
    simp [kc, kw, e (9 + 9 * i) 5 (by omega), e (10 + 9 * i) 6 (by omega), e (11 + 9 * i) 7 (by omega), z]
  · rw [e _ 5 (by omega)]; simp [kc, kw, g00_f (k := i) (j := 6) hi (by omega) (a := 9 + 9 * i) (by omega) (by decide) (by decide)]
  · rw [e _ 6 (by omega)]; simp [kc, kw, g00_f (k := i) (j := 7) hi (by omega) (a := 10 + 9 * i) (by omega) (by decide) (by decide)]
  · rw [e _ 7 (by omega)]; simp [kc, kw, g00_f (k := i) (j := 8) hi (by omega) (a := 11 + 9 * i) (by omega) (by decide) (by decide)]
theorem ci_step {CA : Nat → ClassId} {i : Nat} {ad : Nat → Nat} {q : Nat} {u : Nat → Nat} (hi : i < 6) {a : Nat} (ha : a < 12 + 9 * i) :
    ((nw (3 + 9 * i) ad (ci CA i ad) ++ kw CA q u).set 1 (ad 1, .inl (CA 2, 6, .inr (.inr (.inr (.inr (va_up (fun q => if q < i then some (ad (3 + 9 * q)) else none) i (some q))))))))[a]? = some (ax i ad q u a, ci CA (i + 1) (ax i ad q u) a) := by
  have hlen : (nw (3 + 9 * i) ad (ci CA i ad)).length = 3 + 9 * i := by simp [nw]
  rw [List.getElem?_set]
  by_cases h1 : 1 = a
  · subst h1
    rw [if_pos rfl, if_pos (by simp [hlen]; omega), ax_l (by omega)]
    congr 2
    unfold ci
    rw [if_pos rfl]
    congr 3
    congr 4
    funext b
    by_cases hb : b = i
    · subst hb; rw [va_up_self, if_pos (by omega), ax_q]
    · rw [va_up_ne _ _ hb]
      by_cases hb2 : b < i
      · rw [if_pos hb2, if_pos (by omega), ax_l (by omega)]
      · rw [if_neg hb2, if_neg (by omega)]
  · rw [if_neg h1]
    by_cases h2 : a < 3 + 9 * i
    · rw [List.getElem?_append_left (by rw [hlen]; exact h2), nw_get h2, ax_l h2, ci_low hi h2 (fun e => h1 e.symm)]
    · obtain ⟨j, rfl⟩ : ∃ j, a = 3 + 9 * i + j := ⟨a - (3 + 9 * i), by omega⟩
      rw [List.getElem?_append_right (by rw [hlen]; omega), hlen, show 3 + 9 * i + j - (3 + 9 * i) = j by omega]
      exact ci_new hi (by omega)
theorem nw_ofL {D : va_G} {cl : List vw_C} {A : Nat → Prop} {L : va_W} {N : Nat} {ad : Nat → Nat} {c : Nat → va_E} {H : Heap} (hP : va_P D cl L H) (hD : va_D A L) (h : ∀ a, a < N → L[a]? = some (ad a, c a)) : va_P D cl (nw N ad c) H ∧ va_D A (nw N ad c) :=
  ⟨nw_P.mpr (fun i hi => hP i _ (h i hi)), nw_D.mpr ⟨fun i j hi hj e => hD.1 i j _ _ (h i hi) (h j hj) e, fun i hi => hD.2 i _ (h i hi)⟩⟩
theorem P_right {D : va_G} {cl : List vw_C} {wA wB : va_W} {H : Heap} (h : va_P D cl (wB ++ wA) H) : va_P D cl wA H := fun k q hq => h (wB.length + k) q (by rw [List.getElem?_append_right (by omega), show wB.length + k - wB.length = k by omega]; exact hq)
theorem D_right {A : Nat → Prop} {wA wB : va_W} (h : va_D A (wB ++ wA)) : va_D A wA := by
  have e : ∀ (k : Nat) (q : Nat × va_E), wA[k]? = some q → (wB ++ wA)[wB.length + k]? = some q := fun k q hq => by rw [List.getElem?_append_right (by omega), show wB.length + k - wB.length = k by omega]; exact hq
  exact ⟨fun i j p q hp hq e9 => by have := h.1 _ _ _ _ (e i p hp) (e j q hq) e9; omega, fun k q hq => h.2 _ _ (e k q hq)⟩
theorem vp_cell_cq (cA : ClassId) {n : Nat} {f f' : Nat → Option Nat} (h : ∀ j, j < n → f j = f' j) : vp_cell cA (aR n f) = vp_cell cA (aR n f') := by
  rw [vp_cell_q, vp_cell_q]
  unfold arrV
  congr 1
  apply congrArg
  funext j
  show va_rf (f j.val) = va_rf (f' j.val)
  rw [h j.val j.isLt]
theorem ci_end {D : va_G} {CA : Nat → ClassId} {ad : Nat → Nat} {A : Nat → Prop} {H : Heap} (hP : va_P D vwCl (nw 57 ad (ci CA 6 ad)) H) (hD : va_D A (nw 57 ad (ci CA 6 ad))) : va_P D vwCl (cw CA g00 h00 ad) H ∧ va_D A (cw CA g00 h00 ad) := by
  have e : nw 57 ad (ci CA 6 ad) = cw CA g00 h00 ad := nw_congr (fun i _ => by
    unfold ci
    by_cases h : i = 1
    · subst h; rfl
    · rw [if_neg h])
  rw [← e]
  exact ⟨hP, hD⟩
set_option maxHeartbeats 4000000 in
set_option maxRecDepth 100000 in
theorem loC_init {p : Program} {l : Launch} {e : Env} {s : State} {m : MethodId} {args : Array Value} {below : List Frame} {meth : Method} {c : Code} {Q : State → Prop} {D : va_G} {CA : Nat → ClassId} {q0 : Nat} (hx : p.tables.exec = Jvm.exec) (hb : c.code = cC_init) (hml : c.maxLocals = 2) (hown : s.vm.findClass "CountLeast" = some m.cls) (hT : ∀ w ∈ TB, w.before args s = true) (hK : va_K D vwCl (cty CA) s) (hN : nst s) (kx : ∀ (H : Heap) (locs : List Loc) (ad : Nat → Nat), ad 0 = q0 → va_P D vwCl (nw (3 + 9 * 6) ad (ci CA 6 ad)) H → va_D (oA q0 s.heap.size) (nw (3 + 9 * 6) ad (ci CA 6 ad)) → va_S (oA q0 s.heap.size) s.heap H locs → ∀ ls, W p l e (rm 2 56 750) s m args below meth c H locs (2 + 9 * 6) (78 + 112 * 6) Q (F0 m 54 ls [])) :
    ∀ (n i : Nat), i + n = 6 → ∀ (H : Heap) (locs : List Loc) (ad : Nat → Nat), ad 0 = q0 → va_P D vwCl (nw (3 + 9 * i) ad (ci CA i ad)) H → va_D (oA q0 s.heap.size) (nw (3 + 9 * i) ad (ci CA i ad)) → va_S (oA q0 s.heap.size) s.heap H locs → ∀ ls, lv_has ls 2 [(1, .int (nI i)), (0, .ref q0)] → W p l e (rm 2 56 750) s m args below meth c H locs (2 + 9 * i) (78 + 112 * i) Q (F0 m 29 ls []) := by
  have hA : ∀ q, s.heap.size ≤ q → (oA q0 s.heap.size) q := fun _ h => Or.inr h
  intro n
  induction n with
  | zero =>
    intro i hi H locs ad ha0 hP hD hS ls hl
    have hi : i = 6 := by omega
    subst hi
    refine lv_iload_n hx hb dC_init_29 rfl (lv_at hl 0 rfl) ?_
    refine lv_bipush (v := 6) hx hb dC_init_30 (by decide) ?_
    refine lv_icmp_ge (tgt := 54) hx hb dC_init_32 (by decide) (fun c_1 => ?_) (fun c_1 => absurd (by decide) c_1)
    exact kx H locs ad ha0 hP hD hS ls
  | succ n ih =>
    intro i hi H locs ad ha0 hP hD hS ls hl
    subst ha0
    refine lv_iload_n hx hb dC_init_29 rfl (lv_at hl 0 rfl) ?_
    refine lv_bipush (v := 6) hx hb dC_init_30 (by decide) ?_
    refine lv_icmp_ge (tgt := 54) hx hb dC_init_32 (by decide) (fun c_1 => absurd c_1 (nI_ge (b := 6) (by omega) (by decide))) (fun c_1 => ?_)
    refine lv_aload_n hx hb dC_init_35 rfl (lv_at hl 1 rfl) ?_
    refine va_get (D := D) (ci := 0) (C := RC) (T := TC) (N := 3) hx hb hT inC hown hK hP 0 (nw_getE (e := .inr (0, [.ref (ad 1), .ref (ad 2), .int 0])) (by omega) rfl) rfl 0 (by decide) (hT _ wm_100) (fun _ h9 => h9) rfl dC_init_36 ?_
    refine lv_iload_n hx hb dC_init_39 rfl (lv_at hl 0 rfl) ?_
    have hc1 : 2 + 9 * i + 1 ≤ 56 := by omega
    have hs1 : 78 + 112 * i + 10 ≤ 750 := by omega
    refine va_new (ci := 1) (fs := [.null, .null, .null, .int 0, .int 0, .int 0, .int 0, .int 0, .null, .null]) (own := "CountLeast") (C := RK) (T := TK) (N := 10) hx hb hT inK tyK tyokK hown (hT _ wm_22) (hT _ wm_26) (hT _ wm_2) hK hP hD hS hA rfl (fun j hj => by rcases (show j = 0 ∨ j = 1 ∨ j = 2 ∨ j = 3 ∨ j = 4 ∨ j = 5 ∨ j = 6 ∨ j = 7 ∨ j = 8 ∨ j = 9 by omega) with rfl | rfl | rfl | rfl | rfl | rfl | rfl | rfl | rfl | rfl <;> rfl) hc1 hs1 dC_init_40 (fun q9 H hP hD hS => ?_)
    refine lv_dup hx hb dC_init_43 rfl ?_
    have hFA : ∀ x, oA q9 H.size x → (oA (ad 0) s.heap.size) x := fun x hx9 => hx9.elim (fun e9 => by rw [e9]; exact (D_right hD).2 0 _ rfl) (fun e9 => Or.inr (Nat.le_trans hS.1 e9))
    refine va_callv (va_runI (As := []) (rest := [.ref q9, .int (nI i), .ref (ad 1)]) ⟨hx, hb, hml, hown, hT⟩ (kK_init l D CA H.size q9) (cwI 0 hT (gi_cons wm_29 gi_TB) rfl rfl rfl (hT _ wm_2) (hT _ wm_27) (hT _ wm_28) rfl (by decide +kernel) ⟨(Nat.le_of_ble_eq_true rfl), (Nat.le_of_ble_eq_true rfl)⟩) ⟨fun a U fr mk q => ⟨q.1, gpre_blind fr mk a q.2.1, nst_blind fr mk a q.2.2⟩, fun U hU hW9 => ⟨rfl, gpre_at (P_right hP) hK (D_right hD) hU hW9, nst_warm hW9 hN⟩⟩ rfl rfl hl.1 rfl (lv_room (Nat.le_of_ble_eq_true rfl)) dC_init_44 ⟨show 2 + 9 * i + 1 + 8 ≤ 56 by omega, show 78 + 112 * i + 10 + 102 ≤ 750 by omega⟩) hS (fun x _ hx9 => hFA x hx9) hFA (fun u9 t9 H1 locs ht9 hvm9 _ hB9 hz9 hk9 hS => ?_)
    obtain ⟨hP1, -, hD1⟩ := hB9
    rw [ht9] at hP1
    obtain ⟨hP, hD⟩ := nj2 hP hD hk9 oA_in hP1 hD1 hFA
    generalize H1 = H at hP hS ⊢
    have hlen : (nw (3 + 9 * i) ad (ci CA i ad)).length = 3 + 9 * i := by simp [nw]
    refine va_astq (D := D) hx hb hK hP hD hS 1 2 (3 + 9 * i) 1 (r := (RK, TK, 10)) (cA := CA 2) (n := 6) (f := fun q => if q < i then some (ad (3 + 9 * q)) else none) (vs := [.ref (u9 0), .ref (u9 1), .ref (u9 2), .int 30000, .int 1, .int 1, .int 0, .int 0, .ref (u9 3), .ref (u9 4)]) (by rw [List.getElem?_append_left (by rw [hlen]; omega)]; exact nw_getE (by omega) rfl) rfl (by rw [List.getElem?_append_right (by rw [hlen]; omega), hlen, Nat.sub_self]; rfl) rfl (vp_in_nI (show i < 6 by omega) (by decide)) dC_init_47 (fun H locs hP hD hS => ?_)
    rw [nI_clamp (n := i) (by omega)] at hP hD
    obtain ⟨hP, hD⟩ := nw_ofL (N := 12 + 9 * i) hP hD (fun a ha => ci_step (by omega) ha)
    refine W.widen (k := 2 + 9 * (i + 1)) (n := 78 + 112 * (i + 1)) (by omega) (by omega) ?_
    refine lv_iinc (v := nI (i + 1)) (lv' := [(1, .int (nI (i + 1))), (0, .ref (ad 0))]) hx hb dC_init_48 hl (k := 0) rfl (nI_1 _) (by decide) rfl (fun ls hl => ?_)
    refine lv_goto (tgt := 29) hx hb dC_init_51 (by decide) ?_
    rw [show 12 + 9 * i = 3 + 9 * (i + 1) by omega] at hP hD
    exact ih (i + 1) (by omega) H locs _ (ax_l (by omega)) hP hD hS ls hl
set_option maxHeartbeats 4000000 in
set_option maxRecDepth 100000 in
theorem kC_init (l : Launch) (D : va_G) (CA : Nat → ClassId) (sz q0 : Nat) : Met l yC_init wC_init (rm 2 56 750) (va_Pc [.ref q0] (fun U => gpre D (cty CA) [(q0, .inr (0, [.null, .null, .int 0]))] sz U ∧ nst U)) (va_Qv (fun (u : Nat → Nat) => u 0 = q0) (fun u t => gpost D (cty CA) (cw CA g00 h00 u) (oA q0 sz) t) (oA q0 sz)) 56 750 (oA q0 sz) := by
  refine Met.ofW (cc := cC_init) (maxL := 2) (ret := none) (by decide) rfl ?_
  intro p e s m args below meth c s₁ B hml hv
  obtain ⟨rfl, ⟨hsz, hP, hK, hD0⟩, hN⟩ := hv
  have hx := B.exec
  have hb := B.bytes
  have hr := B.returns
  have hT : ∀ w ∈ TB, w.before _ s = true := fun w hw => atoms_spec (ws := wC_init) B.pre w (List.mem_cons_of_mem _ hw)
  have hown : s.vm.findClass "CountLeast" = some m.cls := findClass_of_methodNamed B.named
  have hlocks := B.notSynchronized
  have hin : meth.name = "<init>" := (name_of_methodNamed B.named B.method).1
  subst hsz
  have hOK := hN.2.1
  have hOP := hN.2.2
  have hD := oA_D (sz := s.heap.size) hD0
  have hA : ∀ q, s.heap.size ≤ q → oA q0 s.heap.size q := fun _ h => Or.inr h
  have hS : va_S (oA q0 s.heap.size) s.heap s.heap [] := va_S.rf
  have hl := lv_entry ([.ref q0]) (n := 2) (Nat.le_of_ble_eq_true rfl)
  rw [lg_entry_eq]
  generalize (lg_sl ([.ref q0]) ++ List.replicate (2 - (lg_sl ([.ref q0])).length) Slot.unset).toArray = ls at hl ⊢
  have hl : lv_has ls 2 [(0, .ref q0)] := hl
  refine lv_aload_n hx hb dC_init_0 rfl (lv_at hl 0 rfl) ?_
  refine W.objInit hx hb hown (hT _ wm_19) (hT _ wm_20) (hT _ wm_21) rfl (by rw [hml]; exact hl.1) rfl dC_init_1 (Nat.le_of_ble_eq_true rfl) (Nat.le_of_ble_eq_true rfl) ?_
  refine W.eq (g2 := F0 m 4 ls []) rfl ?_
  refine lv_aload_n hx hb dC_init_4 rfl (lv_at hl 0 rfl) ?_
  refine lv_bipush (v := 6) hx hb dC_init_5 (by decide) ?_
  refine va_newq (own := "CountLeast") (C := "CountLeast$Kind") hx hb hown (hT _ wm_22) hOK hK hP hD hS hA (N' := 6) (by decide) (by decide) (by decide) (Nat.le_of_ble_eq_true rfl) (Nat.le_of_ble_eq_true rfl) dC_init_7 (fun q_1 cA H hK9 hP hD hS => ?_)
  obtain rfl : cA = CA 2 := ra_u (hK9.2 4 _ rfl).2 (hK.2 2 _ rfl).2
  refine W.widen (k := 1) (n := 6) (Nat.le_refl _) (Nat.le_refl _) ?_
  have hP : va_P D vwCl [(q0, .inr (0, [.null, .null, .int 0])), (q_1, .inl (CA 2, aR 6 (fun _ => none)))] H := hP
  have hD : va_D (oA q0 s.heap.size) [(q0, .inr (0, [.null, .null, .int 0])), (q_1, .inl (CA 2, aR 6 (fun _ => none)))] := hD
  refine va_putF (D := D) (ci := 0) (v := .ref q_1) (ty := (.array (.object "CountLeast$Kind"))) (C := RC) (T := TC) (N := 3) hx hb hT inC tyC tyokC nmC hown hK hP hD hS 0 rfl rfl 0 (by decide) (hT _ wm_100) (fun _ h9 => h9) rfl hin rfl (by decide +kernel) rfl rfl (Nat.le_of_ble_eq_true rfl) dC_init_10 (fun H locs hP hD hS => ?_)
  have hP : va_P D vwCl [(q0, .inr (0, [.ref q_1, .null, .int 0])), (q_1, .inl (CA 2, aR 6 (fun _ => none)))] H := hP
  have hD : va_D (oA q0 s.heap.size) [(q0, .inr (0, [.ref q_1, .null, .int 0])), (q_1, .inl (CA 2, aR 6 (fun _ => none)))] := hD
  refine lv_aload_n hx hb dC_init_13 rfl (lv_at hl 0 rfl) ?_
  refine lv_bipush (v := 72) hx hb dC_init_14 (by decide) ?_
  refine va_newq (own := "CountLeast") (C := "CountLeast$Piece") hx hb hown (hT _ wm_24) hOP hK hP hD hS hA (N' := 72) (by decide) (by decide) (by decide) (Nat.le_of_ble_eq_true rfl) (Nat.le_of_ble_eq_true rfl) dC_init_16 (fun q_2 cA H hK9 hP hD hS => ?_)
  obtain rfl : cA = CA 3 := ra_u (hK9.2 4 _ rfl).2 (hK.2 3 _ rfl).2
  refine W.widen (k := 2) (n := 78) (Nat.le_refl _) (Nat.le_refl _) ?_
  have hP : va_P D vwCl [(q0, .inr (0, [.ref q_1, .null, .int 0])), (q_1, .inl (CA 2, aR 6 (fun _ => none))), (q_2, .inl (CA 3, aR 72 (fun _ => none)))] H := hP
  have hD : va_D (oA q0 s.heap.size) [(q0, .inr (0, [.ref q_1, .null, .int 0])), (q_1, .inl (CA 2, aR 6 (fun _ => none))), (q_2, .inl (CA 3, aR 72 (fun _ => none)))] := hD
  refine va_putF (D := D) (ci := 0) (v := .ref q_2) (ty := (.array (.object "CountLeast$Piece"))) (C := RC) (T := TC) (N := 3) hx hb hT inC tyC tyokC nmC hown hK hP hD hS 0 rfl rfl 1 (by decide) (hT _ wm_101) (fun _ h9 => h9) rfl hin rfl (by decide +kernel) rfl rfl (Nat.le_of_ble_eq_true rfl) dC_init_19 (fun H locs hP hD hS => ?_)
  have hP : va_P D vwCl [(q0, .inr (0, [.ref q_1, .ref q_2, .int 0])), (q_1, .inl (CA 2, aR 6 (fun _ => none))), (q_2, .inl (CA 3, aR 72 (fun _ => none)))] H := hP
  have hD : va_D (oA q0 s.heap.size) [(q0, .inr (0, [.ref q_1, .ref q_2, .int 0])), (q_1, .inl (CA 2, aR 6 (fun _ => none))), (q_2, .inl (CA 3, aR 72 (fun _ => none)))] := hD
  refine lv_aload_n hx hb dC_init_22 rfl (lv_at hl 0 rfl) ?_
  refine lv_iconst (v := 0) hx hb dC_init_23 (by decide) ?_
  refine va_put (D := D) (ci := 0) (v := .int 0) (ty := .int) (C := RC) (T := TC) (N := 3) hx hb hT inC tyC tyokC nmC hown hK hP hD hS 0 rfl rfl 2 (by decide) (hT _ wm_102) (fun _ h9 => h9) rfl (by decide +kernel) rfl rfl (Nat.le_of_ble_eq_true rfl) dC_init_24 (fun H locs hP hD hS => ?_)
  have hP : va_P D vwCl [(q0, .inr (0, [.ref q_1, .ref q_2, .int 0])), (q_1, .inl (CA 2, aR 6 (fun _ => none))), (q_2, .inl (CA 3, aR 72 (fun _ => none)))] H := hP
  have hD : va_D (oA q0 s.heap.size) [(q0, .inr (0, [.ref q_1, .ref q_2, .int 0])), (q_1, .inl (CA 2, aR 6 (fun _ => none))), (q_2, .inl (CA 3, aR 72 (fun _ => none)))] := hD
  refine lv_iconst (v := 0) hx hb dC_init_27 (by decide) ?_
  refine lv_istore_n (lv' := [(1, .int 0), (0, .ref q0)]) hx hb dC_init_28 rfl hl (by decide) rfl (fun ls hl => ?_)
  obtain ⟨hP, hD⟩ := nw_ofL (N := 3 + 9 * 0) (ad := (fun n => [q0, q_1, q_2].getD n 0)) (c := ci CA 0 (fun n => [q0, q_1, q_2].getD n 0)) hP hD (fun a ha => by rcases (show a = 0 ∨ a = 1 ∨ a = 2 by omega) with rfl | rfl | rfl <;> rfl)
  refine loC_init hx hb hml hown hT hK hN (fun H locs ad ha0 hP hD hS ls => ?_) 6 0 (by omega) H locs _ rfl hP hD hS ls (lv_sub hl [0, 1] rfl)
  obtain ⟨hP, hD⟩ := ci_end hP hD
  exact W.vret hx hb hr (fun t ht hW => ⟨⟨ad, rfl, ha0, gpost_at hP hK hD ht hW.alike⟩, hS.F ht⟩) hS.2.2 dC_init_54
end
section
/-! the world while a piece is being taken: what the arrays of references hold is said apart -/
def ccG (CA : Nat → ClassId) (g : Nat → Nat → Int32) (fa : Nat → Option Nat) (ow : Nat → Nat → Option Nat) (h2 : Nat → Nat) (ad : Nat → Nat) (i : Nat) : va_E :=
  if i = 2 then .inl (CA 3, aR 72 fa)
  else if 3 ≤ i ∧ i < 57 ∧ (i - 3) % 9 = 4 then .inl (CA 3, aR 12 (ow ((i - 3) / 9)))
  else if i < 57 then cc CA g (fun _ _ => 0) ad i
  else .inr (3, [.ref (ad (3 + 9 * h2 (i - 57))), .int (g i 1), .int (g i 2), .int (g i 3), .int (g i 4), .int (g i 5), .int (g i 6), .int (g i 7), .int (g i 8)])
def cwG (N : Nat) (CA : Nat → ClassId) (g : Nat → Nat → Int32) (fa : Nat → Option Nat) (ow : Nat → Nat → Option Nat) (h2 : Nat → Nat) (ad : Nat → Nat) : va_W := nw N ad (ccG CA g fa ow h2 ad)
section CG
variable {CA : Nat → ClassId} {g : Nat → Nat → Int32} {fa : Nat → Option Nat} {ow : Nat → Nat → Option Nat} {h2 : Nat → Nat} {ad : Nat → Nat} {N : Nat}
theorem ccG_cc {h : Nat → Nat → Nat} (i : Nat) : ccG CA g (fun q => if q < h 0 0 then some (ad (57 + q)) else none) (fun k q => if q < h 1 k then some (ad (57 + h (3 + k) q)) else none) (h 2) ad i = cc CA g h ad i := by
  unfold ccG
  by_cases h2 : i = 2
  · subst h2; simp [cc]
  · rw [if_neg h2]
    by_cases h3 : 3 ≤ i ∧ i < 57 ∧ (i - 3) % 9 = 4
    · rw [if_pos h3, cc_k (k := (i - 3) / 9) (j := 4) (by omega) (by omega) (by omega)]
      simp [kc]
    · rw [if_neg h3]
      by_cases h5 : i < 57
      · rw [if_pos h5]
        by_cases h0 : i < 2
        · rcases (show i = 0 ∨ i = 1 by omega) with rfl | rfl <;> simp [cc]
        · obtain ⟨k, j, hk, hj, rfl⟩ : ∃ k j, k < 6 ∧ j < 9 ∧ i = 3 + 9 * k + j := ⟨(i - 3) / 9, (i - 3) % 9, by omega, by omega, by omega⟩
          rw [cc_k hk hj rfl, cc_k hk hj rfl]
          have : j ≠ 4 := by omega
          rcases (show j = 0 ∨ j = 1 ∨ j = 2 ∨ j = 3 ∨ j = 5 ∨ j = 6 ∨ j = 7 ∨ j = 8 by omega) with rfl | rfl | rfl | rfl | rfl | rfl | rfl | rfl <;> simp [kc]
      · rw [if_neg h5]
        obtain ⟨p, rfl⟩ : ∃ p, i = 57 + p := ⟨i - 57, by omega⟩
        rw [cc_q, show 57 + p - 57 = p by omega]
theorem G_X (hN : 57 ≤ N) : (cwG N CA g fa ow h2 ad)[0]? = some (ad 0, .inr (0, [.ref (ad 1), .ref (ad 2), .int (g 0 2)])) := nw_getE (by omega) rfl
theorem G_FA (hN : 57 ≤ N) : (cwG N CA g fa ow h2 ad)[2]? = some (ad 2, .inl (CA 3, aR 72 fa)) := nw_getE (by omega) rfl
theorem ccG_k {k j i : Nat} (hk : k < 6) (hj : j < 9) (h4 : j ≠ 4) (hi : i = 3 + 9 * k + j) : ccG CA g fa ow h2 ad i = kc CA g (fun _ _ => 0) ad k j := by
  subst hi
  unfold ccG
  rw [if_neg (by omega), if_neg (by omega), if_pos (by omega), cc_k hk hj rfl]
theorem G_K (hN : 57 ≤ N) {k : Nat} (hk : k < 6) : (cwG N CA g fa ow h2 ad)[3 + 9 * k]? = some (ad (3 + 9 * k), .inr (1, [.ref (ad (4 + 9 * k)), .ref (ad (5 + 9 * k)), .ref (ad (6 + 9 * k)), .int (g (3 + 9 * k) 3), .int (g (3 + 9 * k) 4), .int (g (3 + 9 * k) 5), .int (g (3 + 9 * k) 6), .int (g (3 + 9 * k) 7), .ref (ad (7 + 9 * k)), .ref (ad (8 + 9 * k))])) := nw_getE (by omega) ((ccG_k hk (j := 0) (by omega) (by decide) (by omega)).trans rfl)
theorem ccG_o {k : Nat} (hk : k < 6) : ccG CA g fa ow h2 ad (7 + 9 * k) = .inl (CA 3, aR 12 (ow k)) := by
  unfold ccG
  rw [if_neg (by omega), if_pos (by omega), show (7 + 9 * k - 3) / 9 = k by omega]
theorem G_OW (hN : 57 ≤ N) {k : Nat} (hk : k < 6) : (cwG N CA g fa ow h2 ad)[7 + 9 * k]? = some (ad (7 + 9 * k), .inl (CA 3, aR 12 (ow k))) := nw_getE (by omega) (ccG_o hk)
theorem ccG_q (p : Nat) : ccG CA g fa ow h2 ad (57 + p) = .inr (3, [.ref (ad (3 + 9 * h2 p)), .int (g (57 + p) 1), .int (g (57 + p) 2), .int (g (57 + p) 3), .int (g (57 + p) 4), .int (g (57 + p) 5), .int (g (57 + p) 6), .int (g (57 + p) 7), .int (g (57 + p) 8)]) := by
  unfold ccG
  rw [if_neg (by omega), if_neg (by omega), if_neg (by omega), show 57 + p - 57 = p by omega]
theorem G_Q {p : Nat} (hp : 57 + p < N) : (cwG N CA g fa ow h2 ad)[57 + p]? = some (ad (57 + p), .inr (3, [.ref (ad (3 + 9 * h2 p)), .int (g (57 + p) 1), .int (g (57 + p) 2), .int (g (57 + p) 3), .int (g (57 + p) 4), .int (g (57 + p) 5), .int (g (57 + p) 6), .int (g (57 + p) 7), .int (g (57 + p) 8)])) := nw_getE hp (ccG_q p)
theorem ccG_loc {g' : Nat → Nat → Int32} {i : Nat} (hg : g i = g' i) : ccG CA g fa ow h2 ad i = ccG CA g' fa ow h2 ad i := by
  unfold ccG
  rw [cc_loc hg, hg]
theorem G_set {i j : Nat} {v : Int32} {e : va_E} (he : ccG CA (u2 g i j v) fa ow h2 ad i = e) : (cwG N CA g fa ow h2 ad).set i (ad i, e) = cwG N CA (u2 g i j v) fa ow h2 ad := by
  refine nw_setE rfl (fun a _ => ?_)
  by_cases ha : a = i
  · subst ha; rw [va_up_self, he]
  · rw [va_up_ne _ _ ha]; exact ccG_loc (u2_row ha).symm
theorem G_sX {v : Int32} : (cwG N CA g fa ow h2 ad).set 0 (ad 0, .inr (0, List.set [.ref (ad 1), .ref (ad 2), .int (g 0 2)] 2 (.int v))) = cwG N CA (u2 g 0 2 v) fa ow h2 ad := G_set (by simp [ccG, cc, u2])
theorem G_sK {k j : Nat} {v : Int32} (hk : k < 6) (hj : j = 3 ∨ j = 4 ∨ j = 5 ∨ j = 6 ∨ j = 7) : (cwG N CA g fa ow h2 ad).set (3 + 9 * k) (ad (3 + 9 * k), .inr (1, List.set [.ref (ad (4 + 9 * k)), .ref (ad (5 + 9 * k)), .ref (ad (6 + 9 * k)), .int (g (3 + 9 * k) 3), .int (g (3 + 9 * k) 4), .int (g (3 + 9 * k) 5), .int (g (3 + 9 * k) 6), .int (g (3 + 9 * k) 7), .ref (ad (7 + 9 * k)), .ref (ad (8 + 9 * k))] j (.int v))) = cwG N CA (u2 g (3 + 9 * k) j v) fa ow h2 ad := G_set (by
  rw [ccG_k hk (j := 0) (by omega) (by decide) (by omega)]
  rcases hj with rfl | rfl | rfl | rfl | rfl <;> simp [kc, u2])
theorem G_sOW {k : Nat} {f : Nat → Option Nat} (hk : k < 6) : (cwG N CA g fa ow h2 ad).set (7 + 9 * k) (ad (7 + 9 * k), .inl (CA 3, 12, .inr (.inr (.inr (.inr f))))) = cwG N CA g fa (va_up ow k f) h2 ad := by
  refine nw_setE rfl (fun a _ => ?_)
  by_cases ha : a = 7 + 9 * k
  · subst ha; rw [va_up_self, ccG_o hk, va_up_self]
  · rw [va_up_ne _ _ ha]
    unfold ccG
    by_cases h3 : 3 ≤ a ∧ a < 57 ∧ (a - 3) % 9 = 4
    · rw [if_pos h3, if_pos h3, va_up_ne _ _ (by omega)]
    · rw [if_neg h3, if_neg h3]
theorem G_sFA {f : Nat → Option Nat} : (cwG N CA g fa ow h2 ad).set 2 (ad 2, .inl (CA 3, 72, .inr (.inr (.inr (.inr f))))) = cwG N CA g f ow h2 ad := by
  refine nw_setE rfl (fun a _ => ?_)
  by_cases ha : a = 2
  · subst ha; rw [va_up_self]; rfl
  · rw [va_up_ne _ _ ha]
    unfold ccG
    rw [if_neg ha, if_neg ha]
end CG
section CQ
variable {CA : Nat → ClassId} {g : Nat → Nat → Int32} {h : Nat → Nat → Nat} {ad : Nat → Nat} {q : Nat} {e : va_E}
theorem cw_len : (cw CA g h ad).length = 57 + h 0 0 := by simp [cw, nw]
theorem cwq_q : (cw CA g h ad ++ [(q, e)])[57 + h 0 0]? = some (q, e) := by rw [List.getElem?_append_right (by rw [cw_len]; omega), cw_len, Nat.sub_self]; rfl
theorem cwq_s {e' : va_E} : (cw CA g h ad ++ [(q, e)]).set (57 + h 0 0) (q, e') = cw CA g h ad ++ [(q, e')] := by
  rw [List.set_append, if_neg (by rw [cw_len]; omega), cw_len, Nat.sub_self]; rfl
theorem cwq_l {i : Nat} {x : Nat × va_E} (hx : (cw CA g h ad)[i]? = some x) : (cw CA g h ad ++ [(q, e)])[i]? = some x := by
  rw [List.getElem?_append_left (List.getElem?_eq_some_iff.mp hx).1]; exact hx
/-- the new piece's numbers -/
def gp (g : Nat → Nat → Int32) (i : Nat) (r : Nat → Int32) : Nat → Nat → Int32 := fun a b => if a = i then r b else g a b
theorem kc0_ad {ad' : Nat → Nat} {k j : Nat} (hk : k < 6) (hj : j < 9) (h : ∀ a, a < 57 → ad a = ad' a) : kc CA g (fun _ _ => 0) ad k j = kc CA g (fun _ _ => 0) ad' k j := by
  rcases (show j = 0 ∨ j = 1 ∨ j = 2 ∨ j = 3 ∨ j = 4 ∨ j = 5 ∨ j = 6 ∨ j = 7 ∨ j = 8 by omega) with rfl | rfl | rfl | rfl | rfl | rfl | rfl | rfl | rfl
  · simp [kc, h (4 + 9 * k) (by omega), h (5 + 9 * k) (by omega), h (6 + 9 * k) (by omega), h (7 + 9 * k) (by omega), h (8 + 9 * k) (by omega)]
  · simp [kc]
  · simp [kc]
  · simp [kc]
  · simp [kc]
  · simp [kc, h (9 + 9 * k) (by omega), h (10 + 9 * k) (by omega), h (11 + 9 * k) (by omega)]
  · simp [kc]
  · simp [kc]
  · simp [kc]
theorem cc0_ad {ad' : Nat → Nat} {i : Nat} (hi : i < 57) (h : ∀ a, a < 57 → ad a = ad' a) : cc CA g (fun _ _ => 0) ad i = cc CA g (fun _ _ => 0) ad' i := by
  by_cases h0 : i < 3
  · rcases (show i = 0 ∨ i = 1 ∨ i = 2 by omega) with rfl | rfl | rfl
    · simp [cc, h 1 (by omega), h 2 (by omega)]
    · have : (fun x => if x < 6 then some (ad (3 + 9 * x)) else none) = (fun x => if x < 6 then some (ad' (3 + 9 * x)) else none) := by
        funext x
        by_cases hx : x < 6
        · rw [if_pos hx, if_pos hx, h _ (by omega)]
        · rw [if_neg hx, if_neg hx]
      simp [cc, this]
    · simp [cc]
  · obtain ⟨k, j, hk, hj, rfl⟩ : ∃ k j, k < 6 ∧ j < 9 ∧ i = 3 + 9 * k + j := ⟨(i - 3) / 9, (i - 3) % 9, by omega, by omega, by omega⟩
    rw [cc_k hk hj rfl, cc_k hk hj rfl]
    exact kc0_ad hk hj h
theorem cwq_G {k : Nat} {r : Nat → Int32} (hk : k < 6) (hq6 : ∀ p, p < h 0 0 → h 2 p < 6) : cw CA g h ad ++ [(q, .inr (3, [.ref (ad (3 + 9 * k)), .int (r 1), .int (r 2), .int (r 3), .int (r 4), .int (r 5), .int (r 6), .int (r 7), .int (r 8)]))] = cwG (57 + h 0 0 + 1) CA (gp g (57 + h 0 0) r) (fun x => if x < h 0 0 then some (ad (57 + x)) else none) (fun k x => if x < h 1 k then some (ad (57 + h (3 + k) x)) else none) (va_up (h 2) (h 0 0) k) (va_up ad (57 + h 0 0) q) := by
  unfold cw
  rw [nw_push]
  unfold cwG nw
  apply List.map_congr_left
  intro i hi
  have hi := List.mem_range.mp hi
  congr 1
  by_cases h1 : i = 57 + h 0 0
  · subst h1
    rw [va_up_self, ccG_q, va_up_self, va_up_ne _ _ (by omega)]
    simp [gp]
  · rw [va_up_ne _ _ h1, ← ccG_cc i]
    unfold ccG
    by_cases h5 : i < 57
    · rw [if_pos h5, if_pos h5, cc_loc (g := gp g (57 + h 0 0) r) (g' := g) (by funext b; simp [gp, h1]), cc0_ad (ad := va_up ad (57 + h 0 0) q) (ad' := ad) h5 (fun a ha => va_up_ne _ _ (by omega))]
    · rw [if_neg h5, if_neg h5]
      have h6 := hq6 (i - 57) (by omega)
      rw [va_up_ne _ _ (show i - 57 ≠ h 0 0 by omega), va_up_ne _ _ (by omega)]
      simp [gp, h1]
/-- the piece is taken: the world is again one of the class's -/
def hpz (h : Nat → Nat → Nat) (k : Nat) : Nat → Nat → Nat := fun a b => if a = 0 ∧ b = 0 then h 0 0 + 1 else if a = 1 ∧ b = k then h 1 k + 1 else if a = 2 ∧ b = h 0 0 then k else if a = 3 + k ∧ b = h 1 k then h 0 0 else h a b
theorem hpz_o (h : Nat → Nat → Nat) (k k2 x : Nat) : hpz h k (3 + k2) x = if k2 = k ∧ x = h 1 k then h 0 0 else h (3 + k2) x := by
  unfold hpz
  rw [if_neg (by omega), if_neg (by omega), if_neg (by omega)]
  by_cases hh : k2 = k ∧ x = h 1 k
  · rw [if_pos hh, if_pos (by omega)]
  · rw [if_neg hh, if_neg (by omega)]
theorem hpz_1 (h : Nat → Nat → Nat) (k k2 : Nat) : hpz h k 1 k2 = if k2 = k then h 1 k + 1 else h 1 k2 := by
  unfold hpz
  rw [if_neg (by omega)]
  by_cases hh : k2 = k
  · rw [if_pos hh, if_pos ⟨rfl, hh⟩]
  · rw [if_neg hh, if_neg (by omega), if_neg (by omega), if_neg (by omega)]
theorem cwG_end {k n : Nat} {g' : Nat → Nat → Int32} (hk : k < 6) (hc : ∀ k, k < 6 → ∀ j, j < h 1 k → h (3 + k) j < h 0 0) (hn : n = h 0 0) :
    cwG (57 + h 0 0 + 1) CA g' (va_up (fun x => if x < h 0 0 then some (ad (57 + x)) else none) n (some q)) (va_up (fun k x => if x < h 1 k then some (ad (57 + h (3 + k) x)) else none) k (va_up (fun x => if x < h 1 k then some (ad (57 + h (3 + k) x)) else none) (h 1 k) (some q))) (va_up (h 2) (h 0 0) k) (va_up ad (57 + h 0 0) q) = cw CA g' (hpz h k) (va_up ad (57 + h 0 0) q) := by
  subst hn
  unfold cwG cw
  have e0 : hpz h k 0 0 = h 0 0 + 1 := by simp [hpz]
  rw [e0, show 57 + (h 0 0 + 1) = 57 + h 0 0 + 1 by omega]
  refine nw_congr (fun i hi => ?_)
  rw [← ccG_cc (h := hpz h k) i]
  have f1 : (va_up (fun x => if x < h 0 0 then some (ad (57 + x)) else none) (h 0 0) (some q)) = (fun x => if x < hpz h k 0 0 then some (va_up ad (57 + h 0 0) q (57 + x)) else none) := by
    funext x
    rw [e0]
    by_cases hx : x = h 0 0
    · subst hx; rw [va_up_self, if_pos (by omega), va_up_self]
    · rw [va_up_ne _ _ hx]
      by_cases hx2 : x < h 0 0
      · rw [if_pos hx2, if_pos (by omega), va_up_ne _ _ (by omega)]
      · rw [if_neg hx2, if_neg (by omega)]
  have f3 : (va_up (h 2) (h 0 0) k) = hpz h k 2 := by
    funext x
    by_cases hx : x = h 0 0
    · subst hx; rw [va_up_self]; simp [hpz]
    · rw [va_up_ne _ _ hx]; simp [hpz, hx]; omega
  have f2 : ∀ k2, k2 < 6 → (va_up (fun k x => if x < h 1 k then some (ad (57 + h (3 + k) x)) else none) k (va_up (fun x => if x < h 1 k then some (ad (57 + h (3 + k) x)) else none) (h 1 k) (some q))) k2 = (fun x => if x < hpz h k 1 k2 then some (va_up ad (57 + h 0 0) q (57 + hpz h k (3 + k2) x)) else none) := by
    intro k2 hk2
    funext x
    by_cases hkk : k2 = k
    · subst hkk
      rw [va_up_self, hpz_1, if_pos rfl]
      by_cases hx : x = h 1 k2
      · subst hx
        rw [va_up_self, if_pos (by omega), hpz_o, if_pos ⟨rfl, rfl⟩, va_up_self]
      · rw [va_up_ne _ _ hx]
        by_cases hx2 : x < h 1 k2
        · have := hc k2 hk2 x hx2
          rw [if_pos hx2, if_pos (by omega), hpz_o, if_neg (fun z => hx z.2), va_up_ne _ _ (by omega)]
        · rw [if_neg hx2, if_neg (by omega)]
    · rw [va_up_ne _ _ hkk, hpz_1, if_neg hkk]
      by_cases hx2 : x < h 1 k2
      · have := hc k2 hk2 x hx2
        rw [if_pos hx2, if_pos hx2, hpz_o, if_neg (fun z => hkk z.1), va_up_ne _ _ (by omega)]
      · rw [if_neg hx2, if_neg hx2]
  rw [f1, f3]
  unfold ccG
  by_cases h3 : 3 ≤ i ∧ i < 57 ∧ (i - 3) % 9 = 4
  · rw [if_pos h3, if_pos h3, f2 _ (by omega)]
  · rw [if_neg h3, if_neg h3]
end CQ
end
section
def qA (h : Nat → Nat → Nat) (ad : Nat → Nat) (q sz : Nat) : Nat → Prop := fun x => cA h ad sz x ∨ x = q
theorem qA_D {CA : Nat → ClassId} {g : Nat → Nat → Int32} {h : Nat → Nat → Nat} {ad : Nat → Nat} {A : Nat → Prop} {q sz : Nat} {e : va_E} (hD : va_D A (cw CA g h ad ++ [(q, e)])) : va_D (qA h ad q sz) (cw CA g h ad ++ [(q, e)]) := by
  refine ⟨hD.1, fun k x hx => ?_⟩
  by_cases hk : k < (cw CA g h ad).length
  · rw [List.getElem?_append_left hk] at hx
    obtain ⟨h1, rfl⟩ := nw_get_inv hx
    exact Or.inl (Or.inl ⟨k, h1, rfl⟩)
  · rw [List.getElem?_append_right (by omega)] at hx
    have : k - (cw CA g h ad).length = 0 := by
      have := (List.getElem?_eq_some_iff.mp hx).1
      simp at this
      exact this
    rw [this] at hx
    cases hx
    exact Or.inr rfl
abbrev tyG (CA : Nat → ClassId) := cty CA
set_option maxHeartbeats 4000000 in
set_option maxRecDepth 100000 in
theorem kQ_init (l : Launch) (D : va_G) (CA : Nat → ClassId) (g : Nat → Nat → Int32) (h : Nat → Nat → Nat) (ad : Nat → Nat) (sz : Nat) (q0 k : Nat) (hk : k < 6) (nu pt sd z9 : Int32) : Met l yQ_init wQ_init (rm 0 0 0) (va_Pc [.ref q0, .ref (ad (3 + 9 * k)), .int nu, .int pt, .int sd, .int z9] (gpre D (cty CA) (cw CA g h ad ++ [(q0, .inr (3, [.null, .int 0, .int 0, .int 0, .int 0, .int 0, .int 0, .int 0, .int 0]))]) sz)) (va_Qv (fun (_ : Unit) => True) (fun _ t => gpost D (cty CA) (cw CA g h ad ++ [(q0, .inr (3, [.ref (ad (3 + 9 * k)), .int nu, .int (g (3 + 9 * k) 6), .int pt, .int z9, .int sd, .int 0, .int 999, .int 0]))]) (qA h ad q0 sz) t) (qA h ad q0 sz)) 0 0 (qA h ad q0 sz) := by
  refine Met.ofW (cc := cQ_init) (maxL := 6) (ret := none) (by decide) rfl ?_
  intro p e s m args below meth c s₁ B hml hv
  obtain ⟨rfl, hsz, hP, hK, hD0⟩ := hv
  have hx := B.exec
  have hb := B.bytes
  have hr := B.returns
  have hT : ∀ w ∈ TB, w.before _ s = true := fun w hw => atoms_spec (ws := wQ_init) B.pre w (List.mem_cons_of_mem _ hw)
  have hown : s.vm.findClass "CountLeast$Piece" = some m.cls := findClass_of_methodNamed B.named
  have hlocks := B.notSynchronized
  have hin : meth.name = "<init>" := (name_of_methodNamed B.named B.method).1
  subst hsz
  have hD := qA_D (sz := s.heap.size) hD0
  have hS : va_S (qA h ad q0 s.heap.size) s.heap s.heap [] := va_S.rf
  have hl := lv_entry ([.ref q0, .ref (ad (3 + 9 * k)), .int nu, .int pt, .int sd, .int z9]) (n := 6) (Nat.le_of_ble_eq_true rfl)
  rw [lg_entry_eq]
  generalize (lg_sl ([.ref q0, .ref (ad (3 + 9 * k)), .int nu, .int pt, .int sd, .int z9]) ++ List.replicate (6 - (lg_sl ([.ref q0, .ref (ad (3 + 9 * k)), .int nu, .int pt, .int sd, .int z9])).length) Slot.unset).toArray = ls at hl ⊢
  have hl : lv_has ls 6 [(0, .ref q0), (1, .ref (ad (3 + 9 * k))), (2, .int nu), (3, .int pt), (4, .int sd), (5, .int z9)] := hl
  refine lv_aload_n hx hb dQ_init_0 rfl (lv_at hl 0 rfl) ?_
  refine W.objInit hx hb hown (hT _ wm_235) (hT _ wm_20) (hT _ wm_21) rfl (by rw [hml]; exact hl.1) rfl dQ_init_1 (Nat.le_of_ble_eq_true rfl) (Nat.le_of_ble_eq_true rfl) ?_
  refine W.eq (g2 := F0 m 4 ls []) rfl ?_
  refine lv_aload_n hx hb dQ_init_4 rfl (lv_at hl 0 rfl) ?_
  refine lv_iconst (v := 0) hx hb dQ_init_5 (by decide) ?_
  refine va_put (D := D) (ci := 3) (v := .int 0) (ty := .int) (C := RQ) (T := TQ) (N := 9) hx hb hT inQ tyQ tyokQ nmQ hown hK hP hD hS (57 + h 0 0) cwq_q rfl 6 (by decide) (hT _ wm_250) (fun _ h9 => h9) rfl (by decide +kernel) rfl rfl (Nat.le_of_ble_eq_true rfl) dQ_init_6 (fun H locs hP hD hS => ?_)
  rw [cwq_s] at hP hD
  have hP : va_P D vwCl (cw CA g h ad ++ [(q0, .inr (3, [.null, .int 0, .int 0, .int 0, .int 0, .int 0, .int 0, .int 0, .int 0]))]) H := hP
  have hD : va_D (qA h ad q0 s.heap.size) (cw CA g h ad ++ [(q0, .inr (3, [.null, .int 0, .int 0, .int 0, .int 0, .int 0, .int 0, .int 0, .int 0]))]) := hD
  refine lv_aload_n hx hb dQ_init_9 rfl (lv_at hl 0 rfl) ?_
  refine lv_sipush (v := 999) hx hb dQ_init_10 (by decide) ?_
  refine va_put (D := D) (ci := 3) (v := .int 999) (ty := .int) (C := RQ) (T := TQ) (N := 9) hx hb hT inQ tyQ tyokQ nmQ hown hK hP hD hS (57 + h 0 0) cwq_q rfl 7 (by decide) (hT _ wm_253) (fun _ h9 => h9) rfl (by decide +kernel) rfl rfl (Nat.le_of_ble_eq_true rfl) dQ_init_13 (fun H locs hP hD hS => ?_)
  rw [cwq_s] at hP hD
  have hP : va_P D vwCl (cw CA g h ad ++ [(q0, .inr (3, [.null, .int 0, .int 0, .int 0, .int 0, .int 0, .int 0, .int 999, .int 0]))]) H := hP
  have hD : va_D (qA h ad q0 s.heap.size) (cw CA g h ad ++ [(q0, .inr (3, [.null, .int 0, .int 0, .int 0, .int 0, .int 0, .int 0, .int 999, .int 0]))]) := hD
  refine lv_aload_n hx hb dQ_init_16 rfl (lv_at hl 0 rfl) ?_
  refine lv_iconst (v := 0) hx hb dQ_init_17 (by decide) ?_
  refine va_put (D := D) (ci := 3) (v := .int 0) (ty := .int) (C := RQ) (T := TQ) (N := 9) hx hb hT inQ tyQ tyokQ nmQ hown hK hP hD hS (57 + h 0 0) cwq_q rfl 8 (by decide) (hT _ wm_256) (fun _ h9 => h9) rfl (by decide +kernel) rfl rfl (Nat.le_of_ble_eq_true rfl) dQ_init_18 (fun H locs hP hD hS => ?_)
  rw [cwq_s] at hP hD
  have hP : va_P D vwCl (cw CA g h ad ++ [(q0, .inr (3, [.null, .int 0, .int 0, .int 0, .int 0, .int 0, .int 0, .int 999, .int 0]))]) H := hP
  have hD : va_D (qA h ad q0 s.heap.size) (cw CA g h ad ++ [(q0, .inr (3, [.null, .int 0, .int 0, .int 0, .int 0, .int 0, .int 0, .int 999, .int 0]))]) := hD
  refine lv_aload_n hx hb dQ_init_21 rfl (lv_at hl 0 rfl) ?_
  refine lv_aload_n hx hb dQ_init_22 rfl (lv_at hl 1 rfl) ?_
  refine va_putF (D := D) (ci := 3) (v := .ref (ad (3 + 9 * k))) (ty := (.object "CountLeast$Kind")) (C := RQ) (T := TQ) (N := 9) hx hb hT inQ tyQ tyokQ nmQ hown hK hP hD hS (57 + h 0 0) cwq_q rfl 0 (by decide) (hT _ wm_236) (fun _ h9 => h9) rfl hin rfl (by decide +kernel) rfl rfl (Nat.le_of_ble_eq_true rfl) dQ_init_23 (fun H locs hP hD hS => ?_)
  rw [cwq_s] at hP hD
  have hP : va_P D vwCl (cw CA g h ad ++ [(q0, .inr (3, [.ref (ad (3 + 9 * k)), .int 0, .int 0, .int 0, .int 0, .int 0, .int 0, .int 999, .int 0]))]) H := hP
  have hD : va_D (qA h ad q0 s.heap.size) (cw CA g h ad ++ [(q0, .inr (3, [.ref (ad (3 + 9 * k)), .int 0, .int 0, .int 0, .int 0, .int 0, .int 0, .int 999, .int 0]))]) := hD
  refine lv_aload_n hx hb dQ_init_26 rfl (lv_at hl 0 rfl) ?_
  refine lv_iload_n hx hb dQ_init_27 rfl (lv_at hl 2 rfl) ?_
  refine va_putF (D := D) (ci := 3) (v := .int nu) (ty := .int) (C := RQ) (T := TQ) (N := 9) hx hb hT inQ tyQ tyokQ nmQ hown hK hP hD hS (57 + h 0 0) cwq_q rfl 1 (by decide) (hT _ wm_238) (fun _ h9 => h9) rfl hin rfl (by decide +kernel) rfl rfl (Nat.le_of_ble_eq_true rfl) dQ_init_28 (fun H locs hP hD hS => ?_)
  rw [cwq_s] at hP hD
  have hP : va_P D vwCl (cw CA g h ad ++ [(q0, .inr (3, [.ref (ad (3 + 9 * k)), .int nu, .int 0, .int 0, .int 0, .int 0, .int 0, .int 999, .int 0]))]) H := hP
  have hD : va_D (qA h ad q0 s.heap.size) (cw CA g h ad ++ [(q0, .inr (3, [.ref (ad (3 + 9 * k)), .int nu, .int 0, .int 0, .int 0, .int 0, .int 0, .int 999, .int 0]))]) := hD
  refine lv_aload_n hx hb dQ_init_31 rfl (lv_at hl 0 rfl) ?_
  refine lv_aload_n hx hb dQ_init_32 rfl (lv_at hl 1 rfl) ?_
  refine va_get (D := D) (ci := 1) (C := RK) (T := TK) (N := 10) hx hb hT inK hown hK hP (3 + 9 * k) (cwq_l (cw_K hk)) rfl 6 (by decide) (hT _ wm_72) (fun _ h9 => h9) rfl dQ_init_33 ?_
  refine va_putF (D := D) (ci := 3) (v := .int (g (3 + 9 * k) 6)) (ty := .int) (C := RQ) (T := TQ) (N := 9) hx hb hT inQ tyQ tyokQ nmQ hown hK hP hD hS (57 + h 0 0) cwq_q rfl 2 (by decide) (hT _ wm_241) (fun _ h9 => h9) rfl hin rfl (by decide +kernel) rfl rfl (Nat.le_of_ble_eq_true rfl) dQ_init_36 (fun H locs hP hD hS => ?_)
  rw [cwq_s] at hP hD
  have hP : va_P D vwCl (cw CA g h ad ++ [(q0, .inr (3, [.ref (ad (3 + 9 * k)), .int nu, .int (g (3 + 9 * k) 6), .int 0, .int 0, .int 0, .int 0, .int 999, .int 0]))]) H := hP
  have hD : va_D (qA h ad q0 s.heap.size) (cw CA g h ad ++ [(q0, .inr (3, [.ref (ad (3 + 9 * k)), .int nu, .int (g (3 + 9 * k) 6), .int 0, .int 0, .int 0, .int 0, .int 999, .int 0]))]) := hD
  refine lv_aload_n hx hb dQ_init_39 rfl (lv_at hl 0 rfl) ?_
  refine lv_iload_n hx hb dQ_init_40 rfl (lv_at hl 3 rfl) ?_
  refine va_putF (D := D) (ci := 3) (v := .int pt) (ty := .int) (C := RQ) (T := TQ) (N := 9) hx hb hT inQ tyQ tyokQ nmQ hown hK hP hD hS (57 + h 0 0) cwq_q rfl 3 (by decide) (hT _ wm_243) (fun _ h9 => h9) rfl hin rfl (by decide +kernel) rfl rfl (Nat.le_of_ble_eq_true rfl) dQ_init_41 (fun H locs hP hD hS => ?_)
  rw [cwq_s] at hP hD
  have hP : va_P D vwCl (cw CA g h ad ++ [(q0, .inr (3, [.ref (ad (3 + 9 * k)), .int nu, .int (g (3 + 9 * k) 6), .int pt, .int 0, .int 0, .int 0, .int 999, .int 0]))]) H := hP
  have hD : va_D (qA h ad q0 s.heap.size) (cw CA g h ad ++ [(q0, .inr (3, [.ref (ad (3 + 9 * k)), .int nu, .int (g (3 + 9 * k) 6), .int pt, .int 0, .int 0, .int 0, .int 999, .int 0]))]) := hD
  refine lv_aload_n hx hb dQ_init_44 rfl (lv_at hl 0 rfl) ?_
  refine lv_iload hx hb dQ_init_45 (lv_at hl 4 rfl) ?_
  refine va_put (D := D) (ci := 3) (v := .int sd) (ty := .int) (C := RQ) (T := TQ) (N := 9) hx hb hT inQ tyQ tyokQ nmQ hown hK hP hD hS (57 + h 0 0) cwq_q rfl 5 (by decide) (hT _ wm_247) (fun _ h9 => h9) rfl (by decide +kernel) rfl rfl (Nat.le_of_ble_eq_true rfl) dQ_init_47 (fun H locs hP hD hS => ?_)
  rw [cwq_s] at hP hD
  have hP : va_P D vwCl (cw CA g h ad ++ [(q0, .inr (3, [.ref (ad (3 + 9 * k)), .int nu, .int (g (3 + 9 * k) 6), .int pt, .int 0, .int sd, .int 0, .int 999, .int 0]))]) H := hP
  have hD : va_D (qA h ad q0 s.heap.size) (cw CA g h ad ++ [(q0, .inr (3, [.ref (ad (3 + 9 * k)), .int nu, .int (g (3 + 9 * k) 6), .int pt, .int 0, .int sd, .int 0, .int 999, .int 0]))]) := hD
  refine lv_aload_n hx hb dQ_init_50 rfl (lv_at hl 0 rfl) ?_
  refine lv_iload hx hb dQ_init_51 (lv_at hl 5 rfl) ?_
  refine va_putF (D := D) (ci := 3) (v := .int z9) (ty := .int) (C := RQ) (T := TQ) (N := 9) hx hb hT inQ tyQ tyokQ nmQ hown hK hP hD hS (57 + h 0 0) cwq_q rfl 4 (by decide) (hT _ wm_245) (fun _ h9 => h9) rfl hin rfl (by decide +kernel) rfl rfl (Nat.le_of_ble_eq_true rfl) dQ_init_53 (fun H locs hP hD hS => ?_)
  rw [cwq_s] at hP hD
  have hP : va_P D vwCl (cw CA g h ad ++ [(q0, .inr (3, [.ref (ad (3 + 9 * k)), .int nu, .int (g (3 + 9 * k) 6), .int pt, .int z9, .int sd, .int 0, .int 999, .int 0]))]) H := hP
  have hD : va_D (qA h ad q0 s.heap.size) (cw CA g h ad ++ [(q0, .inr (3, [.ref (ad (3 + 9 * k)), .int nu, .int (g (3 + 9 * k) 6), .int pt, .int z9, .int sd, .int 0, .int 999, .int 0]))]) := hD
  exact W.vret hx hb hr (fun t ht hW => ⟨⟨(), rfl, trivial, gpost_at hP hK hD ht hW.alike⟩, hS.F ht⟩) hS.2.2 dQ_init_56
set_option maxHeartbeats 4000000 in
set_option maxRecDepth 100000 in
theorem kK_take (l : Launch) (D : va_G) (CA : Nat → ClassId) (N : Nat) (g : Nat → Nat → Int32) (fa : Nat → Option Nat) (ow : Nat → Nat → Option Nat) (h2 : Nat → Nat) (ad : Nat → Nat) (sz k c9 pz : Nat) (hk : k < 6) (hN : 57 ≤ N) (hp : 57 + pz < N) (hc : g (3 + 9 * k) 6 = nI c9) (hc12 : c9 < 12) : Met l yK_take wK_take (rm 0 0 0) (va_Pc [.ref (ad (3 + 9 * k)), .ref (ad (57 + pz))] (gpre D (cty CA) (cwG N CA g fa ow h2 ad) sz)) (va_Qv (fun (_ : Unit) => True) (fun _ t => gpost D (cty CA) (cwG N CA (u2 (u2 g (3 + 9 * k) 6 (nI (c9 + 1))) (3 + 9 * k) 7 1) fa (va_up ow k (va_up (ow k) c9 (some (ad (57 + pz))))) h2 ad) (nA N ad sz) t) (nA N ad sz)) 0 0 (nA N ad sz) := by
  refine Met.ofW (cc := cK_take) (maxL := 2) (ret := none) (by decide) rfl ?_
  intro p e s m args below meth c s₁ B hml hv
  obtain ⟨rfl, hsz, hP, hK, hD0⟩ := hv
  have hx := B.exec
  have hb := B.bytes
  have hr := B.returns
  have hT : ∀ w ∈ TB, w.before _ s = true := fun w hw => atoms_spec (ws := wK_take) B.pre w (List.mem_cons_of_mem _ hw)
  have hown : s.vm.findClass "CountLeast$Kind" = some m.cls := findClass_of_methodNamed B.named
  have hlocks := B.notSynchronized
  subst hsz
  have hD := nA_self (sz := s.heap.size) hD0
  have hS : va_S (nA N ad s.heap.size) s.heap s.heap [] := va_S.rf
  have hP : va_P D vwCl (cwG N CA g fa ow h2 ad) s.heap := hP
  have hl := lv_entry ([.ref (ad (3 + 9 * k)), .ref (ad (57 + pz))]) (n := 2) (Nat.le_of_ble_eq_true rfl)
  rw [lg_entry_eq]
  generalize (lg_sl ([.ref (ad (3 + 9 * k)), .ref (ad (57 + pz))]) ++ List.replicate (2 - (lg_sl ([.ref (ad (3 + 9 * k)), .ref (ad (57 + pz))])).length) Slot.unset).toArray = ls at hl ⊢
  have hl : lv_has ls 2 [(0, .ref (ad (3 + 9 * k))), (1, .ref (ad (57 + pz)))] := hl
  refine lv_aload_n hx hb dK_take_0 rfl (lv_at hl 0 rfl) ?_
  refine va_get (D := D) (ci := 1) (C := RK) (T := TK) (N := 10) hx hb hT inK hown hK hP (3 + 9 * k) (G_K hN hk) rfl 6 (by decide) (hT _ wm_73) (fun _ h9 => h9) rfl dK_take_1 ?_
  refine W.eq (g2 := F0 m 4 ls [.int (nI c9)]) (by rw [hc]) ?_
  refine lv_aload_n hx hb dK_take_4 rfl (lv_at hl 0 rfl) ?_
  refine va_get (D := D) (ci := 1) (C := RK) (T := TK) (N := 10) hx hb hT inK hown hK hP (3 + 9 * k) (G_K hN hk) rfl 8 (by decide) (hT _ wm_77) (fun _ h9 => h9) rfl dK_take_5 ?_
  refine va_alen (D := D) hx hb hK hP (7 + 9 * k) 3 (G_OW hN hk) rfl (v := 12) rfl dK_take_8 ?_
  refine lv_icmp_ge (tgt := 37) hx hb dK_take_9 (by decide) (fun c_1 => absurd c_1 (nI_ge (b := 12) hc12 (by decide))) (fun c_1 => ?_)
  refine lv_aload_n hx hb dK_take_12 rfl (lv_at hl 0 rfl) ?_
  refine va_get (D := D) (ci := 1) (C := RK) (T := TK) (N := 10) hx hb hT inK hown hK hP (3 + 9 * k) (G_K hN hk) rfl 8 (by decide) (hT _ wm_77) (fun _ h9 => h9) rfl dK_take_13 ?_
  refine lv_aload_n hx hb dK_take_16 rfl (lv_at hl 0 rfl) ?_
  refine va_get (D := D) (ci := 1) (C := RK) (T := TK) (N := 10) hx hb hT inK hown hK hP (3 + 9 * k) (G_K hN hk) rfl 6 (by decide) (hT _ wm_73) (fun _ h9 => h9) rfl dK_take_17 ?_
  refine W.eq (g2 := F0 m 20 ls [.int (nI c9), .ref (ad (7 + 9 * k))]) (by rw [hc]) ?_
  refine lv_aload_n hx hb dK_take_20 rfl (lv_at hl 1 rfl) ?_
  refine va_astq (D := D) hx hb hK hP hD hS (7 + 9 * k) 3 (57 + pz) 3 (r := (RQ, TQ, 9)) (G_OW hN hk) rfl (G_Q hp) rfl (vp_in_nI (show c9 < 12 by omega) (by decide)) dK_take_21 (fun H locs hP hD hS => ?_)
  rw [nI_clamp (n := c9) (by omega), G_sOW hk] at hP hD
  refine lv_aload_n hx hb dK_take_22 rfl (lv_at hl 0 rfl) ?_
  refine lv_dup hx hb dK_take_23 rfl ?_
  refine va_get (D := D) (ci := 1) (C := RK) (T := TK) (N := 10) hx hb hT inK hown hK hP (3 + 9 * k) (G_K hN hk) rfl 6 (by decide) (hT _ wm_73) (fun _ h9 => h9) rfl dK_take_24 ?_
  refine W.eq (g2 := F0 m 27 ls [.int (nI c9), .ref (ad (3 + 9 * k))]) (by rw [hc]) ?_
  refine lv_iconst (v := 1) hx hb dK_take_27 (by decide) ?_
  refine lv_iadd hx hb dK_take_28 ?_
  refine W.eq (g2 := F0 m 29 ls [.int (nI (c9 + 1)), .ref (ad (3 + 9 * k))]) (by rw [nI_1]) ?_
  refine va_put (D := D) (ci := 1) (v := .int (nI (c9 + 1))) (ty := .int) (C := RK) (T := TK) (N := 10) hx hb hT inK tyK tyokK nmK hown hK hP hD hS (3 + 9 * k) (G_K hN hk) rfl 6 (by decide) (hT _ wm_73) (fun _ h9 => h9) rfl (by decide +kernel) rfl rfl (Nat.le_of_ble_eq_true rfl) dK_take_29 (fun H locs hP hD hS => ?_)
  rw [G_sK hk (by simp)] at hP hD
  refine lv_aload_n hx hb dK_take_32 rfl (lv_at hl 0 rfl) ?_
  refine lv_iconst (v := 1) hx hb dK_take_33 (by decide) ?_
  refine va_put (D := D) (ci := 1) (v := .int 1) (ty := .boolean) (C := RK) (T := TK) (N := 10) hx hb hT inK tyK tyokK nmK hown hK hP hD hS (3 + 9 * k) (G_K hN hk) rfl 7 (by decide) (hT _ wm_75) (fun _ h9 => h9) rfl (by decide +kernel) rfl rfl (Nat.le_of_ble_eq_true rfl) dK_take_34 (fun H locs hP hD hS => ?_)
  rw [G_sK hk (by simp)] at hP hD
  exact W.vret hx hb hr (fun t ht hW => ⟨⟨(), rfl, trivial, gpost_at hP hK hD ht hW.alike⟩, hS.F ht⟩) hS.2.2 dK_take_37
set_option maxHeartbeats 4000000 in
set_option maxRecDepth 100000 in
theorem kC_piece (l : Launch) (hlt : l.stackTraces = false) (D : va_G) (CA : Nat → ClassId) (g : Nat → Nat → Int32) (h : Nat → Nat → Nat) (ad : Nat → Nat) (sz : Nat) (sa : Nat → Nat) (kd pt sd z9 : Int32) (jp : Nat → Nat) (hI : CIv g h jp) (hlt9 : ∀ k, k < 6 → h 1 k < 12 → h 0 0 < 72) : vx_Met l yC_piece wC_piece (rm 2 5 33) (va_Pc [.ref (ad 0), .int kd, .int pt, .int sd, .int z9] (fun U => gpre D (cty CA) (cw CA g h ad) sz U ∧ xz (cA h ad sz) sa U U.heap)) (va_Qi (fun r (u : (Nat → Nat → Int32) × (Nat → Nat → Nat) × (Nat → Nat)) => ¬ (ib kd 6 ∨ ib pt 16) ∧ ¬ (rb sd 0 3 ∨ rb z9 0 30000) ∧ ¬ (12 ≤ g (3 + 9 * n32 kd) 6) ∧ ∃ k, k < 6 ∧ kd = nI k ∧ r = nI (h 0 0) ∧ u.1 = (u2 (u2 (u2 (gp g (57 + h 0 0) (fun b => [0, nI (h 0 0), nI (h 1 k), pt, z9, sd, 0, 999, 0].getD b (0 : Int32))) (3 + 9 * k) 6 (nI (h 1 k + 1))) (3 + 9 * k) 7 1) 0 2 (nI (h 0 0 + 1))) ∧ u.2.1 = hpz h k ∧ u.2.2 0 = ad 0) (fun u t => gpost D (cty CA) (cw CA u.1 u.2.1 u.2.2) (cA h ad sz) t) (cA h ad sz)) (vx_X (fun u : Nat → Nat → Int32 => u = g) (fun E u t => te3 (ib kd 6 ∨ ib pt 16) (rb sd 0 3 ∨ rb z9 0 30000) (12 ≤ g (3 + 9 * n32 kd) 6) E ∧ gpost D (cty CA) (cw CA u h ad) (cA h ad sz) t) (cA h ad sz)) 5 33 (cA h ad sz) := by
  refine vx_ofW (cc := cC_piece) (maxL := 7) (ret := (some .int)) (by decide) rfl ?_
  intro p e s m args below meth c s₁ B hml hno hv
  obtain ⟨rfl, ⟨hsz, hP, hK, hD0⟩, hZ⟩ := hv
  have hx := B.exec
  have hb := B.bytes
  have hr := B.returns
  have hT : ∀ w ∈ TB, w.before _ s = true := fun w hw => atoms_spec (ws := wC_piece) B.pre w (List.mem_cons_of_mem _ hw)
  have hown : s.vm.findClass "CountLeast" = some m.cls := findClass_of_methodNamed B.named
  have hlocks := B.notSynchronized
  subst hsz
  have hD := nA_self (sz := s.heap.size) hD0
  have hS : va_S (cA h ad s.heap.size) s.heap s.heap [] := va_S.rf
  have hP : va_P D vwCl (cw CA g h ad) s.heap := hP
  have hl := lv_entry ([.ref (ad 0), .int kd, .int pt, .int sd, .int z9]) (n := 7) (Nat.le_of_ble_eq_true rfl)
  rw [lg_entry_eq]
  generalize (lg_sl ([.ref (ad 0), .int kd, .int pt, .int sd, .int z9]) ++ List.replicate (7 - (lg_sl ([.ref (ad 0), .int kd, .int pt, .int sd, .int z9])).length) Slot.unset).toArray = ls at hl ⊢
  have hl : lv_has ls 7 [(0, .ref (ad 0)), (1, .int kd), (2, .int pt), (3, .int sd), (4, .int z9)] := hl
  have hn72 := hI.1
  have hg0 := hI.2.1
  have hkk := hI.2.2.1
  have hpp := hI.2.2.2.1
  have hq6 : ∀ p, p < h 0 0 → h 2 p < 6 := fun p hp => (hpp p hp).1
  refine lv_aload_n hx hb dC_piece_0 rfl (lv_at hl 0 rfl) ?_
  refine lv_iload_n hx hb dC_piece_1 rfl (lv_at hl 1 rfl) ?_
  refine kVx (n := 1) (D := D) (wd := fun z => cw CA z h ad) (A1 := fun sz => cA h ad sz) (As := [.int kd]) (rest := []) (te := (te3 (ib kd 6 ∨ ib pt 16) (rb sd 0 3 ∨ rb z9 0 30000) (12 ≤ g (3 + 9 * n32 kd) 6))) ⟨hx, hb, hml, hown, hT⟩ (kC_kindAt l hlt D CA g h ad s.heap.size sa kd) (gi_V wm_120 wm_122 wp_0 wm_1 wm_123) rfl rfl (by decide +kernel) ⟨(Nat.le_of_ble_eq_true rfl), (Nat.le_of_ble_eq_true rfl)⟩ (va_recv hK hP (ci := 0) (q0 := 0) rfl cw_X) hlocks hno hZ (fun _ h9 => h9) hK hP hD hS (fun _ h9 => h9) (nA_mono hS.1) (fun E h9 => Or.inl ⟨h9.1, (Or.inl h9.2)⟩) rfl hl.1 rfl (Nat.le_of_ble_eq_true rfl) dC_piece_2 ⟨(Nat.le_of_ble_eq_true rfl), (Nat.le_of_ble_eq_true rfl)⟩ (Nat.le_of_ble_eq_true rfl) (Nat.le_of_ble_eq_true rfl) (fun a9 H locs ha hz hP hS => ?_)
  obtain ⟨k, hk, rfl, rfl⟩ := ha
  have f_1 : ¬ ib (nI k) 6 := nib hk (by decide)
  refine lv_astore (lv' := [(5, .ref (ad (3 + 9 * k))), (0, .ref (ad 0)), (1, .int (nI k)), (2, .int pt), (3, .int sd), (4, .int z9)]) hx hb dC_piece_5 hl (by decide) rfl (fun ls hl => ?_)
  refine lv_iload_n hx hb dC_piece_7 rfl (lv_at hl 3 rfl) ?_
  refine lv_bipush (v := 16) hx hb dC_piece_8 (by decide) ?_
  refine kSx (n := 2) (D := D) (wd := fun z => cw CA z h ad) (As := [.int pt, .int 16]) (rest := []) (te := (te3 (ib (nI k) 6 ∨ ib pt 16) (rb sd 0 3 ∨ rb z9 0 30000) (12 ≤ g (3 + 9 * n32 (nI k)) 6))) hml ⟨hx, hb, hml, hown, hT⟩ (kC_checkIndex l hlt sa H.size pt 16) (gi_S wm_192 wm_193 wm_1 wm_194) rfl rfl (by decide +kernel) ⟨(Nat.le_of_ble_eq_true rfl), (Nat.le_of_ble_eq_true rfl)⟩ hlocks hno hZ (fun _ h9 => Or.inr h9) (fun _ h9 => h9) hK hP hD hS (fun E h9 => Or.inl ⟨h9.1, (Or.inr h9.2)⟩) rfl hl.1 rfl (Nat.le_of_ble_eq_true rfl) dC_piece_10 ⟨(Nat.le_of_ble_eq_true rfl), (Nat.le_of_ble_eq_true rfl)⟩ (Nat.le_of_ble_eq_true rfl) (Nat.le_of_ble_eq_true rfl) (fun H locs hok hz hP hS => ?_)
  have f_2 := hok
  refine lv_iload_n hx hb dC_piece_13 rfl (lv_at hl 4 rfl) ?_
  refine lv_iconst (v := 0) hx hb dC_piece_14 (by decide) ?_
  refine lv_iconst (v := 3) hx hb dC_piece_15 (by decide) ?_
  refine kSx (n := 3) (D := D) (wd := fun z => cw CA z h ad) (As := [.int sd, .int 0, .int 3]) (rest := []) (te := (te3 (ib (nI k) 6 ∨ ib pt 16) (rb sd 0 3 ∨ rb z9 0 30000) (12 ≤ g (3 + 9 * n32 (nI k)) 6))) hml ⟨hx, hb, hml, hown, hT⟩ (kC_checkRange l hlt sa H.size sd 0 3) (gi_S wm_196 wm_197 wm_1 wm_198) rfl rfl (by decide +kernel) ⟨(Nat.le_of_ble_eq_true rfl), (Nat.le_of_ble_eq_true rfl)⟩ hlocks hno hZ (fun _ h9 => Or.inr h9) (fun _ h9 => h9) hK hP hD hS (fun E h9 => Or.inr (Or.inl ⟨h9.1, (not_or.mpr ⟨f_1, f_2⟩), (Or.inl h9.2)⟩)) rfl hl.1 rfl (Nat.le_of_ble_eq_true rfl) dC_piece_16 ⟨(Nat.le_of_ble_eq_true rfl), (Nat.le_of_ble_eq_true rfl)⟩ (Nat.le_of_ble_eq_true rfl) (Nat.le_of_ble_eq_true rfl) (fun H locs hok hz hP hS => ?_)
  have f_3 := hok
  refine lv_iload hx hb dC_piece_19 (lv_at hl 5 rfl) ?_
  refine lv_iconst (v := 0) hx hb dC_piece_21 (by decide) ?_
  refine lv_sipush (v := 30000) hx hb dC_piece_22 (by decide) ?_
  refine kSx (n := 3) (D := D) (wd := fun z => cw CA z h ad) (As := [.int z9, .int 0, .int 30000]) (rest := []) (te := (te3 (ib (nI k) 6 ∨ ib pt 16) (rb sd 0 3 ∨ rb z9 0 30000) (12 ≤ g (3 + 9 * n32 (nI k)) 6))) hml ⟨hx, hb, hml, hown, hT⟩ (kC_checkRange l hlt sa H.size z9 0 30000) (gi_S wm_196 wm_197 wm_1 wm_198) rfl rfl (by decide +kernel) ⟨(Nat.le_of_ble_eq_true rfl), (Nat.le_of_ble_eq_true rfl)⟩ hlocks hno hZ (fun _ h9 => Or.inr h9) (fun _ h9 => h9) hK hP hD hS (fun E h9 => Or.inr (Or.inl ⟨h9.1, (not_or.mpr ⟨f_1, f_2⟩), (Or.inr h9.2)⟩)) rfl hl.1 rfl (Nat.le_of_ble_eq_true rfl) dC_piece_25 ⟨(Nat.le_of_ble_eq_true rfl), (Nat.le_of_ble_eq_true rfl)⟩ (Nat.le_of_ble_eq_true rfl) (Nat.le_of_ble_eq_true rfl) (fun H locs hok hz hP hS => ?_)
  have f_4 := hok
  refine lv_aload hx hb dC_piece_28 (lv_at hl 0 rfl) ?_
  refine va_get (D := D) (ci := 1) (C := RK) (T := TK) (N := 10) hx hb hT inK hown hK hP (3 + 9 * k) (cw_K hk) rfl 6 (by decide) (hT _ wm_74) (fun _ h9 => h9) rfl dC_piece_30 ?_
  refine lv_bipush (v := 12) hx hb dC_piece_33 (by decide) ?_
  refine lv_icmp_ge (tgt := 50) hx hb dC_piece_35 (by decide) (fun c_5 => ?_) (fun c_5 => ?_)
  · exact xt3 (is := 43) (text := "the kind has twelve pieces") hx hb hlt hown hT hZ hZ.2.2.2.2.2.2.1 hS hml hl.1 dC_piece_50 dC_piece_53 dC_piece_54 dC_piece_56 dC_piece_59 hno (Nat.le_of_ble_eq_true rfl) (Nat.le_of_ble_eq_true rfl) (Nat.le_of_ble_eq_true rfl) (Nat.le_of_ble_eq_true rfl) hlocks (fun t ha h1 h2 => xout (wd := fun z => cw CA z h ad) (te := (te3 (ib (nI k) 6 ∨ ib pt 16) (rb sd 0 3 ∨ rb z9 0 30000) (12 ≤ g (3 + 9 * n32 (nI k)) 6))) hK hP hD hS ha h1 h2 (Or.inr (Or.inr ⟨rfl, (not_or.mpr ⟨f_1, f_2⟩), (not_or.mpr ⟨f_3, f_4⟩), by rw [n32n k (by omega)]; exact c_5⟩))) hS.2.2 (Nat.le_of_ble_eq_true rfl) (Nat.le_of_ble_eq_true rfl)
  · refine lv_aload_n hx hb dC_piece_38 rfl (lv_at hl 1 rfl) ?_
    refine va_get (D := D) (ci := 0) (C := RC) (T := TC) (N := 3) hx hb hT inC hown hK hP (0) (cw_X) rfl 2 (by decide) (hT _ wm_102) (fun _ h9 => h9) rfl dC_piece_39 ?_
    refine lv_aload_n hx hb dC_piece_42 rfl (lv_at hl 1 rfl) ?_
    refine va_get (D := D) (ci := 0) (C := RC) (T := TC) (N := 3) hx hb hT inC hown hK hP (0) (cw_X) rfl 1 (by decide) (hT _ wm_101) (fun _ h9 => h9) rfl dC_piece_43 ?_
    refine va_alen (D := D) hx hb hK hP (2) 3 (cw_FA) rfl (v := 72) rfl dC_piece_46 ?_
    refine lv_icmp_lt (tgt := 60) hx hb dC_piece_47 (by decide) (fun c_6 => ?_) (fun c_6 => absurd (by rw [hg0]; exact nI_lt (b := 72) (hlt9 k hk (by have := c_5; rw [(hkk k hk).2.1] at this; exact Nat.lt_of_not_le (fun z => this (nI_le (a := 12) z (by have := (hkk k hk).1; omega))))) (by decide)) c_6)
    have hlt12 : h 1 k < 12 := by have := c_5; rw [(hkk k hk).2.1] at this; exact Nat.lt_of_not_le (fun z => this (nI_le (a := 12) z (by have := (hkk k hk).1; omega)))
    refine va_new (ci := 3) (fs := [.null, .int 0, .int 0, .int 0, .int 0, .int 0, .int 0, .int 0, .int 0]) (own := "CountLeast") (C := RQ) (T := TQ) (N := 9) hx hb hT inQ tyQ tyokQ hown (hT _ wm_24) (hT _ wm_231) (hT _ wm_11) hK hP hD hS (fun _ h9 => Or.inr h9) rfl (fun j hj => by rcases (show j = 0 ∨ j = 1 ∨ j = 2 ∨ j = 3 ∨ j = 4 ∨ j = 5 ∨ j = 6 ∨ j = 7 ∨ j = 8 by omega) with rfl | rfl | rfl | rfl | rfl | rfl | rfl | rfl | rfl <;> rfl) (Nat.le_of_ble_eq_true rfl) (Nat.le_of_ble_eq_true rfl) dC_piece_60 (fun q9 H hP hD hS => ?_)
    refine W.widen (k := 5) (n := 33) (Nat.le_refl _) (Nat.le_refl _) ?_
    refine lv_dup hx hb dC_piece_63 rfl ?_
    refine lv_aload hx hb dC_piece_64 (lv_at hl 0 rfl) ?_
    refine lv_aload_n hx hb dC_piece_66 rfl (lv_at hl 1 rfl) ?_
    refine va_get (D := D) (ci := 0) (C := RC) (T := TC) (N := 3) hx hb hT inC hown hK hP 0 (cwq_l cw_X) rfl 2 (by decide) (hT _ wm_102) (fun _ h9 => h9) rfl dC_piece_67 ?_
    refine W.eq (g2 := F0 m 70 ls [.int (nI (h 0 0)), .ref (ad (3 + 9 * k)), .ref q9, .ref q9]) (by rw [hg0]) ?_
    refine lv_iload_n hx hb dC_piece_70 rfl (lv_at hl 3 rfl) ?_
    refine lv_iload_n hx hb dC_piece_71 rfl (lv_at hl 4 rfl) ?_
    refine lv_iload hx hb dC_piece_72 (lv_at hl 5 rfl) ?_
    have hqN := (D_right hD).2 0 _ rfl
    have hFA : ∀ x, qA h ad q9 H.size x → cA h ad s.heap.size x := fun x hx9 => hx9.elim (fun e9 => nA_mono hS.1 x e9) (fun e9 => by rw [e9]; exact hqN)
    refine va_callv (va_runI (As := [.ref (ad (3 + 9 * k)), .int (nI (h 0 0)), .int pt, .int sd, .int z9]) (rest := [.ref q9]) ⟨hx, hb, hml, hown, hT⟩ (kQ_init l D CA g h ad H.size q9 k hk (nI (h 0 0)) pt sd z9) (cwI 5 hT (gi_cons wm_234 gi_TB) rfl rfl rfl (hT _ wm_11) (hT _ wm_232) (hT _ wm_233) rfl (by decide +kernel) ⟨(Nat.le_of_ble_eq_true rfl), (Nat.le_of_ble_eq_true rfl)⟩) ⟨fun a U fr mk q => ⟨q.1, gpre_blind fr mk a q.2⟩, fun U hU hW9 => ⟨rfl, gpre_at hP hK hD hU hW9⟩⟩ rfl rfl hl.1 rfl (lv_room (Nat.le_of_ble_eq_true rfl)) dC_piece_74 ⟨(Nat.le_of_ble_eq_true rfl), (Nat.le_of_ble_eq_true rfl)⟩) hS (fun x _ hx9 => hFA x hx9) hFA (fun u9 t9 H1 locs ht9 hvm9 _ hB9 hz9 hk9 hS => ?_)
    obtain ⟨hP, -, hD⟩ := hB9
    rw [ht9] at hP
    rw [(hkk k hk).2.1] at hP hD
    have hD := hD.weaken (fun _ x _ h9 => hFA x.1 h9)
    generalize H1 = H at hP hS ⊢
    obtain ⟨ad', ead⟩ : ∃ z, z = va_up ad (57 + h 0 0) q9 := ⟨_, rfl⟩
    have eG := cwq_G (CA := CA) (g := g) (h := h) (ad := ad) (q := q9) (r := (fun b => [0, nI (h 0 0), nI (h 1 k), pt, z9, sd, 0, 999, 0].getD b (0 : Int32))) hk hq6
    rw [← ead] at eG
    have hP : va_P D vwCl (cwG (57 + h 0 0 + 1) CA (gp g (57 + h 0 0) (fun b => [0, nI (h 0 0), nI (h 1 k), pt, z9, sd, 0, 999, 0].getD b (0 : Int32))) (fun x => if x < h 0 0 then some (ad (57 + x)) else none) (fun k x => if x < h 1 k then some (ad (57 + h (3 + k) x)) else none) (va_up (h 2) (h 0 0) k) ad') H := by rw [← eG]; exact hP
    have hD : va_D (cA h ad s.heap.size) (cwG (57 + h 0 0 + 1) CA (gp g (57 + h 0 0) (fun b => [0, nI (h 0 0), nI (h 1 k), pt, z9, sd, 0, 999, 0].getD b (0 : Int32))) (fun x => if x < h 0 0 then some (ad (57 + x)) else none) (fun k x => if x < h 1 k then some (ad (57 + h (3 + k) x)) else none) (va_up (h 2) (h 0 0) k) ad') := by rw [← eG]; exact hD
    have e0 : ad' 0 = ad 0 := by rw [ead]; exact va_up_ne _ _ (by omega)
    have ek : ad' (3 + 9 * k) = ad (3 + 9 * k) := by rw [ead]; exact va_up_ne _ _ (by omega)
    have eN : ad' (57 + h 0 0) = q9 := by rw [ead]; exact va_up_self _ _ _
    have hN : 57 ≤ (57 + h 0 0 + 1) := by omega
    have hp : 57 + h 0 0 < (57 + h 0 0 + 1) := by omega
    obtain ⟨g9, eg9⟩ : ∃ z, z = gp g (57 + h 0 0) (fun b => [0, nI (h 0 0), nI (h 1 k), pt, z9, sd, 0, 999, 0].getD b (0 : Int32)) := ⟨_, rfl⟩
    rw [← eg9] at hP hD
    have hAA9 : ∀ x, nA (57 + h 0 0 + 1) ad' s.heap.size x → cA h ad s.heap.size x := fun x hx9 => hx9.elim (fun ⟨i9, h1, h2⟩ => by rw [h2]; exact (nw_D.mp hD).2 i9 h1) Or.inr
    refine lv_astore (lv' := [(6, .ref q9), (5, .ref (ad (3 + 9 * k))), (0, .ref (ad 0)), (1, .int (nI k)), (2, .int pt), (3, .int sd), (4, .int z9)]) hx hb dC_piece_77 hl (by decide) rfl (fun ls hl => ?_)
    rw [← eN, ← ek, ← e0] at hl
    refine lv_aload hx hb dC_piece_79 (lv_at hl 1 rfl) ?_
    refine lv_aload hx hb dC_piece_81 (lv_at hl 0 rfl) ?_
    refine kVv (n := 1) (D := D) (wd := fun (_ : Unit) => cwG (57 + h 0 0 + 1) CA (u2 (u2 g9 (3 + 9 * k) 6 (nI (h 1 k + 1))) (3 + 9 * k) 7 1) (fun x => if x < h 0 0 then some (ad (57 + x)) else none) (va_up (fun k x => if x < h 1 k then some (ad (57 + h (3 + k) x)) else none) k (va_up ((fun k x => if x < h 1 k then some (ad (57 + h (3 + k) x)) else none) k) (h 1 k) (some (ad' (57 + h 0 0))))) (va_up (h 2) (h 0 0) k) ad') (A1 := fun sz => nA (57 + h 0 0 + 1) ad' sz) (As := [.ref (ad' (57 + h 0 0))]) (rest := []) ⟨hx, hb, hml, hown, hT⟩ (kK_take l D CA (57 + h 0 0 + 1) g9 (fun x => if x < h 0 0 then some (ad (57 + x)) else none) (fun k x => if x < h 1 k then some (ad (57 + h (3 + k) x)) else none) (va_up (h 2) (h 0 0) k) ad' H.size k (h 1 k) (h 0 0) hk hN hp (by rw [eg9]; simp only [gp]; rw [if_neg (by omega)]; exact (hkk k hk).2.1) hlt12) (gi_V wm_278 wm_279 wm_280 wm_2 wm_281) rfl rfl (by decide +kernel) ⟨(Nat.le_of_ble_eq_true rfl), (Nat.le_of_ble_eq_true rfl)⟩ (va_recv hK hP (ci := 1) (q0 := 3 + 9 * k) rfl (G_K hN hk)) hK hP hD hS hAA9 (nA_mono hS.1) rfl hl.1 rfl (Nat.le_of_ble_eq_true rfl) dC_piece_83 ⟨(Nat.le_of_ble_eq_true rfl), (Nat.le_of_ble_eq_true rfl)⟩ (fun u8 H locs _ hz hP hD hS => ?_)
    refine lv_aload_n hx hb dC_piece_86 rfl (lv_at hl 2 rfl) ?_
    refine va_get (D := D) (ci := 0) (C := RC) (T := TC) (N := 3) hx hb hT inC hown hK hP (0) (G_X hN) rfl 1 (by decide) (hT _ wm_101) (fun _ h9 => h9) rfl dC_piece_87 ?_
    refine lv_aload_n hx hb dC_piece_90 rfl (lv_at hl 2 rfl) ?_
    refine va_get (D := D) (ci := 0) (C := RC) (T := TC) (N := 3) hx hb hT inC hown hK hP (0) (G_X hN) rfl 2 (by decide) (hT _ wm_102) (fun _ h9 => h9) rfl dC_piece_91 ?_
    refine W.eq (g2 := F0 m 94 ls [.int (nI (h 0 0)), .ref (ad' 2)]) (by rw [show (u2 (u2 g9 (3 + 9 * k) 6 (nI (h 1 k + 1))) (3 + 9 * k) 7 1) 0 2 = nI (h 0 0) by rw [eg9]; simp [u2, gp, show ¬ 0 = 3 + 9 * k by omega, show ¬ 0 = 57 + h 0 0 by omega, hg0]]) ?_
    refine lv_aload hx hb dC_piece_94 (lv_at hl 0 rfl) ?_
    refine va_astq (D := D) hx hb hK hP hD hS (2) 3 (57 + (h 0 0)) 3 (r := (RQ, TQ, 9)) (G_FA hN) rfl (G_Q hp) rfl (vp_in_nI (show (h 0 0) < 72 by exact hlt9 k hk hlt12) (by decide)) dC_piece_96 (fun H locs hP hD hS => ?_)
    rw [nI_clamp (n := (h 0 0)) (by omega), G_sFA] at hP hD
    refine lv_aload_n hx hb dC_piece_97 rfl (lv_at hl 2 rfl) ?_
    refine lv_dup hx hb dC_piece_98 rfl ?_
    refine va_get (D := D) (ci := 0) (C := RC) (T := TC) (N := 3) hx hb hT inC hown hK hP (0) (G_X hN) rfl 2 (by decide) (hT _ wm_102) (fun _ h9 => h9) rfl dC_piece_99 ?_
    refine W.eq (g2 := F0 m 102 ls [.int (nI (h 0 0)), .ref (ad' 0)]) (by rw [show (u2 (u2 g9 (3 + 9 * k) 6 (nI (h 1 k + 1))) (3 + 9 * k) 7 1) 0 2 = nI (h 0 0) by rw [eg9]; simp [u2, gp, show ¬ 0 = 3 + 9 * k by omega, show ¬ 0 = 57 + h 0 0 by omega, hg0]]) ?_
    refine lv_iconst (v := 1) hx hb dC_piece_102 (by decide) ?_
    refine lv_iadd hx hb dC_piece_103 ?_
    refine W.eq (g2 := F0 m 104 ls [.int (nI (h 0 0 + 1)), .ref (ad' 0)]) (by rw [nI_1]) ?_
    refine va_put (D := D) (ci := 0) (v := .int (nI (h 0 0 + 1))) (ty := .int) (C := RC) (T := TC) (N := 3) hx hb hT inC tyC tyokC nmC hown hK hP hD hS (0) (G_X hN) rfl 2 (by decide) (hT _ wm_102) (fun _ h9 => h9) rfl (by decide +kernel) rfl rfl (Nat.le_of_ble_eq_true rfl) dC_piece_104 (fun H locs hP hD hS => ?_)
    rw [G_sX] at hP hD
    refine lv_aload hx hb dC_piece_107 (lv_at hl 0 rfl) ?_
    refine va_get (D := D) (ci := 3) (C := RQ) (T := TQ) (N := 9) hx hb hT inQ hown hK hP (57 + (h 0 0)) (G_Q hp) rfl 1 (by decide) (hT _ wm_239) (fun _ h9 => h9) rfl dC_piece_109 ?_
    refine W.eq (g2 := F0 m 112 ls [.int (nI (h 0 0))]) (by rw [show (u2 (u2 (u2 g9 (3 + 9 * k) 6 (nI (h 1 k + 1))) (3 + 9 * k) 7 1) 0 2 (nI (h 0 0 + 1))) (57 + h 0 0) 1 = nI (h 0 0) by rw [eg9]; simp [u2, gp, show ¬ 57 + h 0 0 = 3 + 9 * k by omega, show ¬ 57 + h 0 0 = 0 by omega]]) ?_
    rw [eN, ead, cwG_end hk (fun k9 hk9 => (hkk k9 hk9).2.2) rfl, ← ead, eg9] at hP hD
    refine vx_ret ?_
    exact W.iret (v := nI (h 0 0)) hx hb hr (fun t ht hW => ⟨⟨_, ((u2 (u2 (u2 (gp g (57 + h 0 0) (fun b => [0, nI (h 0 0), nI (h 1 k), pt, z9, sd, 0, 999, 0].getD b (0 : Int32))) (3 + 9 * k) 6 (nI (h 1 k + 1))) (3 + 9 * k) 7 1) 0 2 (nI (h 0 0 + 1))), hpz h k, ad'), rfl, ⟨(not_or.mpr ⟨f_1, f_2⟩), (not_or.mpr ⟨f_3, f_4⟩), (by rw [n32n k (by omega)]; exact c_5), k, hk, rfl, rfl, rfl, rfl, e0⟩, gpost_at hP hK hD ht hW.alike⟩, hS.F ht⟩) hS.2.2 dC_piece_112
end
