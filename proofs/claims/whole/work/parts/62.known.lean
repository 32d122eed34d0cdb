/-! the law's start -/
theorem rotP {D : va_G} {cl : List vw_C} {X Z : va_W} {y : Nat × va_E} {H : Heap} (h : va_P D cl ((X ++ Z) ++ [y]) H) : va_P D cl (([y] ++ X) ++ Z) H := by
  rw [List.append_assoc [y] X Z]
  intro k q hq
  match k, hq with
  | 0, hq => exact h (X ++ Z).length q (by rw [List.getElem?_append_right (Nat.le_refl _), Nat.sub_self]; exact hq)
  | k + 1, hq =>
    have hq : (X ++ Z)[k]? = some q := hq
    exact h k q (by rw [List.getElem?_append_left (List.getElem?_eq_some_iff.mp hq).1]; exact hq)
theorem rotD {A : Nat → Prop} {X Z : va_W} {y : Nat × va_E} (h : va_D A ((X ++ Z) ++ [y])) : va_D A (([y] ++ X) ++ Z) := by
  rw [List.append_assoc [y] X Z]
  generalize X ++ Z = Y at h
  have e : ∀ (k : Nat) (q : Nat × va_E), ([y] ++ Y)[k]? = some q → ∃ k', (Y ++ [y])[k']? = some q ∧ ((k = 0 ∧ k' = Y.length) ∨ (k = k' + 1 ∧ k' < Y.length)) := by
    intro k q hq
    match k, hq with
    | 0, hq => exact ⟨Y.length, by rw [List.getElem?_append_right (Nat.le_refl _), Nat.sub_self]; exact hq, Or.inl ⟨rfl, rfl⟩⟩
    | k + 1, hq =>
      have hq : Y[k]? = some q := hq
      have hlt := (List.getElem?_eq_some_iff.mp hq).1
      exact ⟨k, by rw [List.getElem?_append_left hlt]; exact hq, Or.inr ⟨rfl, hlt⟩⟩
  refine ⟨fun i j p q hp hq h9 => ?_, fun k q hq => ?_⟩
  · obtain ⟨i', hi, ci9⟩ := e i p hp
    obtain ⟨j', hj, cj9⟩ := e j q hq
    have := h.1 i' j' p q hi hj h9
    omega
  · obtain ⟨k', hk, -⟩ := e k q hq
    exact h.2 k' q hk
theorem xw_tbl : ∀ w ∈ xwl, w ∈ lw_tbl := by decide +kernel
theorem arr_T {args : Array Value} {s : State} {ty : FieldType} (hne : ∀ C, ty ≠ .object C) (h : (Cond.arrayClass ty).before args s = true) : ∃ cA : ClassId, ArrOfT s cA ty ∧ va_RA s cA ty := by
  obtain ⟨cA, k, comp, h1, h2, h3⟩ := Cond.arrayClass_spec (args := args) (first := s) (o := none) (s := s) (idx := []) h
  refine ⟨cA, fun n z => ⟨fun k h => (by cases h), k, h2, comp, h3⟩, ?_⟩
  cases ty with
  | object C => exact absurd rfl (hne C)
  | _ => exact h1
theorem arr_O {args : Array Value} {s : State} {C : String} (h : (Cond.arrayOver (.object C)).before args s = true) : ∃ cA : ClassId, ArrOfT s cA (.object C) ∧ va_RA s cA (.object C) := by
  obtain ⟨comp, cA, k, h1, -, h3, h4, h5⟩ := Cond.arrayOver_spec (args := args) (first := s) (o := none) (s := s) (idx := []) h
  exact ⟨cA, fun n z => ⟨fun k h => (by cases h), k, h3, comp, h4⟩, ⟨k, comp, h3, h4, h1, h5⟩⟩
theorem str_R {args : Array Value} {s : State} {i : Nat} {tx : String} (h1 : (Cond.stringRef "CountLeast" i tx).before args s = true) (h2 : (Cond.exactly (.string "CountLeast" i) "java/lang/String").before args s = true) : ∃ a : Nat, vk_R "CountLeast" i tx a s := by
  obtain ⟨a, c, cell, k, h3, -⟩ := Cond.exactly_spec (args := args) (first := s) (o := none) (s := s) (idx := []) h2
  exact ⟨a, vk_R.of h1 h3⟩
theorem known_D {args : Array Value} {s : State} (hT : ∀ w ∈ TB, w.before args s = true) : ∃ D : va_G, ∀ (k : Nat) (q : vw_C), vwCl[k]? = some q → u_Kn s q.1 q.2.1 q.2.2 (D.1 k) (D.2 k) := by
  obtain ⟨c0, i0, h0⟩ := u_known (C := RC) (T := TC) (N := 3) (n := 3) hT inC (hT _ wm_15)
  obtain ⟨c1, i1, h1⟩ := u_known (C := RK) (T := TK) (N := 10) (n := 10) hT inK (hT _ wm_26)
  obtain ⟨c2, i2, h2⟩ := u_known (C := RP) (T := TP) (N := 6) (n := 6) hT inP (hT _ wm_33)
  obtain ⟨c3, i3, h3⟩ := u_known (C := RQ) (T := TQ) (N := 9) (n := 9) hT inQ (hT _ wm_231)
  obtain ⟨c4, i4, h4⟩ := u_known (C := RM) (T := TM) (N := 21) (n := 21) hT inM (hT _ wm_494)
  refine ⟨(fun k => if k = 0 then c0 else if k = 1 then c1 else if k = 2 then c2 else if k = 3 then c3 else c4, fun k => if k = 0 then i0 else if k = 1 then i1 else if k = 2 then i2 else if k = 3 then i3 else i4), ?_⟩
  intro k q hq
  match k, hq with
  | 0, hq => cases hq; exact h0
  | 1, hq => cases hq; exact h1
  | 2, hq => cases hq; exact h2
  | 3, hq => cases hq; exact h3
  | 4, hq => cases hq; exact h4
  | k + 5, hq => simp at hq
theorem known_K {args : Array Value} {s : State} (hts : ∀ w ∈ lw_tbl, w.before args s = true) : ∃ (D : va_G) (CA : Nat → ClassId), va_K D vwCl (tyL CA) s := by
  obtain ⟨D, hD⟩ := known_D (fun w hw => hts w (List.mem_filter.mp hw).1)
  obtain ⟨c0, q0⟩ := arr_T (ty := .int) (fun C h => by cases h) (hts (.arrayClass .int) (by decide +kernel))
  obtain ⟨c1, q1⟩ := arr_T (ty := .boolean) (fun C h => by cases h) (hts (.arrayClass .boolean) (by decide +kernel))
  obtain ⟨c2, q2⟩ := arr_O (hts (.arrayOver (.object "CountLeast$Kind")) (by decide +kernel))
  obtain ⟨c3, q3⟩ := arr_O (hts (.arrayOver (.object "CountLeast$Piece")) (by decide +kernel))
  obtain ⟨c4, q4⟩ := arr_T (ty := .long) (fun C h => by cases h) (hts (.arrayClass .long) (by decide +kernel))
  refine ⟨D, fun k => if k = 0 then c0 else if k = 1 then c1 else if k = 2 then c2 else if k = 3 then c3 else c4, hD, ?_⟩
  intro k q hq
  match k, hq with
  | 0, hq => cases hq; exact q0
  | 1, hq => cases hq; exact q1
  | 2, hq => cases hq; exact q2
  | 3, hq => cases hq; exact q3
  | 4, hq => cases hq; exact q4
  | k + 5, hq => simp at hq
set_option maxHeartbeats 4000000 in
set_option maxRecDepth 100000 in
theorem known_x {b : Nat} {s : State} (hts : ∀ w ∈ lw_tbl, w.before #[Value.ref b] s = true) (hgv : (Jvm.Cond.and given_1 narrow_1).before #[Value.ref b] s = true) : (∃ sa : Nat → Nat, xz (fun q : Nat => s.heap.size ≤ q) sa s s.heap) ∧ xn s ∧ nst s := by
  have hfl := flat_of_before _ hgv
  obtain ⟨a0, e0⟩ := str_R (tx := "no such kind") (hts (.stringRef "CountLeast" 154 "no such kind") (by decide +kernel)) (hfl (.exactly (.string "CountLeast" 154) "java/lang/String") (by decide +kernel))
  obtain ⟨a1, e1⟩ := str_R (tx := "no such part, wear or place") (hts (.stringRef "CountLeast" 158 "no such part, wear or place") (by decide +kernel)) (hfl (.exactly (.string "CountLeast" 158) "java/lang/String") (by decide +kernel))
  obtain ⟨a2, e2⟩ := str_R (tx := "out of its range") (hts (.stringRef "CountLeast" 160 "out of its range") (by decide +kernel)) (hfl (.exactly (.string "CountLeast" 160) "java/lang/String") (by decide +kernel))
  obtain ⟨a3, e3⟩ := str_R (tx := "the kind has twelve pieces") (hts (.stringRef "CountLeast" 43 "the kind has twelve pieces") (by decide +kernel)) (hfl (.exactly (.string "CountLeast" 43) "java/lang/String") (by decide +kernel))
  obtain ⟨a4, e4⟩ := str_R (tx := "no such piece") (hts (.stringRef "CountLeast" 156 "no such piece") (by decide +kernel)) (hfl (.exactly (.string "CountLeast" 156) "java/lang/String") (by decide +kernel))
  obtain ⟨a5, e5⟩ := str_R (tx := "not two pieces of one kind") (hts (.stringRef "CountLeast" 95 "not two pieces of one kind") (by decide +kernel)) (hfl (.exactly (.string "CountLeast" 95) "java/lang/String") (by decide +kernel))
  obtain ⟨a6, e6⟩ := str_R (tx := "no such place") (hts (.stringRef "CountLeast" 120 "no such place") (by decide +kernel)) (hfl (.exactly (.string "CountLeast" 120) "java/lang/String") (by decide +kernel))
  refine ⟨⟨fun k => if k = 0 then a0 else if k = 1 then a1 else if k = 2 then a2 else if k = 3 then a3 else if k = 4 then a4 else if k = 5 then a5 else a6, ?_, ?_, ?_, ?_⟩, ⟨?_, ?_, ?_⟩, ?_, ?_, ?_⟩
  · exact vx_Zqof (hts (.laysStatic Bundle.tN "UNASSIGNED_STACK" Bundle.steD) (by decide +kernel)) (hts (.initialized Bundle.tN) (by decide +kernel)) (hfl (.isRef (.static Bundle.tN "UNASSIGNED_STACK" Bundle.steD)) (by decide +kernel)) (fun a ha h9 => Nat.not_le.mpr ha h9)
  · exact vx_Zqof (hts (.laysStatic Bundle.tN "SUPPRESSED_SENTINEL" Bundle.listD) (by decide +kernel)) (hts (.initialized Bundle.tN) (by decide +kernel)) (hfl (.isRef (.static Bundle.tN "SUPPRESSED_SENTINEL" Bundle.listD)) (by decide +kernel)) (fun a ha h9 => Nat.not_le.mpr ha h9)
  · exact fun w hw => va_Nw.of (xw_on w hw) (hts w (xw_tbl w hw))
  · exact ⟨e0, e1, e2, e3, e4, e5, e6⟩
  · exact va_Nc.of (hfl (.not (.castable xE2 xE1)) (by decide +kernel))
  · exact va_Nc.of (hfl (.not (.castable xE3 xE1)) (by decide +kernel))
  · exact va_Nc.of (hfl (.not (.castable xE3 xE2)) (by decide +kernel))
  · exact va_Nw.of rfl (hts (.methodLinkNest "CountLeast$Kind" 47 yP_init "CountLeast") (by decide +kernel))
  · exact va_AO.of (hts (.arrayOver (.object "CountLeast$Kind")) (by decide +kernel))
  · exact va_AO.of (hts (.arrayOver (.object "CountLeast$Piece")) (by decide +kernel))
