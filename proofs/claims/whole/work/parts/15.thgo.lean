/-! The throw of go(): what it needs of the start. -/
def ex_E : String := "java/lang/IllegalStateException"
def ex_n : List String := ["java/lang/RuntimeException", "java/lang/Exception"]
/-- the statics of Throwable, the text, four words that the tables decide -/
def ex_X (A : Nat → Prop) (U : State) : Prop := vx_Zq Bundle.tN "UNASSIGNED_STACK" Bundle.steD A U U.heap ∧ vx_Zq Bundle.tN "SUPPRESSED_SENTINEL" Bundle.listD A U U.heap ∧ (∃ sa : Nat, vk_R RX2 76 "the way copies what the base has not" sa U) ∧ va_Nw (.castable "java/lang/IllegalStateException" "java/lang/IllegalStateException") U ∧ va_Nw (.declares (Bundle.initS "java/lang/RuntimeException")) U ∧ va_Nw (.declares (Bundle.initS "java/lang/Exception")) U ∧ va_Nw (.declares (Bundle.initS Bundle.tN)) U
theorem ex_S {A : Nat → Prop} {u U : State} (h : u.vm = U.vm) (hh : u.heap = U.heap) (q : ex_X A u) : ex_X A U := by
  obtain ⟨a, b, ⟨sa, d⟩, e1, e2, e3, e4⟩ := q
  refine ⟨?_, ?_, ⟨sa, vk_R.same h.symm d⟩, va_Nw.same rfl h e1, va_Nw.same rfl h e2, va_Nw.same rfl h e3, va_Nw.same rfl h e4⟩
  · rw [← hh]; exact vx_Zq.moved (by rw [h]; exact Vm.Alike.refl _) a
  · rw [← hh]; exact vx_Zq.moved (by rw [h]; exact Vm.Alike.refl _) b
/-- .. from the start s to a state U behind it, whose old cells are as they were where A doesn't hold -/
theorem ex_W {A B : Nat → Prop} {s U : State} (hW : s.WarmedH U.vm) (hq : ∀ a : Nat, a < s.heap.size → ¬ A a → U.heap[a]? = s.heap[a]?) (hAB : ∀ q, B q → A q) (q : ex_X A s) : ex_X B U := by
  obtain ⟨a, b, ⟨sa, d⟩, e1, e2, e3, e4⟩ := q
  exact ⟨((a.kept hq).moved hW.alike).narrow hAB, ((b.kept hq).moved hW.alike).narrow hAB, ⟨sa, vk_R.warm hW d⟩, va_Nw.warmC hW e1, va_Nw.warmD hW e2, va_Nw.warmD hW e3, va_Nw.warmD hW e4⟩
set_option maxHeartbeats 1000000 in
set_option maxRecDepth 100000 in
theorem th_go {p : Program} (l : Launch) {e : Env} {s : State} {m : MethodId} {args : Array Value} {below : List Frame} {meth : Method} {c : Code} {D : va_G} {wc : va_W} {A : Nat → Prop} {ls : Array Slot} {px : Prop} {Qc : Array Value → State → Outcome → State → Prop}
    (hst : l.stackTraces = false) (hx : p.tables.exec = Jvm.exec) (hb : c.code = cX2_go) (hown : s.vm.findClass RX2 = some m.cls) (hts : ∀ w ∈ wsX2_go, w.before args s = true) (hX : ex_X A s) (hS : va_S A s.heap s.heap []) (hl1 : ls.size = 3) (hml : c.maxLocals = 3) (hout : ∀ x ∈ c.exceptionTable.toList, False) (hlk : meth.locks = false) (hP : va_P D vwCl wc s.heap) (hc0 : px) :
    W p l e ({ frames := 6, cells := 1, slots := 6, locals := 95 } : Room) s m args below meth c s.heap [] 0 0 (vx_MQ below Qc (vx_X (fun _ : Unit => px) (fun E _ t => E = "java/lang/IllegalStateException" ∧ va_P D vwCl wc t.heap) A) args s 1 6 A) (F0 m 17 ls []) := by
  obtain ⟨hU, hN, ⟨sa, hstr⟩, b1, b2, b3, b4⟩ := hX
  refine vx_throwS (own := RX2) (cls := "java/lang/IllegalStateException") (text := "the way copies what the base has not") (names := ["java/lang/RuntimeException", "java/lang/Exception"]) (ik := 74) (is := 76) (ic := 78) (sa := sa) (A := A) hx hb hst hown (by decide +kernel) (by decide +kernel) (hts (.classLink RX2 74 "java/lang/IllegalStateException") (by decide +kernel)) (hts (.initialized "java/lang/IllegalStateException") (by decide +kernel)) hstr ?_ (by decide +kernel) hU hN hS (hl1.trans hml.symm) dX2_go_17 dX2_go_20 dX2_go_21 dX2_go_23 dX2_go_26 (fun x h => (hout x h).elim) (Nat.le_of_ble_eq_true rfl) (Nat.le_of_ble_eq_true rfl) (Nat.le_of_ble_eq_true rfl) (Nat.le_of_ble_eq_true rfl) hlk (fun t ha hsz hsame => ⟨(), hc0, ⟨rfl, hP.kept (fun k q hk => hsame q.1 ((hP k q hk).lt))⟩, ⟨hsz, fun q h _ => hsame q h⟩⟩) (fun z h => nomatch h) (by omega) (by omega)
  exact vx_hat (B := [.castable "java/lang/IllegalStateException" "java/lang/IllegalStateException", .declares (Bundle.initS "java/lang/RuntimeException"), .declares (Bundle.initS "java/lang/Exception"), .declares (Bundle.initS Bundle.tN)]) (fun w h => hts w (List.mem_cons_of_mem _ (List.mem_append_right _ h))) (by decide +kernel) (vx_c (va_Nw.use rfl b1) (vx_c (va_Nw.use rfl b2) (vx_c (va_Nw.use rfl b3) (vx_c (va_Nw.use rfl b4) vx_n))))
